set_option maxHeartbeats 4000000 in
set_option maxRecDepth 100000 in
theorem zX4_placeOf (l : Launch) (D : va_G) (cI cP cS cL : ClassId) (t k : Nat)  : xMi l yX4_placeOf wsX4_placeOf (rmD 0 0 0) D [(cI, .int), (cP, .object RX0), (cS, .object RX2)] [.int (nI t), .int (nI k)] [] (fun (r : Int32) (u : Unit) => r = nI (t * 12 + k)) (fun (u : Unit) => []) 0 0 := by
  refine xe_i (cc := cX4_placeOf) (maxL := 2) (ret := (some .int)) (by decide) rfl (Nat.le_of_ble_eq_true rfl) ?_
  intro zp ze s zm below meth zc A ls B
  obtain ⟨hx, hb, hml, hrt, hts, hown, hnm, hlk, hK, hP, hD, hA, hS, hN, hl⟩ := B
  have hown : s.vm.findClass RX4 = some zm.cls := hown
  have hl : lv_has ls 2 [(0, .int (nI t)), (1, .int (nI k))] := hl
  have hA : ∀ q, s.heap.size ≤ q → A q := hA
  refine lv_iload_n hx hb dX4_placeOf_0 rfl (lv_at hl 0 rfl) ?_
  refine lv_bipush (v := nI 12) hx hb dX4_placeOf_1 (by decide) ?_
  refine x_mul (k := t * 12) hx hb dX4_placeOf_3 rfl ?_
  refine lv_iload_n hx hb dX4_placeOf_4 rfl (lv_at hl 1 rfl) ?_
  refine x_add (k := (t * 12) + k) hx hb dX4_placeOf_5 rfl ?_
  exact x_ret_i hx hb hrt hlk hP hD hS dX4_placeOf_6 ⟨by decide, by decide⟩ () rfl rfl

set_option maxHeartbeats 4000000 in
set_option maxRecDepth 100000 in
theorem zX4_rowOf (l : Launch) (D : va_G) (cI cP cS cL : ClassId) (x y z : Int32)  : xMi l yX4_rowOf wsX4_rowOf (rmD 0 0 0) D [(cI, .int), (cP, .object RX0), (cS, .object RX2)] [.int x, .int y, .int z] [] (fun (r : Int32) (u : Unit) => r = qRow x y z) (fun (u : Unit) => []) 0 0 := by
  refine xe_i (cc := cX4_rowOf) (maxL := 3) (ret := (some .int)) (by decide) rfl (Nat.le_of_ble_eq_true rfl) ?_
  intro zp ze s zm below meth zc A ls B
  obtain ⟨hx, hb, hml, hrt, hts, hown, hnm, hlk, hK, hP, hD, hA, hS, hN, hl⟩ := B
  have hown : s.vm.findClass RX4 = some zm.cls := hown
  have hl : lv_has ls 3 [(0, .int x), (1, .int y), (2, .int z)] := hl
  have hA : ∀ q, s.heap.size ≤ q → A q := hA
  refine lv_iload_n hx hb dX4_rowOf_0 rfl (lv_at hl 0 rfl) ?_
  refine lv_iload_n hx hb dX4_rowOf_1 rfl (lv_at hl 1 rfl) ?_
  refine lv_bipush (v := nI 7) hx hb dX4_rowOf_2 (by decide) ?_
  refine lv_ishl hx hb dX4_rowOf_4 ?_
  refine lv_ior hx hb dX4_rowOf_5 ?_
  refine lv_iload_n hx hb dX4_rowOf_6 rfl (lv_at hl 2 rfl) ?_
  refine lv_bipush (v := nI 14) hx hb dX4_rowOf_7 (by decide) ?_
  refine lv_ishl hx hb dX4_rowOf_9 ?_
  refine lv_ior hx hb dX4_rowOf_10 ?_
  exact x_ret_i hx hb hrt hlk hP hD hS dX4_rowOf_11 ⟨by decide, by decide⟩ () rfl rfl

set_option maxHeartbeats 4000000 in
set_option maxRecDepth 100000 in
theorem zX4_numberIn (l : Launch) (D : va_G) (cI cP cS cL : ClassId) (x y : Int32)  : xMi l yX4_numberIn wsX4_numberIn (rmD 0 0 0) D [(cI, .int), (cP, .object RX0), (cS, .object RX2)] [.int x, .int y] [] (fun (r : Int32) (u : Unit) => r = qNum x y) (fun (u : Unit) => []) 0 0 := by
  refine xe_i (cc := cX4_numberIn) (maxL := 2) (ret := (some .int)) (by decide) rfl (Nat.le_of_ble_eq_true rfl) ?_
  intro zp ze s zm below meth zc A ls B
  obtain ⟨hx, hb, hml, hrt, hts, hown, hnm, hlk, hK, hP, hD, hA, hS, hN, hl⟩ := B
  have hown : s.vm.findClass RX4 = some zm.cls := hown
  have hl : lv_has ls 2 [(0, .int x), (1, .int y)] := hl
  have hA : ∀ q, s.heap.size ≤ q → A q := hA
  refine lv_iload_n hx hb dX4_numberIn_0 rfl (lv_at hl 0 rfl) ?_
  refine lv_iconst (v := -1) hx hb dX4_numberIn_1 (by decide) ?_
  refine x_cmp_ne (tgt := 9) hx hb (Iff.rfl) dX4_numberIn_2 (by decide) (fun c2 => ?_) (fun c2 => ?_)
  · refine lv_iload_n hx hb dX4_numberIn_9 rfl (lv_at hl 0 rfl) ?_
    refine lv_iload_n hx hb dX4_numberIn_10 rfl (lv_at hl 1 rfl) ?_
    refine lv_bipush (v := nI 7) hx hb dX4_numberIn_11 (by decide) ?_
    refine lv_imul hx hb dX4_numberIn_13 ?_
    refine lv_ishr hx hb dX4_numberIn_14 ?_
    refine lv_bipush (v := nI 127) hx hb dX4_numberIn_15 (by decide) ?_
    refine lv_iand hx hb dX4_numberIn_17 ?_
    exact x_ret_i hx hb hrt hlk hP hD hS dX4_numberIn_18 ⟨by decide, by decide⟩ () (by unfold qNum; first | rw [if_pos (by assumption)] | rw [if_neg (by assumption)]) rfl
  · refine lv_iconst (v := -1) hx hb dX4_numberIn_5 (by decide) ?_
    refine lv_goto (tgt := 18) hx hb dX4_numberIn_6 (by decide) ?_
    exact x_ret_i hx hb hrt hlk hP hD hS dX4_numberIn_18 ⟨by decide, by decide⟩ () (by unfold qNum; first | rw [if_pos (by assumption)] | rw [if_neg (by assumption)]) rfl

set_option maxHeartbeats 4000000 in
set_option maxRecDepth 100000 in
theorem zX4_maskOf (l : Launch) (D : va_G) (cI cP cS cL : ClassId) (cs : Int32)  : xMi l yX4_maskOf wsX4_maskOf (rmD 0 0 0) D [(cI, .int), (cP, .object RX0), (cS, .object RX2)] [.int cs] [] (fun (r : Int32) (u : Unit) => r = qMaskN cs 3) (fun (u : Unit) => []) 0 0 := by
  refine xe_i (cc := cX4_maskOf) (maxL := 3) (ret := (some .int)) (by decide) rfl (Nat.le_of_ble_eq_true rfl) ?_
  intro zp ze s zm below meth zc A ls B
  obtain ⟨hx, hb, hml, hrt, hts, hown, hnm, hlk, hK, hP, hD, hA, hS, hN, hl⟩ := B
  have hown : s.vm.findClass RX4 = some zm.cls := hown
  have hl : lv_has ls 3 [(0, .int cs)] := hl
  have hA : ∀ q, s.heap.size ≤ q → A q := hA
  refine lv_iconst (v := nI 0) hx hb dX4_maskOf_0 (by decide) ?_
  refine lv_istore_n (lv' := [(1, .int (nI 0)), (0, .int cs)]) hx hb dX4_maskOf_1 rfl hl (by decide) rfl (fun ls hl => ?_)
  refine lv_iconst (v := nI 0) hx hb dX4_maskOf_2 (by decide) ?_
  refine lv_istore_n (lv' := [(2, .int (nI 0)), (1, .int (nI 0)), (0, .int cs)]) hx hb dX4_maskOf_3 rfl hl (by decide) rfl (fun ls hl => ?_)
  refine x_loop (nL := 3) (fun (x : Nat × Int32) => match x with | (k, mm) => k ≤ 3 ∧ mm = qMaskN cs k) (fun (x : Nat × Int32) => match x with | (k, mm) => 3 - k) (fun (x : Nat × Int32) => match x with | (k, mm) => []) (fun (x : Nat × Int32) => match x with | (k, mm) => [(0, .int cs), (1, .int mm), (2, .int (nI k))]) (fun (x : Nat × Int32) => match x with | (k, mm) => []) ?_ (0, nI 0) ⟨by omega, rfl⟩ hP hD hS (lv_sub hl [2, 1, 0] rfl)
  intro x9 hI4 ih4 H locs ls hP hD hS hl
  obtain ⟨k, mm⟩ := x9
  have hP : va_P D vwCl [] H := hP
  have hD : va_D A [] := hD
  have hl : lv_has ls 3 [(0, .int cs), (1, .int mm), (2, .int (nI k))] := hl
  obtain ⟨hk, hm⟩ := hI4
  refine lv_iload_n hx hb dX4_maskOf_4 rfl (lv_at hl 2 rfl) ?_
  refine lv_iconst (v := nI 3) hx hb dX4_maskOf_5 (by decide) ?_
  refine x_cmp_ge (tgt := 34) hx hb (nI_leI (a := 3) (b := k) (by omega) (by omega)) dX4_maskOf_6 (by decide) (fun c6 => ?_) (fun c6 => ?_)
  · refine lv_iload_n hx hb dX4_maskOf_34 rfl (lv_at hl 1 rfl) ?_
    exact x_ret_i hx hb hrt hlk hP hD hS dX4_maskOf_35 ⟨by decide, by decide⟩ () (by rw [hm]; congr 1; omega) rfl
  · refine lv_iload_n hx hb dX4_maskOf_9 rfl (lv_at hl 0 rfl) ?_
    refine lv_iload_n hx hb dX4_maskOf_10 rfl (lv_at hl 2 rfl) ?_
    refine lv_ishr hx hb dX4_maskOf_11 ?_
    refine lv_iconst (v := nI 1) hx hb dX4_maskOf_12 (by decide) ?_
    refine lv_iand hx hb dX4_maskOf_13 ?_
    refine lv_iconst (v := nI 1) hx hb dX4_maskOf_14 (by decide) ?_
    refine x_cmp_ne (tgt := 28) hx hb (Iff.rfl) dX4_maskOf_15 (by decide) (fun c15 => ?_) (fun c15 => ?_)
    · refine x_iinc (k := 2) (o := 1) (v := k + 1) (lv' := [(2, .int (nI (k + 1))), (0, .int cs), (1, .int mm)]) hx hb dX4_maskOf_28 hl rfl rfl rfl (by decide) rfl (fun ls hl => ?_)
      refine lv_goto (tgt := 4) hx hb dX4_maskOf_31 (by decide) ?_
      exact ih4 (k + 1, mm) ⟨by omega, (by rw [hm]; show _ = ite _ _ _; first | rw [if_pos (by assumption)] | rw [if_neg (by assumption)])⟩ (by show 3 - (k + 1) < 3 - k; omega) _ _ _ hP hD hS (lv_sub hl [1, 2, 0] rfl)
    · refine lv_iload_n hx hb dX4_maskOf_18 rfl (lv_at hl 1 rfl) ?_
      refine lv_bipush (v := nI 127) hx hb dX4_maskOf_19 (by decide) ?_
      refine lv_iload_n hx hb dX4_maskOf_21 rfl (lv_at hl 2 rfl) ?_
      refine lv_bipush (v := nI 7) hx hb dX4_maskOf_22 (by decide) ?_
      refine x_mul (k := k * 7) hx hb dX4_maskOf_24 rfl ?_
      refine lv_ishl hx hb dX4_maskOf_25 ?_
      refine lv_ior hx hb dX4_maskOf_26 ?_
      refine lv_istore_n (lv' := [(1, .int (mm ||| ((nI 127) <<< ((nI (k * 7)) &&& 31)))), (0, .int cs), (2, .int (nI k))]) hx hb dX4_maskOf_27 rfl hl (by decide) rfl (fun ls hl => ?_)
      refine x_iinc (k := 2) (o := 1) (v := k + 1) (lv' := [(2, .int (nI (k + 1))), (1, .int (mm ||| ((nI 127) <<< ((nI (k * 7)) &&& 31)))), (0, .int cs)]) hx hb dX4_maskOf_28 hl rfl rfl rfl (by decide) rfl (fun ls hl => ?_)
      refine lv_goto (tgt := 4) hx hb dX4_maskOf_31 (by decide) ?_
      exact ih4 (k + 1, mm ||| ((nI 127) <<< ((nI (k * 7)) &&& 31))) ⟨by omega, (by rw [hm]; show _ = ite _ _ _; first | rw [if_pos (by assumption)] | rw [if_neg (by assumption)])⟩ (by show 3 - (k + 1) < 3 - k; omega) _ _ _ hP hD hS (lv_sub hl [2, 1, 0] rfl)

set_option maxRecDepth 20000 in
theorem kX0_lets_f15 : Cond.fieldLink RX0 15 "RowReplicator$Publication" "relations" "[I" ∈ wsX0_lets := by decide +kernel
set_option maxRecDepth 20000 in
theorem kX0_lets_X0 : ∀ w ∈ wsX00, w ∈ wsX0_lets := by decide +kernel
set_option maxRecDepth 20000 in
theorem kX0_lets_f18 : Cond.fieldLink RX0 18 "RowReplicator$Publication" "numbers" "[I" ∈ wsX0_lets := by decide +kernel
set_option maxHeartbeats 4000000 in
set_option maxRecDepth 100000 in
theorem zX0_lets (l : Launch) (D : va_G) (cI cP cS cL : ClassId) (h0 h1 h2 h3 h4 : Nat) (co re nu ma : Nat → Int32) (t : Nat) (v : Int32) (ht : t < 2) : xMi l yX0_lets wsX0_lets (rmD 0 0 0) D [(cI, .int), (cP, .object RX0), (cS, .object RX2)] [.ref h0, .int (nI t), .int v] [(h0, .inr (0, [.ref h1, .ref h2, .ref h3, .ref h4])), (h1, .inl (cI, 2, .inl co)), (h2, .inl (cI, 2, .inl re)), (h3, .inl (cI, 2, .inl nu)), (h4, .inl (cI, 2, .inl ma))] (fun (r : Int32) (u : Unit) => r = bI (qLetB (re t) (nu t) v)) (fun (u : Unit) => [(h0, .inr (0, [.ref h1, .ref h2, .ref h3, .ref h4])), (h1, .inl (cI, 2, .inl co)), (h2, .inl (cI, 2, .inl re)), (h3, .inl (cI, 2, .inl nu)), (h4, .inl (cI, 2, .inl ma))]) 0 0 := by
  refine xe_i (cc := cX0_lets) (maxL := 3) (ret := (some .boolean)) (by decide) rfl (Nat.le_of_ble_eq_true rfl) ?_
  intro zp ze s zm below meth zc A ls B
  obtain ⟨hx, hb, hml, hrt, hts, hown, hnm, hlk, hK, hP, hD, hA, hS, hN, hl⟩ := B
  have hown : s.vm.findClass RX0 = some zm.cls := hown
  have hl : lv_has ls 3 [(0, .ref h0), (1, .int (nI t)), (2, .int v)] := hl
  have hA : ∀ q, s.heap.size ≤ q → A q := hA
  refine lv_aload_n hx hb dX0_lets_0 rfl (lv_at hl 0 rfl) ?_
  refine va_get (D := D) (ci := 0) (v := .ref h2) (C := RX0) (T := TX0) (N := 4) hx hb hts kX0_lets_X0 hown hK hP 0 rfl rfl 1 (by decide) (hts _ kX0_lets_f15) (fun _ h9 => h9) rfl dX0_lets_1 ?_
  refine lv_iload_n hx hb dX0_lets_4 rfl (lv_at hl 1 rfl) ?_
  refine x_ald (v := re t) hx hb hK hP 2 0 rfl rfl (by omega) (by omega) rfl dX0_lets_5 ?_
  rcases Classical.em (re t = nI 1) with c6 | c6
  · refine lv_lookup (tgt := 32) hx hb dX0_lets_6 (by decide) (look_1 c6) (by decide) ?_
    refine lv_iload_n hx hb dX0_lets_32 rfl (lv_at hl 2 rfl) ?_
    refine lv_aload_n hx hb dX0_lets_33 rfl (lv_at hl 0 rfl) ?_
    refine va_get (D := D) (ci := 0) (v := .ref h3) (C := RX0) (T := TX0) (N := 4) hx hb hts kX0_lets_X0 hown hK hP 0 rfl rfl 2 (by decide) (hts _ kX0_lets_f18) (fun _ h9 => h9) rfl dX0_lets_34 ?_
    refine lv_iload_n hx hb dX0_lets_37 rfl (lv_at hl 1 rfl) ?_
    refine x_ald (v := nu t) hx hb hK hP 3 0 rfl rfl (by omega) (by omega) rfl dX0_lets_38 ?_
    refine x_cmp_ge (tgt := 46) hx hb (Iff.rfl) dX0_lets_39 (by decide) (fun c39 => ?_) (fun c39 => ?_)
    · refine lv_iconst (v := nI 0) hx hb dX0_lets_46 (by decide) ?_
      exact x_ret_z hx hb hrt (by first | exact Or.inl rfl | exact Or.inr rfl) hlk hP hD hS dX0_lets_47 ⟨by decide, by decide⟩ () (by rw [qLetB_f (by unfold qLets; first | (rw [if_pos c6]; first | assumption | exact Int32.not_lt.mpr c39) | (rw [if_neg c6, if_pos c7]; first | assumption | exact Int32.not_le.mpr c55))]; rfl) rfl
    · refine lv_iconst (v := nI 1) hx hb dX0_lets_42 (by decide) ?_
      refine lv_goto (tgt := 47) hx hb dX0_lets_43 (by decide) ?_
      exact x_ret_z hx hb hrt (by first | exact Or.inl rfl | exact Or.inr rfl) hlk hP hD hS dX0_lets_47 ⟨by decide, by decide⟩ () (by rw [qLetB_t (by unfold qLets; first | (rw [if_pos c6]; first | assumption | exact Int32.not_le.mp c39) | (rw [if_neg c6, if_pos c7]; first | assumption | exact Int32.not_lt.mp c55) | (rw [if_neg c6, if_neg c7]; trivial))]; rfl) rfl
  rcases Classical.em (re t = nI 2) with c7 | c7
  · refine lv_lookup (tgt := 48) hx hb dX0_lets_6 (by decide) (look_2 c7) (by decide) ?_
    refine lv_iload_n hx hb dX0_lets_48 rfl (lv_at hl 2 rfl) ?_
    refine lv_aload_n hx hb dX0_lets_49 rfl (lv_at hl 0 rfl) ?_
    refine va_get (D := D) (ci := 0) (v := .ref h3) (C := RX0) (T := TX0) (N := 4) hx hb hts kX0_lets_X0 hown hK hP 0 rfl rfl 2 (by decide) (hts _ kX0_lets_f18) (fun _ h9 => h9) rfl dX0_lets_50 ?_
    refine lv_iload_n hx hb dX0_lets_53 rfl (lv_at hl 1 rfl) ?_
    refine x_ald (v := nu t) hx hb hK hP 3 0 rfl rfl (by omega) (by omega) rfl dX0_lets_54 ?_
    refine x_cmp_lt (tgt := 62) hx hb (Iff.rfl) dX0_lets_55 (by decide) (fun c55 => ?_) (fun c55 => ?_)
    · refine lv_iconst (v := nI 0) hx hb dX0_lets_62 (by decide) ?_
      exact x_ret_z hx hb hrt (by first | exact Or.inl rfl | exact Or.inr rfl) hlk hP hD hS dX0_lets_63 ⟨by decide, by decide⟩ () (by rw [qLetB_f (by unfold qLets; first | (rw [if_pos c6]; first | assumption | exact Int32.not_lt.mpr c39) | (rw [if_neg c6, if_pos c7]; first | assumption | exact Int32.not_le.mpr c55))]; rfl) rfl
    · refine lv_iconst (v := nI 1) hx hb dX0_lets_58 (by decide) ?_
      refine lv_goto (tgt := 63) hx hb dX0_lets_59 (by decide) ?_
      exact x_ret_z hx hb hrt (by first | exact Or.inl rfl | exact Or.inr rfl) hlk hP hD hS dX0_lets_63 ⟨by decide, by decide⟩ () (by rw [qLetB_t (by unfold qLets; first | (rw [if_pos c6]; first | assumption | exact Int32.not_le.mp c39) | (rw [if_neg c6, if_pos c7]; first | assumption | exact Int32.not_lt.mp c55) | (rw [if_neg c6, if_neg c7]; trivial))]; rfl) rfl
  refine lv_lookup (tgt := 64) hx hb dX0_lets_6 (by decide) (look_0 c6 c7) (by decide) ?_
  refine lv_iconst (v := nI 1) hx hb dX0_lets_64 (by decide) ?_
  exact x_ret_z hx hb hrt (by first | exact Or.inl rfl | exact Or.inr rfl) hlk hP hD hS dX0_lets_65 ⟨by decide, by decide⟩ () (by rw [qLetB_t (by unfold qLets; first | (rw [if_pos c6]; first | assumption | exact Int32.not_le.mp c39) | (rw [if_neg c6, if_pos c7]; first | assumption | exact Int32.not_lt.mp c55) | (rw [if_neg c6, if_neg c7]; trivial))]; rfl) rfl

set_option maxRecDepth 20000 in
theorem kX0_choose_f9 : Cond.fieldLink RX0 9 "RowReplicator$Publication" "columns" "[I" ∈ wsX0_choose := by decide +kernel
set_option maxRecDepth 20000 in
theorem kX0_choose_X0 : ∀ w ∈ wsX00, w ∈ wsX0_choose := by decide +kernel
set_option maxRecDepth 20000 in
theorem kX0_choose_s_X4_numberIn : Cond.static yX4_numberIn ∈ wsX0_choose := by decide +kernel
set_option maxRecDepth 20000 in
theorem kX0_choose_i_X4 : Cond.initialized RX4 ∈ wsX0_choose := by decide +kernel
set_option maxRecDepth 20000 in
theorem kX0_choose_f21 : Cond.fieldLink RX0 21 "RowReplicator$Publication" "masks" "[I" ∈ wsX0_choose := by decide +kernel
set_option maxHeartbeats 4000000 in
set_option maxRecDepth 100000 in
theorem zX0_choose (l : Launch) (D : va_G) (cI cP cS cL : ClassId) (h0 h1 h2 h3 h4 : Nat) (co re nu ma : Nat → Int32) (t : Nat) (row : Int32) (ht : t < 2) : xMi l yX0_choose wsX0_choose (rmD 1 0 0) D [(cI, .int), (cP, .object RX0), (cS, .object RX2)] [.ref h0, .int (nI t), .int row] [(h0, .inr (0, [.ref h1, .ref h2, .ref h3, .ref h4])), (h1, .inl (cI, 2, .inl co)), (h2, .inl (cI, 2, .inl re)), (h3, .inl (cI, 2, .inl nu)), (h4, .inl (cI, 2, .inl ma))] (fun (r : Int32) (u : Unit) => r = qCho (co t) (re t) (nu t) (ma t) row) (fun (u : Unit) => [(h0, .inr (0, [.ref h1, .ref h2, .ref h3, .ref h4])), (h1, .inl (cI, 2, .inl co)), (h2, .inl (cI, 2, .inl re)), (h3, .inl (cI, 2, .inl nu)), (h4, .inl (cI, 2, .inl ma))]) 0 0 := by
  refine xe_i (cc := cX0_choose) (maxL := 3) (ret := (some .int)) (by decide) rfl (Nat.le_of_ble_eq_true rfl) ?_
  intro zp ze s zm below meth zc A ls B
  obtain ⟨hx, hb, hml, hrt, hts, hown, hnm, hlk, hK, hP, hD, hA, hS, hN, hl⟩ := B
  have hown : s.vm.findClass RX0 = some zm.cls := hown
  have hl : lv_has ls 3 [(0, .ref h0), (1, .int (nI t)), (2, .int row)] := hl
  have hA : ∀ q, s.heap.size ≤ q → A q := hA
  refine lv_iload_n hx hb dX0_choose_0 rfl (lv_at hl 2 rfl) ?_
  refine lv_iconst (v := -1) hx hb dX0_choose_1 (by decide) ?_
  refine x_cmp_eq (tgt := 34) hx hb (Iff.rfl) dX0_choose_2 (by decide) (fun c2 => ?_) (fun c2 => ?_)
  · refine lv_iconst (v := -1) hx hb dX0_choose_34 (by decide) ?_
    exact x_ret_i hx hb hrt hlk hP hD hS dX0_choose_35 ⟨by decide, by decide⟩ () (by unfold qCho; first | rw [if_pos (by assumption)] | (rw [if_neg c2]; first | rw [if_neg (by rw [c20]; decide)] | rw [if_pos (by cases h : qLetB (re t) (nu t) (qNum row (co t)) with | true => rfl | false => exact absurd h c20)])) rfl
  · refine lv_aload_n hx hb dX0_choose_5 rfl (lv_at hl 0 rfl) ?_
    refine lv_iload_n hx hb dX0_choose_6 rfl (lv_at hl 1 rfl) ?_
    refine lv_iload_n hx hb dX0_choose_7 rfl (lv_at hl 2 rfl) ?_
    refine lv_aload_n hx hb dX0_choose_8 rfl (lv_at hl 0 rfl) ?_
    refine va_get (D := D) (ci := 0) (v := .ref h1) (C := RX0) (T := TX0) (N := 4) hx hb hts kX0_choose_X0 hown hK hP 0 rfl rfl 0 (by decide) (hts _ kX0_choose_f9) (fun _ h9 => h9) rfl dX0_choose_9 ?_
    refine lv_iload_n hx hb dX0_choose_12 rfl (lv_at hl 1 rfl) ?_
    refine x_ald (v := co t) hx hb hK hP 1 0 rfl rfl (by omega) (by omega) rfl dX0_choose_13 ?_
    refine x_calli (w2 := fun (u : Unit) => [(h0, .inr (0, [.ref h1, .ref h2, .ref h3, .ref h4])), (h1, .inl (cI, 2, .inl co)), (h2, .inl (cI, 2, .inl re)), (h3, .inl (cI, 2, .inl nu)), (h4, .inl (cI, 2, .inl ma))]) (wr := [(h0, .inr (0, [.ref h1, .ref h2, .ref h3, .ref h4])), (h1, .inl (cI, 2, .inl co)), (h2, .inl (cI, 2, .inl re)), (h3, .inl (cI, 2, .inl nu)), (h4, .inl (cI, 2, .inl ma))]) (x_runSN (n := 2) ⟨hx, hb, hml, hown, hts⟩ (zX4_numberIn l D cI cP cS cL row (co t)) gX0_choose_X4_numberIn_n25 rfl rfl rfl (by decide +kernel) kX0_choose_s_X4_numberIn kX0_choose_i_X4 (by decide +kernel) ⟨by decide, by decide⟩ hN hK hP hD [] rfl rfl rfl hl.1 (rest := [.int (nI t), .ref h0]) (As := [.int row, .int (co t)]) rfl (Nat.le_of_ble_eq_true rfl) dX0_choose_14 ⟨by decide, by decide⟩) hP hD hS hA [] [0, 1, 2, 3, 4] [0, 1, 2, 3, 4] rfl rfl rfl (by decide) rfl (fun _ => rfl) (fun r14 u H locs hw hP hD hS => ?_)
    subst hw
    refine x_calli (w2 := fun (u : Unit) => [(h0, .inr (0, [.ref h1, .ref h2, .ref h3, .ref h4])), (h1, .inl (cI, 2, .inl co)), (h2, .inl (cI, 2, .inl re)), (h3, .inl (cI, 2, .inl nu)), (h4, .inl (cI, 2, .inl ma))]) (wr := []) (x_runV (n := 2) ⟨hx, hb, hml, hown, hts⟩ (zX0_lets l D cI cP cS cL h0 h1 h2 h3 h4 co re nu ma t (qNum row (co t)) ht) gX0_choose_X0_lets rfl rfl rfl (by decide +kernel) ⟨by decide, by decide⟩ hN hK hP hD [0, 1, 2, 3, 4] rfl rfl (ci := 0) (q0 := 0) rfl rfl rfl rfl hl.1 (rest := []) (As := [.int (nI t), .int (qNum row (co t))]) rfl (Nat.le_of_ble_eq_true rfl) dX0_choose_17 ⟨by decide, by decide⟩) hP hD hS hA [0, 1, 2, 3, 4] [] [0, 1, 2, 3, 4] rfl rfl rfl (by decide) rfl (fun _ => rfl) (fun r17 u H locs hw hP hD hS => ?_)
    subst hw
    refine x_if_eq (tgt := 34) hx hb (bI_0 _) dX0_choose_20 (by decide) (fun c20 => ?_) (fun c20 => ?_)
    · refine lv_iconst (v := -1) hx hb dX0_choose_34 (by decide) ?_
      exact x_ret_i hx hb hrt hlk hP hD hS dX0_choose_35 ⟨by decide, by decide⟩ () (by unfold qCho; first | rw [if_pos (by assumption)] | (rw [if_neg c2]; first | rw [if_neg (by rw [c20]; decide)] | rw [if_pos (by cases h : qLetB (re t) (nu t) (qNum row (co t)) with | true => rfl | false => exact absurd h c20)])) rfl
    · refine lv_iload_n hx hb dX0_choose_23 rfl (lv_at hl 2 rfl) ?_
      refine lv_aload_n hx hb dX0_choose_24 rfl (lv_at hl 0 rfl) ?_
      refine va_get (D := D) (ci := 0) (v := .ref h4) (C := RX0) (T := TX0) (N := 4) hx hb hts kX0_choose_X0 hown hK hP 0 rfl rfl 3 (by decide) (hts _ kX0_choose_f21) (fun _ h9 => h9) rfl dX0_choose_25 ?_
      refine lv_iload_n hx hb dX0_choose_28 rfl (lv_at hl 1 rfl) ?_
      refine x_ald (v := ma t) hx hb hK hP 4 0 rfl rfl (by omega) (by omega) rfl dX0_choose_29 ?_
      refine lv_iand hx hb dX0_choose_30 ?_
      refine lv_goto (tgt := 35) hx hb dX0_choose_31 (by decide) ?_
      exact x_ret_i hx hb hrt hlk hP hD hS dX0_choose_35 ⟨by decide, by decide⟩ () (by unfold qCho; first | rw [if_pos (by assumption)] | (rw [if_neg c2]; first | rw [if_neg (by rw [c20]; decide)] | rw [if_pos (by cases h : qLetB (re t) (nu t) (qNum row (co t)) with | true => rfl | false => exact absurd h c20)])) rfl
