set_option maxHeartbeats 4000000 in
set_option maxRecDepth 100000 in
theorem zX5_isIn (l : Launch) (D : va_G) (cI cP cS cL : ClassId) (v a z : Int32)  : xMi l yX5_isIn wsX5_isIn (rmD 0 0 0) D [(cI, .int), (cP, .object RX0), (cS, .object RX2), (cL, .long)] [.int v, .int a, .int z] [] (fun (r : Int32) (u : Unit) => r = bI (decide (a ≤ v ∧ v ≤ z))) (fun (u : Unit) => []) 0 0 := by
  refine xe_i (cc := cX5_isIn) (maxL := 3) (ret := (some .boolean)) (by decide) rfl (Nat.le_of_ble_eq_true rfl) ?_
  intro zp ze s zm below meth zc A ls B
  obtain ⟨hx, hb, hml, hrt, hts, hown, hnm, hlk, hK, hP, hD, hA, hS, hN, hl⟩ := B
  have hown : s.vm.findClass RX5 = some zm.cls := hown
  have hl : lv_has ls 3 [(0, .int v), (1, .int a), (2, .int z)] := hl
  have hA : ∀ q, s.heap.size ≤ q → A q := hA
  refine lv_iload_n hx hb dX5_isIn_0 rfl (lv_at hl 0 rfl) ?_
  refine lv_iload_n hx hb dX5_isIn_1 rfl (lv_at hl 1 rfl) ?_
  refine x_cmp_lt (tgt := 14) hx hb (Iff.rfl) dX5_isIn_2 (by decide) (fun c2 => ?_) (fun c2 => ?_)
  · refine lv_iconst (v := nI 0) hx hb dX5_isIn_14 (by decide) ?_
    exact x_ret_z hx hb hrt (by first | exact Or.inl rfl | exact Or.inr rfl) hlk hP hD hS dX5_isIn_15 ⟨by decide, by decide⟩ () (bI_n (fun q => absurd q.1 (Int32.not_le.mpr c2))).symm rfl
  · refine lv_iload_n hx hb dX5_isIn_5 rfl (lv_at hl 0 rfl) ?_
    refine lv_iload_n hx hb dX5_isIn_6 rfl (lv_at hl 2 rfl) ?_
    refine x_cmp_gt (tgt := 14) hx hb (Iff.rfl) dX5_isIn_7 (by decide) (fun c7 => ?_) (fun c7 => ?_)
    · refine lv_iconst (v := nI 0) hx hb dX5_isIn_14 (by decide) ?_
      exact x_ret_z hx hb hrt (by first | exact Or.inl rfl | exact Or.inr rfl) hlk hP hD hS dX5_isIn_15 ⟨by decide, by decide⟩ () (bI_n (fun q => absurd q.2 (Int32.not_le.mpr c7))).symm rfl
    · refine lv_iconst (v := nI 1) hx hb dX5_isIn_10 (by decide) ?_
      refine lv_goto (tgt := 15) hx hb dX5_isIn_11 (by decide) ?_
      exact x_ret_z hx hb hrt (by first | exact Or.inl rfl | exact Or.inr rfl) hlk hP hD hS dX5_isIn_15 ⟨by decide, by decide⟩ () (bI_d ⟨Int32.not_lt.mp c2, Int32.not_lt.mp c7⟩).symm rfl

set_option maxHeartbeats 4000000 in
set_option maxRecDepth 100000 in
theorem zX5_isTable (l : Launch) (D : va_G) (cI cP cS cL : ClassId) (v : Int32)  : xMi l yX5_isTable wsX5_isTable (rmD 1 0 0) D [(cI, .int), (cP, .object RX0), (cS, .object RX2), (cL, .long)] [.int v] [] (fun (r : Int32) (u : Unit) => r = bI (qIn v 2)) (fun (u : Unit) => []) 0 0 := by
  refine xe_i (cc := cX5_isTable) (maxL := 1) (ret := (some .boolean)) (by decide) rfl (Nat.le_of_ble_eq_true rfl) ?_
  intro zp ze s zm below meth zc A ls B
  obtain ⟨hx, hb, hml, hrt, hts, hown, hnm, hlk, hK, hP, hD, hA, hS, hN, hl⟩ := B
  have hown : s.vm.findClass RX5 = some zm.cls := hown
  have hl : lv_has ls 1 [(0, .int v)] := hl
  have hA : ∀ q, s.heap.size ≤ q → A q := hA
  refine lv_iload_n hx hb dX5_isTable_0 rfl (lv_at hl 0 rfl) ?_
  refine lv_iconst (v := nI 0) hx hb dX5_isTable_1 (by decide) ?_
  refine lv_iconst (v := nI 1) hx hb dX5_isTable_2 (by decide) ?_
  refine x_calli (w2 := fun (u : Unit) => []) (wr := []) (x_runS (n := 3) ⟨hx, hb, hml, hown, hts⟩ (zX5_isIn l D cI cP cS cL v (nI 0) (nI 1)) gX5_isTable_X5_isIn rfl rfl rfl (by decide +kernel) ⟨by decide, by decide⟩ hN hK hP hD [] rfl rfl rfl hl.1 (rest := []) (As := [.int v, .int (nI 0), .int (nI 1)]) rfl (Nat.le_of_ble_eq_true rfl) dX5_isTable_3 ⟨by decide, by decide⟩) hP hD hS hA [] [] [] rfl rfl rfl (by decide) rfl (fun _ => rfl) (fun r3 u H locs hw hP hD hS => ?_)
  rw [qIn_and (by decide)] at hw
  subst hw
  exact x_ret_z hx hb hrt (by cases (qIn v 2) <;> first | exact Or.inl rfl | exact Or.inr rfl) hlk hP hD hS dX5_isTable_6 ⟨by decide, by decide⟩ () rfl rfl

set_option maxHeartbeats 4000000 in
set_option maxRecDepth 100000 in
theorem zX5_isThird (l : Launch) (D : va_G) (cI cP cS cL : ClassId) (v : Int32)  : xMi l yX5_isThird wsX5_isThird (rmD 1 0 0) D [(cI, .int), (cP, .object RX0), (cS, .object RX2), (cL, .long)] [.int v] [] (fun (r : Int32) (u : Unit) => r = bI (qIn v 3)) (fun (u : Unit) => []) 0 0 := by
  refine xe_i (cc := cX5_isThird) (maxL := 1) (ret := (some .boolean)) (by decide) rfl (Nat.le_of_ble_eq_true rfl) ?_
  intro zp ze s zm below meth zc A ls B
  obtain ⟨hx, hb, hml, hrt, hts, hown, hnm, hlk, hK, hP, hD, hA, hS, hN, hl⟩ := B
  have hown : s.vm.findClass RX5 = some zm.cls := hown
  have hl : lv_has ls 1 [(0, .int v)] := hl
  have hA : ∀ q, s.heap.size ≤ q → A q := hA
  refine lv_iload_n hx hb dX5_isThird_0 rfl (lv_at hl 0 rfl) ?_
  refine lv_iconst (v := nI 0) hx hb dX5_isThird_1 (by decide) ?_
  refine lv_iconst (v := nI 2) hx hb dX5_isThird_2 (by decide) ?_
  refine x_calli (w2 := fun (u : Unit) => []) (wr := []) (x_runS (n := 3) ⟨hx, hb, hml, hown, hts⟩ (zX5_isIn l D cI cP cS cL v (nI 0) (nI 2)) gX5_isThird_X5_isIn rfl rfl rfl (by decide +kernel) ⟨by decide, by decide⟩ hN hK hP hD [] rfl rfl rfl hl.1 (rest := []) (As := [.int v, .int (nI 0), .int (nI 2)]) rfl (Nat.le_of_ble_eq_true rfl) dX5_isThird_3 ⟨by decide, by decide⟩) hP hD hS hA [] [] [] rfl rfl rfl (by decide) rfl (fun _ => rfl) (fun r3 u H locs hw hP hD hS => ?_)
  rw [qIn_and (by decide)] at hw
  subst hw
  exact x_ret_z hx hb hrt (by cases (qIn v 3) <;> first | exact Or.inl rfl | exact Or.inr rfl) hlk hP hD hS dX5_isThird_6 ⟨by decide, by decide⟩ () rfl rfl

set_option maxHeartbeats 4000000 in
set_option maxRecDepth 100000 in
theorem zX5_isNumber (l : Launch) (D : va_G) (cI cP cS cL : ClassId) (v : Int32)  : xMi l yX5_isNumber wsX5_isNumber (rmD 1 0 0) D [(cI, .int), (cP, .object RX0), (cS, .object RX2), (cL, .long)] [.int v] [] (fun (r : Int32) (u : Unit) => r = bI (qIn v 100)) (fun (u : Unit) => []) 0 0 := by
  refine xe_i (cc := cX5_isNumber) (maxL := 1) (ret := (some .boolean)) (by decide) rfl (Nat.le_of_ble_eq_true rfl) ?_
  intro zp ze s zm below meth zc A ls B
  obtain ⟨hx, hb, hml, hrt, hts, hown, hnm, hlk, hK, hP, hD, hA, hS, hN, hl⟩ := B
  have hown : s.vm.findClass RX5 = some zm.cls := hown
  have hl : lv_has ls 1 [(0, .int v)] := hl
  have hA : ∀ q, s.heap.size ≤ q → A q := hA
  refine lv_iload_n hx hb dX5_isNumber_0 rfl (lv_at hl 0 rfl) ?_
  refine lv_iconst (v := nI 0) hx hb dX5_isNumber_1 (by decide) ?_
  refine lv_bipush (v := nI 99) hx hb dX5_isNumber_2 (by decide) ?_
  refine x_calli (w2 := fun (u : Unit) => []) (wr := []) (x_runS (n := 3) ⟨hx, hb, hml, hown, hts⟩ (zX5_isIn l D cI cP cS cL v (nI 0) (nI 99)) gX5_isNumber_X5_isIn rfl rfl rfl (by decide +kernel) ⟨by decide, by decide⟩ hN hK hP hD [] rfl rfl rfl hl.1 (rest := []) (As := [.int v, .int (nI 0), .int (nI 99)]) rfl (Nat.le_of_ble_eq_true rfl) dX5_isNumber_4 ⟨by decide, by decide⟩) hP hD hS hA [] [] [] rfl rfl rfl (by decide) rfl (fun _ => rfl) (fun r4 u H locs hw hP hD hS => ?_)
  rw [qIn_and (by decide)] at hw
  subst hw
  exact x_ret_z hx hb hrt (by cases (qIn v 100) <;> first | exact Or.inl rfl | exact Or.inr rfl) hlk hP hD hS dX5_isNumber_7 ⟨by decide, by decide⟩ () rfl rfl

set_option maxHeartbeats 4000000 in
set_option maxRecDepth 100000 in
theorem zX5_isRow (l : Launch) (D : va_G) (cI cP cS cL : ClassId) (v z : Int32)  : xMi l yX5_isRow wsX5_isRow (rmD 2 0 0) D [(cI, .int), (cP, .object RX0), (cS, .object RX2), (cL, .long)] [.int v, .int z] [] (fun (r : Int32) (u : Unit) => r = bI (qIn v 2 && qIn z 12)) (fun (u : Unit) => []) 0 0 := by
  refine xe_i (cc := cX5_isRow) (maxL := 2) (ret := (some .boolean)) (by decide) rfl (Nat.le_of_ble_eq_true rfl) ?_
  intro zp ze s zm below meth zc A ls B
  obtain ⟨hx, hb, hml, hrt, hts, hown, hnm, hlk, hK, hP, hD, hA, hS, hN, hl⟩ := B
  have hown : s.vm.findClass RX5 = some zm.cls := hown
  have hl : lv_has ls 2 [(0, .int v), (1, .int z)] := hl
  have hA : ∀ q, s.heap.size ≤ q → A q := hA
  refine lv_iload_n hx hb dX5_isRow_0 rfl (lv_at hl 0 rfl) ?_
  refine x_calli (w2 := fun (u : Unit) => []) (wr := []) (x_runS (n := 1) ⟨hx, hb, hml, hown, hts⟩ (zX5_isTable l D cI cP cS cL v) gX5_isRow_X5_isTable rfl rfl rfl (by decide +kernel) ⟨by decide, by decide⟩ hN hK hP hD [] rfl rfl rfl hl.1 (rest := []) (As := [.int v]) rfl (Nat.le_of_ble_eq_true rfl) dX5_isRow_1 ⟨by decide, by decide⟩) hP hD hS hA [] [] [] rfl rfl rfl (by decide) rfl (fun _ => rfl) (fun r1 u H locs hw hP hD hS => ?_)
  subst hw
  refine x_if_eq (tgt := 21) hx hb (bI_0 _) dX5_isRow_4 (by decide) (fun c4 => ?_) (fun c4 => ?_)
  · refine lv_iconst (v := nI 0) hx hb dX5_isRow_21 (by decide) ?_
    exact x_ret_z hx hb hrt (by first | exact Or.inl rfl | exact Or.inr rfl) hlk hP hD hS dX5_isRow_22 ⟨by decide, by decide⟩ () (by rw [c4]; rfl) rfl
  · refine lv_iload_n hx hb dX5_isRow_7 rfl (lv_at hl 1 rfl) ?_
    refine lv_iconst (v := nI 0) hx hb dX5_isRow_8 (by decide) ?_
    refine lv_bipush (v := nI 11) hx hb dX5_isRow_9 (by decide) ?_
    refine x_calli (w2 := fun (u : Unit) => []) (wr := []) (x_runS (n := 3) ⟨hx, hb, hml, hown, hts⟩ (zX5_isIn l D cI cP cS cL z (nI 0) (nI 11)) gX5_isRow_X5_isIn rfl rfl rfl (by decide +kernel) ⟨by decide, by decide⟩ hN hK hP hD [] rfl rfl rfl hl.1 (rest := []) (As := [.int z, .int (nI 0), .int (nI 11)]) rfl (Nat.le_of_ble_eq_true rfl) dX5_isRow_11 ⟨by decide, by decide⟩) hP hD hS hA [] [] [] rfl rfl rfl (by decide) rfl (fun _ => rfl) (fun r11 u H locs hw hP hD hS => ?_)
    rw [qIn_and (by decide)] at hw
    subst hw
    refine x_if_eq (tgt := 21) hx hb (bI_0 _) dX5_isRow_14 (by decide) (fun c14 => ?_) (fun c14 => ?_)
    · refine lv_iconst (v := nI 0) hx hb dX5_isRow_21 (by decide) ?_
      exact x_ret_z hx hb hrt (by first | exact Or.inl rfl | exact Or.inr rfl) hlk hP hD hS dX5_isRow_22 ⟨by decide, by decide⟩ () (by rw [c14, Bool.and_false]; rfl) rfl
    · refine lv_iconst (v := nI 1) hx hb dX5_isRow_17 (by decide) ?_
      refine lv_goto (tgt := 22) hx hb dX5_isRow_18 (by decide) ?_
      exact x_ret_z hx hb hrt (by first | exact Or.inl rfl | exact Or.inr rfl) hlk hP hD hS dX5_isRow_22 ⟨by decide, by decide⟩ () (by rw [qIn_t (qIn_y c4), qIn_t (qIn_y c14)]; rfl) rfl

set_option maxHeartbeats 4000000 in
set_option maxRecDepth 100000 in
theorem zX5_numberOf (l : Launch) (D : va_G) (cI cP cS cL : ClassId) (v z : Int32)  : xMi l yX5_numberOf wsX5_numberOf (rmD 0 0 0) D [(cI, .int), (cP, .object RX0), (cS, .object RX2), (cL, .long)] [.int v, .int z] [] (fun (r : Int32) (u : Unit) => r = mNum v z) (fun (u : Unit) => []) 0 0 := by
  refine xe_i (cc := cX5_numberOf) (maxL := 2) (ret := (some .int)) (by decide) rfl (Nat.le_of_ble_eq_true rfl) ?_
  intro zp ze s zm below meth zc A ls B
  obtain ⟨hx, hb, hml, hrt, hts, hown, hnm, hlk, hK, hP, hD, hA, hS, hN, hl⟩ := B
  have hown : s.vm.findClass RX5 = some zm.cls := hown
  have hl : lv_has ls 2 [(0, .int v), (1, .int z)] := hl
  have hA : ∀ q, s.heap.size ≤ q → A q := hA
  refine lv_iload_n hx hb dX5_numberOf_0 rfl (lv_at hl 0 rfl) ?_
  refine lv_iconst (v := -1) hx hb dX5_numberOf_1 (by decide) ?_
  refine x_cmp_ne (tgt := 9) hx hb (Iff.rfl) dX5_numberOf_2 (by decide) (fun c2 => ?_) (fun c2 => ?_)
  · refine lv_iload_n hx hb dX5_numberOf_9 rfl (lv_at hl 1 rfl) ?_
    refine x_if_ne (tgt := 20) hx hb (Iff.rfl) dX5_numberOf_10 (by decide) (fun c10 => ?_) (fun c10 => ?_)
    · refine lv_iload_n hx hb dX5_numberOf_20 rfl (lv_at hl 1 rfl) ?_
      refine lv_iconst (v := nI 1) hx hb dX5_numberOf_21 (by decide) ?_
      refine x_cmp_ne (tgt := 35) hx hb (Iff.rfl) dX5_numberOf_22 (by decide) (fun c22 => ?_) (fun c22 => ?_)
      · refine lv_iload_n hx hb dX5_numberOf_35 rfl (lv_at hl 0 rfl) ?_
        refine lv_sipush (v := nI 10000) hx hb dX5_numberOf_36 (by decide) ?_
        refine lv_idiv hx hb dX5_numberOf_39 (by decide) ?_
        exact x_ret_i hx hb hrt hlk hP hD hS dX5_numberOf_40 ⟨by decide, by decide⟩ () (by unfold mNum; rw [if_neg c2, if_neg c10, if_neg c22]) rfl
      · refine lv_iload_n hx hb dX5_numberOf_25 rfl (lv_at hl 0 rfl) ?_
        refine lv_bipush (v := nI 100) hx hb dX5_numberOf_26 (by decide) ?_
        refine lv_idiv hx hb dX5_numberOf_28 (by decide) ?_
        refine lv_bipush (v := nI 100) hx hb dX5_numberOf_29 (by decide) ?_
        refine lv_irem hx hb dX5_numberOf_31 (by decide) ?_
        refine lv_goto (tgt := 40) hx hb dX5_numberOf_32 (by decide) ?_
        exact x_ret_i hx hb hrt hlk hP hD hS dX5_numberOf_40 ⟨by decide, by decide⟩ () (by unfold mNum; rw [if_neg c2, if_neg c10, if_pos c22]) rfl
    · refine lv_iload_n hx hb dX5_numberOf_13 rfl (lv_at hl 0 rfl) ?_
      refine lv_bipush (v := nI 100) hx hb dX5_numberOf_14 (by decide) ?_
      refine lv_irem hx hb dX5_numberOf_16 (by decide) ?_
      refine lv_goto (tgt := 40) hx hb dX5_numberOf_17 (by decide) ?_
      exact x_ret_i hx hb hrt hlk hP hD hS dX5_numberOf_40 ⟨by decide, by decide⟩ () (by unfold mNum; rw [if_neg c2, if_pos c10]) rfl
  · refine lv_iconst (v := -1) hx hb dX5_numberOf_5 (by decide) ?_
    refine lv_goto (tgt := 40) hx hb dX5_numberOf_6 (by decide) ?_
    exact x_ret_i hx hb hrt hlk hP hD hS dX5_numberOf_40 ⟨by decide, by decide⟩ () (by unfold mNum; rw [if_pos c2]) rfl

set_option maxRecDepth 20000 in
theorem kX5_fails_f65 : Cond.fieldLink RX5 65 "RowReplicatorModel" "thrown" "I" ∈ wsX5_fails := by decide +kernel
set_option maxRecDepth 20000 in
theorem kX5_fails_X5 : ∀ w ∈ wsX50, w ∈ wsX5_fails := by decide +kernel
set_option maxHeartbeats 4000000 in
set_option maxRecDepth 100000 in
theorem zX5_fails (l : Launch) (D : va_G) (cI cP cS cL : ClassId) (v0 v1 v2 v3 v4 v5 v6 v7 v8 v9 v10 v11 v12 v13 v14 v15 v16 v17 : Nat) (n lim : Nat) (th : Int32) (w : Nat) (hw4 : w < 4) : xMi l yX5_fails wsX5_fails (rmD 0 0 0) D [(cI, .int), (cP, .object RX0), (cS, .object RX2), (cL, .long)] [.ref v0, .int (nI w)] [(v0, .inr (5, [.ref v1, .ref v2, .int (nI n), .int (nI lim), .ref v3, .ref v4, .ref v5, .ref v6, .ref v7, .ref v8, .ref v9, .ref v10, .ref v11, .ref v12, .ref v13, .ref v14, .ref v15, .ref v16, .ref v17, .int th]))] (fun (r : Int32) (u : Unit) => r = bI (decide (0 < w))) (fun (u : Unit) => [(v0, .inr (5, [.ref v1, .ref v2, .int (nI n), .int (nI lim), .ref v3, .ref v4, .ref v5, .ref v6, .ref v7, .ref v8, .ref v9, .ref v10, .ref v11, .ref v12, .ref v13, .ref v14, .ref v15, .ref v16, .ref v17, .int (nI w)]))]) 0 0 := by
  refine xe_i (cc := cX5_fails) (maxL := 2) (ret := (some .boolean)) (by decide) rfl (Nat.le_of_ble_eq_true rfl) ?_
  intro zp ze s zm below meth zc A ls B
  obtain ⟨hx, hb, hml, hrt, hts, hown, hnm, hlk, hK, hP, hD, hA, hS, hN, hl⟩ := B
  have hown : s.vm.findClass RX5 = some zm.cls := hown
  have hl : lv_has ls 2 [(0, .ref v0), (1, .int (nI w))] := hl
  have hA : ∀ q, s.heap.size ≤ q → A q := hA
  refine lv_aload_n hx hb dX5_fails_0 rfl (lv_at hl 0 rfl) ?_
  refine lv_iload_n hx hb dX5_fails_1 rfl (lv_at hl 1 rfl) ?_
  refine x_put (fs' := [.ref v1, .ref v2, .int (nI n), .int (nI lim), .ref v3, .ref v4, .ref v5, .ref v6, .ref v7, .ref v8, .ref v9, .ref v10, .ref v11, .ref v12, .ref v13, .ref v14, .ref v15, .ref v16, .ref v17, .int (nI w)]) (ws' := [(v0, .inr (5, [.ref v1, .ref v2, .int (nI n), .int (nI lim), .ref v3, .ref v4, .ref v5, .ref v6, .ref v7, .ref v8, .ref v9, .ref v10, .ref v11, .ref v12, .ref v13, .ref v14, .ref v15, .ref v16, .ref v17, .int (nI w)]))]) (v := .int (nI w)) (ty := .int) (C := RX5) (T := TX5) (N := 20) (ci := 5) hx hb hts kX5_fails_X5 tyX5 tyX5_ok nmX5 hown hK hP hD hS 0 rfl rfl 19 (by decide) (hts _ kX5_fails_f65) (fun _ h9 => h9) rfl (by decide +kernel) rfl rfl (Nat.le_of_ble_eq_true rfl) rfl rfl dX5_fails_2 (fun H locs hP hD hS => ?_)
  refine lv_iload_n hx hb dX5_fails_5 rfl (lv_at hl 1 rfl) ?_
  refine x_if_le (tgt := 13) hx hb (nI_lez (by omega)) dX5_fails_6 (by decide) (fun c6 => ?_) (fun c6 => ?_)
  · refine lv_iconst (v := nI 0) hx hb dX5_fails_13 (by decide) ?_
    exact x_ret_z hx hb hrt (by first | exact Or.inl rfl | exact Or.inr rfl) hlk hP hD hS dX5_fails_14 ⟨by decide, by decide⟩ () (bI_n (by omega)).symm rfl
  · refine lv_iconst (v := nI 1) hx hb dX5_fails_9 (by decide) ?_
    refine lv_goto (tgt := 14) hx hb dX5_fails_10 (by decide) ?_
    exact x_ret_z hx hb hrt (by first | exact Or.inl rfl | exact Or.inr rfl) hlk hP hD hS dX5_fails_14 ⟨by decide, by decide⟩ () (bI_d (by omega)).symm rfl

set_option maxRecDepth 20000 in
theorem kX5_isFull_f20 : Cond.fieldLink RX5 20 "RowReplicatorModel" "changes" "[I" ∈ wsX5_isFull := by decide +kernel
set_option maxRecDepth 20000 in
theorem kX5_isFull_X5 : ∀ w ∈ wsX50, w ∈ wsX5_isFull := by decide +kernel
set_option maxRecDepth 20000 in
theorem kX5_isFull_f76 : Cond.fieldLink RX5 76 "RowReplicatorModel" "commits" "I" ∈ wsX5_isFull := by decide +kernel
set_option maxHeartbeats 4000000 in
set_option maxRecDepth 100000 in
theorem zX5_isFull (l : Launch) (D : va_G) (cI cP cS cL : ClassId) (v0 v1 v2 v3 v4 v5 v6 v7 v8 v9 v10 v11 v12 v13 v14 v15 v16 v17 : Nat) (n lim : Nat) (th : Int32) (cn : Nat) (chg : Nat → Int32) (hn9 : n ≤ 50) (hcn0 : chg (n + 1) = nI cn) (hcn : cn ≤ 12) : xMi l yX5_isFull wsX5_isFull (rmD 0 0 0) D [(cI, .int), (cP, .object RX0), (cS, .object RX2), (cL, .long)] [.ref v0] [(v0, .inr (5, [.ref v1, .ref v2, .int (nI n), .int (nI lim), .ref v3, .ref v4, .ref v5, .ref v6, .ref v7, .ref v8, .ref v9, .ref v10, .ref v11, .ref v12, .ref v13, .ref v14, .ref v15, .ref v16, .ref v17, .int th])), (v3, .inl (cI, 52, .inl chg))] (fun (r : Int32) (u : Unit) => r = bI (decide (cn = 12))) (fun (u : Unit) => [(v0, .inr (5, [.ref v1, .ref v2, .int (nI n), .int (nI lim), .ref v3, .ref v4, .ref v5, .ref v6, .ref v7, .ref v8, .ref v9, .ref v10, .ref v11, .ref v12, .ref v13, .ref v14, .ref v15, .ref v16, .ref v17, .int th])), (v3, .inl (cI, 52, .inl chg))]) 0 0 := by
  refine xe_i (cc := cX5_isFull) (maxL := 1) (ret := (some .boolean)) (by decide) rfl (Nat.le_of_ble_eq_true rfl) ?_
  intro zp ze s zm below meth zc A ls B
  obtain ⟨hx, hb, hml, hrt, hts, hown, hnm, hlk, hK, hP, hD, hA, hS, hN, hl⟩ := B
  have hown : s.vm.findClass RX5 = some zm.cls := hown
  have hl : lv_has ls 1 [(0, .ref v0)] := hl
  have hA : ∀ q, s.heap.size ≤ q → A q := hA
  refine lv_aload_n hx hb dX5_isFull_0 rfl (lv_at hl 0 rfl) ?_
  refine va_get (D := D) (ci := 5) (v := .ref v3) (C := RX5) (T := TX5) (N := 20) hx hb hts kX5_isFull_X5 hown hK hP 0 rfl rfl 4 (by decide) (hts _ kX5_isFull_f20) (fun _ h9 => h9) rfl dX5_isFull_1 ?_
  refine lv_aload_n hx hb dX5_isFull_4 rfl (lv_at hl 0 rfl) ?_
  refine va_get (D := D) (ci := 5) (v := .int (nI n)) (C := RX5) (T := TX5) (N := 20) hx hb hts kX5_isFull_X5 hown hK hP 0 rfl rfl 2 (by decide) (hts _ kX5_isFull_f76) (fun _ h9 => h9) rfl dX5_isFull_5 ?_
  refine lv_iconst (v := nI 1) hx hb dX5_isFull_8 (by decide) ?_
  refine x_add (k := n + 1) hx hb dX5_isFull_9 rfl ?_
  refine x_ald (v := nI cn) hx hb hK hP 1 0 rfl rfl (by omega) (by omega) hcn0 dX5_isFull_10 ?_
  refine lv_bipush (v := nI 12) hx hb dX5_isFull_11 (by decide) ?_
  refine x_cmp_ne (tgt := 20) hx hb (nI_eq (a := cn) (b := 12) (by omega) (by omega)) dX5_isFull_13 (by decide) (fun c13 => ?_) (fun c13 => ?_)
  · refine lv_iconst (v := nI 0) hx hb dX5_isFull_20 (by decide) ?_
    exact x_ret_z hx hb hrt (by first | exact Or.inl rfl | exact Or.inr rfl) hlk hP hD hS dX5_isFull_21 ⟨by decide, by decide⟩ () (bI_n c13).symm rfl
  · refine lv_iconst (v := nI 1) hx hb dX5_isFull_16 (by decide) ?_
    refine lv_goto (tgt := 21) hx hb dX5_isFull_17 (by decide) ?_
    exact x_ret_z hx hb hrt (by first | exact Or.inl rfl | exact Or.inr rfl) hlk hP hD hS dX5_isFull_21 ⟨by decide, by decide⟩ () (bI_d c13).symm rfl

set_option maxHeartbeats 4000000 in
set_option maxRecDepth 100000 in
theorem zX5_goes (l : Launch) (D : va_G) (cI cP cS cL : ClassId) (ha : Nat) (f : Nat → Int32) (t : Nat) (w : Nat) (v : Int32) (ht2 : t < 2) (hw12 : w < 12) : xMv l yX5_goes wsX5_goes (rmD 0 0 0) D [(cI, .int), (cP, .object RX0), (cS, .object RX2), (cL, .long)] [.ref ha, .int (nI t), .int (nI w), .int v] [(ha, .inl (cI, 24, .inl f))] (fun (u : Unit) => True) (fun (u : Unit) => [(ha, .inl (cI, 24, .inl (upd f (12 * t + w) v)))]) 0 0 := by
  refine xe_v (cc := cX5_goes) (maxL := 5) (ret := none) (by decide) rfl (Nat.le_of_ble_eq_true rfl) ?_
  intro zp ze s zm below meth zc A ls B
  obtain ⟨hx, hb, hml, hrt, hts, hown, hnm, hlk, hK, hP, hD, hA, hS, hN, hl⟩ := B
  have hown : s.vm.findClass RX5 = some zm.cls := hown
  have hl : lv_has ls 5 [(0, .ref ha), (1, .int (nI t)), (2, .int (nI w)), (3, .int v)] := hl
  have hA : ∀ q, s.heap.size ≤ q → A q := hA
  refine lv_iconst (v := nI 0) hx hb dX5_goes_0 (by decide) ?_
  refine lv_istore (lv' := [(4, .int (nI 0)), (0, .ref ha), (1, .int (nI t)), (2, .int (nI w)), (3, .int v)]) hx hb dX5_goes_1 hl (by decide) rfl (fun ls hl => ?_)
  refine x_loop (nL := 5) (fun (x : Nat × (Nat → Int32)) => match x with | (j, g) => j ≤ 12 ∧ g = if w < j then upd f (12 * t + w) v else f) (fun (x : Nat × (Nat → Int32)) => match x with | (j, g) => 12 - j) (fun (x : Nat × (Nat → Int32)) => match x with | (j, g) => [(ha, .inl (cI, 24, .inl g))]) (fun (x : Nat × (Nat → Int32)) => match x with | (j, g) => [(0, .ref ha), (1, .int (nI t)), (2, .int (nI w)), (3, .int v), (4, .int (nI j))]) (fun (x : Nat × (Nat → Int32)) => match x with | (j, g) => []) ?_ (0, f) ⟨by omega, (if_neg (Nat.not_lt_zero _)).symm⟩ hP hD hS (lv_sub hl [1, 2, 3, 4, 0] rfl)
  intro x9 hI3 ih3 H locs ls hP hD hS hl
  obtain ⟨j, g⟩ := x9
  have hP : va_P D vwCl [(ha, .inl (cI, 24, .inl g))] H := hP
  have hD : va_D A [(ha, .inl (cI, 24, .inl g))] := hD
  have hl : lv_has ls 5 [(0, .ref ha), (1, .int (nI t)), (2, .int (nI w)), (3, .int v), (4, .int (nI j))] := hl
  obtain ⟨hj, hg⟩ := hI3
  refine lv_iload hx hb dX5_goes_3 (lv_at hl 4 rfl) ?_
  refine lv_bipush (v := nI 12) hx hb dX5_goes_5 (by decide) ?_
  refine x_cmp_ge (tgt := 49) hx hb (nI_leI (a := 12) (b := j) (by omega) (by omega)) dX5_goes_7 (by decide) (fun c7 => ?_) (fun c7 => ?_)
  · rw [if_pos (by omega)] at hg
    subst hg
    exact x_ret_v hx hb hrt hlk hP hD hS dX5_goes_49 ⟨by decide, by decide⟩ () trivial rfl
  · refine lv_aload_n hx hb dX5_goes_10 rfl (lv_at hl 0 rfl) ?_
    refine lv_bipush (v := nI 12) hx hb dX5_goes_11 (by decide) ?_
    refine lv_iload_n hx hb dX5_goes_13 rfl (lv_at hl 1 rfl) ?_
    refine x_mul (k := 12 * t) hx hb dX5_goes_14 rfl ?_
    refine lv_iload hx hb dX5_goes_15 (lv_at hl 4 rfl) ?_
    refine x_add (k := (12 * t) + j) hx hb dX5_goes_17 rfl ?_
    refine lv_iload_n hx hb dX5_goes_18 rfl (lv_at hl 2 rfl) ?_
    refine lv_iload hx hb dX5_goes_19 (lv_at hl 4 rfl) ?_
    refine x_cmp_eq (tgt := 29) hx hb (nI_eq (a := w) (b := j) (by omega) (by omega)) dX5_goes_21 (by decide) (fun c21 => ?_) (fun c21 => ?_)
    · refine lv_iload_n hx hb dX5_goes_29 rfl (lv_at hl 3 rfl) ?_
      refine lv_goto (tgt := 42) hx hb dX5_goes_30 (by decide) ?_
      refine x_ast (g := upd g ((12 * t) + j) v) (ws' := [(ha, .inl (cI, 24, .inl (upd g ((12 * t) + j) v)))]) hx hb hK hP hD hS 0 0 rfl rfl (by omega) (by omega) (rfl) rfl dX5_goes_42 (fun H locs hP hD hS => ?_)
      refine x_iinc (k := 4) (o := 1) (v := j + 1) (lv' := [(4, .int (nI (j + 1))), (0, .ref ha), (1, .int (nI t)), (2, .int (nI w)), (3, .int v)]) hx hb dX5_goes_43 hl rfl rfl rfl (by decide) rfl (fun ls hl => ?_)
      refine lv_goto (tgt := 3) hx hb dX5_goes_46 (by decide) ?_
      exact ih3 (j + 1, upd g ((12 * t) + j) v) ⟨by omega, (by rw [hg, if_neg (by omega), if_pos (by omega), c21])⟩ (by show 12 - (j + 1) < 12 - j; omega) _ _ _ hP hD hS (lv_sub hl [1, 2, 3, 4, 0] rfl)
    · refine lv_iload_n hx hb dX5_goes_24 rfl (lv_at hl 2 rfl) ?_
      refine lv_iconst (v := -1) hx hb dX5_goes_25 (by decide) ?_
      refine x_cmp_ne (tgt := 33) hx hb (nI_m1 (k := w) (by omega)) dX5_goes_26 (by decide) (fun c26 => ?_) (fun c26 => ?_)
      · refine lv_aload_n hx hb dX5_goes_33 rfl (lv_at hl 0 rfl) ?_
        refine lv_bipush (v := nI 12) hx hb dX5_goes_34 (by decide) ?_
        refine lv_iload_n hx hb dX5_goes_36 rfl (lv_at hl 1 rfl) ?_
        refine x_mul (k := 12 * t) hx hb dX5_goes_37 rfl ?_
        refine lv_iload hx hb dX5_goes_38 (lv_at hl 4 rfl) ?_
        refine x_add (k := (12 * t) + j) hx hb dX5_goes_40 rfl ?_
        refine x_ald (v := g ((12 * t) + j)) hx hb hK hP 0 0 rfl rfl (by omega) (by omega) rfl dX5_goes_41 ?_
        refine x_ast (g := upd g ((12 * t) + j) (g ((12 * t) + j))) (ws' := [(ha, .inl (cI, 24, .inl (upd g ((12 * t) + j) (g ((12 * t) + j)))))]) hx hb hK hP hD hS 0 0 rfl rfl (by omega) (by omega) (rfl) rfl dX5_goes_42 (fun H locs hP hD hS => ?_)
        refine x_iinc (k := 4) (o := 1) (v := j + 1) (lv' := [(4, .int (nI (j + 1))), (0, .ref ha), (1, .int (nI t)), (2, .int (nI w)), (3, .int v)]) hx hb dX5_goes_43 hl rfl rfl rfl (by decide) rfl (fun ls hl => ?_)
        refine lv_goto (tgt := 3) hx hb dX5_goes_46 (by decide) ?_
        exact ih3 (j + 1, upd g ((12 * t) + j) (g ((12 * t) + j))) ⟨by omega, (by rw [upd_id rfl, hg]; exact goes_k c21)⟩ (by show 12 - (j + 1) < 12 - j; omega) _ _ _ hP hD hS (lv_sub hl [1, 2, 3, 4, 0] rfl)
      · exact c26.elim

set_option maxHeartbeats 4000000 in
set_option maxRecDepth 100000 in
theorem zX5_goesAll (l : Launch) (D : va_G) (cI cP cS cL : ClassId) (ha : Nat) (f : Nat → Int32) (t : Nat) (v : Int32) (ht2 : t < 2) : xMv l yX5_goes wsX5_goes (rmD 0 0 0) D [(cI, .int), (cP, .object RX0), (cS, .object RX2), (cL, .long)] [.ref ha, .int (nI t), .int (-1), .int v] [(ha, .inl (cI, 24, .inl f))] (fun (u : Unit) => True) (fun (u : Unit) => [(ha, .inl (cI, 24, .inl (qFill f (12 * t) 12 v)))]) 0 0 := by
  refine xe_v (cc := cX5_goes) (maxL := 5) (ret := none) (by decide) rfl (Nat.le_of_ble_eq_true rfl) ?_
  intro zp ze s zm below meth zc A ls B
  obtain ⟨hx, hb, hml, hrt, hts, hown, hnm, hlk, hK, hP, hD, hA, hS, hN, hl⟩ := B
  have hown : s.vm.findClass RX5 = some zm.cls := hown
  have hl : lv_has ls 5 [(0, .ref ha), (1, .int (nI t)), (2, .int (-1)), (3, .int v)] := hl
  have hA : ∀ q, s.heap.size ≤ q → A q := hA
  refine lv_iconst (v := nI 0) hx hb dX5_goes_0 (by decide) ?_
  refine lv_istore (lv' := [(4, .int (nI 0)), (0, .ref ha), (1, .int (nI t)), (2, .int (-1)), (3, .int v)]) hx hb dX5_goes_1 hl (by decide) rfl (fun ls hl => ?_)
  refine x_loop (nL := 5) (fun (x : Nat × (Nat → Int32)) => match x with | (j, g) => j ≤ 12 ∧ g = qFill f (12 * t) j v) (fun (x : Nat × (Nat → Int32)) => match x with | (j, g) => 12 - j) (fun (x : Nat × (Nat → Int32)) => match x with | (j, g) => [(ha, .inl (cI, 24, .inl g))]) (fun (x : Nat × (Nat → Int32)) => match x with | (j, g) => [(0, .ref ha), (1, .int (nI t)), (2, .int (-1)), (3, .int v), (4, .int (nI j))]) (fun (x : Nat × (Nat → Int32)) => match x with | (j, g) => []) ?_ (0, f) ⟨by omega, (qFill_0 _ _ _).symm⟩ hP hD hS (lv_sub hl [1, 2, 3, 4, 0] rfl)
  intro x9 hI3 ih3 H locs ls hP hD hS hl
  obtain ⟨j, g⟩ := x9
  have hP : va_P D vwCl [(ha, .inl (cI, 24, .inl g))] H := hP
  have hD : va_D A [(ha, .inl (cI, 24, .inl g))] := hD
  have hl : lv_has ls 5 [(0, .ref ha), (1, .int (nI t)), (2, .int (-1)), (3, .int v), (4, .int (nI j))] := hl
  obtain ⟨hj, hg⟩ := hI3
  refine lv_iload hx hb dX5_goes_3 (lv_at hl 4 rfl) ?_
  refine lv_bipush (v := nI 12) hx hb dX5_goes_5 (by decide) ?_
  refine x_cmp_ge (tgt := 49) hx hb (nI_leI (a := 12) (b := j) (by omega) (by omega)) dX5_goes_7 (by decide) (fun c7 => ?_) (fun c7 => ?_)
  · obtain rfl : j = 12 := by omega
    subst hg
    exact x_ret_v hx hb hrt hlk hP hD hS dX5_goes_49 ⟨by decide, by decide⟩ () trivial rfl
  · refine lv_aload_n hx hb dX5_goes_10 rfl (lv_at hl 0 rfl) ?_
    refine lv_bipush (v := nI 12) hx hb dX5_goes_11 (by decide) ?_
    refine lv_iload_n hx hb dX5_goes_13 rfl (lv_at hl 1 rfl) ?_
    refine x_mul (k := 12 * t) hx hb dX5_goes_14 rfl ?_
    refine lv_iload hx hb dX5_goes_15 (lv_at hl 4 rfl) ?_
    refine x_add (k := (12 * t) + j) hx hb dX5_goes_17 rfl ?_
    refine lv_iload_n hx hb dX5_goes_18 rfl (lv_at hl 2 rfl) ?_
    refine lv_iload hx hb dX5_goes_19 (lv_at hl 4 rfl) ?_
    refine x_cmp_eq (tgt := 29) hx hb (m1_n (k := j) (by omega)) dX5_goes_21 (by decide) (fun c21 => ?_) (fun c21 => ?_)
    · exact c21.elim
    · refine lv_iload_n hx hb dX5_goes_24 rfl (lv_at hl 2 rfl) ?_
      refine lv_iconst (v := -1) hx hb dX5_goes_25 (by decide) ?_
      refine x_cmp_ne (tgt := 33) hx hb (Iff.rfl) dX5_goes_26 (by decide) (fun c26 => ?_) (fun c26 => ?_)
      · exact absurd rfl c26
      · refine lv_iload_n hx hb dX5_goes_29 rfl (lv_at hl 3 rfl) ?_
        refine lv_goto (tgt := 42) hx hb dX5_goes_30 (by decide) ?_
        refine x_ast (g := upd g ((12 * t) + j) v) (ws' := [(ha, .inl (cI, 24, .inl (upd g ((12 * t) + j) v)))]) hx hb hK hP hD hS 0 0 rfl rfl (by omega) (by omega) (rfl) rfl dX5_goes_42 (fun H locs hP hD hS => ?_)
        refine x_iinc (k := 4) (o := 1) (v := j + 1) (lv' := [(4, .int (nI (j + 1))), (0, .ref ha), (1, .int (nI t)), (2, .int (-1)), (3, .int v)]) hx hb dX5_goes_43 hl rfl rfl rfl (by decide) rfl (fun ls hl => ?_)
        refine lv_goto (tgt := 3) hx hb dX5_goes_46 (by decide) ?_
        exact ih3 (j + 1, upd g ((12 * t) + j) v) ⟨by omega, (by rw [hg]; exact qFill_s _ _ _ _)⟩ (by show 12 - (j + 1) < 12 - j; omega) _ _ _ hP hD hS (lv_sub hl [1, 2, 3, 4, 0] rfl)
