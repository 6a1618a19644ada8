set_option maxRecDepth 20000 in
theorem kX3_follows_s_X4_placeOf : Cond.static yX4_placeOf ∈ wsX3_follows := by decide +kernel
set_option maxRecDepth 20000 in
theorem kX3_follows_i_X4 : Cond.initialized RX4 ∈ wsX3_follows := by decide +kernel
set_option maxRecDepth 20000 in
theorem kX3_follows_f9 : Cond.fieldLink RX3 9 "RowReplicator$Trial" "oldRows" "[I" ∈ wsX3_follows := by decide +kernel
set_option maxRecDepth 20000 in
theorem kX3_follows_X3 : ∀ w ∈ wsX30, w ∈ wsX3_follows := by decide +kernel
set_option maxRecDepth 20000 in
theorem kX3_follows_f15 : Cond.fieldLink RX3 15 "RowReplicator$Trial" "rows" "[I" ∈ wsX3_follows := by decide +kernel
set_option maxHeartbeats 4000000 in
set_option maxRecDepth 100000 in
theorem zX3_follows (l : Launch) (D : va_G) (cI cP cS cL : ClassId) (g0 g1 g2 p0 p1 p2 p3 p4 : Nat) (old rw co re nu ma : Nat → Int32) (t : Nat) (k : Nat) (v : Int32) (ht : t < 2) (hk9 : k < 12) : xMi l yX3_follows wsX3_follows (rmD 2 0 0) D [(cI, .int), (cP, .object RX0), (cS, .object RX2)] [.ref g0, .ref p0, .int (nI t), .int (nI k), .int v] [(g0, .inr (3, [.ref g1, .ref g2])), (g1, .inl (cI, 24, .inl old)), (g2, .inl (cI, 24, .inl rw)), (p0, .inr (0, [.ref p1, .ref p2, .ref p3, .ref p4])), (p1, .inl (cI, 2, .inl co)), (p2, .inl (cI, 2, .inl re)), (p3, .inl (cI, 2, .inl nu)), (p4, .inl (cI, 2, .inl ma))] (fun (r : Int32) (u : (Nat → Int32) × (Nat → Int32)) => match u with | (o1, w1) => ((qCf (qCho (co t) (re t) (nu t) (ma t) (old (t * 12 + k))) (qCho (co t) (re t) (nu t) (ma t) (v)) (rw (t * 12 + k)) ∧ r = nI 0 ∧ o1 = old ∧ w1 = rw) ∨ (¬ qCf (qCho (co t) (re t) (nu t) (ma t) (old (t * 12 + k))) (qCho (co t) (re t) (nu t) (ma t) (v)) (rw (t * 12 + k)) ∧ r = nI 1 ∧ o1 = upd old (t * 12 + k) v ∧ w1 = if qCho (co t) (re t) (nu t) (ma t) (old (t * 12 + k)) = -1 ∧ qCho (co t) (re t) (nu t) (ma t) (v) = -1 then rw else upd rw (t * 12 + k) (qCho (co t) (re t) (nu t) (ma t) (v))))) (fun (u : (Nat → Int32) × (Nat → Int32)) => match u with | (o1, w1) => [(g0, .inr (3, [.ref g1, .ref g2])), (g1, .inl (cI, 24, .inl o1)), (g2, .inl (cI, 24, .inl w1)), (p0, .inr (0, [.ref p1, .ref p2, .ref p3, .ref p4])), (p1, .inl (cI, 2, .inl co)), (p2, .inl (cI, 2, .inl re)), (p3, .inl (cI, 2, .inl nu)), (p4, .inl (cI, 2, .inl ma))]) 0 0 := by
  refine xe_i (cc := cX3_follows) (maxL := 9) (ret := (some .boolean)) (by decide) rfl (Nat.le_of_ble_eq_true rfl) ?_
  intro zp ze s zm below meth zc A ls B
  obtain ⟨hx, hb, hml, hrt, hts, hown, hnm, hlk, hK, hP, hD, hA, hS, hN, hl⟩ := B
  have hown : s.vm.findClass RX3 = some zm.cls := hown
  have hl : lv_has ls 9 [(0, .ref g0), (1, .ref p0), (2, .int (nI t)), (3, .int (nI k)), (4, .int v)] := hl
  have hA : ∀ q, s.heap.size ≤ q → A q := hA
  refine lv_iload_n hx hb dX3_follows_0 rfl (lv_at hl 2 rfl) ?_
  refine lv_iload_n hx hb dX3_follows_1 rfl (lv_at hl 3 rfl) ?_
  refine x_calli (w2 := fun (u : Unit) => [(g0, .inr (3, [.ref g1, .ref g2])), (g1, .inl (cI, 24, .inl old)), (g2, .inl (cI, 24, .inl rw)), (p0, .inr (0, [.ref p1, .ref p2, .ref p3, .ref p4])), (p1, .inl (cI, 2, .inl co)), (p2, .inl (cI, 2, .inl re)), (p3, .inl (cI, 2, .inl nu)), (p4, .inl (cI, 2, .inl ma))]) (wr := [(g0, .inr (3, [.ref g1, .ref g2])), (g1, .inl (cI, 24, .inl old)), (g2, .inl (cI, 24, .inl rw)), (p0, .inr (0, [.ref p1, .ref p2, .ref p3, .ref p4])), (p1, .inl (cI, 2, .inl co)), (p2, .inl (cI, 2, .inl re)), (p3, .inl (cI, 2, .inl nu)), (p4, .inl (cI, 2, .inl ma))]) (x_runSN (n := 2) ⟨hx, hb, hml, hown, hts⟩ (zX4_placeOf l D cI cP cS cL t k) gX3_follows_X4_placeOf_n60 rfl rfl rfl (by decide +kernel) kX3_follows_s_X4_placeOf kX3_follows_i_X4 (by decide +kernel) ⟨by decide, by decide⟩ hN hK hP hD [] rfl rfl rfl hl.1 (rest := []) (As := [.int (nI t), .int (nI k)]) rfl (Nat.le_of_ble_eq_true rfl) dX3_follows_2 ⟨by decide, by decide⟩) hP hD hS hA [] [0, 1, 2, 3, 4, 5, 6, 7] [0, 1, 2, 3, 4, 5, 6, 7] rfl rfl rfl (by decide) rfl (fun _ => rfl) (fun r2 u H locs hw hP hD hS => ?_)
  subst hw
  refine lv_istore (lv' := [(5, .int (nI (t * 12 + k))), (0, .ref g0), (1, .ref p0), (2, .int (nI t)), (3, .int (nI k)), (4, .int v)]) hx hb dX3_follows_5 hl (by decide) rfl (fun ls hl => ?_)
  refine lv_aload_n hx hb dX3_follows_7 rfl (lv_at hl 2 rfl) ?_
  refine lv_iload_n hx hb dX3_follows_8 rfl (lv_at hl 3 rfl) ?_
  refine lv_aload_n hx hb dX3_follows_9 rfl (lv_at hl 1 rfl) ?_
  refine va_get (D := D) (ci := 3) (v := .ref g1) (C := RX3) (T := TX3) (N := 2) hx hb hts kX3_follows_X3 hown hK hP 0 rfl rfl 0 (by decide) (hts _ kX3_follows_f9) (fun _ h9 => h9) rfl dX3_follows_10 ?_
  refine lv_iload hx hb dX3_follows_13 (lv_at hl 0 rfl) ?_
  refine x_ald (v := old (t * 12 + k)) hx hb hK hP 1 0 rfl rfl (by omega) (by omega) rfl dX3_follows_15 ?_
  refine x_calli (w2 := fun (u : Unit) => [(g0, .inr (3, [.ref g1, .ref g2])), (g1, .inl (cI, 24, .inl old)), (g2, .inl (cI, 24, .inl rw)), (p0, .inr (0, [.ref p1, .ref p2, .ref p3, .ref p4])), (p1, .inl (cI, 2, .inl co)), (p2, .inl (cI, 2, .inl re)), (p3, .inl (cI, 2, .inl nu)), (p4, .inl (cI, 2, .inl ma))]) (wr := [(g0, .inr (3, [.ref g1, .ref g2])), (g1, .inl (cI, 24, .inl old)), (g2, .inl (cI, 24, .inl rw))]) (x_runV (n := 2) ⟨hx, hb, hml, hown, hts⟩ (zX0_choose l D cI cP cS cL p0 p1 p2 p3 p4 co re nu ma t (old (t * 12 + k)) ht) gX3_follows_X0_choose rfl rfl rfl (by decide +kernel) ⟨by decide, by decide⟩ hN hK hP hD [3, 4, 5, 6, 7] rfl rfl (ci := 0) (q0 := 3) rfl rfl rfl rfl hl.1 (rest := []) (As := [.int (nI t), .int (old (t * 12 + k))]) rfl (Nat.le_of_ble_eq_true rfl) dX3_follows_16 ⟨by decide, by decide⟩) hP hD hS hA [3, 4, 5, 6, 7] [0, 1, 2] [0, 1, 2, 3, 4, 5, 6, 7] rfl rfl rfl (by decide) rfl (fun _ => rfl) (fun r16 u H locs hw hP hD hS => ?_)
  subst hw
  refine lv_istore (lv' := [(6, .int (qCho (co t) (re t) (nu t) (ma t) (old (t * 12 + k)))), (5, .int (nI (t * 12 + k))), (0, .ref g0), (1, .ref p0), (2, .int (nI t)), (3, .int (nI k)), (4, .int v)]) hx hb dX3_follows_19 hl (by decide) rfl (fun ls hl => ?_)
  refine lv_aload_n hx hb dX3_follows_21 rfl (lv_at hl 3 rfl) ?_
  refine lv_iload_n hx hb dX3_follows_22 rfl (lv_at hl 4 rfl) ?_
  refine lv_iload hx hb dX3_follows_23 (lv_at hl 6 rfl) ?_
  refine x_calli (w2 := fun (u : Unit) => [(g0, .inr (3, [.ref g1, .ref g2])), (g1, .inl (cI, 24, .inl old)), (g2, .inl (cI, 24, .inl rw)), (p0, .inr (0, [.ref p1, .ref p2, .ref p3, .ref p4])), (p1, .inl (cI, 2, .inl co)), (p2, .inl (cI, 2, .inl re)), (p3, .inl (cI, 2, .inl nu)), (p4, .inl (cI, 2, .inl ma))]) (wr := [(g0, .inr (3, [.ref g1, .ref g2])), (g1, .inl (cI, 24, .inl old)), (g2, .inl (cI, 24, .inl rw))]) (x_runV (n := 2) ⟨hx, hb, hml, hown, hts⟩ (zX0_choose l D cI cP cS cL p0 p1 p2 p3 p4 co re nu ma t v ht) gX3_follows_X0_choose rfl rfl rfl (by decide +kernel) ⟨by decide, by decide⟩ hN hK hP hD [3, 4, 5, 6, 7] rfl rfl (ci := 0) (q0 := 3) rfl rfl rfl rfl hl.1 (rest := []) (As := [.int (nI t), .int v]) rfl (Nat.le_of_ble_eq_true rfl) dX3_follows_25 ⟨by decide, by decide⟩) hP hD hS hA [3, 4, 5, 6, 7] [0, 1, 2] [0, 1, 2, 3, 4, 5, 6, 7] rfl rfl rfl (by decide) rfl (fun _ => rfl) (fun r25 u H locs hw hP hD hS => ?_)
  subst hw
  refine lv_istore (lv' := [(7, .int (qCho (co t) (re t) (nu t) (ma t) (v))), (6, .int (qCho (co t) (re t) (nu t) (ma t) (old (t * 12 + k)))), (5, .int (nI (t * 12 + k))), (0, .ref g0), (1, .ref p0), (2, .int (nI t)), (3, .int (nI k)), (4, .int v)]) hx hb dX3_follows_28 hl (by decide) rfl (fun ls hl => ?_)
  refine lv_iload hx hb dX3_follows_30 (lv_at hl 1 rfl) ?_
  refine lv_iconst (v := -1) hx hb dX3_follows_32 (by decide) ?_
  refine x_cmp_ne (tgt := 46) hx hb (Iff.rfl) dX3_follows_33 (by decide) (fun c33 => ?_) (fun c33 => ?_)
  · refine lv_iconst (v := nI 0) hx hb dX3_follows_46 (by decide) ?_
    refine lv_istore (lv' := [(8, .int (nI 0)), (7, .int (qCho (co t) (re t) (nu t) (ma t) (v))), (6, .int (qCho (co t) (re t) (nu t) (ma t) (old (t * 12 + k)))), (5, .int (nI (t * 12 + k))), (0, .ref g0), (1, .ref p0), (2, .int (nI t)), (3, .int (nI k)), (4, .int v)]) hx hb dX3_follows_47 hl (by decide) rfl (fun ls hl => ?_)
    refine lv_iload hx hb dX3_follows_49 (lv_at hl 0 rfl) ?_
    refine x_if_eq (tgt := 67) hx hb (nI_z (by omega)) dX3_follows_51 (by decide) (fun c51 => ?_) (fun c51 => ?_)
    rotate_left
    · exact absurd c51 (by omega)
    refine lv_iload hx hb dX3_follows_67 (lv_at hl 0 rfl) ?_
    refine x_if_ne (tgt := 78) hx hb (nI_z (by omega)) dX3_follows_69 (by decide) (fun c69 => ?_) (fun c69 => ?_)
    · exact absurd c69 (by omega)
    refine lv_iload hx hb dX3_follows_72 (lv_at hl 2 rfl) ?_
    refine lv_iconst (v := -1) hx hb dX3_follows_74 (by decide) ?_
    refine x_cmp_eq (tgt := 87) hx hb (Iff.rfl) dX3_follows_75 (by decide) (fun c75 => ?_) (fun c75 => ?_)
    · exact absurd c75 c33
    · refine lv_aload_n hx hb dX3_follows_78 rfl (lv_at hl 4 rfl) ?_
      refine va_get (D := D) (ci := 3) (v := .ref g2) (C := RX3) (T := TX3) (N := 2) hx hb hts kX3_follows_X3 hown hK hP 0 rfl rfl 1 (by decide) (hts _ kX3_follows_f15) (fun _ h9 => h9) rfl dX3_follows_79 ?_
      refine lv_iload hx hb dX3_follows_82 (lv_at hl 3 rfl) ?_
      refine lv_iload hx hb dX3_follows_84 (lv_at hl 1 rfl) ?_
      refine x_ast (g := upd rw (t * 12 + k) (qCho (co t) (re t) (nu t) (ma t) (v))) (ws' := [(g0, .inr (3, [.ref g1, .ref g2])), (g1, .inl (cI, 24, .inl old)), (g2, .inl (cI, 24, .inl (upd rw (t * 12 + k) (qCho (co t) (re t) (nu t) (ma t) (v))))), (p0, .inr (0, [.ref p1, .ref p2, .ref p3, .ref p4])), (p1, .inl (cI, 2, .inl co)), (p2, .inl (cI, 2, .inl re)), (p3, .inl (cI, 2, .inl nu)), (p4, .inl (cI, 2, .inl ma))]) hx hb hK hP hD hS 2 0 rfl rfl (by omega) (by omega) (rfl) rfl dX3_follows_86 (fun H locs hP hD hS => ?_)
      refine lv_aload_n hx hb dX3_follows_87 rfl (lv_at hl 4 rfl) ?_
      refine va_get (D := D) (ci := 3) (v := .ref g1) (C := RX3) (T := TX3) (N := 2) hx hb hts kX3_follows_X3 hown hK hP 0 rfl rfl 0 (by decide) (hts _ kX3_follows_f9) (fun _ h9 => h9) rfl dX3_follows_88 ?_
      refine lv_iload hx hb dX3_follows_91 (lv_at hl 3 rfl) ?_
      refine lv_iload hx hb dX3_follows_93 (lv_at hl 8 rfl) ?_
      refine x_ast (g := upd old (t * 12 + k) v) (ws' := [(g0, .inr (3, [.ref g1, .ref g2])), (g1, .inl (cI, 24, .inl (upd old (t * 12 + k) v))), (g2, .inl (cI, 24, .inl (upd rw (t * 12 + k) (qCho (co t) (re t) (nu t) (ma t) (v))))), (p0, .inr (0, [.ref p1, .ref p2, .ref p3, .ref p4])), (p1, .inl (cI, 2, .inl co)), (p2, .inl (cI, 2, .inl re)), (p3, .inl (cI, 2, .inl nu)), (p4, .inl (cI, 2, .inl ma))]) hx hb hK hP hD hS 1 0 rfl rfl (by omega) (by omega) (rfl) rfl dX3_follows_95 (fun H locs hP hD hS => ?_)
      refine lv_iconst (v := nI 1) hx hb dX3_follows_96 (by decide) ?_
      exact x_ret_z hx hb hrt (by first | exact Or.inl rfl | exact Or.inr rfl) hlk hP hD hS dX3_follows_97 ⟨by decide, by decide⟩ (upd old (t * 12 + k) v, upd rw (t * 12 + k) (qCho (co t) (re t) (nu t) (ma t) (v))) (Or.inr ⟨(by exact fun q => c33 q.1), rfl, rfl, (by exact ite_n (fun q => c33 q.1))⟩) rfl
  · refine lv_iload hx hb dX3_follows_36 (lv_at hl 0 rfl) ?_
    refine lv_iconst (v := -1) hx hb dX3_follows_38 (by decide) ?_
    refine x_cmp_eq (tgt := 46) hx hb (Iff.rfl) dX3_follows_39 (by decide) (fun c39 => ?_) (fun c39 => ?_)
    · refine lv_iconst (v := nI 0) hx hb dX3_follows_46 (by decide) ?_
      refine lv_istore (lv' := [(8, .int (nI 0)), (7, .int (qCho (co t) (re t) (nu t) (ma t) (v))), (6, .int (qCho (co t) (re t) (nu t) (ma t) (old (t * 12 + k)))), (5, .int (nI (t * 12 + k))), (0, .ref g0), (1, .ref p0), (2, .int (nI t)), (3, .int (nI k)), (4, .int v)]) hx hb dX3_follows_47 hl (by decide) rfl (fun ls hl => ?_)
      refine lv_iload hx hb dX3_follows_49 (lv_at hl 0 rfl) ?_
      refine x_if_eq (tgt := 67) hx hb (nI_z (by omega)) dX3_follows_51 (by decide) (fun c51 => ?_) (fun c51 => ?_)
      rotate_left
      · exact absurd c51 (by omega)
      refine lv_iload hx hb dX3_follows_67 (lv_at hl 0 rfl) ?_
      refine x_if_ne (tgt := 78) hx hb (nI_z (by omega)) dX3_follows_69 (by decide) (fun c69 => ?_) (fun c69 => ?_)
      · exact absurd c69 (by omega)
      refine lv_iload hx hb dX3_follows_72 (lv_at hl 2 rfl) ?_
      refine lv_iconst (v := -1) hx hb dX3_follows_74 (by decide) ?_
      refine x_cmp_eq (tgt := 87) hx hb (Iff.rfl) dX3_follows_75 (by decide) (fun c75 => ?_) (fun c75 => ?_)
      · refine lv_aload_n hx hb dX3_follows_87 rfl (lv_at hl 4 rfl) ?_
        refine va_get (D := D) (ci := 3) (v := .ref g1) (C := RX3) (T := TX3) (N := 2) hx hb hts kX3_follows_X3 hown hK hP 0 rfl rfl 0 (by decide) (hts _ kX3_follows_f9) (fun _ h9 => h9) rfl dX3_follows_88 ?_
        refine lv_iload hx hb dX3_follows_91 (lv_at hl 3 rfl) ?_
        refine lv_iload hx hb dX3_follows_93 (lv_at hl 8 rfl) ?_
        refine x_ast (g := upd old (t * 12 + k) v) (ws' := [(g0, .inr (3, [.ref g1, .ref g2])), (g1, .inl (cI, 24, .inl (upd old (t * 12 + k) v))), (g2, .inl (cI, 24, .inl rw)), (p0, .inr (0, [.ref p1, .ref p2, .ref p3, .ref p4])), (p1, .inl (cI, 2, .inl co)), (p2, .inl (cI, 2, .inl re)), (p3, .inl (cI, 2, .inl nu)), (p4, .inl (cI, 2, .inl ma))]) hx hb hK hP hD hS 1 0 rfl rfl (by omega) (by omega) (rfl) rfl dX3_follows_95 (fun H locs hP hD hS => ?_)
        refine lv_iconst (v := nI 1) hx hb dX3_follows_96 (by decide) ?_
        exact x_ret_z hx hb hrt (by first | exact Or.inl rfl | exact Or.inr rfl) hlk hP hD hS dX3_follows_97 ⟨by decide, by decide⟩ (upd old (t * 12 + k) v, rw) (Or.inr ⟨(by exact fun q => q.2.1 c39), rfl, rfl, (by exact ite_y ⟨c33, c39⟩)⟩) rfl
      · exact absurd c33 c75
    · refine lv_iconst (v := nI 1) hx hb dX3_follows_42 (by decide) ?_
      refine lv_goto (tgt := 47) hx hb dX3_follows_43 (by decide) ?_
      refine lv_istore (lv' := [(8, .int (nI 1)), (7, .int (qCho (co t) (re t) (nu t) (ma t) (v))), (6, .int (qCho (co t) (re t) (nu t) (ma t) (old (t * 12 + k)))), (5, .int (nI (t * 12 + k))), (0, .ref g0), (1, .ref p0), (2, .int (nI t)), (3, .int (nI k)), (4, .int v)]) hx hb dX3_follows_47 hl (by decide) rfl (fun ls hl => ?_)
      refine lv_iload hx hb dX3_follows_49 (lv_at hl 0 rfl) ?_
      refine x_if_eq (tgt := 67) hx hb (nI_z (by omega)) dX3_follows_51 (by decide) (fun c51 => ?_) (fun c51 => ?_)
      · exact absurd c51 (by omega)
      refine lv_aload_n hx hb dX3_follows_54 rfl (lv_at hl 4 rfl) ?_
      refine va_get (D := D) (ci := 3) (v := .ref g2) (C := RX3) (T := TX3) (N := 2) hx hb hts kX3_follows_X3 hown hK hP 0 rfl rfl 1 (by decide) (hts _ kX3_follows_f15) (fun _ h9 => h9) rfl dX3_follows_55 ?_
      refine lv_iload hx hb dX3_follows_58 (lv_at hl 3 rfl) ?_
      refine x_ald (v := rw (t * 12 + k)) hx hb hK hP 2 0 rfl rfl (by omega) (by omega) rfl dX3_follows_60 ?_
      refine lv_iconst (v := -1) hx hb dX3_follows_61 (by decide) ?_
      refine x_cmp_eq (tgt := 67) hx hb (Iff.rfl) dX3_follows_62 (by decide) (fun c62 => ?_) (fun c62 => ?_)
      · refine lv_iload hx hb dX3_follows_67 (lv_at hl 0 rfl) ?_
        refine x_if_ne (tgt := 78) hx hb (nI_z (by omega)) dX3_follows_69 (by decide) (fun c69 => ?_) (fun c69 => ?_)
        rotate_left
        · exact absurd c69 (by omega)
        refine lv_aload_n hx hb dX3_follows_78 rfl (lv_at hl 4 rfl) ?_
        refine va_get (D := D) (ci := 3) (v := .ref g2) (C := RX3) (T := TX3) (N := 2) hx hb hts kX3_follows_X3 hown hK hP 0 rfl rfl 1 (by decide) (hts _ kX3_follows_f15) (fun _ h9 => h9) rfl dX3_follows_79 ?_
        refine lv_iload hx hb dX3_follows_82 (lv_at hl 3 rfl) ?_
        refine lv_iload hx hb dX3_follows_84 (lv_at hl 1 rfl) ?_
        refine x_ast (g := upd rw (t * 12 + k) (qCho (co t) (re t) (nu t) (ma t) (v))) (ws' := [(g0, .inr (3, [.ref g1, .ref g2])), (g1, .inl (cI, 24, .inl old)), (g2, .inl (cI, 24, .inl (upd rw (t * 12 + k) (qCho (co t) (re t) (nu t) (ma t) (v))))), (p0, .inr (0, [.ref p1, .ref p2, .ref p3, .ref p4])), (p1, .inl (cI, 2, .inl co)), (p2, .inl (cI, 2, .inl re)), (p3, .inl (cI, 2, .inl nu)), (p4, .inl (cI, 2, .inl ma))]) hx hb hK hP hD hS 2 0 rfl rfl (by omega) (by omega) (rfl) rfl dX3_follows_86 (fun H locs hP hD hS => ?_)
        refine lv_aload_n hx hb dX3_follows_87 rfl (lv_at hl 4 rfl) ?_
        refine va_get (D := D) (ci := 3) (v := .ref g1) (C := RX3) (T := TX3) (N := 2) hx hb hts kX3_follows_X3 hown hK hP 0 rfl rfl 0 (by decide) (hts _ kX3_follows_f9) (fun _ h9 => h9) rfl dX3_follows_88 ?_
        refine lv_iload hx hb dX3_follows_91 (lv_at hl 3 rfl) ?_
        refine lv_iload hx hb dX3_follows_93 (lv_at hl 8 rfl) ?_
        refine x_ast (g := upd old (t * 12 + k) v) (ws' := [(g0, .inr (3, [.ref g1, .ref g2])), (g1, .inl (cI, 24, .inl (upd old (t * 12 + k) v))), (g2, .inl (cI, 24, .inl (upd rw (t * 12 + k) (qCho (co t) (re t) (nu t) (ma t) (v))))), (p0, .inr (0, [.ref p1, .ref p2, .ref p3, .ref p4])), (p1, .inl (cI, 2, .inl co)), (p2, .inl (cI, 2, .inl re)), (p3, .inl (cI, 2, .inl nu)), (p4, .inl (cI, 2, .inl ma))]) hx hb hK hP hD hS 1 0 rfl rfl (by omega) (by omega) (rfl) rfl dX3_follows_95 (fun H locs hP hD hS => ?_)
        refine lv_iconst (v := nI 1) hx hb dX3_follows_96 (by decide) ?_
        exact x_ret_z hx hb hrt (by first | exact Or.inl rfl | exact Or.inr rfl) hlk hP hD hS dX3_follows_97 ⟨by decide, by decide⟩ (upd old (t * 12 + k) v, upd rw (t * 12 + k) (qCho (co t) (re t) (nu t) (ma t) (v))) (Or.inr ⟨(by exact fun q => q.2.2 c62), rfl, rfl, (by exact ite_n (fun q => c39 q.2))⟩) rfl
      · refine lv_iconst (v := nI 0) hx hb dX3_follows_65 (by decide) ?_
        exact x_ret_z hx hb hrt (by first | exact Or.inl rfl | exact Or.inr rfl) hlk hP hD hS dX3_follows_66 ⟨by decide, by decide⟩ (old, rw) (Or.inl ⟨⟨c33, c39, c62⟩, rfl, rfl, rfl⟩) rfl

set_option maxHeartbeats 4000000 in
set_option maxRecDepth 100000 in
theorem zX3_takeAll (l : Launch) (D : va_G) (cI cP cS cL : ClassId) (g0 g1 g2 p0 p1 p2 p3 p4 : Nat) (old rw co re nu ma : Nat → Int32) (t : Nat) (ht : t < 2) : xMv l yX3_takeAll wsX3_takeAll (rmD 3 0 0) D [(cI, .int), (cP, .object RX0), (cS, .object RX2)] [.ref g0, .ref p0, .int (nI t)] [(g0, .inr (3, [.ref g1, .ref g2])), (g1, .inl (cI, 24, .inl old)), (g2, .inl (cI, 24, .inl rw)), (p0, .inr (0, [.ref p1, .ref p2, .ref p3, .ref p4])), (p1, .inl (cI, 2, .inl co)), (p2, .inl (cI, 2, .inl re)), (p3, .inl (cI, 2, .inl nu)), (p4, .inl (cI, 2, .inl ma))] (fun (u : Unit) => True) (fun (u : Unit) => [(g0, .inr (3, [.ref g1, .ref g2])), (g1, .inl (cI, 24, .inl (qFill old (t * 12) 12 (-1)))), (g2, .inl (cI, 24, .inl (qTaR old rw (co t) (re t) (nu t) (ma t) (t * 12) 12))), (p0, .inr (0, [.ref p1, .ref p2, .ref p3, .ref p4])), (p1, .inl (cI, 2, .inl co)), (p2, .inl (cI, 2, .inl re)), (p3, .inl (cI, 2, .inl nu)), (p4, .inl (cI, 2, .inl ma))]) 0 0 := by
  refine xe_v (cc := cX3_takeAll) (maxL := 4) (ret := none) (by decide) rfl (Nat.le_of_ble_eq_true rfl) ?_
  intro zp ze s zm below meth zc A ls B
  obtain ⟨hx, hb, hml, hrt, hts, hown, hnm, hlk, hK, hP, hD, hA, hS, hN, hl⟩ := B
  have hown : s.vm.findClass RX3 = some zm.cls := hown
  have hl : lv_has ls 4 [(0, .ref g0), (1, .ref p0), (2, .int (nI t))] := hl
  have hA : ∀ q, s.heap.size ≤ q → A q := hA
  refine lv_iconst (v := nI 0) hx hb dX3_takeAll_0 (by decide) ?_
  refine lv_istore_n (lv' := [(3, .int (nI 0)), (0, .ref g0), (1, .ref p0), (2, .int (nI t))]) hx hb dX3_takeAll_1 rfl hl (by decide) rfl (fun ls hl => ?_)
  refine x_loop (nL := 4) (fun (x : Nat × (Nat → Int32) × (Nat → Int32)) => match x with | (j, o, w) => j ≤ 12 ∧ o = qFill old (t * 12) j (-1) ∧ w = qTaR old rw (co t) (re t) (nu t) (ma t) (t * 12) j) (fun (x : Nat × (Nat → Int32) × (Nat → Int32)) => match x with | (j, o, w) => 12 - j) (fun (x : Nat × (Nat → Int32) × (Nat → Int32)) => match x with | (j, o, w) => [(g0, .inr (3, [.ref g1, .ref g2])), (g1, .inl (cI, 24, .inl o)), (g2, .inl (cI, 24, .inl w)), (p0, .inr (0, [.ref p1, .ref p2, .ref p3, .ref p4])), (p1, .inl (cI, 2, .inl co)), (p2, .inl (cI, 2, .inl re)), (p3, .inl (cI, 2, .inl nu)), (p4, .inl (cI, 2, .inl ma))]) (fun (x : Nat × (Nat → Int32) × (Nat → Int32)) => match x with | (j, o, w) => [(0, .ref g0), (1, .ref p0), (2, .int (nI t)), (3, .int (nI j))]) (fun (x : Nat × (Nat → Int32) × (Nat → Int32)) => match x with | (j, o, w) => []) ?_ (0, old, rw) ⟨by omega, (qFill_0 _ _ _).symm, (qTaR_0 _ _ _ _ _ _ _).symm⟩ hP hD hS (lv_sub hl [1, 2, 3, 0] rfl)
  intro x9 hI2 ih2 H locs ls hP hD hS hl
  obtain ⟨j, o, w⟩ := x9
  have hP : va_P D vwCl [(g0, .inr (3, [.ref g1, .ref g2])), (g1, .inl (cI, 24, .inl o)), (g2, .inl (cI, 24, .inl w)), (p0, .inr (0, [.ref p1, .ref p2, .ref p3, .ref p4])), (p1, .inl (cI, 2, .inl co)), (p2, .inl (cI, 2, .inl re)), (p3, .inl (cI, 2, .inl nu)), (p4, .inl (cI, 2, .inl ma))] H := hP
  have hD : va_D A [(g0, .inr (3, [.ref g1, .ref g2])), (g1, .inl (cI, 24, .inl o)), (g2, .inl (cI, 24, .inl w)), (p0, .inr (0, [.ref p1, .ref p2, .ref p3, .ref p4])), (p1, .inl (cI, 2, .inl co)), (p2, .inl (cI, 2, .inl re)), (p3, .inl (cI, 2, .inl nu)), (p4, .inl (cI, 2, .inl ma))] := hD
  have hl : lv_has ls 4 [(0, .ref g0), (1, .ref p0), (2, .int (nI t)), (3, .int (nI j))] := hl
  obtain ⟨hj, ho, hw0⟩ := hI2
  refine lv_iload_n hx hb dX3_takeAll_2 rfl (lv_at hl 3 rfl) ?_
  refine lv_bipush (v := nI 12) hx hb dX3_takeAll_3 (by decide) ?_
  refine x_cmp_ge (tgt := 23) hx hb (nI_leI (a := 12) (b := j) (by omega) (by omega)) dX3_takeAll_5 (by decide) (fun c5 => ?_) (fun c5 => ?_)
  · obtain rfl : j = 12 := by omega
    subst ho
    subst hw0
    exact x_ret_v hx hb hrt hlk hP hD hS dX3_takeAll_23 ⟨by decide, by decide⟩ () trivial rfl
  · refine lv_aload_n hx hb dX3_takeAll_8 rfl (lv_at hl 0 rfl) ?_
    refine lv_aload_n hx hb dX3_takeAll_9 rfl (lv_at hl 1 rfl) ?_
    refine lv_iload_n hx hb dX3_takeAll_10 rfl (lv_at hl 2 rfl) ?_
    refine lv_iload_n hx hb dX3_takeAll_11 rfl (lv_at hl 3 rfl) ?_
    refine lv_iconst (v := -1) hx hb dX3_takeAll_12 (by decide) ?_
    refine x_calli (w2 := fun (u : (Nat → Int32) × (Nat → Int32)) => match u with | (o1, w1) => [(g0, .inr (3, [.ref g1, .ref g2])), (g1, .inl (cI, 24, .inl o1)), (g2, .inl (cI, 24, .inl w1)), (p0, .inr (0, [.ref p1, .ref p2, .ref p3, .ref p4])), (p1, .inl (cI, 2, .inl co)), (p2, .inl (cI, 2, .inl re)), (p3, .inl (cI, 2, .inl nu)), (p4, .inl (cI, 2, .inl ma))]) (wr := []) (x_runV (n := 4) ⟨hx, hb, hml, hown, hts⟩ (zX3_follows l D cI cP cS cL g0 g1 g2 p0 p1 p2 p3 p4 o w co re nu ma t j ((-1)) ht (by omega)) gX3_takeAll_X3_follows rfl rfl rfl (by decide +kernel) ⟨by decide, by decide⟩ hN hK hP hD [0, 1, 2, 3, 4, 5, 6, 7] rfl rfl (ci := 3) (q0 := 0) rfl rfl rfl rfl hl.1 (rest := []) (As := [.ref p0, .int (nI t), .int (nI j), .int (-1)]) rfl (Nat.le_of_ble_eq_true rfl) dX3_takeAll_13 ⟨by decide, by decide⟩) hP hD hS hA [0, 1, 2, 3, 4, 5, 6, 7] [] [0, 1, 2, 3, 4, 5, 6, 7] rfl rfl rfl (by decide) rfl (fun _ => rfl) (fun r13 u H locs hw hP hD hS => ?_)
    obtain ⟨o1, w1⟩ := u
    have hP : va_P D vwCl [(g0, .inr (3, [.ref g1, .ref g2])), (g1, .inl (cI, 24, .inl o1)), (g2, .inl (cI, 24, .inl w1)), (p0, .inr (0, [.ref p1, .ref p2, .ref p3, .ref p4])), (p1, .inl (cI, 2, .inl co)), (p2, .inl (cI, 2, .inl re)), (p3, .inl (cI, 2, .inl nu)), (p4, .inl (cI, 2, .inl ma))] H := hP
    have hD : va_D A [(g0, .inr (3, [.ref g1, .ref g2])), (g1, .inl (cI, 24, .inl o1)), (g2, .inl (cI, 24, .inl w1)), (p0, .inr (0, [.ref p1, .ref p2, .ref p3, .ref p4])), (p1, .inl (cI, 2, .inl co)), (p2, .inl (cI, 2, .inl re)), (p3, .inl (cI, 2, .inl nu)), (p4, .inl (cI, 2, .inl ma))] := hD
    rcases hw with ⟨hc9, -, -, -⟩ | ⟨-, -, ho1, hw1⟩
    · exact absurd (qCho_m1 _ _ _ _) hc9.2.1
    refine lv_pop hx hb dX3_takeAll_16 rfl ?_
    refine x_iinc (k := 3) (o := 1) (v := j + 1) (lv' := [(3, .int (nI (j + 1))), (0, .ref g0), (1, .ref p0), (2, .int (nI t))]) hx hb dX3_takeAll_17 hl rfl rfl rfl (by decide) rfl (fun ls hl => ?_)
    refine lv_goto (tgt := 2) hx hb dX3_takeAll_20 (by decide) ?_
    exact ih2 (j + 1, o1, w1) ⟨by omega, (qTa_step ho hw0 ho1 hw1).1, (qTa_step ho hw0 ho1 hw1).2⟩ (by show 12 - (j + 1) < 12 - j; omega) _ _ _ hP hD hS (lv_sub hl [1, 2, 3, 0] rfl)

set_option maxRecDepth 20000 in
theorem kX3_applies_X2 : ∀ w ∈ wsX20, w ∈ wsX3_applies := by decide +kernel
set_option maxRecDepth 20000 in
theorem kX3_applies_X1 : ∀ w ∈ wsX10, w ∈ wsX3_applies := by decide +kernel
set_option maxRecDepth 20000 in
theorem kX3_applies_f9 : Cond.fieldLink RX3 9 "RowReplicator$Trial" "oldRows" "[I" ∈ wsX3_applies := by decide +kernel
set_option maxRecDepth 20000 in
theorem kX3_applies_X3 : ∀ w ∈ wsX30, w ∈ wsX3_applies := by decide +kernel
set_option maxRecDepth 20000 in
theorem kX3_applies_a1 : Cond.methodLink RX3 29 arraycopyName ∈ wsX3_applies := by decide +kernel
set_option maxRecDepth 20000 in
theorem kX3_applies_a2 : Cond.native arraycopyName ∈ wsX3_applies := by decide +kernel
set_option maxRecDepth 20000 in
theorem kX3_applies_a3 : Cond.static arraycopyName ∈ wsX3_applies := by decide +kernel
set_option maxRecDepth 20000 in
theorem kX3_applies_a4 : Cond.initialized "java/lang/System" ∈ wsX3_applies := by decide +kernel
set_option maxRecDepth 20000 in
theorem kX3_applies_f15 : Cond.fieldLink RX3 15 "RowReplicator$Trial" "rows" "[I" ∈ wsX3_applies := by decide +kernel
set_option maxHeartbeats 4000000 in
set_option maxRecDepth 100000 in
theorem zX3_applies (l : Launch) (D : va_G) (cI cP cS cL : ClassId) (g0 g1 g2 p0 p1 p2 p3 p4 h0 hr hc ht hk hn hm s0 s1 s2 n cn st sl : Nat) (old rw co re nu ma cc ct ck nr cr sr cp : Nat → Int32) (pu : Option Nat) (hsl : sl < 50) (hcc : cc sl = nI cn) (hcn : cn ≤ 12) (hct : ∀ i, i < cn → ∃ t, t < 2 ∧ ct (sl * 12 + i) = nI t) (hck : ∀ i, i < cn → ck (sl * 12 + i) = -1 ∨ ∃ k, k < 12 ∧ ck (sl * 12 + i) = nI k) : xMi l yX3_applies wsX3_applies (rmD 4 0 0) D [(cI, .int), (cP, .object RX0), (cS, .object RX2)] [.ref g0, .ref h0, .ref p0, .ref s0] [(g0, .inr (3, [.ref g1, .ref g2])), (g1, .inl (cI, 24, .inl old)), (g2, .inl (cI, 24, .inl rw)), (h0, .inr (1, [.ref hr, .int (nI n), .ref hc, .ref ht, .ref hk, .ref hn, .ref hm])), (hc, .inl (cI, 51, .inl cc)), (ht, .inl (cI, 612, .inl ct)), (hk, .inl (cI, 612, .inl ck)), (hn, .inl (cI, 612, .inl nr)), (hm, .inl (cI, 1224, .inl cr)), (s0, .inr (2, [.ref s1, .ref s2, va_rf pu, .int (nI st), .int (nI sl)])), (s1, .inl (cI, 24, .inl sr)), (s2, .inl (cI, 2, .inl cp)), (p0, .inr (0, [.ref p1, .ref p2, .ref p3, .ref p4])), (p1, .inl (cI, 2, .inl co)), (p2, .inl (cI, 2, .inl re)), (p3, .inl (cI, 2, .inl nu)), (p4, .inl (cI, 2, .inl ma))] (fun (r : Int32) (u : (Nat → Int32) × (Nat → Int32)) => match u with | (o1, w1) => ((r = nI 1 ∧ qAp co re nu ma cp (nI (sl + 1)) ct ck nr (sl * 12) (va_cpy cr old (sl * 24) 0 24) (va_cpy sr rw 0 0 24) cn = some (o1, w1)) ∨ (r = nI 0 ∧ qAp co re nu ma cp (nI (sl + 1)) ct ck nr (sl * 12) (va_cpy cr old (sl * 24) 0 24) (va_cpy sr rw 0 0 24) cn = none))) (fun (u : (Nat → Int32) × (Nat → Int32)) => match u with | (o1, w1) => [(g0, .inr (3, [.ref g1, .ref g2])), (g1, .inl (cI, 24, .inl o1)), (g2, .inl (cI, 24, .inl w1)), (h0, .inr (1, [.ref hr, .int (nI n), .ref hc, .ref ht, .ref hk, .ref hn, .ref hm])), (hc, .inl (cI, 51, .inl cc)), (ht, .inl (cI, 612, .inl ct)), (hk, .inl (cI, 612, .inl ck)), (hn, .inl (cI, 612, .inl nr)), (hm, .inl (cI, 1224, .inl cr)), (s0, .inr (2, [.ref s1, .ref s2, va_rf pu, .int (nI st), .int (nI sl)])), (s1, .inl (cI, 24, .inl sr)), (s2, .inl (cI, 2, .inl cp)), (p0, .inr (0, [.ref p1, .ref p2, .ref p3, .ref p4])), (p1, .inl (cI, 2, .inl co)), (p2, .inl (cI, 2, .inl re)), (p3, .inl (cI, 2, .inl nu)), (p4, .inl (cI, 2, .inl ma))]) 0 0 := by
  refine xe_i (cc := cX3_applies) (maxL := 9) (ret := (some .boolean)) (by decide) rfl (Nat.le_of_ble_eq_true rfl) ?_
  intro zp ze s zm below meth zc A ls B
  obtain ⟨hx, hb, hml, hrt, hts, hown, hnm, hlk, hK, hP, hD, hA, hS, hN, hl⟩ := B
  have hown : s.vm.findClass RX3 = some zm.cls := hown
  have hl : lv_has ls 9 [(0, .ref g0), (1, .ref h0), (2, .ref p0), (3, .ref s0)] := hl
  have hA : ∀ q, s.heap.size ≤ q → A q := hA
  refine lv_aload_n hx hb dX3_applies_0 rfl (lv_at hl 3 rfl) ?_
  refine x_getN (D := D) (ci := 2) (v := .int (nI sl)) (C := RX2) (T := TX2) (N := 5) (ref := "RowReplicator$Subscriber") hx hb hts kX3_applies_X2 hown hN hK hP 9 rfl rfl 4 (by decide) (by decide +kernel) (fun _ h9 => h9) rfl dX3_applies_1 ?_
  refine lv_istore (lv' := [(4, .int (nI sl)), (0, .ref g0), (1, .ref h0), (2, .ref p0), (3, .ref s0)]) hx hb dX3_applies_4 hl (by decide) rfl (fun ls hl => ?_)
  refine lv_aload_n hx hb dX3_applies_6 rfl (lv_at hl 2 rfl) ?_
  refine x_getN (D := D) (ci := 1) (v := .ref hm) (C := RX1) (T := TX1) (N := 7) (ref := "RowReplicator$Publisher") hx hb hts kX3_applies_X1 hown hN hK hP 3 rfl rfl 6 (by decide) (by decide +kernel) (fun _ h9 => h9) rfl dX3_applies_7 ?_
  refine lv_iload hx hb dX3_applies_10 (lv_at hl 0 rfl) ?_
  refine lv_bipush (v := nI 24) hx hb dX3_applies_12 (by decide) ?_
  refine x_mul (k := sl * 24) hx hb dX3_applies_14 rfl ?_
  refine lv_aload_n hx hb dX3_applies_15 rfl (lv_at hl 1 rfl) ?_
  refine va_get (D := D) (ci := 3) (v := .ref g1) (C := RX3) (T := TX3) (N := 2) hx hb hts kX3_applies_X3 hown hK hP 0 rfl rfl 0 (by decide) (hts _ kX3_applies_f9) (fun _ h9 => h9) rfl dX3_applies_16 ?_
  refine lv_iconst (v := nI 0) hx hb dX3_applies_19 (by decide) ?_
  refine lv_bipush (v := nI 24) hx hb dX3_applies_20 (by decide) ?_
  refine x_cpy (g := va_cpy cr old (sl * 24) 0 24) (ws' := [(g0, .inr (3, [.ref g1, .ref g2])), (g1, .inl (cI, 24, .inl (va_cpy cr old (sl * 24) 0 24))), (g2, .inl (cI, 24, .inl rw)), (h0, .inr (1, [.ref hr, .int (nI n), .ref hc, .ref ht, .ref hk, .ref hn, .ref hm])), (hc, .inl (cI, 51, .inl cc)), (ht, .inl (cI, 612, .inl ct)), (hk, .inl (cI, 612, .inl ck)), (hn, .inl (cI, 612, .inl nr)), (hm, .inl (cI, 1224, .inl cr)), (s0, .inr (2, [.ref s1, .ref s2, va_rf pu, .int (nI st), .int (nI sl)])), (s1, .inl (cI, 24, .inl sr)), (s2, .inl (cI, 2, .inl cp)), (p0, .inr (0, [.ref p1, .ref p2, .ref p3, .ref p4])), (p1, .inl (cI, 2, .inl co)), (p2, .inl (cI, 2, .inl re)), (p3, .inl (cI, 2, .inl nu)), (p4, .inl (cI, 2, .inl ma))]) hx hb (hml.trans hl.1.symm) hown (hts _ kX3_applies_a1) (hts _ kX3_applies_a2) (hts _ kX3_applies_a3) (hts _ kX3_applies_a4) hK hP hD hS 8 1 0 0 rfl rfl rfl rfl (by omega) (by omega) (by omega) (by omega) (by omega) (rfl) rfl (by decide) (by decide) dX3_applies_22 (fun H locs hP hD hS => ?_)
  refine lv_aload_n hx hb dX3_applies_25 rfl (lv_at hl 4 rfl) ?_
  refine x_getN (D := D) (ci := 2) (v := .ref s1) (C := RX2) (T := TX2) (N := 5) (ref := "RowReplicator$Subscriber") hx hb hts kX3_applies_X2 hown hN hK hP 9 rfl rfl 0 (by decide) (by decide +kernel) (fun _ h9 => h9) rfl dX3_applies_26 ?_
  refine lv_iconst (v := nI 0) hx hb dX3_applies_29 (by decide) ?_
  refine lv_aload_n hx hb dX3_applies_30 rfl (lv_at hl 1 rfl) ?_
  refine va_get (D := D) (ci := 3) (v := .ref g2) (C := RX3) (T := TX3) (N := 2) hx hb hts kX3_applies_X3 hown hK hP 0 rfl rfl 1 (by decide) (hts _ kX3_applies_f15) (fun _ h9 => h9) rfl dX3_applies_31 ?_
  refine lv_iconst (v := nI 0) hx hb dX3_applies_34 (by decide) ?_
  refine lv_bipush (v := nI 24) hx hb dX3_applies_35 (by decide) ?_
  refine x_cpy (g := va_cpy sr rw 0 0 24) (ws' := [(g0, .inr (3, [.ref g1, .ref g2])), (g1, .inl (cI, 24, .inl (va_cpy cr old (sl * 24) 0 24))), (g2, .inl (cI, 24, .inl (va_cpy sr rw 0 0 24))), (h0, .inr (1, [.ref hr, .int (nI n), .ref hc, .ref ht, .ref hk, .ref hn, .ref hm])), (hc, .inl (cI, 51, .inl cc)), (ht, .inl (cI, 612, .inl ct)), (hk, .inl (cI, 612, .inl ck)), (hn, .inl (cI, 612, .inl nr)), (hm, .inl (cI, 1224, .inl cr)), (s0, .inr (2, [.ref s1, .ref s2, va_rf pu, .int (nI st), .int (nI sl)])), (s1, .inl (cI, 24, .inl sr)), (s2, .inl (cI, 2, .inl cp)), (p0, .inr (0, [.ref p1, .ref p2, .ref p3, .ref p4])), (p1, .inl (cI, 2, .inl co)), (p2, .inl (cI, 2, .inl re)), (p3, .inl (cI, 2, .inl nu)), (p4, .inl (cI, 2, .inl ma))]) hx hb (hml.trans hl.1.symm) hown (hts _ kX3_applies_a1) (hts _ kX3_applies_a2) (hts _ kX3_applies_a3) (hts _ kX3_applies_a4) hK hP hD hS 10 2 0 0 rfl rfl rfl rfl (by omega) (by omega) (by omega) (by omega) (by omega) (rfl) rfl (by decide) (by decide) dX3_applies_37 (fun H locs hP hD hS => ?_)
  refine lv_iconst (v := nI 0) hx hb dX3_applies_40 (by decide) ?_
  refine lv_istore (lv' := [(5, .int (nI 0)), (4, .int (nI sl)), (0, .ref g0), (1, .ref h0), (2, .ref p0), (3, .ref s0)]) hx hb dX3_applies_41 hl (by decide) rfl (fun ls hl => ?_)
  refine x_loop (nL := 9) (fun (x : Nat × (Nat → Int32) × (Nat → Int32)) => match x with | (i, o, w) => i ≤ cn ∧ qAp co re nu ma cp (nI (sl + 1)) ct ck nr (sl * 12) (va_cpy cr old (sl * 24) 0 24) (va_cpy sr rw 0 0 24) i = some (o, w)) (fun (x : Nat × (Nat → Int32) × (Nat → Int32)) => match x with | (i, o, w) => cn - i) (fun (x : Nat × (Nat → Int32) × (Nat → Int32)) => match x with | (i, o, w) => [(g0, .inr (3, [.ref g1, .ref g2])), (g1, .inl (cI, 24, .inl o)), (g2, .inl (cI, 24, .inl w)), (h0, .inr (1, [.ref hr, .int (nI n), .ref hc, .ref ht, .ref hk, .ref hn, .ref hm])), (hc, .inl (cI, 51, .inl cc)), (ht, .inl (cI, 612, .inl ct)), (hk, .inl (cI, 612, .inl ck)), (hn, .inl (cI, 612, .inl nr)), (hm, .inl (cI, 1224, .inl cr)), (s0, .inr (2, [.ref s1, .ref s2, va_rf pu, .int (nI st), .int (nI sl)])), (s1, .inl (cI, 24, .inl sr)), (s2, .inl (cI, 2, .inl cp)), (p0, .inr (0, [.ref p1, .ref p2, .ref p3, .ref p4])), (p1, .inl (cI, 2, .inl co)), (p2, .inl (cI, 2, .inl re)), (p3, .inl (cI, 2, .inl nu)), (p4, .inl (cI, 2, .inl ma))]) (fun (x : Nat × (Nat → Int32) × (Nat → Int32)) => match x with | (i, o, w) => [(0, .ref g0), (1, .ref h0), (2, .ref p0), (3, .ref s0), (4, .int (nI sl)), (5, .int (nI i))]) (fun (x : Nat × (Nat → Int32) × (Nat → Int32)) => match x with | (i, o, w) => []) ?_ (0, va_cpy cr old (sl * 24) 0 24, va_cpy sr rw 0 0 24) ⟨by omega, rfl⟩ hP hD hS (lv_sub hl [2, 3, 4, 5, 1, 0] rfl)
  intro x9 hI43 ih43 H locs ls hP hD hS hl
  obtain ⟨i, o, w⟩ := x9
  have hP : va_P D vwCl [(g0, .inr (3, [.ref g1, .ref g2])), (g1, .inl (cI, 24, .inl o)), (g2, .inl (cI, 24, .inl w)), (h0, .inr (1, [.ref hr, .int (nI n), .ref hc, .ref ht, .ref hk, .ref hn, .ref hm])), (hc, .inl (cI, 51, .inl cc)), (ht, .inl (cI, 612, .inl ct)), (hk, .inl (cI, 612, .inl ck)), (hn, .inl (cI, 612, .inl nr)), (hm, .inl (cI, 1224, .inl cr)), (s0, .inr (2, [.ref s1, .ref s2, va_rf pu, .int (nI st), .int (nI sl)])), (s1, .inl (cI, 24, .inl sr)), (s2, .inl (cI, 2, .inl cp)), (p0, .inr (0, [.ref p1, .ref p2, .ref p3, .ref p4])), (p1, .inl (cI, 2, .inl co)), (p2, .inl (cI, 2, .inl re)), (p3, .inl (cI, 2, .inl nu)), (p4, .inl (cI, 2, .inl ma))] H := hP
  have hD : va_D A [(g0, .inr (3, [.ref g1, .ref g2])), (g1, .inl (cI, 24, .inl o)), (g2, .inl (cI, 24, .inl w)), (h0, .inr (1, [.ref hr, .int (nI n), .ref hc, .ref ht, .ref hk, .ref hn, .ref hm])), (hc, .inl (cI, 51, .inl cc)), (ht, .inl (cI, 612, .inl ct)), (hk, .inl (cI, 612, .inl ck)), (hn, .inl (cI, 612, .inl nr)), (hm, .inl (cI, 1224, .inl cr)), (s0, .inr (2, [.ref s1, .ref s2, va_rf pu, .int (nI st), .int (nI sl)])), (s1, .inl (cI, 24, .inl sr)), (s2, .inl (cI, 2, .inl cp)), (p0, .inr (0, [.ref p1, .ref p2, .ref p3, .ref p4])), (p1, .inl (cI, 2, .inl co)), (p2, .inl (cI, 2, .inl re)), (p3, .inl (cI, 2, .inl nu)), (p4, .inl (cI, 2, .inl ma))] := hD
  have hl : lv_has ls 9 [(0, .ref g0), (1, .ref h0), (2, .ref p0), (3, .ref s0), (4, .int (nI sl)), (5, .int (nI i))] := hl
  obtain ⟨hi, hq⟩ := hI43
  refine lv_iload hx hb dX3_applies_43 (lv_at hl 5 rfl) ?_
  refine lv_aload_n hx hb dX3_applies_45 rfl (lv_at hl 1 rfl) ?_
  refine x_getN (D := D) (ci := 1) (v := .ref hc) (C := RX1) (T := TX1) (N := 7) (ref := "RowReplicator$Publisher") hx hb hts kX3_applies_X1 hown hN hK hP 3 rfl rfl 2 (by decide) (by decide +kernel) (fun _ h9 => h9) rfl dX3_applies_46 ?_
  refine lv_iload hx hb dX3_applies_49 (lv_at hl 4 rfl) ?_
  refine x_ald (v := nI cn) hx hb hK hP 4 0 rfl rfl (by omega) (by omega) hcc dX3_applies_51 ?_
  refine x_cmp_ge (tgt := 142) hx hb (nI_leI (a := cn) (b := i) (by omega) (by omega)) dX3_applies_52 (by decide) (fun c52 => ?_) (fun c52 => ?_)
  · refine lv_iconst (v := nI 1) hx hb dX3_applies_142 (by decide) ?_
    exact x_ret_z hx hb hrt (by first | exact Or.inl rfl | exact Or.inr rfl) hlk hP hD hS dX3_applies_143 ⟨by decide, by decide⟩ (o, w) (Or.inl ⟨rfl, (by rw [show cn = i by omega]; exact hq)⟩) rfl
  · obtain ⟨t, ht9, et⟩ := hct i (by omega)
    refine lv_iload hx hb dX3_applies_55 (lv_at hl 4 rfl) ?_
    refine lv_bipush (v := nI 12) hx hb dX3_applies_57 (by decide) ?_
    refine x_mul (k := sl * 12) hx hb dX3_applies_59 rfl ?_
    refine lv_iload hx hb dX3_applies_60 (lv_at hl 5 rfl) ?_
    refine x_add (k := (sl * 12) + i) hx hb dX3_applies_62 rfl ?_
    refine lv_istore (lv' := [(6, .int (nI ((sl * 12) + i))), (0, .ref g0), (1, .ref h0), (2, .ref p0), (3, .ref s0), (4, .int (nI sl)), (5, .int (nI i))]) hx hb dX3_applies_63 hl (by decide) rfl (fun ls hl => ?_)
    refine lv_aload_n hx hb dX3_applies_65 rfl (lv_at hl 2 rfl) ?_
    refine x_getN (D := D) (ci := 1) (v := .ref ht) (C := RX1) (T := TX1) (N := 7) (ref := "RowReplicator$Publisher") hx hb hts kX3_applies_X1 hown hN hK hP 3 rfl rfl 3 (by decide) (by decide +kernel) (fun _ h9 => h9) rfl dX3_applies_66 ?_
    refine lv_iload hx hb dX3_applies_69 (lv_at hl 0 rfl) ?_
    refine x_ald (v := nI t) hx hb hK hP 5 0 rfl rfl (by omega) (by omega) et dX3_applies_71 ?_
    refine lv_istore (lv' := [(7, .int (nI t)), (6, .int (nI ((sl * 12) + i))), (0, .ref g0), (1, .ref h0), (2, .ref p0), (3, .ref s0), (4, .int (nI sl)), (5, .int (nI i))]) hx hb dX3_applies_72 hl (by decide) rfl (fun ls hl => ?_)
    refine lv_aload_n hx hb dX3_applies_74 rfl (lv_at hl 3 rfl) ?_
    refine x_getN (D := D) (ci := 1) (v := .ref hk) (C := RX1) (T := TX1) (N := 7) (ref := "RowReplicator$Publisher") hx hb hts kX3_applies_X1 hown hN hK hP 3 rfl rfl 4 (by decide) (by decide +kernel) (fun _ h9 => h9) rfl dX3_applies_75 ?_
    refine lv_iload hx hb dX3_applies_78 (lv_at hl 1 rfl) ?_
    refine x_ald (v := ck ((sl * 12) + i)) hx hb hK hP 6 0 rfl rfl (by omega) (by omega) rfl dX3_applies_80 ?_
    refine lv_istore (lv' := [(8, .int (ck ((sl * 12) + i))), (7, .int (nI t)), (6, .int (nI ((sl * 12) + i))), (0, .ref g0), (1, .ref h0), (2, .ref p0), (3, .ref s0), (4, .int (nI sl)), (5, .int (nI i))]) hx hb dX3_applies_81 hl (by decide) rfl (fun ls hl => ?_)
    refine lv_aload_n hx hb dX3_applies_83 rfl (lv_at hl 6 rfl) ?_
    refine lv_iload hx hb dX3_applies_84 (lv_at hl 1 rfl) ?_
    refine lv_iload hx hb dX3_applies_86 (lv_at hl 7 rfl) ?_
    refine lv_iconst (v := nI 1) hx hb dX3_applies_88 (by decide) ?_
    refine x_add (k := sl + 1) hx hb dX3_applies_89 rfl ?_
    refine x_calli (w2 := fun (u : Unit) => [(g0, .inr (3, [.ref g1, .ref g2])), (g1, .inl (cI, 24, .inl o)), (g2, .inl (cI, 24, .inl w)), (h0, .inr (1, [.ref hr, .int (nI n), .ref hc, .ref ht, .ref hk, .ref hn, .ref hm])), (hc, .inl (cI, 51, .inl cc)), (ht, .inl (cI, 612, .inl ct)), (hk, .inl (cI, 612, .inl ck)), (hn, .inl (cI, 612, .inl nr)), (hm, .inl (cI, 1224, .inl cr)), (s0, .inr (2, [.ref s1, .ref s2, va_rf pu, .int (nI st), .int (nI sl)])), (s1, .inl (cI, 24, .inl sr)), (s2, .inl (cI, 2, .inl cp)), (p0, .inr (0, [.ref p1, .ref p2, .ref p3, .ref p4])), (p1, .inl (cI, 2, .inl co)), (p2, .inl (cI, 2, .inl re)), (p3, .inl (cI, 2, .inl nu)), (p4, .inl (cI, 2, .inl ma))]) (wr := [(g0, .inr (3, [.ref g1, .ref g2])), (g1, .inl (cI, 24, .inl o)), (g2, .inl (cI, 24, .inl w)), (h0, .inr (1, [.ref hr, .int (nI n), .ref hc, .ref ht, .ref hk, .ref hn, .ref hm])), (hc, .inl (cI, 51, .inl cc)), (ht, .inl (cI, 612, .inl ct)), (hk, .inl (cI, 612, .inl ck)), (hn, .inl (cI, 612, .inl nr)), (hm, .inl (cI, 1224, .inl cr)), (s1, .inl (cI, 24, .inl sr)), (p0, .inr (0, [.ref p1, .ref p2, .ref p3, .ref p4])), (p1, .inl (cI, 2, .inl co)), (p2, .inl (cI, 2, .inl re)), (p3, .inl (cI, 2, .inl nu)), (p4, .inl (cI, 2, .inl ma))]) (x_runV (n := 2) ⟨hx, hb, hml, hown, hts⟩ (zX2_takesChangesOf l D cI cP cS cL s0 s1 s2 pu st sl cp t (nI (sl + 1)) ht9) gX3_applies_X2_takesChangesOf rfl rfl rfl (by decide +kernel) ⟨by decide, by decide⟩ hN hK hP hD [9, 11] rfl rfl (ci := 2) (q0 := 9) rfl rfl rfl rfl hl.1 (rest := []) (As := [.int (nI t), .int (nI (sl + 1))]) rfl (Nat.le_of_ble_eq_true rfl) dX3_applies_90 ⟨by decide, by decide⟩) hP hD hS hA [9, 11] [0, 1, 2, 3, 4, 5, 6, 7, 8, 10, 12, 13, 14, 15, 16] [0, 1, 2, 3, 4, 5, 6, 7, 8, 15, 9, 16, 10, 11, 12, 13, 14] rfl rfl rfl (by decide) rfl (fun _ => rfl) (fun r90 u H locs hw hP hD hS => ?_)
    subst hw
    refine x_if_ne (tgt := 99) hx hb (bI_0 _) dX3_applies_93 (by decide) (fun c93 => ?_) (fun c93 => ?_)
    · refine lv_iload hx hb dX3_applies_99 (lv_at hl 0 rfl) ?_
      refine lv_iconst (v := -1) hx hb dX3_applies_101 (by decide) ?_
      refine x_cmp_ne (tgt := 115) hx hb (Iff.rfl) dX3_applies_102 (by decide) (fun c102 => ?_) (fun c102 => ?_)
      · obtain ⟨k, hk9, ek⟩ := (hck i (by omega)).resolve_left c102
        rw [ek] at hl
        refine lv_aload_n hx hb dX3_applies_115 rfl (lv_at hl 3 rfl) ?_
        refine lv_aload_n hx hb dX3_applies_116 rfl (lv_at hl 5 rfl) ?_
        refine lv_iload hx hb dX3_applies_117 (lv_at hl 1 rfl) ?_
        refine lv_iload hx hb dX3_applies_119 (lv_at hl 0 rfl) ?_
        refine lv_aload_n hx hb dX3_applies_121 rfl (lv_at hl 4 rfl) ?_
        refine x_getN (D := D) (ci := 1) (v := .ref hn) (C := RX1) (T := TX1) (N := 7) (ref := "RowReplicator$Publisher") hx hb hts kX3_applies_X1 hown hN hK hP 3 rfl rfl 5 (by decide) (by decide +kernel) (fun _ h9 => h9) rfl dX3_applies_122 ?_
        refine lv_iload hx hb dX3_applies_125 (lv_at hl 2 rfl) ?_
        refine x_ald (v := nr ((sl * 12) + i)) hx hb hK hP 7 0 rfl rfl (by omega) (by omega) rfl dX3_applies_127 ?_
        refine x_calli (w2 := fun (u : (Nat → Int32) × (Nat → Int32)) => match u with | (o1, w1) => [(g0, .inr (3, [.ref g1, .ref g2])), (g1, .inl (cI, 24, .inl o1)), (g2, .inl (cI, 24, .inl w1)), (h0, .inr (1, [.ref hr, .int (nI n), .ref hc, .ref ht, .ref hk, .ref hn, .ref hm])), (hc, .inl (cI, 51, .inl cc)), (ht, .inl (cI, 612, .inl ct)), (hk, .inl (cI, 612, .inl ck)), (hn, .inl (cI, 612, .inl nr)), (hm, .inl (cI, 1224, .inl cr)), (s0, .inr (2, [.ref s1, .ref s2, va_rf pu, .int (nI st), .int (nI sl)])), (s1, .inl (cI, 24, .inl sr)), (s2, .inl (cI, 2, .inl cp)), (p0, .inr (0, [.ref p1, .ref p2, .ref p3, .ref p4])), (p1, .inl (cI, 2, .inl co)), (p2, .inl (cI, 2, .inl re)), (p3, .inl (cI, 2, .inl nu)), (p4, .inl (cI, 2, .inl ma))]) (wr := [(h0, .inr (1, [.ref hr, .int (nI n), .ref hc, .ref ht, .ref hk, .ref hn, .ref hm])), (hc, .inl (cI, 51, .inl cc)), (ht, .inl (cI, 612, .inl ct)), (hk, .inl (cI, 612, .inl ck)), (hn, .inl (cI, 612, .inl nr)), (hm, .inl (cI, 1224, .inl cr)), (s0, .inr (2, [.ref s1, .ref s2, va_rf pu, .int (nI st), .int (nI sl)])), (s1, .inl (cI, 24, .inl sr)), (s2, .inl (cI, 2, .inl cp))]) (x_runV (n := 4) ⟨hx, hb, hml, hown, hts⟩ (zX3_follows l D cI cP cS cL g0 g1 g2 p0 p1 p2 p3 p4 o w co re nu ma t k ((nr (sl * 12 + i))) ht9 hk9) gX3_applies_X3_follows rfl rfl rfl (by decide +kernel) ⟨by decide, by decide⟩ hN hK hP hD [0, 1, 2, 12, 13, 14, 15, 16] rfl rfl (ci := 3) (q0 := 0) rfl rfl rfl rfl hl.1 (rest := []) (As := [.ref p0, .int (nI t), .int (nI k), .int (nr ((sl * 12) + i))]) rfl (Nat.le_of_ble_eq_true rfl) dX3_applies_128 ⟨by decide, by decide⟩) hP hD hS hA [0, 1, 2, 12, 13, 14, 15, 16] [3, 4, 5, 6, 7, 8, 9, 10, 11] [9, 10, 11, 0, 1, 2, 3, 4, 5, 6, 7, 8, 12, 13, 14, 15, 16] rfl rfl rfl (by decide) rfl (fun _ => rfl) (fun r128 u H locs hw hP hD hS => ?_)
        obtain ⟨o1, w1⟩ := u
        have hP : va_P D vwCl [(g0, .inr (3, [.ref g1, .ref g2])), (g1, .inl (cI, 24, .inl o1)), (g2, .inl (cI, 24, .inl w1)), (h0, .inr (1, [.ref hr, .int (nI n), .ref hc, .ref ht, .ref hk, .ref hn, .ref hm])), (hc, .inl (cI, 51, .inl cc)), (ht, .inl (cI, 612, .inl ct)), (hk, .inl (cI, 612, .inl ck)), (hn, .inl (cI, 612, .inl nr)), (hm, .inl (cI, 1224, .inl cr)), (s0, .inr (2, [.ref s1, .ref s2, va_rf pu, .int (nI st), .int (nI sl)])), (s1, .inl (cI, 24, .inl sr)), (s2, .inl (cI, 2, .inl cp)), (p0, .inr (0, [.ref p1, .ref p2, .ref p3, .ref p4])), (p1, .inl (cI, 2, .inl co)), (p2, .inl (cI, 2, .inl re)), (p3, .inl (cI, 2, .inl nu)), (p4, .inl (cI, 2, .inl ma))] H := hP
        have hD : va_D A [(g0, .inr (3, [.ref g1, .ref g2])), (g1, .inl (cI, 24, .inl o1)), (g2, .inl (cI, 24, .inl w1)), (h0, .inr (1, [.ref hr, .int (nI n), .ref hc, .ref ht, .ref hk, .ref hn, .ref hm])), (hc, .inl (cI, 51, .inl cc)), (ht, .inl (cI, 612, .inl ct)), (hk, .inl (cI, 612, .inl ck)), (hn, .inl (cI, 612, .inl nr)), (hm, .inl (cI, 1224, .inl cr)), (s0, .inr (2, [.ref s1, .ref s2, va_rf pu, .int (nI st), .int (nI sl)])), (s1, .inl (cI, 24, .inl sr)), (s2, .inl (cI, 2, .inl cp)), (p0, .inr (0, [.ref p1, .ref p2, .ref p3, .ref p4])), (p1, .inl (cI, 2, .inl co)), (p2, .inl (cI, 2, .inl re)), (p3, .inl (cI, 2, .inl nu)), (p4, .inl (cI, 2, .inl ma))] := hD
        have e9 := qAp_s hq ht9 et
        rw [qAp1_k c93 hk9 ek] at e9
        refine x_if_ne (tgt := 136) hx hb (Iff.rfl) dX3_applies_131 (by decide) (fun c131 => ?_) (fun c131 => ?_)
        · rcases hw with ⟨-, z9, -, -⟩ | ⟨hc9, -, ho1, hw1⟩
          · exact absurd z9 (by assumption)
          rw [if_neg hc9, ← ho1, ← hw1] at e9
          refine x_iinc (k := 8) (o := 1) (v := i + 1) (lv' := [(5, .int (nI (i + 1))), (8, .int (nI k)), (7, .int (nI t)), (6, .int (nI ((sl * 12) + i))), (0, .ref g0), (1, .ref h0), (2, .ref p0), (3, .ref s0), (4, .int (nI sl))]) hx hb dX3_applies_136 hl rfl rfl rfl (by decide) rfl (fun ls hl => ?_)
          refine lv_goto (tgt := 43) hx hb dX3_applies_139 (by decide) ?_
          exact ih43 (i + 1, o1, w1) ⟨by omega, (by first | exact (qAp_s hq ht9 et).trans (qAp1_n c93) | exact (qAp_s hq ht9 et).trans (qAp1_a c93 c102) | exact e9)⟩ (by show cn - (i + 1) < cn - i; omega) _ _ _ hP hD hS (lv_sub hl [4, 5, 6, 7, 8, 0] rfl)
        · rcases hw with ⟨hc9, -, -, -⟩ | ⟨-, z9, -, -⟩
          rotate_left
          · rw [z9] at c131; exact absurd c131 (by decide)
          rw [if_pos hc9] at e9
          refine lv_iconst (v := nI 0) hx hb dX3_applies_134 (by decide) ?_
          exact x_ret_z hx hb hrt (by first | exact Or.inl rfl | exact Or.inr rfl) hlk hP hD hS dX3_applies_135 ⟨by decide, by decide⟩ (o1, w1) (Or.inr ⟨rfl, (by have h9 := qAp_none e9 (cn - (i + 1)); rw [show i + 1 + (cn - (i + 1)) = cn by omega] at h9; exact h9)⟩) rfl
      · refine lv_aload_n hx hb dX3_applies_105 rfl (lv_at hl 3 rfl) ?_
        refine lv_aload_n hx hb dX3_applies_106 rfl (lv_at hl 5 rfl) ?_
        refine lv_iload hx hb dX3_applies_107 (lv_at hl 1 rfl) ?_
        refine x_callv (w2 := fun (u : Unit) => [(g0, .inr (3, [.ref g1, .ref g2])), (g1, .inl (cI, 24, .inl (qFill o (t * 12) 12 (-1)))), (g2, .inl (cI, 24, .inl (qTaR o w (co t) (re t) (nu t) (ma t) (t * 12) 12))), (h0, .inr (1, [.ref hr, .int (nI n), .ref hc, .ref ht, .ref hk, .ref hn, .ref hm])), (hc, .inl (cI, 51, .inl cc)), (ht, .inl (cI, 612, .inl ct)), (hk, .inl (cI, 612, .inl ck)), (hn, .inl (cI, 612, .inl nr)), (hm, .inl (cI, 1224, .inl cr)), (s0, .inr (2, [.ref s1, .ref s2, va_rf pu, .int (nI st), .int (nI sl)])), (s1, .inl (cI, 24, .inl sr)), (s2, .inl (cI, 2, .inl cp)), (p0, .inr (0, [.ref p1, .ref p2, .ref p3, .ref p4])), (p1, .inl (cI, 2, .inl co)), (p2, .inl (cI, 2, .inl re)), (p3, .inl (cI, 2, .inl nu)), (p4, .inl (cI, 2, .inl ma))]) (wr := [(h0, .inr (1, [.ref hr, .int (nI n), .ref hc, .ref ht, .ref hk, .ref hn, .ref hm])), (hc, .inl (cI, 51, .inl cc)), (ht, .inl (cI, 612, .inl ct)), (hk, .inl (cI, 612, .inl ck)), (hn, .inl (cI, 612, .inl nr)), (hm, .inl (cI, 1224, .inl cr)), (s0, .inr (2, [.ref s1, .ref s2, va_rf pu, .int (nI st), .int (nI sl)])), (s1, .inl (cI, 24, .inl sr)), (s2, .inl (cI, 2, .inl cp))]) (x_runV (n := 2) ⟨hx, hb, hml, hown, hts⟩ (zX3_takeAll l D cI cP cS cL g0 g1 g2 p0 p1 p2 p3 p4 o w co re nu ma t ht9) gX3_applies_X3_takeAll rfl rfl rfl (by decide +kernel) ⟨by decide, by decide⟩ hN hK hP hD [0, 1, 2, 12, 13, 14, 15, 16] rfl rfl (ci := 3) (q0 := 0) rfl rfl rfl rfl hl.1 (rest := []) (As := [.ref p0, .int (nI t)]) rfl (Nat.le_of_ble_eq_true rfl) dX3_applies_109 ⟨by decide, by decide⟩) hP hD hS hA [0, 1, 2, 12, 13, 14, 15, 16] [3, 4, 5, 6, 7, 8, 9, 10, 11] [9, 10, 11, 0, 1, 2, 3, 4, 5, 6, 7, 8, 12, 13, 14, 15, 16] rfl rfl rfl (by decide) rfl (fun _ => rfl) (fun u H locs hw hP hD hS => ?_)
        refine lv_goto (tgt := 136) hx hb dX3_applies_112 (by decide) ?_
        refine x_iinc (k := 8) (o := 1) (v := i + 1) (lv' := [(5, .int (nI (i + 1))), (8, .int (ck ((sl * 12) + i))), (7, .int (nI t)), (6, .int (nI ((sl * 12) + i))), (0, .ref g0), (1, .ref h0), (2, .ref p0), (3, .ref s0), (4, .int (nI sl))]) hx hb dX3_applies_136 hl rfl rfl rfl (by decide) rfl (fun ls hl => ?_)
        refine lv_goto (tgt := 43) hx hb dX3_applies_139 (by decide) ?_
        exact ih43 (i + 1, qFill o (t * 12) 12 (-1), qTaR o w (co t) (re t) (nu t) (ma t) (t * 12) 12) ⟨by omega, (by first | exact (qAp_s hq ht9 et).trans (qAp1_n c93) | exact (qAp_s hq ht9 et).trans (qAp1_a c93 c102) | exact e9)⟩ (by show cn - (i + 1) < cn - i; omega) _ _ _ hP hD hS (lv_sub hl [4, 5, 6, 7, 8, 0] rfl)
    · refine lv_goto (tgt := 136) hx hb dX3_applies_96 (by decide) ?_
      refine x_iinc (k := 8) (o := 1) (v := i + 1) (lv' := [(5, .int (nI (i + 1))), (8, .int (ck ((sl * 12) + i))), (7, .int (nI t)), (6, .int (nI ((sl * 12) + i))), (0, .ref g0), (1, .ref h0), (2, .ref p0), (3, .ref s0), (4, .int (nI sl))]) hx hb dX3_applies_136 hl rfl rfl rfl (by decide) rfl (fun ls hl => ?_)
      refine lv_goto (tgt := 43) hx hb dX3_applies_139 (by decide) ?_
      exact ih43 (i + 1, o, w) ⟨by omega, (by first | exact (qAp_s hq ht9 et).trans (qAp1_n c93) | exact (qAp_s hq ht9 et).trans (qAp1_a c93 c102) | exact e9)⟩ (by show cn - (i + 1) < cn - i; omega) _ _ _ hP hD hS (lv_sub hl [4, 5, 6, 7, 8, 0] rfl)
