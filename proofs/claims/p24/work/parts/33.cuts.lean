set_option maxHeartbeats 8000000 in
set_option maxRecDepth 100000 in
theorem zL_cuts (l : Launch) (D : va_G) (cI cP cS cL : ClassId) (hfl : l.stackTraces = false) (ad la : Nat → Nat) (hinj : ∀ x y, x < 3 → y < 3 → ad (13 + 5 * x) = ad (13 + 5 * y) → x = y) (S : S4) (lp lo lq lb lg : qF) (nn lim : Nat) (st sl : Nat → Nat)  (hn50 : nn ≤ 50) (hlim50 : lim ≤ 50) (hb1 : ∀ i, i < 3 → lb (7 * i + 1) = nI (st i)) (hb2 : ∀ i, i < 3 → lb (7 * i + 2) = nI (sl i)) (hst : ∀ i, i < 3 → st i ≤ 3) (hsl : ∀ i, i < 3 → sl i ≤ nn) (hg0 : lg 0 = nI nn) (hg2 : lg 2 = nI lim) : xWi l yL_cuts wsL_cuts (rmD 1 0 0) D [(cI, .int), (cP, .object RX0), (cS, .object RX2)] [.ref (la 3), .ref (la 4)] (LW cI cP cS ad la S lp lo lq lb lg) (fun (r : Int32) (f : qF) => r = nI (mCutS lim st sl nn 3) ∧ f = bCut lb lim st sl nn 3) (fun (f : qF) => LW cI cP cS ad la S lp lo lq f lg) 0 0 := by
  refine xe_N (cc := cL_cuts) (maxL := 4) (ret := (some .int)) (by decide) rfl (Nat.le_of_ble_eq_true rfl) ?_
  intro zp ze s zm below meth zc A ls B hE
  obtain ⟨hx, hb, hml, hrt, hts, hown, hnm, hlk, hK, hP, hD, hA, hS, hN, hl⟩ := B
  have hown : s.vm.findClass RL = some zm.cls := hown
  have hl : lv_has ls 4 [(0, .ref (la 3)), (1, .ref (la 4))] := hl
  have hA : ∀ q, s.heap.size ≤ q → A q := hA
  refine lv_iconst (v := nI 0) hx hb dL_cuts_0 (by decide) ?_
  refine lv_istore_n (lv' := [(2, .int (nI 0)), (0, .ref (la 3)), (1, .ref (la 4))]) hx hb dL_cuts_1 rfl hl (by decide) rfl (fun ls hl => ?_)
  refine lv_iconst (v := nI 0) hx hb dL_cuts_2 (by decide) ?_
  refine lv_istore_n (lv' := [(3, .int (nI 0)), (2, .int (nI 0)), (0, .ref (la 3)), (1, .ref (la 4))]) hx hb dL_cuts_3 rfl hl (by decide) rfl (fun ls hl => ?_)
  refine x_loopc (nL := 4) (fun (x : Nat × qF × Nat) => match x with | (i, f, cq) => i ≤ 3 ∧ f = bCut lb lim st sl nn i ∧ cq = mCutS lim st sl nn i) (fun (x : Nat × qF × Nat) => match x with | (i, f, cq) => 3 - i) (fun (x : Nat × qF × Nat) => match x with | (i, f, cq) => 0) (fun (x : Nat × qF × Nat) => match x with | (i, f, cq) => 0) (fun (x : Nat × qF × Nat) => match x with | (i, f, cq) => LW cI cP cS ad la S lp lo lq f lg) (fun (x : Nat × qF × Nat) => match x with | (i, f, cq) => [(0, .ref (la 3)), (1, .ref (la 4)), (2, .int (nI cq)), (3, .int (nI (7 * i)))]) (fun (x : Nat × qF × Nat) => match x with | (i, f, cq) => []) ?_ (0, lb, 0) ⟨Nat.zero_le 3, (bCut_0 _ _ _ _ _).symm, rfl⟩ (by show _ ≤ 0; omega) (by show _ ≤ 0; omega) hP hD hS (lv_sub hl [2, 3, 1, 0] rfl)
  intro x9 hI4 ih4 H locs ls hP hD hS hl
  obtain ⟨i, f, cq⟩ := x9
  have hP : va_P D vwCl (LW cI cP cS ad la S lp lo lq f lg) H := hP
  have hD : va_D A (LW cI cP cS ad la S lp lo lq f lg) := hD
  have hl : lv_has ls 4 [(0, .ref (la 3)), (1, .ref (la 4)), (2, .int (nI cq)), (3, .int (nI (7 * i)))] := hl
  show W _ _ _ _ _ _ _ _ _ _ _ _ (0) (0) _ _
  obtain ⟨hi9, hf, hq⟩ := hI4
  have hqi := mCutS_le lim st sl nn i
  refine lv_iload_n hx hb dL_cuts_4 rfl (lv_at hl 3 rfl) ?_
  refine lv_bipush (v := nI 21) hx hb dL_cuts_5 (by decide) ?_
  refine x_cmp_ge (tgt := 58) hx hb (nI_leI (a := 21) (b := (7 * i)) (by omega) (by omega)) dL_cuts_7 (by decide) (fun c7 => ?_) (fun c7 => ?_)
  · obtain rfl : i = 3 := by omega
    subst hf
    subst hq
    have hP : va_P D vwCl (LW cI cP cS ad la S lp lo lq (bCut lb lim st sl nn 3) lg) H := hP
    have hD : va_D A (LW cI cP cS ad la S lp lo lq (bCut lb lim st sl nn 3) lg) := hD
    have hl : lv_has ls 4 [(0, .ref (la 3)), (1, .ref (la 4)), (2, .int (nI (mCutS lim st sl nn 3))), (3, .int (nI (7 * 3)))] := hl
    refine lv_iload_n hx hb dL_cuts_58 rfl (lv_at hl 2 rfl) ?_
    exact x_ret_i hx hb hrt hlk hP hD hS dL_cuts_59 ⟨by omega, by omega⟩ ((bCut lb lim st sl nn 3)) ⟨rfl, rfl⟩ rfl
  · have hs3 := hst i (by omega)
    have hs4 := hsl i (by omega)
    refine lv_aload_n hx hb dL_cuts_10 rfl (lv_at hl 0 rfl) ?_
    refine lv_iload_n hx hb dL_cuts_11 rfl (lv_at hl 3 rfl) ?_
    refine lv_iconst (v := nI 1) hx hb dL_cuts_12 (by decide) ?_
    refine x_add (k := (7 * i) + 1) hx hb dL_cuts_13 rfl ?_
    refine x_ald (v := nI (st i)) hx hb hK hP 40 0 rfl rfl (by omega) (by omega) (by rw [hf, bCut_at (by omega)]; exact hb1 i (by omega)) dL_cuts_14 ?_
    refine lv_iconst (v := nI 1) hx hb dL_cuts_15 (by decide) ?_
    refine x_cmp_eq (tgt := 28) hx hb (nI_eq (a := (st i)) (b := 1) (by omega) (by omega)) dL_cuts_16 (by decide) (fun c16 => ?_) (fun c16 => ?_)
    · have hon : st i = 1 ∨ st i = 2 := by omega
      refine lv_aload_n hx hb dL_cuts_28 rfl (lv_at hl 1 rfl) ?_
      refine lv_iconst (v := nI 0) hx hb dL_cuts_29 (by decide) ?_
      refine x_ald (v := nI nn) hx hb hK hP 41 0 rfl rfl (by omega) (by omega) hg0 dL_cuts_30 ?_
      refine lv_aload_n hx hb dL_cuts_31 rfl (lv_at hl 0 rfl) ?_
      refine lv_iload_n hx hb dL_cuts_32 rfl (lv_at hl 3 rfl) ?_
      refine lv_iconst (v := nI 2) hx hb dL_cuts_33 (by decide) ?_
      refine x_add (k := (7 * i) + 2) hx hb dL_cuts_34 rfl ?_
      refine x_ald (v := nI (sl i)) hx hb hK hP 40 0 rfl rfl (by omega) (by omega) (by rw [hf, bCut_at (by omega)]; exact hb2 i (by omega)) dL_cuts_35 ?_
      refine x_sub (k := nn - (sl i)) hx hb dL_cuts_36 (by omega) rfl ?_
      refine lv_aload_n hx hb dL_cuts_37 rfl (lv_at hl 1 rfl) ?_
      refine lv_iconst (v := nI 2) hx hb dL_cuts_38 (by decide) ?_
      refine x_ald (v := nI lim) hx hb hK hP 41 0 rfl rfl (by omega) (by omega) hg2 dL_cuts_39 ?_
      refine x_cmp_le (tgt := 52) hx hb (nI_leI (a := (nn - (sl i))) (b := lim) (by omega) (by omega)) dL_cuts_40 (by decide) (fun c40 => ?_) (fun c40 => ?_)
      · refine x_iinc (k := 3) (o := 7) (v := (7 * i) + 7) (lv' := [(3, .int (nI ((7 * i) + 7))), (0, .ref (la 3)), (1, .ref (la 4)), (2, .int (nI cq))]) hx hb dL_cuts_52 hl rfl rfl rfl (by decide) rfl (fun ls hl => ?_)
        refine lv_goto (tgt := 4) hx hb dL_cuts_55 (by decide) ?_
        exact W.widen (by show _ ≤ 0; omega) (by show _ ≤ 0; omega) (ih4 (i + 1, f, cq) ⟨by omega, (by rw [hf]; exact bCut_n (by rw [qLag_i hon]; omega) (hb1 i (by omega))), (by rw [hq]; exact (mCutS_n (by rw [qLag_i hon]; omega)).symm)⟩ (by show 3 - (i + 1) < 3 - i; omega) _ _ _ hP hD hS (lv_sub hl [1, 2, 3, 0] rfl))
      · refine lv_aload_n hx hb dL_cuts_43 rfl (lv_at hl 0 rfl) ?_
        refine lv_iload_n hx hb dL_cuts_44 rfl (lv_at hl 3 rfl) ?_
        refine lv_iconst (v := nI 1) hx hb dL_cuts_45 (by decide) ?_
        refine x_add (k := (7 * i) + 1) hx hb dL_cuts_46 rfl ?_
        refine lv_iconst (v := nI 3) hx hb dL_cuts_47 (by decide) ?_
        refine x_ast (g := upd f ((7 * i) + 1) (nI 3)) (ws' := LW cI cP cS ad la S lp lo lq (upd f ((7 * i) + 1) (nI 3)) lg) hx hb hK hP hD hS 40 0 rfl rfl (by omega) (by omega) (rfl) rfl dL_cuts_48 (fun H locs hP hD hS => ?_)
        refine x_iinc (k := 2) (o := 1) (v := cq + 1) (lv' := [(2, .int (nI (cq + 1))), (0, .ref (la 3)), (1, .ref (la 4)), (3, .int (nI (7 * i)))]) hx hb dL_cuts_49 hl rfl rfl rfl (by decide) rfl (fun ls hl => ?_)
        refine x_iinc (k := 3) (o := 7) (v := (7 * i) + 7) (lv' := [(3, .int (nI ((7 * i) + 7))), (2, .int (nI (cq + 1))), (0, .ref (la 3)), (1, .ref (la 4))]) hx hb dL_cuts_52 hl rfl rfl rfl (by decide) rfl (fun ls hl => ?_)
        refine lv_goto (tgt := 4) hx hb dL_cuts_55 (by decide) ?_
        exact W.widen (by show _ ≤ 0; omega) (by show _ ≤ 0; omega) (ih4 (i + 1, upd f ((7 * i) + 1) (nI 3), cq + 1) ⟨by omega, (by rw [hf]; exact bCut_y (by rw [qLag_i hon]; omega)), (by rw [hq]; exact (mCutS_y (by rw [qLag_i hon]; omega)).symm)⟩ (by show 3 - (i + 1) < 3 - i; omega) _ _ _ hP hD hS (lv_sub hl [2, 3, 1, 0] rfl))
    · refine lv_aload_n hx hb dL_cuts_19 rfl (lv_at hl 0 rfl) ?_
      refine lv_iload_n hx hb dL_cuts_20 rfl (lv_at hl 3 rfl) ?_
      refine lv_iconst (v := nI 1) hx hb dL_cuts_21 (by decide) ?_
      refine x_add (k := (7 * i) + 1) hx hb dL_cuts_22 rfl ?_
      refine x_ald (v := nI (st i)) hx hb hK hP 40 0 rfl rfl (by omega) (by omega) (by rw [hf, bCut_at (by omega)]; exact hb1 i (by omega)) dL_cuts_23 ?_
      refine lv_iconst (v := nI 2) hx hb dL_cuts_24 (by decide) ?_
      refine x_cmp_ne (tgt := 52) hx hb (nI_eq (a := (st i)) (b := 2) (by omega) (by omega)) dL_cuts_25 (by decide) (fun c25 => ?_) (fun c25 => ?_)
      · refine x_iinc (k := 3) (o := 7) (v := (7 * i) + 7) (lv' := [(3, .int (nI ((7 * i) + 7))), (0, .ref (la 3)), (1, .ref (la 4)), (2, .int (nI cq))]) hx hb dL_cuts_52 hl rfl rfl rfl (by decide) rfl (fun ls hl => ?_)
        refine lv_goto (tgt := 4) hx hb dL_cuts_55 (by decide) ?_
        exact W.widen (by show _ ≤ 0; omega) (by show _ ≤ 0; omega) (ih4 (i + 1, f, cq) ⟨by omega, (by rw [hf]; exact bCut_n (by rw [qLag_o (by omega)]; omega) (hb1 i (by omega))), (by rw [hq]; exact (mCutS_n (by rw [qLag_o (by omega)]; omega)).symm)⟩ (by show 3 - (i + 1) < 3 - i; omega) _ _ _ hP hD hS (lv_sub hl [1, 2, 3, 0] rfl))
      · have hon : st i = 1 ∨ st i = 2 := by omega
        refine lv_aload_n hx hb dL_cuts_28 rfl (lv_at hl 1 rfl) ?_
        refine lv_iconst (v := nI 0) hx hb dL_cuts_29 (by decide) ?_
        refine x_ald (v := nI nn) hx hb hK hP 41 0 rfl rfl (by omega) (by omega) hg0 dL_cuts_30 ?_
        refine lv_aload_n hx hb dL_cuts_31 rfl (lv_at hl 0 rfl) ?_
        refine lv_iload_n hx hb dL_cuts_32 rfl (lv_at hl 3 rfl) ?_
        refine lv_iconst (v := nI 2) hx hb dL_cuts_33 (by decide) ?_
        refine x_add (k := (7 * i) + 2) hx hb dL_cuts_34 rfl ?_
        refine x_ald (v := nI (sl i)) hx hb hK hP 40 0 rfl rfl (by omega) (by omega) (by rw [hf, bCut_at (by omega)]; exact hb2 i (by omega)) dL_cuts_35 ?_
        refine x_sub (k := nn - (sl i)) hx hb dL_cuts_36 (by omega) rfl ?_
        refine lv_aload_n hx hb dL_cuts_37 rfl (lv_at hl 1 rfl) ?_
        refine lv_iconst (v := nI 2) hx hb dL_cuts_38 (by decide) ?_
        refine x_ald (v := nI lim) hx hb hK hP 41 0 rfl rfl (by omega) (by omega) hg2 dL_cuts_39 ?_
        refine x_cmp_le (tgt := 52) hx hb (nI_leI (a := (nn - (sl i))) (b := lim) (by omega) (by omega)) dL_cuts_40 (by decide) (fun c40 => ?_) (fun c40 => ?_)
        · refine x_iinc (k := 3) (o := 7) (v := (7 * i) + 7) (lv' := [(3, .int (nI ((7 * i) + 7))), (0, .ref (la 3)), (1, .ref (la 4)), (2, .int (nI cq))]) hx hb dL_cuts_52 hl rfl rfl rfl (by decide) rfl (fun ls hl => ?_)
          refine lv_goto (tgt := 4) hx hb dL_cuts_55 (by decide) ?_
          exact W.widen (by show _ ≤ 0; omega) (by show _ ≤ 0; omega) (ih4 (i + 1, f, cq) ⟨by omega, (by rw [hf]; exact bCut_n (by rw [qLag_i hon]; omega) (hb1 i (by omega))), (by rw [hq]; exact (mCutS_n (by rw [qLag_i hon]; omega)).symm)⟩ (by show 3 - (i + 1) < 3 - i; omega) _ _ _ hP hD hS (lv_sub hl [1, 2, 3, 0] rfl))
        · refine lv_aload_n hx hb dL_cuts_43 rfl (lv_at hl 0 rfl) ?_
          refine lv_iload_n hx hb dL_cuts_44 rfl (lv_at hl 3 rfl) ?_
          refine lv_iconst (v := nI 1) hx hb dL_cuts_45 (by decide) ?_
          refine x_add (k := (7 * i) + 1) hx hb dL_cuts_46 rfl ?_
          refine lv_iconst (v := nI 3) hx hb dL_cuts_47 (by decide) ?_
          refine x_ast (g := upd f ((7 * i) + 1) (nI 3)) (ws' := LW cI cP cS ad la S lp lo lq (upd f ((7 * i) + 1) (nI 3)) lg) hx hb hK hP hD hS 40 0 rfl rfl (by omega) (by omega) (rfl) rfl dL_cuts_48 (fun H locs hP hD hS => ?_)
          refine x_iinc (k := 2) (o := 1) (v := cq + 1) (lv' := [(2, .int (nI (cq + 1))), (0, .ref (la 3)), (1, .ref (la 4)), (3, .int (nI (7 * i)))]) hx hb dL_cuts_49 hl rfl rfl rfl (by decide) rfl (fun ls hl => ?_)
          refine x_iinc (k := 3) (o := 7) (v := (7 * i) + 7) (lv' := [(3, .int (nI ((7 * i) + 7))), (2, .int (nI (cq + 1))), (0, .ref (la 3)), (1, .ref (la 4))]) hx hb dL_cuts_52 hl rfl rfl rfl (by decide) rfl (fun ls hl => ?_)
          refine lv_goto (tgt := 4) hx hb dL_cuts_55 (by decide) ?_
          exact W.widen (by show _ ≤ 0; omega) (by show _ ≤ 0; omega) (ih4 (i + 1, upd f ((7 * i) + 1) (nI 3), cq + 1) ⟨by omega, (by rw [hf]; exact bCut_y (by rw [qLag_i hon]; omega)), (by rw [hq]; exact (mCutS_y (by rw [qLag_i hon]; omega)).symm)⟩ (by show 3 - (i + 1) < 3 - i; omega) _ _ _ hP hD hS (lv_sub hl [2, 3, 1, 0] rfl))
