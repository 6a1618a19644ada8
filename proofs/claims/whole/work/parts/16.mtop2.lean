set_option maxRecDepth 20000 in
theorem kX5_cuts_f47 : Cond.fieldLink RX5 47 "RowReplicatorModel" "state" "[I" ∈ wsX5_cuts := by decide +kernel
set_option maxRecDepth 20000 in
theorem kX5_cuts_X5 : ∀ w ∈ wsX50, w ∈ wsX5_cuts := by decide +kernel
set_option maxRecDepth 20000 in
theorem kX5_cuts_f76 : Cond.fieldLink RX5 76 "RowReplicatorModel" "commits" "I" ∈ wsX5_cuts := by decide +kernel
set_option maxRecDepth 20000 in
theorem kX5_cuts_f50 : Cond.fieldLink RX5 50 "RowReplicatorModel" "slot" "[I" ∈ wsX5_cuts := by decide +kernel
set_option maxRecDepth 20000 in
theorem kX5_cuts_f16 : Cond.fieldLink RX5 16 "RowReplicatorModel" "limit" "I" ∈ wsX5_cuts := by decide +kernel
set_option maxHeartbeats 4000000 in
set_option maxRecDepth 100000 in
theorem zX5_cuts (l : Launch) (D : va_G) (cI cP cS cL : ClassId) (v0 v1 v2 v3 v4 v5 v6 v7 v8 v9 v10 v11 v12 v13 v14 v15 v16 v17 : Nat) (n lim : Nat) (th : Int32) (st sl : Nat → Nat) (sta slo : Nat → Int32) (hlim : lim ≤ 50) (hsta : ∀ i, i < 3 → sta i = nI (st i)) (hst3 : ∀ i, i < 3 → st i ≤ 3) (hslo : ∀ i, i < 3 → slo i = nI (sl i)) (hsl : ∀ i, i < 3 → sl i ≤ n) (hn9 : n ≤ 50) : xMi l yX5_cuts wsX5_cuts (rmD 1 0 0) D [(cI, .int), (cP, .object RX0), (cS, .object RX2), (cL, .long)] [.ref v0] [(v0, .inr (5, [.ref v1, .ref v2, .int (nI n), .int (nI lim), .ref v3, .ref v4, .ref v5, .ref v6, .ref v7, .ref v8, .ref v9, .ref v10, .ref v11, .ref v12, .ref v13, .ref v14, .ref v15, .ref v16, .ref v17, .int th])), (v12, .inl (cI, 3, .inl sta)), (v13, .inl (cI, 3, .inl slo))] (fun (r : Int32) (u : Unit) => r = nI (mCutS lim st sl n 3)) (fun (u : Unit) => [(v0, .inr (5, [.ref v1, .ref v2, .int (nI n), .int (nI lim), .ref v3, .ref v4, .ref v5, .ref v6, .ref v7, .ref v8, .ref v9, .ref v10, .ref v11, .ref v12, .ref v13, .ref v14, .ref v15, .ref v16, .ref v17, .int th])), (v12, .inl (cI, 3, .inl (mCut sta lim st sl n 3))), (v13, .inl (cI, 3, .inl slo))]) 0 0 := by
  refine xe_i (cc := cX5_cuts) (maxL := 3) (ret := (some .int)) (by decide) rfl (Nat.le_of_ble_eq_true rfl) ?_
  intro zp ze s zm below meth zc A ls B
  obtain ⟨hx, hb, hml, hrt, hts, hown, hnm, hlk, hK, hP, hD, hA, hS, hN, hl⟩ := B
  have hown : s.vm.findClass RX5 = some zm.cls := hown
  have hl : lv_has ls 3 [(0, .ref v0)] := hl
  have hA : ∀ q, s.heap.size ≤ q → A q := hA
  refine lv_iconst (v := nI 0) hx hb dX5_cuts_0 (by decide) ?_
  refine lv_istore_n (lv' := [(1, .int (nI 0)), (0, .ref v0)]) hx hb dX5_cuts_1 rfl hl (by decide) rfl (fun ls hl => ?_)
  refine lv_iconst (v := nI 0) hx hb dX5_cuts_2 (by decide) ?_
  refine lv_istore_n (lv' := [(2, .int (nI 0)), (1, .int (nI 0)), (0, .ref v0)]) hx hb dX5_cuts_3 rfl hl (by decide) rfl (fun ls hl => ?_)
  refine x_loop (nL := 3) (fun (x : Nat × (Nat → Int32) × Nat) => match x with | (k, f, cq) => k ≤ 3 ∧ f = mCut sta lim st sl n k ∧ cq = mCutS lim st sl n k) (fun (x : Nat × (Nat → Int32) × Nat) => match x with | (k, f, cq) => 3 - k) (fun (x : Nat × (Nat → Int32) × Nat) => match x with | (k, f, cq) => [(v0, .inr (5, [.ref v1, .ref v2, .int (nI n), .int (nI lim), .ref v3, .ref v4, .ref v5, .ref v6, .ref v7, .ref v8, .ref v9, .ref v10, .ref v11, .ref v12, .ref v13, .ref v14, .ref v15, .ref v16, .ref v17, .int th])), (v12, .inl (cI, 3, .inl f)), (v13, .inl (cI, 3, .inl slo))]) (fun (x : Nat × (Nat → Int32) × Nat) => match x with | (k, f, cq) => [(0, .ref v0), (1, .int (nI cq)), (2, .int (nI k))]) (fun (x : Nat × (Nat → Int32) × Nat) => match x with | (k, f, cq) => []) ?_ (0, sta, 0) ⟨by omega, (mCut_0 _ _ _ _ _).symm, rfl⟩ hP hD hS (lv_sub hl [2, 1, 0] rfl)
  intro x9 hI4 ih4 H locs ls hP hD hS hl
  obtain ⟨k, f, cq⟩ := x9
  have hP : va_P D vwCl [(v0, .inr (5, [.ref v1, .ref v2, .int (nI n), .int (nI lim), .ref v3, .ref v4, .ref v5, .ref v6, .ref v7, .ref v8, .ref v9, .ref v10, .ref v11, .ref v12, .ref v13, .ref v14, .ref v15, .ref v16, .ref v17, .int th])), (v12, .inl (cI, 3, .inl f)), (v13, .inl (cI, 3, .inl slo))] H := hP
  have hD : va_D A [(v0, .inr (5, [.ref v1, .ref v2, .int (nI n), .int (nI lim), .ref v3, .ref v4, .ref v5, .ref v6, .ref v7, .ref v8, .ref v9, .ref v10, .ref v11, .ref v12, .ref v13, .ref v14, .ref v15, .ref v16, .ref v17, .int th])), (v12, .inl (cI, 3, .inl f)), (v13, .inl (cI, 3, .inl slo))] := hD
  have hl : lv_has ls 3 [(0, .ref v0), (1, .int (nI cq)), (2, .int (nI k))] := hl
  obtain ⟨hk, hf, hq⟩ := hI4
  refine lv_iload_n hx hb dX5_cuts_4 rfl (lv_at hl 2 rfl) ?_
  refine lv_iconst (v := nI 3) hx hb dX5_cuts_5 (by decide) ?_
  refine x_cmp_ge (tgt := 57) hx hb (nI_leI (a := 3) (b := k) (by omega) (by omega)) dX5_cuts_6 (by decide) (fun c6 => ?_) (fun c6 => ?_)
  · obtain rfl : k = 3 := by omega
    subst hf
    refine lv_iload_n hx hb dX5_cuts_57 rfl (lv_at hl 1 rfl) ?_
    exact x_ret_i hx hb hrt hlk hP hD hS dX5_cuts_58 ⟨by decide, by decide⟩ () (by rw [hq]) rfl
  · have hk3 := hst3 k (by omega)
    have hk4 := hsl k (by omega)
    refine lv_aload_n hx hb dX5_cuts_9 rfl (lv_at hl 0 rfl) ?_
    refine va_get (D := D) (ci := 5) (v := .ref v12) (C := RX5) (T := TX5) (N := 20) hx hb hts kX5_cuts_X5 hown hK hP 0 rfl rfl 13 (by decide) (hts _ kX5_cuts_f47) (fun _ h9 => h9) rfl dX5_cuts_10 ?_
    refine lv_iload_n hx hb dX5_cuts_13 rfl (lv_at hl 2 rfl) ?_
    refine x_ald (v := nI (st k)) hx hb hK hP 1 0 rfl rfl (by omega) (by omega) (by rw [hf]; exact mCut_at (hsta _ (by omega))) dX5_cuts_14 ?_
    refine lv_iconst (v := nI 1) hx hb dX5_cuts_15 (by decide) ?_
    refine lv_iconst (v := nI 2) hx hb dX5_cuts_16 (by decide) ?_
    refine x_calli (w2 := fun (u : Unit) => [(v0, .inr (5, [.ref v1, .ref v2, .int (nI n), .int (nI lim), .ref v3, .ref v4, .ref v5, .ref v6, .ref v7, .ref v8, .ref v9, .ref v10, .ref v11, .ref v12, .ref v13, .ref v14, .ref v15, .ref v16, .ref v17, .int th])), (v12, .inl (cI, 3, .inl f)), (v13, .inl (cI, 3, .inl slo))]) (wr := [(v0, .inr (5, [.ref v1, .ref v2, .int (nI n), .int (nI lim), .ref v3, .ref v4, .ref v5, .ref v6, .ref v7, .ref v8, .ref v9, .ref v10, .ref v11, .ref v12, .ref v13, .ref v14, .ref v15, .ref v16, .ref v17, .int th])), (v12, .inl (cI, 3, .inl f)), (v13, .inl (cI, 3, .inl slo))]) (x_runS (n := 3) ⟨hx, hb, hml, hown, hts⟩ (zX5_isIn l D cI cP cS cL (nI (st k)) (nI 1) (nI 2)) gX5_cuts_X5_isIn rfl rfl rfl (by decide +kernel) ⟨by decide, by decide⟩ hN hK hP hD [] rfl rfl rfl hl.1 (rest := []) (As := [.int (nI (st k)), .int (nI 1), .int (nI 2)]) rfl (Nat.le_of_ble_eq_true rfl) dX5_cuts_17 ⟨by decide, by decide⟩) hP hD hS hA [] [0, 1, 2] [0, 1, 2] rfl rfl rfl (by decide) rfl (fun _ => rfl) (fun r17 u H locs hw hP hD hS => ?_)
    rw [m12 (by omega)] at hw
    subst hw
    refine x_if_eq (tgt := 51) hx hb (bI_0 _) dX5_cuts_20 (by decide) (fun c20 => ?_) (fun c20 => ?_)
    · refine x_iinc (k := 2) (o := 1) (v := k + 1) (lv' := [(2, .int (nI (k + 1))), (0, .ref v0), (1, .int (nI cq))]) hx hb dX5_cuts_51 hl rfl rfl rfl (by decide) rfl (fun ls hl => ?_)
      refine lv_goto (tgt := 4) hx hb dX5_cuts_54 (by decide) ?_
      exact ih4 (k + 1, f, cq) ⟨by omega, (by rw [hf]; exact mCut_n (by rw [qLag_o (of_decide_eq_false c20)]; omega) (hsta k (by omega))), (by rw [hq]; show _ = mCutS lim st sl n k + qCutN lim (st k) (sl k) n; rw [qCutN_n (by rw [qLag_o (of_decide_eq_false c20)]; omega)] <;> rfl)⟩ (by show 3 - (k + 1) < 3 - k; omega) _ _ _ hP hD hS (lv_sub hl [1, 2, 0] rfl)
    · refine lv_aload_n hx hb dX5_cuts_23 rfl (lv_at hl 0 rfl) ?_
      refine va_get (D := D) (ci := 5) (v := .int (nI n)) (C := RX5) (T := TX5) (N := 20) hx hb hts kX5_cuts_X5 hown hK hP 0 rfl rfl 2 (by decide) (hts _ kX5_cuts_f76) (fun _ h9 => h9) rfl dX5_cuts_24 ?_
      refine lv_aload_n hx hb dX5_cuts_27 rfl (lv_at hl 0 rfl) ?_
      refine va_get (D := D) (ci := 5) (v := .ref v13) (C := RX5) (T := TX5) (N := 20) hx hb hts kX5_cuts_X5 hown hK hP 0 rfl rfl 14 (by decide) (hts _ kX5_cuts_f50) (fun _ h9 => h9) rfl dX5_cuts_28 ?_
      refine lv_iload_n hx hb dX5_cuts_31 rfl (lv_at hl 2 rfl) ?_
      refine x_ald (v := nI (sl k)) hx hb hK hP 2 0 rfl rfl (by omega) (by omega) (hslo _ (by omega)) dX5_cuts_32 ?_
      refine x_sub (k := n - (sl k)) hx hb dX5_cuts_33 (by omega) rfl ?_
      refine lv_aload_n hx hb dX5_cuts_34 rfl (lv_at hl 0 rfl) ?_
      refine va_get (D := D) (ci := 5) (v := .int (nI lim)) (C := RX5) (T := TX5) (N := 20) hx hb hts kX5_cuts_X5 hown hK hP 0 rfl rfl 3 (by decide) (hts _ kX5_cuts_f16) (fun _ h9 => h9) rfl dX5_cuts_35 ?_
      refine x_cmp_le (tgt := 51) hx hb (nI_leI (a := (n - (sl k))) (b := lim) (by omega) (by omega)) dX5_cuts_38 (by decide) (fun c38 => ?_) (fun c38 => ?_)
      · refine x_iinc (k := 2) (o := 1) (v := k + 1) (lv' := [(2, .int (nI (k + 1))), (0, .ref v0), (1, .int (nI cq))]) hx hb dX5_cuts_51 hl rfl rfl rfl (by decide) rfl (fun ls hl => ?_)
        refine lv_goto (tgt := 4) hx hb dX5_cuts_54 (by decide) ?_
        exact ih4 (k + 1, f, cq) ⟨by omega, (by rw [hf]; exact mCut_n (by rw [qLag_i (dec_y c20)]; exact c38) (hsta k (by omega))), (by rw [hq]; show _ = mCutS lim st sl n k + qCutN lim (st k) (sl k) n; rw [qCutN_n (by rw [qLag_i (dec_y c20)]; exact c38)] <;> rfl)⟩ (by show 3 - (k + 1) < 3 - k; omega) _ _ _ hP hD hS (lv_sub hl [1, 2, 0] rfl)
      · refine lv_aload_n hx hb dX5_cuts_41 rfl (lv_at hl 0 rfl) ?_
        refine va_get (D := D) (ci := 5) (v := .ref v12) (C := RX5) (T := TX5) (N := 20) hx hb hts kX5_cuts_X5 hown hK hP 0 rfl rfl 13 (by decide) (hts _ kX5_cuts_f47) (fun _ h9 => h9) rfl dX5_cuts_42 ?_
        refine lv_iload_n hx hb dX5_cuts_45 rfl (lv_at hl 2 rfl) ?_
        refine lv_iconst (v := nI 3) hx hb dX5_cuts_46 (by decide) ?_
        refine x_ast (g := upd f k (nI 3)) (ws' := [(v0, .inr (5, [.ref v1, .ref v2, .int (nI n), .int (nI lim), .ref v3, .ref v4, .ref v5, .ref v6, .ref v7, .ref v8, .ref v9, .ref v10, .ref v11, .ref v12, .ref v13, .ref v14, .ref v15, .ref v16, .ref v17, .int th])), (v12, .inl (cI, 3, .inl (upd f k (nI 3)))), (v13, .inl (cI, 3, .inl slo))]) hx hb hK hP hD hS 1 0 rfl rfl (by omega) (by omega) (rfl) rfl dX5_cuts_47 (fun H locs hP hD hS => ?_)
        refine x_iinc (k := 1) (o := 1) (v := cq + 1) (lv' := [(1, .int (nI (cq + 1))), (0, .ref v0), (2, .int (nI k))]) hx hb dX5_cuts_48 hl rfl rfl rfl (by decide) rfl (fun ls hl => ?_)
        refine x_iinc (k := 2) (o := 1) (v := k + 1) (lv' := [(2, .int (nI (k + 1))), (1, .int (nI (cq + 1))), (0, .ref v0)]) hx hb dX5_cuts_51 hl rfl rfl rfl (by decide) rfl (fun ls hl => ?_)
        refine lv_goto (tgt := 4) hx hb dX5_cuts_54 (by decide) ?_
        exact ih4 (k + 1, upd f k (nI 3), cq + 1) ⟨by omega, (by rw [hf]; exact mCut_y (by rw [qLag_i (dec_y c20)]; exact c38)), (by rw [hq]; show _ = mCutS lim st sl n k + qCutN lim (st k) (sl k) n; rw [qCutN_y (by rw [qLag_i (dec_y c20)]; exact c38)] <;> rfl)⟩ (by show 3 - (k + 1) < 3 - k; omega) _ _ _ hP hD hS (lv_sub hl [2, 1, 0] rfl)

set_option maxRecDepth 20000 in
theorem kX5_commit_f76 : Cond.fieldLink RX5 76 "RowReplicatorModel" "commits" "I" ∈ wsX5_commit := by decide +kernel
set_option maxRecDepth 20000 in
theorem kX5_commit_X5 : ∀ w ∈ wsX50, w ∈ wsX5_commit := by decide +kernel
set_option maxRecDepth 20000 in
theorem kX5_commit_f20 : Cond.fieldLink RX5 20 "RowReplicatorModel" "changes" "[I" ∈ wsX5_commit := by decide +kernel
set_option maxRecDepth 20000 in
theorem kX5_commit_f13 : Cond.fieldLink RX5 13 "RowReplicatorModel" "kept" "[I" ∈ wsX5_commit := by decide +kernel
set_option maxRecDepth 20000 in
theorem kX5_commit_f7 : Cond.fieldLink RX5 7 "RowReplicatorModel" "row" "[I" ∈ wsX5_commit := by decide +kernel
set_option maxHeartbeats 4000000 in
set_option maxRecDepth 100000 in
theorem zX5_commit (l : Launch) (D : va_G) (cI cP cS cL : ClassId) (v0 v1 v2 v3 v4 v5 v6 v7 v8 v9 v10 v11 v12 v13 v14 v15 v16 v17 : Nat) (n lim : Nat) (th : Int32) (row kept chg : Nat → Int32) (st sl : Nat → Nat) (sta slo : Nat → Int32) (hlim : lim ≤ 50) (hsta : ∀ i, i < 3 → sta i = nI (st i)) (hst3 : ∀ i, i < 3 → st i ≤ 3) (hslo : ∀ i, i < 3 → slo i = nI (sl i)) (hsl : ∀ i, i < 3 → sl i ≤ n) (hn9 : n ≤ 50) : xMi l yX5_commit wsX5_commit (rmD 2 0 0) D [(cI, .int), (cP, .object RX0), (cS, .object RX2), (cL, .long)] [.ref v0] [(v0, .inr (5, [.ref v1, .ref v2, .int (nI n), .int (nI lim), .ref v3, .ref v4, .ref v5, .ref v6, .ref v7, .ref v8, .ref v9, .ref v10, .ref v11, .ref v12, .ref v13, .ref v14, .ref v15, .ref v16, .ref v17, .int th])), (v1, .inl (cI, 24, .inl row)), (v2, .inl (cI, 1224, .inl kept)), (v3, .inl (cI, 52, .inl chg)), (v12, .inl (cI, 3, .inl sta)), (v13, .inl (cI, 3, .inl slo))] (fun (r : Int32) (u : Int32 × Nat × (Nat → Int32) × (Nat → Int32) × (Nat → Int32)) => match u with | (h, nn, a1, a2, a3) => ((n = 50 ∧ h = nI 1 ∧ nn = n ∧ a1 = kept ∧ a2 = chg ∧ a3 = sta) ∨ (n < 50 ∧ h = nI 0 ∧ r = nI (n + 1) ∧ nn = n + 1 ∧ a1 = va_cpy row kept 0 (24 * (n + 1)) 24 ∧ a2 = upd chg (n + 2) (nI 0) ∧ a3 = mCut sta lim st sl (n + 1) 3))) (fun (u : Int32 × Nat × (Nat → Int32) × (Nat → Int32) × (Nat → Int32)) => match u with | (h, nn, a1, a2, a3) => [(v0, .inr (5, [.ref v1, .ref v2, .int (nI nn), .int (nI lim), .ref v3, .ref v4, .ref v5, .ref v6, .ref v7, .ref v8, .ref v9, .ref v10, .ref v11, .ref v12, .ref v13, .ref v14, .ref v15, .ref v16, .ref v17, .int h])), (v1, .inl (cI, 24, .inl row)), (v2, .inl (cI, 1224, .inl a1)), (v3, .inl (cI, 52, .inl a2)), (v12, .inl (cI, 3, .inl a3)), (v13, .inl (cI, 3, .inl slo))]) 0 0 := by
  refine xe_i (cc := cX5_commit) (maxL := 2) (ret := (some .int)) (by decide) rfl (Nat.le_of_ble_eq_true rfl) ?_
  intro zp ze s zm below meth zc A ls B
  obtain ⟨hx, hb, hml, hrt, hts, hown, hnm, hlk, hK, hP, hD, hA, hS, hN, hl⟩ := B
  have hown : s.vm.findClass RX5 = some zm.cls := hown
  have hl : lv_has ls 2 [(0, .ref v0)] := hl
  have hA : ∀ q, s.heap.size ≤ q → A q := hA
  refine lv_aload_n hx hb dX5_commit_0 rfl (lv_at hl 0 rfl) ?_
  refine lv_aload_n hx hb dX5_commit_1 rfl (lv_at hl 0 rfl) ?_
  refine va_get (D := D) (ci := 5) (v := .int (nI n)) (C := RX5) (T := TX5) (N := 20) hx hb hts kX5_commit_X5 hown hK hP 0 rfl rfl 2 (by decide) (hts _ kX5_commit_f76) (fun _ h9 => h9) rfl dX5_commit_2 ?_
  refine lv_bipush (v := nI 50) hx hb dX5_commit_5 (by decide) ?_
  refine x_cmp_ne (tgt := 14) hx hb (nI_eq (a := n) (b := 50) (by omega) (by omega)) dX5_commit_7 (by decide) (fun c7 => ?_) (fun c7 => ?_)
  · refine lv_iconst (v := nI 0) hx hb dX5_commit_14 (by decide) ?_
    refine x_calli (w2 := fun (u : Unit) => [(v0, .inr (5, [.ref v1, .ref v2, .int (nI n), .int (nI lim), .ref v3, .ref v4, .ref v5, .ref v6, .ref v7, .ref v8, .ref v9, .ref v10, .ref v11, .ref v12, .ref v13, .ref v14, .ref v15, .ref v16, .ref v17, .int (nI 0)])), (v1, .inl (cI, 24, .inl row)), (v2, .inl (cI, 1224, .inl kept)), (v3, .inl (cI, 52, .inl chg)), (v12, .inl (cI, 3, .inl sta)), (v13, .inl (cI, 3, .inl slo))]) (wr := [(v1, .inl (cI, 24, .inl row)), (v2, .inl (cI, 1224, .inl kept)), (v3, .inl (cI, 52, .inl chg)), (v12, .inl (cI, 3, .inl sta)), (v13, .inl (cI, 3, .inl slo))]) (x_runV (n := 1) ⟨hx, hb, hml, hown, hts⟩ (zX5_fails l D cI cP cS cL v0 v1 v2 v3 v4 v5 v6 v7 v8 v9 v10 v11 v12 v13 v14 v15 v16 v17 n lim (th) 0 (by decide)) gX5_commit_X5_fails rfl rfl rfl (by decide +kernel) ⟨by decide, by decide⟩ hN hK hP hD [0] rfl rfl (ci := 5) (q0 := 0) rfl rfl rfl rfl hl.1 (rest := []) (As := [.int (nI 0)]) rfl (Nat.le_of_ble_eq_true rfl) dX5_commit_15 ⟨by decide, by decide⟩) hP hD hS hA [0] [1, 2, 3, 4, 5] [5, 0, 1, 2, 3, 4] rfl rfl rfl (by decide) rfl (fun _ => rfl) (fun r15 u H locs hw hP hD hS => ?_)
    replace hw : r15 = nI 0 := hw.trans (by decide)
    subst hw
    refine x_if_eq (tgt := 23) hx hb (nI_z (by omega)) dX5_commit_18 (by decide) (fun c18 => ?_) (fun c18 => ?_)
    rotate_left
    · exact absurd c18 (by omega)
    have hn5 : n < 50 := by omega
    refine lv_aload_n hx hb dX5_commit_23 rfl (lv_at hl 0 rfl) ?_
    refine lv_dup hx hb dX5_commit_24 rfl ?_
    refine va_get (D := D) (ci := 5) (v := .int (nI n)) (C := RX5) (T := TX5) (N := 20) hx hb hts kX5_commit_X5 hown hK hP 0 rfl rfl 2 (by decide) (hts _ kX5_commit_f76) (fun _ h9 => h9) rfl dX5_commit_25 ?_
    refine lv_iconst (v := nI 1) hx hb dX5_commit_28 (by decide) ?_
    refine x_add (k := n + 1) hx hb dX5_commit_29 rfl ?_
    refine x_put (fs' := [.ref v1, .ref v2, .int (nI (n + 1)), .int (nI lim), .ref v3, .ref v4, .ref v5, .ref v6, .ref v7, .ref v8, .ref v9, .ref v10, .ref v11, .ref v12, .ref v13, .ref v14, .ref v15, .ref v16, .ref v17, .int (nI 0)]) (ws' := [(v0, .inr (5, [.ref v1, .ref v2, .int (nI (n + 1)), .int (nI lim), .ref v3, .ref v4, .ref v5, .ref v6, .ref v7, .ref v8, .ref v9, .ref v10, .ref v11, .ref v12, .ref v13, .ref v14, .ref v15, .ref v16, .ref v17, .int (nI 0)])), (v1, .inl (cI, 24, .inl row)), (v2, .inl (cI, 1224, .inl kept)), (v3, .inl (cI, 52, .inl chg)), (v12, .inl (cI, 3, .inl sta)), (v13, .inl (cI, 3, .inl slo))]) (v := .int (nI (n + 1))) (ty := .int) (C := RX5) (T := TX5) (N := 20) (ci := 5) hx hb hts kX5_commit_X5 tyX5 tyX5_ok nmX5 hown hK hP hD hS 0 rfl rfl 2 (by decide) (hts _ kX5_commit_f76) (fun _ h9 => h9) rfl (by decide +kernel) rfl rfl (Nat.le_of_ble_eq_true rfl) rfl rfl dX5_commit_30 (fun H locs hP hD hS => ?_)
    refine lv_aload_n hx hb dX5_commit_33 rfl (lv_at hl 0 rfl) ?_
    refine va_get (D := D) (ci := 5) (v := .ref v3) (C := RX5) (T := TX5) (N := 20) hx hb hts kX5_commit_X5 hown hK hP 0 rfl rfl 4 (by decide) (hts _ kX5_commit_f20) (fun _ h9 => h9) rfl dX5_commit_34 ?_
    refine lv_aload_n hx hb dX5_commit_37 rfl (lv_at hl 0 rfl) ?_
    refine va_get (D := D) (ci := 5) (v := .int (nI (n + 1))) (C := RX5) (T := TX5) (N := 20) hx hb hts kX5_commit_X5 hown hK hP 0 rfl rfl 2 (by decide) (hts _ kX5_commit_f76) (fun _ h9 => h9) rfl dX5_commit_38 ?_
    refine lv_iconst (v := nI 1) hx hb dX5_commit_41 (by decide) ?_
    refine x_add (k := (n + 1) + 1) hx hb dX5_commit_42 rfl ?_
    refine lv_iconst (v := nI 0) hx hb dX5_commit_43 (by decide) ?_
    refine x_ast (g := upd chg ((n + 1) + 1) (nI 0)) (ws' := [(v0, .inr (5, [.ref v1, .ref v2, .int (nI (n + 1)), .int (nI lim), .ref v3, .ref v4, .ref v5, .ref v6, .ref v7, .ref v8, .ref v9, .ref v10, .ref v11, .ref v12, .ref v13, .ref v14, .ref v15, .ref v16, .ref v17, .int (nI 0)])), (v1, .inl (cI, 24, .inl row)), (v2, .inl (cI, 1224, .inl kept)), (v3, .inl (cI, 52, .inl (upd chg ((n + 1) + 1) (nI 0)))), (v12, .inl (cI, 3, .inl sta)), (v13, .inl (cI, 3, .inl slo))]) hx hb hK hP hD hS 3 0 rfl rfl (by omega) (by omega) (rfl) rfl dX5_commit_44 (fun H locs hP hD hS => ?_)
    refine lv_iconst (v := nI 0) hx hb dX5_commit_45 (by decide) ?_
    refine lv_istore_n (lv' := [(1, .int (nI 0)), (0, .ref v0)]) hx hb dX5_commit_46 rfl hl (by decide) rfl (fun ls hl => ?_)
    refine x_loop (nL := 2) (fun (x : Nat × (Nat → Int32)) => match x with | (k, f) => k ≤ 24 ∧ f = va_cpy row kept 0 (24 * (n + 1)) k) (fun (x : Nat × (Nat → Int32)) => match x with | (k, f) => 24 - k) (fun (x : Nat × (Nat → Int32)) => match x with | (k, f) => [(v0, .inr (5, [.ref v1, .ref v2, .int (nI (n + 1)), .int (nI lim), .ref v3, .ref v4, .ref v5, .ref v6, .ref v7, .ref v8, .ref v9, .ref v10, .ref v11, .ref v12, .ref v13, .ref v14, .ref v15, .ref v16, .ref v17, .int (nI 0)])), (v1, .inl (cI, 24, .inl row)), (v2, .inl (cI, 1224, .inl f)), (v3, .inl (cI, 52, .inl (upd chg ((n + 1) + 1) (nI 0)))), (v12, .inl (cI, 3, .inl sta)), (v13, .inl (cI, 3, .inl slo))]) (fun (x : Nat × (Nat → Int32)) => match x with | (k, f) => [(0, .ref v0), (1, .int (nI k))]) (fun (x : Nat × (Nat → Int32)) => match x with | (k, f) => []) ?_ (0, kept) ⟨by omega, (cpy_0 _ _ _ _).symm⟩ hP hD hS (lv_sub hl [1, 0] rfl)
    intro x9 hI47 ih47 H locs ls hP hD hS hl
    obtain ⟨k, f⟩ := x9
    have hP : va_P D vwCl [(v0, .inr (5, [.ref v1, .ref v2, .int (nI (n + 1)), .int (nI lim), .ref v3, .ref v4, .ref v5, .ref v6, .ref v7, .ref v8, .ref v9, .ref v10, .ref v11, .ref v12, .ref v13, .ref v14, .ref v15, .ref v16, .ref v17, .int (nI 0)])), (v1, .inl (cI, 24, .inl row)), (v2, .inl (cI, 1224, .inl f)), (v3, .inl (cI, 52, .inl (upd chg ((n + 1) + 1) (nI 0)))), (v12, .inl (cI, 3, .inl sta)), (v13, .inl (cI, 3, .inl slo))] H := hP
    have hD : va_D A [(v0, .inr (5, [.ref v1, .ref v2, .int (nI (n + 1)), .int (nI lim), .ref v3, .ref v4, .ref v5, .ref v6, .ref v7, .ref v8, .ref v9, .ref v10, .ref v11, .ref v12, .ref v13, .ref v14, .ref v15, .ref v16, .ref v17, .int (nI 0)])), (v1, .inl (cI, 24, .inl row)), (v2, .inl (cI, 1224, .inl f)), (v3, .inl (cI, 52, .inl (upd chg ((n + 1) + 1) (nI 0)))), (v12, .inl (cI, 3, .inl sta)), (v13, .inl (cI, 3, .inl slo))] := hD
    have hl : lv_has ls 2 [(0, .ref v0), (1, .int (nI k))] := hl
    obtain ⟨hk, hf⟩ := hI47
    refine lv_iload_n hx hb dX5_commit_47 rfl (lv_at hl 1 rfl) ?_
    refine lv_bipush (v := nI 24) hx hb dX5_commit_48 (by decide) ?_
    refine x_cmp_ge (tgt := 79) hx hb (nI_leI (a := 24) (b := k) (by omega) (by omega)) dX5_commit_50 (by decide) (fun c50 => ?_) (fun c50 => ?_)
    · obtain rfl : k = 24 := by omega
      subst hf
      refine lv_aload_n hx hb dX5_commit_79 rfl (lv_at hl 0 rfl) ?_
      refine x_calli (w2 := fun (u : Unit) => [(v0, .inr (5, [.ref v1, .ref v2, .int (nI (n + 1)), .int (nI lim), .ref v3, .ref v4, .ref v5, .ref v6, .ref v7, .ref v8, .ref v9, .ref v10, .ref v11, .ref v12, .ref v13, .ref v14, .ref v15, .ref v16, .ref v17, .int (nI 0)])), (v1, .inl (cI, 24, .inl row)), (v2, .inl (cI, 1224, .inl (va_cpy row kept 0 (24 * (n + 1)) 24))), (v3, .inl (cI, 52, .inl (upd chg ((n + 1) + 1) (nI 0)))), (v12, .inl (cI, 3, .inl (mCut sta lim st sl (n + 1) 3))), (v13, .inl (cI, 3, .inl slo))]) (wr := [(v1, .inl (cI, 24, .inl row)), (v2, .inl (cI, 1224, .inl (va_cpy row kept 0 (24 * (n + 1)) 24))), (v3, .inl (cI, 52, .inl (upd chg ((n + 1) + 1) (nI 0))))]) (x_runV (n := 0) ⟨hx, hb, hml, hown, hts⟩ (zX5_cuts l D cI cP cS cL v0 v1 v2 v3 v4 v5 v6 v7 v8 v9 v10 v11 v12 v13 v14 v15 v16 v17 (n + 1) lim (nI 0) st sl sta slo hlim hsta hst3 hslo (fun i hi => Nat.le_succ_of_le (hsl i hi)) (by omega)) gX5_commit_X5_cuts rfl rfl rfl (by decide +kernel) ⟨by decide, by decide⟩ hN hK hP hD [0, 4, 5] rfl rfl (ci := 5) (q0 := 0) rfl rfl rfl rfl hl.1 (rest := []) (As := []) rfl (Nat.le_of_ble_eq_true rfl) dX5_commit_80 ⟨by decide, by decide⟩) hP hD hS hA [0, 4, 5] [1, 2, 3] [3, 0, 1, 2, 4, 5] rfl rfl rfl (by decide) rfl (fun _ => rfl) (fun r80 u H locs hw hP hD hS => ?_)
      subst hw
      refine lv_pop hx hb dX5_commit_83 rfl ?_
      refine lv_aload_n hx hb dX5_commit_84 rfl (lv_at hl 0 rfl) ?_
      refine va_get (D := D) (ci := 5) (v := .int (nI (n + 1))) (C := RX5) (T := TX5) (N := 20) hx hb hts kX5_commit_X5 hown hK hP 0 rfl rfl 2 (by decide) (hts _ kX5_commit_f76) (fun _ h9 => h9) rfl dX5_commit_85 ?_
      exact x_ret_i hx hb hrt hlk hP hD hS dX5_commit_88 ⟨by decide, by decide⟩ (nI 0, n + 1, va_cpy row kept 0 (24 * (n + 1)) 24, upd chg ((n + 1) + 1) (nI 0), mCut sta lim st sl (n + 1) 3) (Or.inr ⟨by omega, rfl, rfl, rfl, rfl, rfl, rfl⟩) rfl
    · refine lv_aload_n hx hb dX5_commit_53 rfl (lv_at hl 0 rfl) ?_
      refine va_get (D := D) (ci := 5) (v := .ref v2) (C := RX5) (T := TX5) (N := 20) hx hb hts kX5_commit_X5 hown hK hP 0 rfl rfl 1 (by decide) (hts _ kX5_commit_f13) (fun _ h9 => h9) rfl dX5_commit_54 ?_
      refine lv_bipush (v := nI 24) hx hb dX5_commit_57 (by decide) ?_
      refine lv_aload_n hx hb dX5_commit_59 rfl (lv_at hl 0 rfl) ?_
      refine va_get (D := D) (ci := 5) (v := .int (nI (n + 1))) (C := RX5) (T := TX5) (N := 20) hx hb hts kX5_commit_X5 hown hK hP 0 rfl rfl 2 (by decide) (hts _ kX5_commit_f76) (fun _ h9 => h9) rfl dX5_commit_60 ?_
      refine x_mul (k := 24 * (n + 1)) hx hb dX5_commit_63 rfl ?_
      refine lv_iload_n hx hb dX5_commit_64 rfl (lv_at hl 1 rfl) ?_
      refine x_add (k := (24 * (n + 1)) + k) hx hb dX5_commit_65 rfl ?_
      refine lv_aload_n hx hb dX5_commit_66 rfl (lv_at hl 0 rfl) ?_
      refine va_get (D := D) (ci := 5) (v := .ref v1) (C := RX5) (T := TX5) (N := 20) hx hb hts kX5_commit_X5 hown hK hP 0 rfl rfl 0 (by decide) (hts _ kX5_commit_f7) (fun _ h9 => h9) rfl dX5_commit_67 ?_
      refine lv_iload_n hx hb dX5_commit_70 rfl (lv_at hl 1 rfl) ?_
      refine x_ald (v := row k) hx hb hK hP 1 0 rfl rfl (by omega) (by omega) rfl dX5_commit_71 ?_
      refine x_ast (g := upd f ((24 * (n + 1)) + k) (row k)) (ws' := [(v0, .inr (5, [.ref v1, .ref v2, .int (nI (n + 1)), .int (nI lim), .ref v3, .ref v4, .ref v5, .ref v6, .ref v7, .ref v8, .ref v9, .ref v10, .ref v11, .ref v12, .ref v13, .ref v14, .ref v15, .ref v16, .ref v17, .int (nI 0)])), (v1, .inl (cI, 24, .inl row)), (v2, .inl (cI, 1224, .inl (upd f ((24 * (n + 1)) + k) (row k)))), (v3, .inl (cI, 52, .inl (upd chg ((n + 1) + 1) (nI 0)))), (v12, .inl (cI, 3, .inl sta)), (v13, .inl (cI, 3, .inl slo))]) hx hb hK hP hD hS 2 0 rfl rfl (by omega) (by omega) (rfl) rfl dX5_commit_72 (fun H locs hP hD hS => ?_)
      refine x_iinc (k := 1) (o := 1) (v := k + 1) (lv' := [(1, .int (nI (k + 1))), (0, .ref v0)]) hx hb dX5_commit_73 hl rfl rfl rfl (by decide) rfl (fun ls hl => ?_)
      refine lv_goto (tgt := 47) hx hb dX5_commit_76 (by decide) ?_
      exact ih47 (k + 1, upd f ((24 * (n + 1)) + k) (row k)) ⟨by omega, (by rw [hf]; exact cpy_t0 _ _ _ _)⟩ (by show 24 - (k + 1) < 24 - k; omega) _ _ _ hP hD hS (lv_sub hl [1, 0] rfl)
  · refine lv_iconst (v := nI 1) hx hb dX5_commit_10 (by decide) ?_
    refine lv_goto (tgt := 15) hx hb dX5_commit_11 (by decide) ?_
    refine x_calli (w2 := fun (u : Unit) => [(v0, .inr (5, [.ref v1, .ref v2, .int (nI n), .int (nI lim), .ref v3, .ref v4, .ref v5, .ref v6, .ref v7, .ref v8, .ref v9, .ref v10, .ref v11, .ref v12, .ref v13, .ref v14, .ref v15, .ref v16, .ref v17, .int (nI 1)])), (v1, .inl (cI, 24, .inl row)), (v2, .inl (cI, 1224, .inl kept)), (v3, .inl (cI, 52, .inl chg)), (v12, .inl (cI, 3, .inl sta)), (v13, .inl (cI, 3, .inl slo))]) (wr := [(v1, .inl (cI, 24, .inl row)), (v2, .inl (cI, 1224, .inl kept)), (v3, .inl (cI, 52, .inl chg)), (v12, .inl (cI, 3, .inl sta)), (v13, .inl (cI, 3, .inl slo))]) (x_runV (n := 1) ⟨hx, hb, hml, hown, hts⟩ (zX5_fails l D cI cP cS cL v0 v1 v2 v3 v4 v5 v6 v7 v8 v9 v10 v11 v12 v13 v14 v15 v16 v17 n lim (th) 1 (by decide)) gX5_commit_X5_fails rfl rfl rfl (by decide +kernel) ⟨by decide, by decide⟩ hN hK hP hD [0] rfl rfl (ci := 5) (q0 := 0) rfl rfl rfl rfl hl.1 (rest := []) (As := [.int (nI 1)]) rfl (Nat.le_of_ble_eq_true rfl) dX5_commit_15 ⟨by decide, by decide⟩) hP hD hS hA [0] [1, 2, 3, 4, 5] [5, 0, 1, 2, 3, 4] rfl rfl rfl (by decide) rfl (fun _ => rfl) (fun r15 u H locs hw hP hD hS => ?_)
    replace hw : r15 = nI 1 := hw.trans (by decide)
    subst hw
    refine x_if_eq (tgt := 23) hx hb (nI_z (by omega)) dX5_commit_18 (by decide) (fun c18 => ?_) (fun c18 => ?_)
    · exact absurd c18 (by omega)
    refine lv_iconst (v := nI 0) hx hb dX5_commit_21 (by decide) ?_
    exact x_ret_i hx hb hrt hlk hP hD hS dX5_commit_22 ⟨by decide, by decide⟩ (nI 1, n, kept, chg, sta) (Or.inl ⟨c7, rfl, rfl, rfl, rfl, rfl⟩) rfl

set_option maxRecDepth 20000 in
theorem kX5_rollBack_f65 : Cond.fieldLink RX5 65 "RowReplicatorModel" "thrown" "I" ∈ wsX5_rollBack := by decide +kernel
set_option maxRecDepth 20000 in
theorem kX5_rollBack_X5 : ∀ w ∈ wsX50, w ∈ wsX5_rollBack := by decide +kernel
set_option maxRecDepth 20000 in
theorem kX5_rollBack_f20 : Cond.fieldLink RX5 20 "RowReplicatorModel" "changes" "[I" ∈ wsX5_rollBack := by decide +kernel
set_option maxRecDepth 20000 in
theorem kX5_rollBack_f76 : Cond.fieldLink RX5 76 "RowReplicatorModel" "commits" "I" ∈ wsX5_rollBack := by decide +kernel
set_option maxRecDepth 20000 in
theorem kX5_rollBack_f7 : Cond.fieldLink RX5 7 "RowReplicatorModel" "row" "[I" ∈ wsX5_rollBack := by decide +kernel
set_option maxRecDepth 20000 in
theorem kX5_rollBack_f13 : Cond.fieldLink RX5 13 "RowReplicatorModel" "kept" "[I" ∈ wsX5_rollBack := by decide +kernel
set_option maxHeartbeats 4000000 in
set_option maxRecDepth 100000 in
theorem zX5_rollBack (l : Launch) (D : va_G) (cI cP cS cL : ClassId) (v0 v1 v2 v3 v4 v5 v6 v7 v8 v9 v10 v11 v12 v13 v14 v15 v16 v17 : Nat) (n lim : Nat) (th : Int32) (cn : Nat) (row kept chg : Nat → Int32) (hn9 : n ≤ 50) (hcn0 : chg (n + 1) = nI cn) (hcn : cn ≤ 12) : xMi l yX5_rollBack wsX5_rollBack (rmD 0 0 0) D [(cI, .int), (cP, .object RX0), (cS, .object RX2), (cL, .long)] [.ref v0] [(v0, .inr (5, [.ref v1, .ref v2, .int (nI n), .int (nI lim), .ref v3, .ref v4, .ref v5, .ref v6, .ref v7, .ref v8, .ref v9, .ref v10, .ref v11, .ref v12, .ref v13, .ref v14, .ref v15, .ref v16, .ref v17, .int th])), (v1, .inl (cI, 24, .inl row)), (v2, .inl (cI, 1224, .inl kept)), (v3, .inl (cI, 52, .inl chg))] (fun (r : Int32) (u : Unit) => r = nI cn) (fun (u : Unit) => [(v0, .inr (5, [.ref v1, .ref v2, .int (nI n), .int (nI lim), .ref v3, .ref v4, .ref v5, .ref v6, .ref v7, .ref v8, .ref v9, .ref v10, .ref v11, .ref v12, .ref v13, .ref v14, .ref v15, .ref v16, .ref v17, .int (nI 0)])), (v1, .inl (cI, 24, .inl (va_cpy kept row (24 * n) 0 24))), (v2, .inl (cI, 1224, .inl kept)), (v3, .inl (cI, 52, .inl (upd chg (n + 1) (nI 0))))]) 0 0 := by
  refine xe_i (cc := cX5_rollBack) (maxL := 3) (ret := (some .int)) (by decide) rfl (Nat.le_of_ble_eq_true rfl) ?_
  intro zp ze s zm below meth zc A ls B
  obtain ⟨hx, hb, hml, hrt, hts, hown, hnm, hlk, hK, hP, hD, hA, hS, hN, hl⟩ := B
  have hown : s.vm.findClass RX5 = some zm.cls := hown
  have hl : lv_has ls 3 [(0, .ref v0)] := hl
  have hA : ∀ q, s.heap.size ≤ q → A q := hA
  refine lv_aload_n hx hb dX5_rollBack_0 rfl (lv_at hl 0 rfl) ?_
  refine lv_iconst (v := nI 0) hx hb dX5_rollBack_1 (by decide) ?_
  refine x_put (fs' := [.ref v1, .ref v2, .int (nI n), .int (nI lim), .ref v3, .ref v4, .ref v5, .ref v6, .ref v7, .ref v8, .ref v9, .ref v10, .ref v11, .ref v12, .ref v13, .ref v14, .ref v15, .ref v16, .ref v17, .int (nI 0)]) (ws' := [(v0, .inr (5, [.ref v1, .ref v2, .int (nI n), .int (nI lim), .ref v3, .ref v4, .ref v5, .ref v6, .ref v7, .ref v8, .ref v9, .ref v10, .ref v11, .ref v12, .ref v13, .ref v14, .ref v15, .ref v16, .ref v17, .int (nI 0)])), (v1, .inl (cI, 24, .inl row)), (v2, .inl (cI, 1224, .inl kept)), (v3, .inl (cI, 52, .inl chg))]) (v := .int (nI 0)) (ty := .int) (C := RX5) (T := TX5) (N := 20) (ci := 5) hx hb hts kX5_rollBack_X5 tyX5 tyX5_ok nmX5 hown hK hP hD hS 0 rfl rfl 19 (by decide) (hts _ kX5_rollBack_f65) (fun _ h9 => h9) rfl (by decide +kernel) rfl rfl (Nat.le_of_ble_eq_true rfl) rfl rfl dX5_rollBack_2 (fun H locs hP hD hS => ?_)
  refine lv_aload_n hx hb dX5_rollBack_5 rfl (lv_at hl 0 rfl) ?_
  refine va_get (D := D) (ci := 5) (v := .ref v3) (C := RX5) (T := TX5) (N := 20) hx hb hts kX5_rollBack_X5 hown hK hP 0 rfl rfl 4 (by decide) (hts _ kX5_rollBack_f20) (fun _ h9 => h9) rfl dX5_rollBack_6 ?_
  refine lv_aload_n hx hb dX5_rollBack_9 rfl (lv_at hl 0 rfl) ?_
  refine va_get (D := D) (ci := 5) (v := .int (nI n)) (C := RX5) (T := TX5) (N := 20) hx hb hts kX5_rollBack_X5 hown hK hP 0 rfl rfl 2 (by decide) (hts _ kX5_rollBack_f76) (fun _ h9 => h9) rfl dX5_rollBack_10 ?_
  refine lv_iconst (v := nI 1) hx hb dX5_rollBack_13 (by decide) ?_
  refine x_add (k := n + 1) hx hb dX5_rollBack_14 rfl ?_
  refine x_ald (v := nI cn) hx hb hK hP 3 0 rfl rfl (by omega) (by omega) hcn0 dX5_rollBack_15 ?_
  refine lv_istore_n (lv' := [(1, .int (nI cn)), (0, .ref v0)]) hx hb dX5_rollBack_16 rfl hl (by decide) rfl (fun ls hl => ?_)
  refine lv_aload_n hx hb dX5_rollBack_17 rfl (lv_at hl 1 rfl) ?_
  refine va_get (D := D) (ci := 5) (v := .ref v3) (C := RX5) (T := TX5) (N := 20) hx hb hts kX5_rollBack_X5 hown hK hP 0 rfl rfl 4 (by decide) (hts _ kX5_rollBack_f20) (fun _ h9 => h9) rfl dX5_rollBack_18 ?_
  refine lv_aload_n hx hb dX5_rollBack_21 rfl (lv_at hl 1 rfl) ?_
  refine va_get (D := D) (ci := 5) (v := .int (nI n)) (C := RX5) (T := TX5) (N := 20) hx hb hts kX5_rollBack_X5 hown hK hP 0 rfl rfl 2 (by decide) (hts _ kX5_rollBack_f76) (fun _ h9 => h9) rfl dX5_rollBack_22 ?_
  refine lv_iconst (v := nI 1) hx hb dX5_rollBack_25 (by decide) ?_
  refine x_add (k := n + 1) hx hb dX5_rollBack_26 rfl ?_
  refine lv_iconst (v := nI 0) hx hb dX5_rollBack_27 (by decide) ?_
  refine x_ast (g := upd chg (n + 1) (nI 0)) (ws' := [(v0, .inr (5, [.ref v1, .ref v2, .int (nI n), .int (nI lim), .ref v3, .ref v4, .ref v5, .ref v6, .ref v7, .ref v8, .ref v9, .ref v10, .ref v11, .ref v12, .ref v13, .ref v14, .ref v15, .ref v16, .ref v17, .int (nI 0)])), (v1, .inl (cI, 24, .inl row)), (v2, .inl (cI, 1224, .inl kept)), (v3, .inl (cI, 52, .inl (upd chg (n + 1) (nI 0))))]) hx hb hK hP hD hS 3 0 rfl rfl (by omega) (by omega) (rfl) rfl dX5_rollBack_28 (fun H locs hP hD hS => ?_)
  refine lv_iconst (v := nI 0) hx hb dX5_rollBack_29 (by decide) ?_
  refine lv_istore_n (lv' := [(2, .int (nI 0)), (1, .int (nI cn)), (0, .ref v0)]) hx hb dX5_rollBack_30 rfl hl (by decide) rfl (fun ls hl => ?_)
  refine x_loop (nL := 3) (fun (x : Nat × (Nat → Int32)) => match x with | (k, f) => k ≤ 24 ∧ f = va_cpy kept row (24 * n) 0 k) (fun (x : Nat × (Nat → Int32)) => match x with | (k, f) => 24 - k) (fun (x : Nat × (Nat → Int32)) => match x with | (k, f) => [(v0, .inr (5, [.ref v1, .ref v2, .int (nI n), .int (nI lim), .ref v3, .ref v4, .ref v5, .ref v6, .ref v7, .ref v8, .ref v9, .ref v10, .ref v11, .ref v12, .ref v13, .ref v14, .ref v15, .ref v16, .ref v17, .int (nI 0)])), (v1, .inl (cI, 24, .inl f)), (v2, .inl (cI, 1224, .inl kept)), (v3, .inl (cI, 52, .inl (upd chg (n + 1) (nI 0))))]) (fun (x : Nat × (Nat → Int32)) => match x with | (k, f) => [(0, .ref v0), (1, .int (nI cn)), (2, .int (nI k))]) (fun (x : Nat × (Nat → Int32)) => match x with | (k, f) => []) ?_ (0, row) ⟨by omega, (cpy_0 _ _ _ _).symm⟩ hP hD hS (lv_sub hl [2, 1, 0] rfl)
  intro x9 hI31 ih31 H locs ls hP hD hS hl
  obtain ⟨k, f⟩ := x9
  have hP : va_P D vwCl [(v0, .inr (5, [.ref v1, .ref v2, .int (nI n), .int (nI lim), .ref v3, .ref v4, .ref v5, .ref v6, .ref v7, .ref v8, .ref v9, .ref v10, .ref v11, .ref v12, .ref v13, .ref v14, .ref v15, .ref v16, .ref v17, .int (nI 0)])), (v1, .inl (cI, 24, .inl f)), (v2, .inl (cI, 1224, .inl kept)), (v3, .inl (cI, 52, .inl (upd chg (n + 1) (nI 0))))] H := hP
  have hD : va_D A [(v0, .inr (5, [.ref v1, .ref v2, .int (nI n), .int (nI lim), .ref v3, .ref v4, .ref v5, .ref v6, .ref v7, .ref v8, .ref v9, .ref v10, .ref v11, .ref v12, .ref v13, .ref v14, .ref v15, .ref v16, .ref v17, .int (nI 0)])), (v1, .inl (cI, 24, .inl f)), (v2, .inl (cI, 1224, .inl kept)), (v3, .inl (cI, 52, .inl (upd chg (n + 1) (nI 0))))] := hD
  have hl : lv_has ls 3 [(0, .ref v0), (1, .int (nI cn)), (2, .int (nI k))] := hl
  obtain ⟨hk, hf⟩ := hI31
  refine lv_iload_n hx hb dX5_rollBack_31 rfl (lv_at hl 2 rfl) ?_
  refine lv_bipush (v := nI 24) hx hb dX5_rollBack_32 (by decide) ?_
  refine x_cmp_ge (tgt := 63) hx hb (nI_leI (a := 24) (b := k) (by omega) (by omega)) dX5_rollBack_34 (by decide) (fun c34 => ?_) (fun c34 => ?_)
  · obtain rfl : k = 24 := by omega
    subst hf
    refine lv_iload_n hx hb dX5_rollBack_63 rfl (lv_at hl 1 rfl) ?_
    exact x_ret_i hx hb hrt hlk hP hD hS dX5_rollBack_64 ⟨by decide, by decide⟩ () rfl rfl
  · refine lv_aload_n hx hb dX5_rollBack_37 rfl (lv_at hl 0 rfl) ?_
    refine va_get (D := D) (ci := 5) (v := .ref v1) (C := RX5) (T := TX5) (N := 20) hx hb hts kX5_rollBack_X5 hown hK hP 0 rfl rfl 0 (by decide) (hts _ kX5_rollBack_f7) (fun _ h9 => h9) rfl dX5_rollBack_38 ?_
    refine lv_iload_n hx hb dX5_rollBack_41 rfl (lv_at hl 2 rfl) ?_
    refine lv_aload_n hx hb dX5_rollBack_42 rfl (lv_at hl 0 rfl) ?_
    refine va_get (D := D) (ci := 5) (v := .ref v2) (C := RX5) (T := TX5) (N := 20) hx hb hts kX5_rollBack_X5 hown hK hP 0 rfl rfl 1 (by decide) (hts _ kX5_rollBack_f13) (fun _ h9 => h9) rfl dX5_rollBack_43 ?_
    refine lv_bipush (v := nI 24) hx hb dX5_rollBack_46 (by decide) ?_
    refine lv_aload_n hx hb dX5_rollBack_48 rfl (lv_at hl 0 rfl) ?_
    refine va_get (D := D) (ci := 5) (v := .int (nI n)) (C := RX5) (T := TX5) (N := 20) hx hb hts kX5_rollBack_X5 hown hK hP 0 rfl rfl 2 (by decide) (hts _ kX5_rollBack_f76) (fun _ h9 => h9) rfl dX5_rollBack_49 ?_
    refine x_mul (k := 24 * n) hx hb dX5_rollBack_52 rfl ?_
    refine lv_iload_n hx hb dX5_rollBack_53 rfl (lv_at hl 2 rfl) ?_
    refine x_add (k := (24 * n) + k) hx hb dX5_rollBack_54 rfl ?_
    refine x_ald (v := kept ((24 * n) + k)) hx hb hK hP 2 0 rfl rfl (by omega) (by omega) rfl dX5_rollBack_55 ?_
    refine x_ast (g := upd f k (kept ((24 * n) + k))) (ws' := [(v0, .inr (5, [.ref v1, .ref v2, .int (nI n), .int (nI lim), .ref v3, .ref v4, .ref v5, .ref v6, .ref v7, .ref v8, .ref v9, .ref v10, .ref v11, .ref v12, .ref v13, .ref v14, .ref v15, .ref v16, .ref v17, .int (nI 0)])), (v1, .inl (cI, 24, .inl (upd f k (kept ((24 * n) + k))))), (v2, .inl (cI, 1224, .inl kept)), (v3, .inl (cI, 52, .inl (upd chg (n + 1) (nI 0))))]) hx hb hK hP hD hS 1 0 rfl rfl (by omega) (by omega) (rfl) rfl dX5_rollBack_56 (fun H locs hP hD hS => ?_)
    refine x_iinc (k := 2) (o := 1) (v := k + 1) (lv' := [(2, .int (nI (k + 1))), (0, .ref v0), (1, .int (nI cn))]) hx hb dX5_rollBack_57 hl rfl rfl rfl (by decide) rfl (fun ls hl => ?_)
    refine lv_goto (tgt := 31) hx hb dX5_rollBack_60 (by decide) ?_
    exact ih31 (k + 1, upd f k (kept ((24 * n) + k))) ⟨by omega, (by rw [hf]; exact cpy_s0 _ _ _ _)⟩ (by show 24 - (k + 1) < 24 - k; omega) _ _ _ hP hD hS (lv_sub hl [1, 2, 0] rfl)

set_option maxRecDepth 20000 in
theorem kX5_setLimit_f16 : Cond.fieldLink RX5 16 "RowReplicatorModel" "limit" "I" ∈ wsX5_setLimit := by decide +kernel
set_option maxRecDepth 20000 in
theorem kX5_setLimit_X5 : ∀ w ∈ wsX50, w ∈ wsX5_setLimit := by decide +kernel
set_option maxHeartbeats 4000000 in
set_option maxRecDepth 100000 in
theorem zX5_setLimit (l : Launch) (D : va_G) (cI cP cS cL : ClassId) (v0 v1 v2 v3 v4 v5 v6 v7 v8 v9 v10 v11 v12 v13 v14 v15 v16 v17 : Nat) (n lim : Nat) (th : Int32) (st sl : Nat → Nat) (sta slo : Nat → Int32) (vx : Int32) (hsta : ∀ i, i < 3 → sta i = nI (st i)) (hst3 : ∀ i, i < 3 → st i ≤ 3) (hslo : ∀ i, i < 3 → slo i = nI (sl i)) (hsl : ∀ i, i < 3 → sl i ≤ n) (hn9 : n ≤ 50) : xMi l yX5_setLimit wsX5_setLimit (rmD 2 0 0) D [(cI, .int), (cP, .object RX0), (cS, .object RX2), (cL, .long)] [.ref v0, .int vx] [(v0, .inr (5, [.ref v1, .ref v2, .int (nI n), .int (nI lim), .ref v3, .ref v4, .ref v5, .ref v6, .ref v7, .ref v8, .ref v9, .ref v10, .ref v11, .ref v12, .ref v13, .ref v14, .ref v15, .ref v16, .ref v17, .int th])), (v12, .inl (cI, 3, .inl sta)), (v13, .inl (cI, 3, .inl slo))] (fun (r : Int32) (u : Int32 × Nat × (Nat → Int32)) => match u with | (h, lm, a3) => ((¬ vp_in vx 51 ∧ h = nI 1 ∧ lm = lim ∧ a3 = sta) ∨ (∃ vn, vx = nI vn ∧ vn < 51 ∧ h = nI 0 ∧ r = nI (mCutS vn st sl n 3) ∧ lm = vn ∧ a3 = mCut sta vn st sl n 3))) (fun (u : Int32 × Nat × (Nat → Int32)) => match u with | (h, lm, a3) => [(v0, .inr (5, [.ref v1, .ref v2, .int (nI n), .int (nI lm), .ref v3, .ref v4, .ref v5, .ref v6, .ref v7, .ref v8, .ref v9, .ref v10, .ref v11, .ref v12, .ref v13, .ref v14, .ref v15, .ref v16, .ref v17, .int h])), (v12, .inl (cI, 3, .inl a3)), (v13, .inl (cI, 3, .inl slo))]) 0 0 := by
  refine xe_i (cc := cX5_setLimit) (maxL := 2) (ret := (some .int)) (by decide) rfl (Nat.le_of_ble_eq_true rfl) ?_
  intro zp ze s zm below meth zc A ls B
  obtain ⟨hx, hb, hml, hrt, hts, hown, hnm, hlk, hK, hP, hD, hA, hS, hN, hl⟩ := B
  have hown : s.vm.findClass RX5 = some zm.cls := hown
  have hl : lv_has ls 2 [(0, .ref v0), (1, .int vx)] := hl
  have hA : ∀ q, s.heap.size ≤ q → A q := hA
  refine lv_aload_n hx hb dX5_setLimit_0 rfl (lv_at hl 0 rfl) ?_
  refine lv_iload_n hx hb dX5_setLimit_1 rfl (lv_at hl 1 rfl) ?_
  refine lv_iconst (v := nI 0) hx hb dX5_setLimit_2 (by decide) ?_
  refine lv_bipush (v := nI 50) hx hb dX5_setLimit_3 (by decide) ?_
  refine x_calli (w2 := fun (u : Unit) => [(v0, .inr (5, [.ref v1, .ref v2, .int (nI n), .int (nI lim), .ref v3, .ref v4, .ref v5, .ref v6, .ref v7, .ref v8, .ref v9, .ref v10, .ref v11, .ref v12, .ref v13, .ref v14, .ref v15, .ref v16, .ref v17, .int th])), (v12, .inl (cI, 3, .inl sta)), (v13, .inl (cI, 3, .inl slo))]) (wr := [(v0, .inr (5, [.ref v1, .ref v2, .int (nI n), .int (nI lim), .ref v3, .ref v4, .ref v5, .ref v6, .ref v7, .ref v8, .ref v9, .ref v10, .ref v11, .ref v12, .ref v13, .ref v14, .ref v15, .ref v16, .ref v17, .int th])), (v12, .inl (cI, 3, .inl sta)), (v13, .inl (cI, 3, .inl slo))]) (x_runS (n := 3) ⟨hx, hb, hml, hown, hts⟩ (zX5_isIn l D cI cP cS cL vx (nI 0) (nI 50)) gX5_setLimit_X5_isIn rfl rfl rfl (by decide +kernel) ⟨by decide, by decide⟩ hN hK hP hD [] rfl rfl rfl hl.1 (rest := [.ref v0]) (As := [.int vx, .int (nI 0), .int (nI 50)]) rfl (Nat.le_of_ble_eq_true rfl) dX5_setLimit_5 ⟨by decide, by decide⟩) hP hD hS hA [] [0, 1, 2] [0, 1, 2] rfl rfl rfl (by decide) rfl (fun _ => rfl) (fun r5 u H locs hw hP hD hS => ?_)
  rw [qIn_and (by decide)] at hw
  subst hw
  refine x_if_eq (tgt := 15) hx hb (bI_0 _) dX5_setLimit_8 (by decide) (fun c8 => ?_) (fun c8 => ?_)
  · refine lv_iconst (v := nI 1) hx hb dX5_setLimit_15 (by decide) ?_
    refine x_calli (w2 := fun (u : Unit) => [(v0, .inr (5, [.ref v1, .ref v2, .int (nI n), .int (nI lim), .ref v3, .ref v4, .ref v5, .ref v6, .ref v7, .ref v8, .ref v9, .ref v10, .ref v11, .ref v12, .ref v13, .ref v14, .ref v15, .ref v16, .ref v17, .int (nI 1)])), (v12, .inl (cI, 3, .inl sta)), (v13, .inl (cI, 3, .inl slo))]) (wr := [(v12, .inl (cI, 3, .inl sta)), (v13, .inl (cI, 3, .inl slo))]) (x_runV (n := 1) ⟨hx, hb, hml, hown, hts⟩ (zX5_fails l D cI cP cS cL v0 v1 v2 v3 v4 v5 v6 v7 v8 v9 v10 v11 v12 v13 v14 v15 v16 v17 n lim (th) 1 (by decide)) gX5_setLimit_X5_fails rfl rfl rfl (by decide +kernel) ⟨by decide, by decide⟩ hN hK hP hD [0] rfl rfl (ci := 5) (q0 := 0) rfl rfl rfl rfl hl.1 (rest := []) (As := [.int (nI 1)]) rfl (Nat.le_of_ble_eq_true rfl) dX5_setLimit_16 ⟨by decide, by decide⟩) hP hD hS hA [0] [1, 2] [2, 0, 1] rfl rfl rfl (by decide) rfl (fun _ => rfl) (fun r16 u H locs hw hP hD hS => ?_)
    replace hw : r16 = nI 1 := hw.trans (by decide)
    subst hw
    refine x_if_eq (tgt := 24) hx hb (nI_z (by omega)) dX5_setLimit_19 (by decide) (fun c19 => ?_) (fun c19 => ?_)
    · exact absurd c19 (by omega)
    refine lv_iconst (v := nI 0) hx hb dX5_setLimit_22 (by decide) ?_
    exact x_ret_i hx hb hrt hlk hP hD hS dX5_setLimit_23 ⟨by decide, by decide⟩ (nI 1, lim, sta) (Or.inl ⟨qIn_n c8, rfl, rfl, rfl⟩) rfl
  · obtain ⟨vn, hvn9, evn⟩ := vp_in_of (qIn_y c8) (by decide)
    subst evn
    refine lv_iconst (v := nI 0) hx hb dX5_setLimit_11 (by decide) ?_
    refine lv_goto (tgt := 16) hx hb dX5_setLimit_12 (by decide) ?_
    refine x_calli (w2 := fun (u : Unit) => [(v0, .inr (5, [.ref v1, .ref v2, .int (nI n), .int (nI lim), .ref v3, .ref v4, .ref v5, .ref v6, .ref v7, .ref v8, .ref v9, .ref v10, .ref v11, .ref v12, .ref v13, .ref v14, .ref v15, .ref v16, .ref v17, .int (nI 0)])), (v12, .inl (cI, 3, .inl sta)), (v13, .inl (cI, 3, .inl slo))]) (wr := [(v12, .inl (cI, 3, .inl sta)), (v13, .inl (cI, 3, .inl slo))]) (x_runV (n := 1) ⟨hx, hb, hml, hown, hts⟩ (zX5_fails l D cI cP cS cL v0 v1 v2 v3 v4 v5 v6 v7 v8 v9 v10 v11 v12 v13 v14 v15 v16 v17 n lim (th) 0 (by decide)) gX5_setLimit_X5_fails rfl rfl rfl (by decide +kernel) ⟨by decide, by decide⟩ hN hK hP hD [0] rfl rfl (ci := 5) (q0 := 0) rfl rfl rfl rfl hl.1 (rest := []) (As := [.int (nI 0)]) rfl (Nat.le_of_ble_eq_true rfl) dX5_setLimit_16 ⟨by decide, by decide⟩) hP hD hS hA [0] [1, 2] [2, 0, 1] rfl rfl rfl (by decide) rfl (fun _ => rfl) (fun r16 u H locs hw hP hD hS => ?_)
    replace hw : r16 = nI 0 := hw.trans (by decide)
    subst hw
    refine x_if_eq (tgt := 24) hx hb (nI_z (by omega)) dX5_setLimit_19 (by decide) (fun c19 => ?_) (fun c19 => ?_)
    rotate_left
    · exact absurd c19 (by omega)
    refine lv_aload_n hx hb dX5_setLimit_24 rfl (lv_at hl 0 rfl) ?_
    refine lv_iload_n hx hb dX5_setLimit_25 rfl (lv_at hl 1 rfl) ?_
    refine x_put (fs' := [.ref v1, .ref v2, .int (nI n), .int (nI vn), .ref v3, .ref v4, .ref v5, .ref v6, .ref v7, .ref v8, .ref v9, .ref v10, .ref v11, .ref v12, .ref v13, .ref v14, .ref v15, .ref v16, .ref v17, .int (nI 0)]) (ws' := [(v0, .inr (5, [.ref v1, .ref v2, .int (nI n), .int (nI vn), .ref v3, .ref v4, .ref v5, .ref v6, .ref v7, .ref v8, .ref v9, .ref v10, .ref v11, .ref v12, .ref v13, .ref v14, .ref v15, .ref v16, .ref v17, .int (nI 0)])), (v12, .inl (cI, 3, .inl sta)), (v13, .inl (cI, 3, .inl slo))]) (v := .int (nI vn)) (ty := .int) (C := RX5) (T := TX5) (N := 20) (ci := 5) hx hb hts kX5_setLimit_X5 tyX5 tyX5_ok nmX5 hown hK hP hD hS 0 rfl rfl 3 (by decide) (hts _ kX5_setLimit_f16) (fun _ h9 => h9) rfl (by decide +kernel) rfl rfl (Nat.le_of_ble_eq_true rfl) rfl rfl dX5_setLimit_26 (fun H locs hP hD hS => ?_)
    refine lv_aload_n hx hb dX5_setLimit_29 rfl (lv_at hl 0 rfl) ?_
    refine x_calli (w2 := fun (u : Unit) => [(v0, .inr (5, [.ref v1, .ref v2, .int (nI n), .int (nI vn), .ref v3, .ref v4, .ref v5, .ref v6, .ref v7, .ref v8, .ref v9, .ref v10, .ref v11, .ref v12, .ref v13, .ref v14, .ref v15, .ref v16, .ref v17, .int (nI 0)])), (v12, .inl (cI, 3, .inl (mCut sta vn st sl n 3))), (v13, .inl (cI, 3, .inl slo))]) (wr := []) (x_runV (n := 0) ⟨hx, hb, hml, hown, hts⟩ (zX5_cuts l D cI cP cS cL v0 v1 v2 v3 v4 v5 v6 v7 v8 v9 v10 v11 v12 v13 v14 v15 v16 v17 n vn (nI 0) st sl sta slo (by omega) hsta hst3 hslo hsl hn9) gX5_setLimit_X5_cuts rfl rfl rfl (by decide +kernel) ⟨by decide, by decide⟩ hN hK hP hD [0, 1, 2] rfl rfl (ci := 5) (q0 := 0) rfl rfl rfl rfl hl.1 (rest := []) (As := []) rfl (Nat.le_of_ble_eq_true rfl) dX5_setLimit_30 ⟨by decide, by decide⟩) hP hD hS hA [0, 1, 2] [] [0, 1, 2] rfl rfl rfl (by decide) rfl (fun _ => rfl) (fun r30 u H locs hw hP hD hS => ?_)
    subst hw
    exact x_ret_i hx hb hrt hlk hP hD hS dX5_setLimit_33 ⟨by decide, by decide⟩ (nI 0, vn, mCut sta vn st sl n 3) (Or.inr ⟨vn, rfl, hvn9, rfl, rfl, rfl, rfl⟩) rfl

set_option maxRecDepth 20000 in
theorem kX5_forgets_f47 : Cond.fieldLink RX5 47 "RowReplicatorModel" "state" "[I" ∈ wsX5_forgets := by decide +kernel
set_option maxRecDepth 20000 in
theorem kX5_forgets_X5 : ∀ w ∈ wsX50, w ∈ wsX5_forgets := by decide +kernel
set_option maxRecDepth 20000 in
theorem kX5_forgets_f44 : Cond.fieldLink RX5 44 "RowReplicatorModel" "book" "[I" ∈ wsX5_forgets := by decide +kernel
set_option maxRecDepth 20000 in
theorem kX5_forgets_f53 : Cond.fieldLink RX5 53 "RowReplicatorModel" "copied" "[I" ∈ wsX5_forgets := by decide +kernel
set_option maxHeartbeats 4000000 in
set_option maxRecDepth 100000 in
theorem zX5_forgets (l : Launch) (D : va_G) (cI cP cS cL : ClassId) (v0 v1 v2 v3 v4 v5 v6 v7 v8 v9 v10 v11 v12 v13 v14 v15 v16 v17 : Nat) (n lim : Nat) (th : Int32) (st bk : Nat → Nat) (sta boo cop : Nat → Int32) (p t : Nat) (hp3 : p < 3) (ht2 : t < 2) (hsta : ∀ i, i < 3 → sta i = nI (st i)) (hst3 : ∀ i, i < 3 → st i ≤ 3) (hboo : ∀ i, i < 3 → boo i = nI (bk i)) (hbk : ∀ i, i < 3 → bk i < 3) : xMi l yX5_forgets wsX5_forgets (rmD 0 0 0) D [(cI, .int), (cP, .object RX0), (cS, .object RX2), (cL, .long)] [.ref v0, .int (nI p), .int (nI t)] [(v0, .inr (5, [.ref v1, .ref v2, .int (nI n), .int (nI lim), .ref v3, .ref v4, .ref v5, .ref v6, .ref v7, .ref v8, .ref v9, .ref v10, .ref v11, .ref v12, .ref v13, .ref v14, .ref v15, .ref v16, .ref v17, .int th])), (v12, .inl (cI, 3, .inl sta)), (v11, .inl (cI, 3, .inl boo)), (v14, .inl (cI, 6, .inl cop))] (fun (r : Int32) (u : Unit) => r = nI (mFgN cop st bk p t 3)) (fun (u : Unit) => [(v0, .inr (5, [.ref v1, .ref v2, .int (nI n), .int (nI lim), .ref v3, .ref v4, .ref v5, .ref v6, .ref v7, .ref v8, .ref v9, .ref v10, .ref v11, .ref v12, .ref v13, .ref v14, .ref v15, .ref v16, .ref v17, .int th])), (v12, .inl (cI, 3, .inl sta)), (v11, .inl (cI, 3, .inl boo)), (v14, .inl (cI, 6, .inl (mFg cop st bk p t 3)))]) 0 0 := by
  refine xe_i (cc := cX5_forgets) (maxL := 5) (ret := (some .int)) (by decide) rfl (Nat.le_of_ble_eq_true rfl) ?_
  intro zp ze s zm below meth zc A ls B
  obtain ⟨hx, hb, hml, hrt, hts, hown, hnm, hlk, hK, hP, hD, hA, hS, hN, hl⟩ := B
  have hown : s.vm.findClass RX5 = some zm.cls := hown
  have hl : lv_has ls 5 [(0, .ref v0), (1, .int (nI p)), (2, .int (nI t))] := hl
  have hA : ∀ q, s.heap.size ≤ q → A q := hA
  refine lv_iconst (v := nI 0) hx hb dX5_forgets_0 (by decide) ?_
  refine lv_istore_n (lv' := [(3, .int (nI 0)), (0, .ref v0), (1, .int (nI p)), (2, .int (nI t))]) hx hb dX5_forgets_1 rfl hl (by decide) rfl (fun ls hl => ?_)
  refine lv_iconst (v := nI 0) hx hb dX5_forgets_2 (by decide) ?_
  refine lv_istore (lv' := [(4, .int (nI 0)), (3, .int (nI 0)), (0, .ref v0), (1, .int (nI p)), (2, .int (nI t))]) hx hb dX5_forgets_3 hl (by decide) rfl (fun ls hl => ?_)
  refine x_loop (nL := 5) (fun (x : Nat × (Nat → Int32) × Nat) => match x with | (k, f, cq) => k ≤ 3 ∧ f = mFg cop st bk p t k ∧ cq = mFgN cop st bk p t k) (fun (x : Nat × (Nat → Int32) × Nat) => match x with | (k, f, cq) => 3 - k) (fun (x : Nat × (Nat → Int32) × Nat) => match x with | (k, f, cq) => [(v0, .inr (5, [.ref v1, .ref v2, .int (nI n), .int (nI lim), .ref v3, .ref v4, .ref v5, .ref v6, .ref v7, .ref v8, .ref v9, .ref v10, .ref v11, .ref v12, .ref v13, .ref v14, .ref v15, .ref v16, .ref v17, .int th])), (v12, .inl (cI, 3, .inl sta)), (v11, .inl (cI, 3, .inl boo)), (v14, .inl (cI, 6, .inl f))]) (fun (x : Nat × (Nat → Int32) × Nat) => match x with | (k, f, cq) => [(0, .ref v0), (1, .int (nI p)), (2, .int (nI t)), (3, .int (nI cq)), (4, .int (nI k))]) (fun (x : Nat × (Nat → Int32) × Nat) => match x with | (k, f, cq) => []) ?_ (0, cop, 0) ⟨by omega, (mFg_0 _ _ _ _ _).symm, rfl⟩ hP hD hS (lv_sub hl [2, 3, 4, 1, 0] rfl)
  intro x9 hI5 ih5 H locs ls hP hD hS hl
  obtain ⟨k, f, cq⟩ := x9
  have hP : va_P D vwCl [(v0, .inr (5, [.ref v1, .ref v2, .int (nI n), .int (nI lim), .ref v3, .ref v4, .ref v5, .ref v6, .ref v7, .ref v8, .ref v9, .ref v10, .ref v11, .ref v12, .ref v13, .ref v14, .ref v15, .ref v16, .ref v17, .int th])), (v12, .inl (cI, 3, .inl sta)), (v11, .inl (cI, 3, .inl boo)), (v14, .inl (cI, 6, .inl f))] H := hP
  have hD : va_D A [(v0, .inr (5, [.ref v1, .ref v2, .int (nI n), .int (nI lim), .ref v3, .ref v4, .ref v5, .ref v6, .ref v7, .ref v8, .ref v9, .ref v10, .ref v11, .ref v12, .ref v13, .ref v14, .ref v15, .ref v16, .ref v17, .int th])), (v12, .inl (cI, 3, .inl sta)), (v11, .inl (cI, 3, .inl boo)), (v14, .inl (cI, 6, .inl f))] := hD
  have hl : lv_has ls 5 [(0, .ref v0), (1, .int (nI p)), (2, .int (nI t)), (3, .int (nI cq)), (4, .int (nI k))] := hl
  obtain ⟨hk, hf, hq⟩ := hI5
  refine lv_iload hx hb dX5_forgets_5 (lv_at hl 4 rfl) ?_
  refine lv_iconst (v := nI 3) hx hb dX5_forgets_7 (by decide) ?_
  refine x_cmp_ge (tgt := 73) hx hb (nI_leI (a := 3) (b := k) (by omega) (by omega)) dX5_forgets_8 (by decide) (fun c8 => ?_) (fun c8 => ?_)
  · obtain rfl : k = 3 := by omega
    subst hf
    refine lv_iload_n hx hb dX5_forgets_73 rfl (lv_at hl 3 rfl) ?_
    exact x_ret_i hx hb hrt hlk hP hD hS dX5_forgets_74 ⟨by decide, by decide⟩ () (by rw [hq]) rfl
  · have hk3 := hst3 k (by omega)
    have hk4 := hbk k (by omega)
    refine lv_aload_n hx hb dX5_forgets_11 rfl (lv_at hl 0 rfl) ?_
    refine va_get (D := D) (ci := 5) (v := .ref v12) (C := RX5) (T := TX5) (N := 20) hx hb hts kX5_forgets_X5 hown hK hP 0 rfl rfl 13 (by decide) (hts _ kX5_forgets_f47) (fun _ h9 => h9) rfl dX5_forgets_12 ?_
    refine lv_iload hx hb dX5_forgets_15 (lv_at hl 4 rfl) ?_
    refine x_ald (v := nI (st k)) hx hb hK hP 1 0 rfl rfl (by omega) (by omega) (hsta _ (by omega)) dX5_forgets_17 ?_
    refine x_if_le (tgt := 67) hx hb (nI_lez (by omega)) dX5_forgets_18 (by decide) (fun c18 => ?_) (fun c18 => ?_)
    · refine x_iinc (k := 4) (o := 1) (v := k + 1) (lv' := [(4, .int (nI (k + 1))), (0, .ref v0), (1, .int (nI p)), (2, .int (nI t)), (3, .int (nI cq))]) hx hb dX5_forgets_67 hl rfl rfl rfl (by decide) rfl (fun ls hl => ?_)
      refine lv_goto (tgt := 5) hx hb dX5_forgets_70 (by decide) ?_
      exact ih5 (k + 1, f, cq) ⟨by omega, (by rw [hf]; exact mFg_n ht2 (fun q => by omega)), (by rw [hq]; exact (mFgN_n (fun q => (fun q => by omega) q.1)).symm)⟩ (by show 3 - (k + 1) < 3 - k; omega) _ _ _ hP hD hS (lv_sub hl [1, 2, 3, 4, 0] rfl)
    · refine lv_aload_n hx hb dX5_forgets_21 rfl (lv_at hl 0 rfl) ?_
      refine va_get (D := D) (ci := 5) (v := .ref v11) (C := RX5) (T := TX5) (N := 20) hx hb hts kX5_forgets_X5 hown hK hP 0 rfl rfl 12 (by decide) (hts _ kX5_forgets_f44) (fun _ h9 => h9) rfl dX5_forgets_22 ?_
      refine lv_iload hx hb dX5_forgets_25 (lv_at hl 4 rfl) ?_
      refine x_ald (v := nI (bk k)) hx hb hK hP 2 0 rfl rfl (by omega) (by omega) (hboo _ (by omega)) dX5_forgets_27 ?_
      refine lv_iload_n hx hb dX5_forgets_28 rfl (lv_at hl 1 rfl) ?_
      refine x_cmp_ne (tgt := 67) hx hb (nI_eq (a := (bk k)) (b := p) (by omega) (by omega)) dX5_forgets_29 (by decide) (fun c29 => ?_) (fun c29 => ?_)
      · refine x_iinc (k := 4) (o := 1) (v := k + 1) (lv' := [(4, .int (nI (k + 1))), (0, .ref v0), (1, .int (nI p)), (2, .int (nI t)), (3, .int (nI cq))]) hx hb dX5_forgets_67 hl rfl rfl rfl (by decide) rfl (fun ls hl => ?_)
        refine lv_goto (tgt := 5) hx hb dX5_forgets_70 (by decide) ?_
        exact ih5 (k + 1, f, cq) ⟨by omega, (by rw [hf]; exact mFg_n ht2 (fun q => c29 q.2)), (by rw [hq]; exact (mFgN_n (fun q => (fun q => c29 q.2) q.1)).symm)⟩ (by show 3 - (k + 1) < 3 - k; omega) _ _ _ hP hD hS (lv_sub hl [1, 2, 3, 4, 0] rfl)
      · refine lv_iload_n hx hb dX5_forgets_32 rfl (lv_at hl 3 rfl) ?_
        refine lv_aload_n hx hb dX5_forgets_33 rfl (lv_at hl 0 rfl) ?_
        refine va_get (D := D) (ci := 5) (v := .ref v14) (C := RX5) (T := TX5) (N := 20) hx hb hts kX5_forgets_X5 hown hK hP 0 rfl rfl 15 (by decide) (hts _ kX5_forgets_f53) (fun _ h9 => h9) rfl dX5_forgets_34 ?_
        refine lv_iconst (v := nI 2) hx hb dX5_forgets_37 (by decide) ?_
        refine lv_iload hx hb dX5_forgets_38 (lv_at hl 4 rfl) ?_
        refine x_mul (k := 2 * k) hx hb dX5_forgets_40 rfl ?_
        refine lv_iload_n hx hb dX5_forgets_41 rfl (lv_at hl 2 rfl) ?_
        refine x_add (k := (2 * k) + t) hx hb dX5_forgets_42 rfl ?_
        refine x_ald (v := cop (2 * k + t)) hx hb hK hP 3 0 rfl rfl (by omega) (by omega) (by rw [hf]; exact mFg_at ht2) dX5_forgets_43 ?_
        refine lv_iconst (v := -1) hx hb dX5_forgets_44 (by decide) ?_
        refine x_cmp_ne (tgt := 52) hx hb (Iff.rfl) dX5_forgets_45 (by decide) (fun c45 => ?_) (fun c45 => ?_)
        · refine lv_iconst (v := nI 1) hx hb dX5_forgets_52 (by decide) ?_
          refine x_add (k := cq + 1) hx hb dX5_forgets_53 rfl ?_
          refine lv_istore_n (lv' := [(3, .int (nI (cq + 1))), (0, .ref v0), (1, .int (nI p)), (2, .int (nI t)), (4, .int (nI k))]) hx hb dX5_forgets_54 rfl hl (by decide) rfl (fun ls hl => ?_)
          refine lv_aload_n hx hb dX5_forgets_55 rfl (lv_at hl 1 rfl) ?_
          refine va_get (D := D) (ci := 5) (v := .ref v14) (C := RX5) (T := TX5) (N := 20) hx hb hts kX5_forgets_X5 hown hK hP 0 rfl rfl 15 (by decide) (hts _ kX5_forgets_f53) (fun _ h9 => h9) rfl dX5_forgets_56 ?_
          refine lv_iconst (v := nI 2) hx hb dX5_forgets_59 (by decide) ?_
          refine lv_iload hx hb dX5_forgets_60 (lv_at hl 4 rfl) ?_
          refine x_mul (k := 2 * k) hx hb dX5_forgets_62 rfl ?_
          refine lv_iload_n hx hb dX5_forgets_63 rfl (lv_at hl 3 rfl) ?_
          refine x_add (k := (2 * k) + t) hx hb dX5_forgets_64 rfl ?_
          refine lv_iconst (v := -1) hx hb dX5_forgets_65 (by decide) ?_
          refine x_ast (g := upd f ((2 * k) + t) (-1)) (ws' := [(v0, .inr (5, [.ref v1, .ref v2, .int (nI n), .int (nI lim), .ref v3, .ref v4, .ref v5, .ref v6, .ref v7, .ref v8, .ref v9, .ref v10, .ref v11, .ref v12, .ref v13, .ref v14, .ref v15, .ref v16, .ref v17, .int th])), (v12, .inl (cI, 3, .inl sta)), (v11, .inl (cI, 3, .inl boo)), (v14, .inl (cI, 6, .inl (upd f ((2 * k) + t) (-1))))]) hx hb hK hP hD hS 3 0 rfl rfl (by omega) (by omega) (rfl) rfl dX5_forgets_66 (fun H locs hP hD hS => ?_)
          refine x_iinc (k := 4) (o := 1) (v := k + 1) (lv' := [(4, .int (nI (k + 1))), (3, .int (nI (cq + 1))), (0, .ref v0), (1, .int (nI p)), (2, .int (nI t))]) hx hb dX5_forgets_67 hl rfl rfl rfl (by decide) rfl (fun ls hl => ?_)
          refine lv_goto (tgt := 5) hx hb dX5_forgets_70 (by decide) ?_
          exact ih5 (k + 1, upd f ((2 * k) + t) (-1), cq + 1) ⟨by omega, (by rw [hf]; exact mFg_y ht2 ⟨by omega, c29⟩), (by rw [hq]; exact (mFgN_y ⟨⟨by omega, c29⟩, c45⟩).symm)⟩ (by show 3 - (k + 1) < 3 - k; omega) _ _ _ hP hD hS (lv_sub hl [2, 3, 4, 1, 0] rfl)
        · refine lv_iconst (v := nI 0) hx hb dX5_forgets_48 (by decide) ?_
          refine lv_goto (tgt := 53) hx hb dX5_forgets_49 (by decide) ?_
          refine x_add (k := cq + 0) hx hb dX5_forgets_53 rfl ?_
          refine lv_istore_n (lv' := [(3, .int (nI (cq + 0))), (0, .ref v0), (1, .int (nI p)), (2, .int (nI t)), (4, .int (nI k))]) hx hb dX5_forgets_54 rfl hl (by decide) rfl (fun ls hl => ?_)
          refine lv_aload_n hx hb dX5_forgets_55 rfl (lv_at hl 1 rfl) ?_
          refine va_get (D := D) (ci := 5) (v := .ref v14) (C := RX5) (T := TX5) (N := 20) hx hb hts kX5_forgets_X5 hown hK hP 0 rfl rfl 15 (by decide) (hts _ kX5_forgets_f53) (fun _ h9 => h9) rfl dX5_forgets_56 ?_
          refine lv_iconst (v := nI 2) hx hb dX5_forgets_59 (by decide) ?_
          refine lv_iload hx hb dX5_forgets_60 (lv_at hl 4 rfl) ?_
          refine x_mul (k := 2 * k) hx hb dX5_forgets_62 rfl ?_
          refine lv_iload_n hx hb dX5_forgets_63 rfl (lv_at hl 3 rfl) ?_
          refine x_add (k := (2 * k) + t) hx hb dX5_forgets_64 rfl ?_
          refine lv_iconst (v := -1) hx hb dX5_forgets_65 (by decide) ?_
          refine x_ast (g := upd f ((2 * k) + t) (-1)) (ws' := [(v0, .inr (5, [.ref v1, .ref v2, .int (nI n), .int (nI lim), .ref v3, .ref v4, .ref v5, .ref v6, .ref v7, .ref v8, .ref v9, .ref v10, .ref v11, .ref v12, .ref v13, .ref v14, .ref v15, .ref v16, .ref v17, .int th])), (v12, .inl (cI, 3, .inl sta)), (v11, .inl (cI, 3, .inl boo)), (v14, .inl (cI, 6, .inl (upd f ((2 * k) + t) (-1))))]) hx hb hK hP hD hS 3 0 rfl rfl (by omega) (by omega) (rfl) rfl dX5_forgets_66 (fun H locs hP hD hS => ?_)
          refine x_iinc (k := 4) (o := 1) (v := k + 1) (lv' := [(4, .int (nI (k + 1))), (3, .int (nI (cq + 0))), (0, .ref v0), (1, .int (nI p)), (2, .int (nI t))]) hx hb dX5_forgets_67 hl rfl rfl rfl (by decide) rfl (fun ls hl => ?_)
          refine lv_goto (tgt := 5) hx hb dX5_forgets_70 (by decide) ?_
          exact ih5 (k + 1, upd f ((2 * k) + t) (-1), cq + 0) ⟨by omega, (by rw [hf]; exact mFg_y ht2 ⟨by omega, c29⟩), (by rw [hq]; exact (mFgN_n (fun q => q.2 c45)).symm)⟩ (by show 3 - (k + 1) < 3 - k; omega) _ _ _ hP hD hS (lv_sub hl [2, 3, 4, 1, 0] rfl)
