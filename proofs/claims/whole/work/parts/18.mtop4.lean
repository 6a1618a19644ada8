set_option maxRecDepth 20000 in
theorem kX5_copy_f47 : Cond.fieldLink RX5 47 "RowReplicatorModel" "state" "[I" ∈ wsX5_copy := by decide +kernel
set_option maxRecDepth 20000 in
theorem kX5_copy_X5 : ∀ w ∈ wsX50, w ∈ wsX5_copy := by decide +kernel
set_option maxRecDepth 20000 in
theorem kX5_copy_f20 : Cond.fieldLink RX5 20 "RowReplicatorModel" "changes" "[I" ∈ wsX5_copy := by decide +kernel
set_option maxRecDepth 20000 in
theorem kX5_copy_f76 : Cond.fieldLink RX5 76 "RowReplicatorModel" "commits" "I" ∈ wsX5_copy := by decide +kernel
set_option maxRecDepth 20000 in
theorem kX5_copy_f53 : Cond.fieldLink RX5 53 "RowReplicatorModel" "copied" "[I" ∈ wsX5_copy := by decide +kernel
set_option maxRecDepth 20000 in
theorem kX5_copy_f56 : Cond.fieldLink RX5 56 "RowReplicatorModel" "seen" "[I" ∈ wsX5_copy := by decide +kernel
set_option maxRecDepth 20000 in
theorem kX5_copy_f44 : Cond.fieldLink RX5 44 "RowReplicatorModel" "book" "[I" ∈ wsX5_copy := by decide +kernel
set_option maxHeartbeats 4000000 in
set_option maxRecDepth 100000 in
theorem zX5_copy (l : Launch) (D : va_G) (cI cP cS cL : ClassId) (v0 v1 v2 v3 v4 v5 v6 v7 v8 v9 v10 v11 v12 v13 v14 v15 v16 v17 : Nat) (n lim : Nat) (th : Int32) (cn : Nat) (st bk : Nat → Nat) (kept chg col rel num lis boo sta cop see : Nat → Int32) (sx tx : Int32) (hn9 : n ≤ 50) (hcn0 : chg (n + 1) = nI cn) (hcn : cn ≤ 12) (hsta : ∀ i, i < 3 → sta i = nI (st i)) (hst3 : ∀ i, i < 3 → st i ≤ 3) (hboo : ∀ i, i < 3 → boo i = nI (bk i)) (hbk : ∀ i, i < 3 → bk i < 3) : xMi l yX5_copy wsX5_copy (rmD 3 0 0) D [(cI, .int), (cP, .object RX0), (cS, .object RX2), (cL, .long)] [.ref v0, .int sx, .int tx] [(v0, .inr (5, [.ref v1, .ref v2, .int (nI n), .int (nI lim), .ref v3, .ref v4, .ref v5, .ref v6, .ref v7, .ref v8, .ref v9, .ref v10, .ref v11, .ref v12, .ref v13, .ref v14, .ref v15, .ref v16, .ref v17, .int th])), (v2, .inl (cI, 1224, .inl kept)), (v3, .inl (cI, 52, .inl chg)), (v7, .inl (cI, 6, .inl col)), (v8, .inl (cI, 6, .inl rel)), (v9, .inl (cI, 6, .inl num)), (v10, .inl (cI, 6, .inl lis)), (v11, .inl (cI, 3, .inl boo)), (v12, .inl (cI, 3, .inl sta)), (v14, .inl (cI, 6, .inl cop)), (v15, .inl (cI, 72, .inl see))] (fun (r : Int32) (u : Int32 × (Nat → Int32) × (Nat → Int32)) => match u with | (h, a4, a1) => ((¬ (vp_in sx 3 ∧ vp_in tx 2) ∧ h = nI 1 ∧ a4 = cop ∧ a1 = see) ∨ (∃ si tn, sx = nI si ∧ si < 3 ∧ tx = nI tn ∧ tn < 2 ∧ ¬ (st si = 1 ∧ cn = 0) ∧ h = nI 2 ∧ a4 = cop ∧ a1 = see) ∨ (∃ si tn, sx = nI si ∧ si < 3 ∧ tx = nI tn ∧ tn < 2 ∧ (st si = 1 ∧ cn = 0) ∧ h = nI 0 ∧ r = nI (mCnt (fun j => mSel (col (2 * bk si + tn)) (rel (2 * bk si + tn)) (num (2 * bk si + tn)) (lis (2 * bk si + tn)) (kept (24 * n + 12 * tn + j))) 12) ∧ a4 = upd cop (2 * si + tn) (nI n) ∧ a1 = mPut (fun j => mSel (col (2 * bk si + tn)) (rel (2 * bk si + tn)) (num (2 * bk si + tn)) (lis (2 * bk si + tn)) (kept (24 * n + 12 * tn + j))) see (24 * si + 12 * tn) 12))) (fun (u : Int32 × (Nat → Int32) × (Nat → Int32)) => match u with | (h, a4, a1) => [(v0, .inr (5, [.ref v1, .ref v2, .int (nI n), .int (nI lim), .ref v3, .ref v4, .ref v5, .ref v6, .ref v7, .ref v8, .ref v9, .ref v10, .ref v11, .ref v12, .ref v13, .ref v14, .ref v15, .ref v16, .ref v17, .int h])), (v2, .inl (cI, 1224, .inl kept)), (v3, .inl (cI, 52, .inl chg)), (v7, .inl (cI, 6, .inl col)), (v8, .inl (cI, 6, .inl rel)), (v9, .inl (cI, 6, .inl num)), (v10, .inl (cI, 6, .inl lis)), (v11, .inl (cI, 3, .inl boo)), (v12, .inl (cI, 3, .inl sta)), (v14, .inl (cI, 6, .inl a4)), (v15, .inl (cI, 72, .inl a1))]) 0 0 := by
  refine xe_i (cc := cX5_copy) (maxL := 6) (ret := (some .int)) (by decide) rfl (Nat.le_of_ble_eq_true rfl) ?_
  intro zp ze s zm below meth zc A ls B
  obtain ⟨hx, hb, hml, hrt, hts, hown, hnm, hlk, hK, hP, hD, hA, hS, hN, hl⟩ := B
  have hown : s.vm.findClass RX5 = some zm.cls := hown
  have hl : lv_has ls 6 [(0, .ref v0), (1, .int sx), (2, .int tx)] := hl
  have hA : ∀ q, s.heap.size ≤ q → A q := hA
  refine lv_aload_n hx hb dX5_copy_0 rfl (lv_at hl 0 rfl) ?_
  refine lv_iload_n hx hb dX5_copy_1 rfl (lv_at hl 1 rfl) ?_
  refine x_calli (w2 := fun (u : Unit) => [(v0, .inr (5, [.ref v1, .ref v2, .int (nI n), .int (nI lim), .ref v3, .ref v4, .ref v5, .ref v6, .ref v7, .ref v8, .ref v9, .ref v10, .ref v11, .ref v12, .ref v13, .ref v14, .ref v15, .ref v16, .ref v17, .int th])), (v2, .inl (cI, 1224, .inl kept)), (v3, .inl (cI, 52, .inl chg)), (v7, .inl (cI, 6, .inl col)), (v8, .inl (cI, 6, .inl rel)), (v9, .inl (cI, 6, .inl num)), (v10, .inl (cI, 6, .inl lis)), (v11, .inl (cI, 3, .inl boo)), (v12, .inl (cI, 3, .inl sta)), (v14, .inl (cI, 6, .inl cop)), (v15, .inl (cI, 72, .inl see))]) (wr := [(v0, .inr (5, [.ref v1, .ref v2, .int (nI n), .int (nI lim), .ref v3, .ref v4, .ref v5, .ref v6, .ref v7, .ref v8, .ref v9, .ref v10, .ref v11, .ref v12, .ref v13, .ref v14, .ref v15, .ref v16, .ref v17, .int th])), (v2, .inl (cI, 1224, .inl kept)), (v3, .inl (cI, 52, .inl chg)), (v7, .inl (cI, 6, .inl col)), (v8, .inl (cI, 6, .inl rel)), (v9, .inl (cI, 6, .inl num)), (v10, .inl (cI, 6, .inl lis)), (v11, .inl (cI, 3, .inl boo)), (v12, .inl (cI, 3, .inl sta)), (v14, .inl (cI, 6, .inl cop)), (v15, .inl (cI, 72, .inl see))]) (x_runS (n := 1) ⟨hx, hb, hml, hown, hts⟩ (zX5_isThird l D cI cP cS cL sx) gX5_copy_X5_isThird rfl rfl rfl (by decide +kernel) ⟨by decide, by decide⟩ hN hK hP hD [] rfl rfl rfl hl.1 (rest := [.ref v0]) (As := [.int sx]) rfl (Nat.le_of_ble_eq_true rfl) dX5_copy_2 ⟨by decide, by decide⟩) hP hD hS hA [] [0, 1, 2, 3, 4, 5, 6, 7, 8, 9, 10] [0, 1, 2, 3, 4, 5, 6, 7, 8, 9, 10] rfl rfl rfl (by decide) rfl (fun _ => rfl) (fun r2 u H locs hw hP hD hS => ?_)
  subst hw
  refine x_if_eq (tgt := 15) hx hb (bI_0 _) dX5_copy_5 (by decide) (fun c5 => ?_) (fun c5 => ?_)
  · refine lv_iconst (v := nI 1) hx hb dX5_copy_15 (by decide) ?_
    refine lv_goto (tgt := 48) hx hb dX5_copy_16 (by decide) ?_
    refine x_calli (w2 := fun (u : Unit) => [(v0, .inr (5, [.ref v1, .ref v2, .int (nI n), .int (nI lim), .ref v3, .ref v4, .ref v5, .ref v6, .ref v7, .ref v8, .ref v9, .ref v10, .ref v11, .ref v12, .ref v13, .ref v14, .ref v15, .ref v16, .ref v17, .int (nI 1)])), (v2, .inl (cI, 1224, .inl kept)), (v3, .inl (cI, 52, .inl chg)), (v7, .inl (cI, 6, .inl col)), (v8, .inl (cI, 6, .inl rel)), (v9, .inl (cI, 6, .inl num)), (v10, .inl (cI, 6, .inl lis)), (v11, .inl (cI, 3, .inl boo)), (v12, .inl (cI, 3, .inl sta)), (v14, .inl (cI, 6, .inl cop)), (v15, .inl (cI, 72, .inl see))]) (wr := [(v2, .inl (cI, 1224, .inl kept)), (v3, .inl (cI, 52, .inl chg)), (v7, .inl (cI, 6, .inl col)), (v8, .inl (cI, 6, .inl rel)), (v9, .inl (cI, 6, .inl num)), (v10, .inl (cI, 6, .inl lis)), (v11, .inl (cI, 3, .inl boo)), (v12, .inl (cI, 3, .inl sta)), (v14, .inl (cI, 6, .inl cop)), (v15, .inl (cI, 72, .inl see))]) (x_runV (n := 1) ⟨hx, hb, hml, hown, hts⟩ (zX5_fails l D cI cP cS cL v0 v1 v2 v3 v4 v5 v6 v7 v8 v9 v10 v11 v12 v13 v14 v15 v16 v17 n lim (th) 1 (by decide)) gX5_copy_X5_fails rfl rfl rfl (by decide +kernel) ⟨by decide, by decide⟩ hN hK hP hD [0] rfl rfl (ci := 5) (q0 := 0) rfl rfl rfl rfl hl.1 (rest := []) (As := [.int (nI 1)]) rfl (Nat.le_of_ble_eq_true rfl) dX5_copy_48 ⟨by decide, by decide⟩) hP hD hS hA [0] [1, 2, 3, 4, 5, 6, 7, 8, 9, 10] [10, 0, 1, 2, 3, 4, 5, 6, 7, 8, 9] rfl rfl rfl (by decide) rfl (fun _ => rfl) (fun r48 u H locs hw hP hD hS => ?_)
    replace hw : r48 = nI 1 := hw.trans (by decide)
    subst hw
    refine x_if_eq (tgt := 56) hx hb (nI_z (by omega)) dX5_copy_51 (by decide) (fun c51 => ?_) (fun c51 => ?_)
    · exact absurd c51 (by omega)
    refine lv_iconst (v := nI 0) hx hb dX5_copy_54 (by decide) ?_
    exact x_ret_i hx hb hrt hlk hP hD hS dX5_copy_55 ⟨by decide, by decide⟩ ((nI 1), cop, see) (Or.inl ⟨fun q => qIn_n c5 q.1, rfl, rfl, rfl⟩) rfl
  · refine lv_iload_n hx hb dX5_copy_8 rfl (lv_at hl 2 rfl) ?_
    refine x_calli (w2 := fun (u : Unit) => [(v0, .inr (5, [.ref v1, .ref v2, .int (nI n), .int (nI lim), .ref v3, .ref v4, .ref v5, .ref v6, .ref v7, .ref v8, .ref v9, .ref v10, .ref v11, .ref v12, .ref v13, .ref v14, .ref v15, .ref v16, .ref v17, .int th])), (v2, .inl (cI, 1224, .inl kept)), (v3, .inl (cI, 52, .inl chg)), (v7, .inl (cI, 6, .inl col)), (v8, .inl (cI, 6, .inl rel)), (v9, .inl (cI, 6, .inl num)), (v10, .inl (cI, 6, .inl lis)), (v11, .inl (cI, 3, .inl boo)), (v12, .inl (cI, 3, .inl sta)), (v14, .inl (cI, 6, .inl cop)), (v15, .inl (cI, 72, .inl see))]) (wr := [(v0, .inr (5, [.ref v1, .ref v2, .int (nI n), .int (nI lim), .ref v3, .ref v4, .ref v5, .ref v6, .ref v7, .ref v8, .ref v9, .ref v10, .ref v11, .ref v12, .ref v13, .ref v14, .ref v15, .ref v16, .ref v17, .int th])), (v2, .inl (cI, 1224, .inl kept)), (v3, .inl (cI, 52, .inl chg)), (v7, .inl (cI, 6, .inl col)), (v8, .inl (cI, 6, .inl rel)), (v9, .inl (cI, 6, .inl num)), (v10, .inl (cI, 6, .inl lis)), (v11, .inl (cI, 3, .inl boo)), (v12, .inl (cI, 3, .inl sta)), (v14, .inl (cI, 6, .inl cop)), (v15, .inl (cI, 72, .inl see))]) (x_runS (n := 1) ⟨hx, hb, hml, hown, hts⟩ (zX5_isTable l D cI cP cS cL tx) gX5_copy_X5_isTable rfl rfl rfl (by decide +kernel) ⟨by decide, by decide⟩ hN hK hP hD [] rfl rfl rfl hl.1 (rest := [.ref v0]) (As := [.int tx]) rfl (Nat.le_of_ble_eq_true rfl) dX5_copy_9 ⟨by decide, by decide⟩) hP hD hS hA [] [0, 1, 2, 3, 4, 5, 6, 7, 8, 9, 10] [0, 1, 2, 3, 4, 5, 6, 7, 8, 9, 10] rfl rfl rfl (by decide) rfl (fun _ => rfl) (fun r9 u H locs hw hP hD hS => ?_)
    subst hw
    refine x_if_ne (tgt := 19) hx hb (bI_0 _) dX5_copy_12 (by decide) (fun c12 => ?_) (fun c12 => ?_)
    · obtain ⟨si, hsi9, esi⟩ := vp_in_of (qIn_y c5) (by decide)
      subst esi
      obtain ⟨tn, htn9, etn⟩ := vp_in_of (qIn_y c12) (by decide)
      subst etn
      have hk3 := hst3 si hsi9
      have hk4 := hbk si hsi9
      refine lv_aload_n hx hb dX5_copy_19 rfl (lv_at hl 0 rfl) ?_
      refine va_get (D := D) (ci := 5) (v := .ref v12) (C := RX5) (T := TX5) (N := 20) hx hb hts kX5_copy_X5 hown hK hP 0 rfl rfl 13 (by decide) (hts _ kX5_copy_f47) (fun _ h9 => h9) rfl dX5_copy_20 ?_
      refine lv_iload_n hx hb dX5_copy_23 rfl (lv_at hl 1 rfl) ?_
      refine x_ald (v := nI (st si)) hx hb hK hP 8 0 rfl rfl (by omega) (by omega) (hsta _ (by omega)) dX5_copy_24 ?_
      refine lv_iconst (v := nI 1) hx hb dX5_copy_25 (by decide) ?_
      refine x_cmp_ne (tgt := 43) hx hb (nI_eq (a := (st si)) (b := 1) (by omega) (by omega)) dX5_copy_26 (by decide) (fun c26 => ?_) (fun c26 => ?_)
      · refine lv_iconst (v := nI 2) hx hb dX5_copy_43 (by decide) ?_
        refine lv_goto (tgt := 48) hx hb dX5_copy_44 (by decide) ?_
        refine x_calli (w2 := fun (u : Unit) => [(v0, .inr (5, [.ref v1, .ref v2, .int (nI n), .int (nI lim), .ref v3, .ref v4, .ref v5, .ref v6, .ref v7, .ref v8, .ref v9, .ref v10, .ref v11, .ref v12, .ref v13, .ref v14, .ref v15, .ref v16, .ref v17, .int (nI 2)])), (v2, .inl (cI, 1224, .inl kept)), (v3, .inl (cI, 52, .inl chg)), (v7, .inl (cI, 6, .inl col)), (v8, .inl (cI, 6, .inl rel)), (v9, .inl (cI, 6, .inl num)), (v10, .inl (cI, 6, .inl lis)), (v11, .inl (cI, 3, .inl boo)), (v12, .inl (cI, 3, .inl sta)), (v14, .inl (cI, 6, .inl cop)), (v15, .inl (cI, 72, .inl see))]) (wr := [(v2, .inl (cI, 1224, .inl kept)), (v3, .inl (cI, 52, .inl chg)), (v7, .inl (cI, 6, .inl col)), (v8, .inl (cI, 6, .inl rel)), (v9, .inl (cI, 6, .inl num)), (v10, .inl (cI, 6, .inl lis)), (v11, .inl (cI, 3, .inl boo)), (v12, .inl (cI, 3, .inl sta)), (v14, .inl (cI, 6, .inl cop)), (v15, .inl (cI, 72, .inl see))]) (x_runV (n := 1) ⟨hx, hb, hml, hown, hts⟩ (zX5_fails l D cI cP cS cL v0 v1 v2 v3 v4 v5 v6 v7 v8 v9 v10 v11 v12 v13 v14 v15 v16 v17 n lim (th) 2 (by decide)) gX5_copy_X5_fails rfl rfl rfl (by decide +kernel) ⟨by decide, by decide⟩ hN hK hP hD [0] rfl rfl (ci := 5) (q0 := 0) rfl rfl rfl rfl hl.1 (rest := []) (As := [.int (nI 2)]) rfl (Nat.le_of_ble_eq_true rfl) dX5_copy_48 ⟨by decide, by decide⟩) hP hD hS hA [0] [1, 2, 3, 4, 5, 6, 7, 8, 9, 10] [10, 0, 1, 2, 3, 4, 5, 6, 7, 8, 9] rfl rfl rfl (by decide) rfl (fun _ => rfl) (fun r48 u H locs hw hP hD hS => ?_)
        replace hw : r48 = nI 1 := hw.trans (by decide)
        subst hw
        refine x_if_eq (tgt := 56) hx hb (nI_z (by omega)) dX5_copy_51 (by decide) (fun c51 => ?_) (fun c51 => ?_)
        · exact absurd c51 (by omega)
        refine lv_iconst (v := nI 0) hx hb dX5_copy_54 (by decide) ?_
        exact x_ret_i hx hb hrt hlk hP hD hS dX5_copy_55 ⟨by decide, by decide⟩ ((nI 2), cop, see) (Or.inr (Or.inl ⟨si, tn, rfl, hsi9, rfl, htn9, (fun q => by omega), rfl, rfl, rfl⟩)) rfl
      · refine lv_aload_n hx hb dX5_copy_29 rfl (lv_at hl 0 rfl) ?_
        refine va_get (D := D) (ci := 5) (v := .ref v3) (C := RX5) (T := TX5) (N := 20) hx hb hts kX5_copy_X5 hown hK hP 0 rfl rfl 4 (by decide) (hts _ kX5_copy_f20) (fun _ h9 => h9) rfl dX5_copy_30 ?_
        refine lv_aload_n hx hb dX5_copy_33 rfl (lv_at hl 0 rfl) ?_
        refine va_get (D := D) (ci := 5) (v := .int (nI n)) (C := RX5) (T := TX5) (N := 20) hx hb hts kX5_copy_X5 hown hK hP 0 rfl rfl 2 (by decide) (hts _ kX5_copy_f76) (fun _ h9 => h9) rfl dX5_copy_34 ?_
        refine lv_iconst (v := nI 1) hx hb dX5_copy_37 (by decide) ?_
        refine x_add (k := n + 1) hx hb dX5_copy_38 rfl ?_
        refine x_ald (v := nI cn) hx hb hK hP 2 0 rfl rfl (by omega) (by omega) hcn0 dX5_copy_39 ?_
        refine x_if_le (tgt := 47) hx hb (nI_lez (by omega)) dX5_copy_40 (by decide) (fun c40 => ?_) (fun c40 => ?_)
        · refine lv_iconst (v := nI 0) hx hb dX5_copy_47 (by decide) ?_
          refine x_calli (w2 := fun (u : Unit) => [(v0, .inr (5, [.ref v1, .ref v2, .int (nI n), .int (nI lim), .ref v3, .ref v4, .ref v5, .ref v6, .ref v7, .ref v8, .ref v9, .ref v10, .ref v11, .ref v12, .ref v13, .ref v14, .ref v15, .ref v16, .ref v17, .int (nI 0)])), (v2, .inl (cI, 1224, .inl kept)), (v3, .inl (cI, 52, .inl chg)), (v7, .inl (cI, 6, .inl col)), (v8, .inl (cI, 6, .inl rel)), (v9, .inl (cI, 6, .inl num)), (v10, .inl (cI, 6, .inl lis)), (v11, .inl (cI, 3, .inl boo)), (v12, .inl (cI, 3, .inl sta)), (v14, .inl (cI, 6, .inl cop)), (v15, .inl (cI, 72, .inl see))]) (wr := [(v2, .inl (cI, 1224, .inl kept)), (v3, .inl (cI, 52, .inl chg)), (v7, .inl (cI, 6, .inl col)), (v8, .inl (cI, 6, .inl rel)), (v9, .inl (cI, 6, .inl num)), (v10, .inl (cI, 6, .inl lis)), (v11, .inl (cI, 3, .inl boo)), (v12, .inl (cI, 3, .inl sta)), (v14, .inl (cI, 6, .inl cop)), (v15, .inl (cI, 72, .inl see))]) (x_runV (n := 1) ⟨hx, hb, hml, hown, hts⟩ (zX5_fails l D cI cP cS cL v0 v1 v2 v3 v4 v5 v6 v7 v8 v9 v10 v11 v12 v13 v14 v15 v16 v17 n lim (th) 0 (by decide)) gX5_copy_X5_fails rfl rfl rfl (by decide +kernel) ⟨by decide, by decide⟩ hN hK hP hD [0] rfl rfl (ci := 5) (q0 := 0) rfl rfl rfl rfl hl.1 (rest := []) (As := [.int (nI 0)]) rfl (Nat.le_of_ble_eq_true rfl) dX5_copy_48 ⟨by decide, by decide⟩) hP hD hS hA [0] [1, 2, 3, 4, 5, 6, 7, 8, 9, 10] [10, 0, 1, 2, 3, 4, 5, 6, 7, 8, 9] rfl rfl rfl (by decide) rfl (fun _ => rfl) (fun r48 u H locs hw hP hD hS => ?_)
          replace hw : r48 = nI 0 := hw.trans (by decide)
          subst hw
          refine x_if_eq (tgt := 56) hx hb (nI_z (by omega)) dX5_copy_51 (by decide) (fun c51 => ?_) (fun c51 => ?_)
          rotate_left
          · exact absurd c51 (by omega)
          refine lv_iconst (v := nI 0) hx hb dX5_copy_56 (by decide) ?_
          refine lv_istore_n (lv' := [(3, .int (nI 0)), (0, .ref v0), (1, .int (nI si)), (2, .int (nI tn))]) hx hb dX5_copy_57 rfl hl (by decide) rfl (fun ls hl => ?_)
          refine lv_iconst (v := nI 0) hx hb dX5_copy_58 (by decide) ?_
          refine lv_istore (lv' := [(4, .int (nI 0)), (3, .int (nI 0)), (0, .ref v0), (1, .int (nI si)), (2, .int (nI tn))]) hx hb dX5_copy_59 hl (by decide) rfl (fun ls hl => ?_)
          refine x_loop (nL := 6) (fun (x : Nat × (Nat → Int32) × Nat) => match x with | (j, f, cq) => j ≤ 12 ∧ f = mPut (fun j => mSel (col (2 * bk si + tn)) (rel (2 * bk si + tn)) (num (2 * bk si + tn)) (lis (2 * bk si + tn)) (kept (24 * n + 12 * tn + j))) see (24 * si + 12 * tn) j ∧ cq = mCnt (fun j => mSel (col (2 * bk si + tn)) (rel (2 * bk si + tn)) (num (2 * bk si + tn)) (lis (2 * bk si + tn)) (kept (24 * n + 12 * tn + j))) j) (fun (x : Nat × (Nat → Int32) × Nat) => match x with | (j, f, cq) => 12 - j) (fun (x : Nat × (Nat → Int32) × Nat) => match x with | (j, f, cq) => [(v0, .inr (5, [.ref v1, .ref v2, .int (nI n), .int (nI lim), .ref v3, .ref v4, .ref v5, .ref v6, .ref v7, .ref v8, .ref v9, .ref v10, .ref v11, .ref v12, .ref v13, .ref v14, .ref v15, .ref v16, .ref v17, .int (nI 0)])), (v2, .inl (cI, 1224, .inl kept)), (v3, .inl (cI, 52, .inl chg)), (v7, .inl (cI, 6, .inl col)), (v8, .inl (cI, 6, .inl rel)), (v9, .inl (cI, 6, .inl num)), (v10, .inl (cI, 6, .inl lis)), (v11, .inl (cI, 3, .inl boo)), (v12, .inl (cI, 3, .inl sta)), (v14, .inl (cI, 6, .inl cop)), (v15, .inl (cI, 72, .inl f))]) (fun (x : Nat × (Nat → Int32) × Nat) => match x with | (j, f, cq) => [(0, .ref v0), (1, .int (nI si)), (2, .int (nI tn)), (3, .int (nI cq)), (4, .int (nI j))]) (fun (x : Nat × (Nat → Int32) × Nat) => match x with | (j, f, cq) => []) ?_ (0, see, 0) ⟨by omega, (mPut_0 _ _ _).symm, rfl⟩ hP hD hS (lv_sub hl [2, 3, 4, 1, 0] rfl)
          intro x9 hI61 ih61 H locs ls hP hD hS hl
          obtain ⟨j, f, cq⟩ := x9
          have hP : va_P D vwCl [(v0, .inr (5, [.ref v1, .ref v2, .int (nI n), .int (nI lim), .ref v3, .ref v4, .ref v5, .ref v6, .ref v7, .ref v8, .ref v9, .ref v10, .ref v11, .ref v12, .ref v13, .ref v14, .ref v15, .ref v16, .ref v17, .int (nI 0)])), (v2, .inl (cI, 1224, .inl kept)), (v3, .inl (cI, 52, .inl chg)), (v7, .inl (cI, 6, .inl col)), (v8, .inl (cI, 6, .inl rel)), (v9, .inl (cI, 6, .inl num)), (v10, .inl (cI, 6, .inl lis)), (v11, .inl (cI, 3, .inl boo)), (v12, .inl (cI, 3, .inl sta)), (v14, .inl (cI, 6, .inl cop)), (v15, .inl (cI, 72, .inl f))] H := hP
          have hD : va_D A [(v0, .inr (5, [.ref v1, .ref v2, .int (nI n), .int (nI lim), .ref v3, .ref v4, .ref v5, .ref v6, .ref v7, .ref v8, .ref v9, .ref v10, .ref v11, .ref v12, .ref v13, .ref v14, .ref v15, .ref v16, .ref v17, .int (nI 0)])), (v2, .inl (cI, 1224, .inl kept)), (v3, .inl (cI, 52, .inl chg)), (v7, .inl (cI, 6, .inl col)), (v8, .inl (cI, 6, .inl rel)), (v9, .inl (cI, 6, .inl num)), (v10, .inl (cI, 6, .inl lis)), (v11, .inl (cI, 3, .inl boo)), (v12, .inl (cI, 3, .inl sta)), (v14, .inl (cI, 6, .inl cop)), (v15, .inl (cI, 72, .inl f))] := hD
          have hl : lv_has ls 6 [(0, .ref v0), (1, .int (nI si)), (2, .int (nI tn)), (3, .int (nI cq)), (4, .int (nI j))] := hl
          obtain ⟨hj, hf, hq⟩ := hI61
          refine lv_iload hx hb dX5_copy_61 (lv_at hl 4 rfl) ?_
          refine lv_bipush (v := nI 12) hx hb dX5_copy_63 (by decide) ?_
          refine x_cmp_ge (tgt := 131) hx hb (nI_leI (a := 12) (b := j) (by omega) (by omega)) dX5_copy_65 (by decide) (fun c65 => ?_) (fun c65 => ?_)
          · obtain rfl : j = 12 := by omega
            subst hf
            refine lv_aload_n hx hb dX5_copy_131 rfl (lv_at hl 0 rfl) ?_
            refine va_get (D := D) (ci := 5) (v := .ref v14) (C := RX5) (T := TX5) (N := 20) hx hb hts kX5_copy_X5 hown hK hP 0 rfl rfl 15 (by decide) (hts _ kX5_copy_f53) (fun _ h9 => h9) rfl dX5_copy_132 ?_
            refine lv_iconst (v := nI 2) hx hb dX5_copy_135 (by decide) ?_
            refine lv_iload_n hx hb dX5_copy_136 rfl (lv_at hl 1 rfl) ?_
            refine x_mul (k := 2 * si) hx hb dX5_copy_137 rfl ?_
            refine lv_iload_n hx hb dX5_copy_138 rfl (lv_at hl 2 rfl) ?_
            refine x_add (k := (2 * si) + tn) hx hb dX5_copy_139 rfl ?_
            refine lv_aload_n hx hb dX5_copy_140 rfl (lv_at hl 0 rfl) ?_
            refine va_get (D := D) (ci := 5) (v := .int (nI n)) (C := RX5) (T := TX5) (N := 20) hx hb hts kX5_copy_X5 hown hK hP 0 rfl rfl 2 (by decide) (hts _ kX5_copy_f76) (fun _ h9 => h9) rfl dX5_copy_141 ?_
            refine x_ast (g := upd cop ((2 * si) + tn) (nI n)) (ws' := [(v0, .inr (5, [.ref v1, .ref v2, .int (nI n), .int (nI lim), .ref v3, .ref v4, .ref v5, .ref v6, .ref v7, .ref v8, .ref v9, .ref v10, .ref v11, .ref v12, .ref v13, .ref v14, .ref v15, .ref v16, .ref v17, .int (nI 0)])), (v2, .inl (cI, 1224, .inl kept)), (v3, .inl (cI, 52, .inl chg)), (v7, .inl (cI, 6, .inl col)), (v8, .inl (cI, 6, .inl rel)), (v9, .inl (cI, 6, .inl num)), (v10, .inl (cI, 6, .inl lis)), (v11, .inl (cI, 3, .inl boo)), (v12, .inl (cI, 3, .inl sta)), (v14, .inl (cI, 6, .inl (upd cop ((2 * si) + tn) (nI n)))), (v15, .inl (cI, 72, .inl (mPut (fun j => mSel (col (2 * bk si + tn)) (rel (2 * bk si + tn)) (num (2 * bk si + tn)) (lis (2 * bk si + tn)) (kept (24 * n + 12 * tn + j))) see (24 * si + 12 * tn) 12)))]) hx hb hK hP hD hS 9 0 rfl rfl (by omega) (by omega) (rfl) rfl dX5_copy_144 (fun H locs hP hD hS => ?_)
            refine lv_iload_n hx hb dX5_copy_145 rfl (lv_at hl 3 rfl) ?_
            exact x_ret_i hx hb hrt hlk hP hD hS dX5_copy_146 ⟨by decide, by decide⟩ ((nI 0), upd cop ((2 * si) + tn) (nI n), mPut (fun j => mSel (col (2 * bk si + tn)) (rel (2 * bk si + tn)) (num (2 * bk si + tn)) (lis (2 * bk si + tn)) (kept (24 * n + 12 * tn + j))) see (24 * si + 12 * tn) 12) (Or.inr (Or.inr ⟨si, tn, rfl, hsi9, rfl, htn9, ⟨c26, c40⟩, rfl, (by rw [hq]), rfl, rfl⟩)) rfl
          · refine lv_bipush (v := nI 24) hx hb dX5_copy_68 (by decide) ?_
            refine lv_iload_n hx hb dX5_copy_70 rfl (lv_at hl 1 rfl) ?_
            refine x_mul (k := 24 * si) hx hb dX5_copy_71 rfl ?_
            refine lv_bipush (v := nI 12) hx hb dX5_copy_72 (by decide) ?_
            refine lv_iload_n hx hb dX5_copy_74 rfl (lv_at hl 2 rfl) ?_
            refine x_mul (k := 12 * tn) hx hb dX5_copy_75 rfl ?_
            refine x_add (k := (24 * si) + (12 * tn)) hx hb dX5_copy_76 rfl ?_
            refine lv_iload hx hb dX5_copy_77 (lv_at hl 4 rfl) ?_
            refine x_add (k := ((24 * si) + (12 * tn)) + j) hx hb dX5_copy_79 rfl ?_
            refine lv_istore (lv' := [(5, .int (nI (((24 * si) + (12 * tn)) + j))), (0, .ref v0), (1, .int (nI si)), (2, .int (nI tn)), (3, .int (nI cq)), (4, .int (nI j))]) hx hb dX5_copy_80 hl (by decide) rfl (fun ls hl => ?_)
            refine lv_aload_n hx hb dX5_copy_82 rfl (lv_at hl 1 rfl) ?_
            refine va_get (D := D) (ci := 5) (v := .ref v15) (C := RX5) (T := TX5) (N := 20) hx hb hts kX5_copy_X5 hown hK hP 0 rfl rfl 16 (by decide) (hts _ kX5_copy_f56) (fun _ h9 => h9) rfl dX5_copy_83 ?_
            refine lv_iload hx hb dX5_copy_86 (lv_at hl 0 rfl) ?_
            refine lv_aload_n hx hb dX5_copy_88 rfl (lv_at hl 1 rfl) ?_
            refine lv_aload_n hx hb dX5_copy_89 rfl (lv_at hl 1 rfl) ?_
            refine va_get (D := D) (ci := 5) (v := .ref v11) (C := RX5) (T := TX5) (N := 20) hx hb hts kX5_copy_X5 hown hK hP 0 rfl rfl 12 (by decide) (hts _ kX5_copy_f44) (fun _ h9 => h9) rfl dX5_copy_90 ?_
            refine lv_iload_n hx hb dX5_copy_93 rfl (lv_at hl 2 rfl) ?_
            refine x_ald (v := nI (bk si)) hx hb hK hP 7 0 rfl rfl (by omega) (by omega) (hboo _ (by omega)) dX5_copy_94 ?_
            refine lv_iload_n hx hb dX5_copy_95 rfl (lv_at hl 3 rfl) ?_
            refine lv_iload hx hb dX5_copy_96 (lv_at hl 5 rfl) ?_
            refine lv_aload_n hx hb dX5_copy_98 rfl (lv_at hl 1 rfl) ?_
            refine va_get (D := D) (ci := 5) (v := .int (nI n)) (C := RX5) (T := TX5) (N := 20) hx hb hts kX5_copy_X5 hown hK hP 0 rfl rfl 2 (by decide) (hts _ kX5_copy_f76) (fun _ h9 => h9) rfl dX5_copy_99 ?_
            refine x_calli (w2 := fun (u : Unit) => [(v0, .inr (5, [.ref v1, .ref v2, .int (nI n), .int (nI lim), .ref v3, .ref v4, .ref v5, .ref v6, .ref v7, .ref v8, .ref v9, .ref v10, .ref v11, .ref v12, .ref v13, .ref v14, .ref v15, .ref v16, .ref v17, .int (nI 0)])), (v2, .inl (cI, 1224, .inl kept)), (v3, .inl (cI, 52, .inl chg)), (v7, .inl (cI, 6, .inl col)), (v8, .inl (cI, 6, .inl rel)), (v9, .inl (cI, 6, .inl num)), (v10, .inl (cI, 6, .inl lis)), (v11, .inl (cI, 3, .inl boo)), (v12, .inl (cI, 3, .inl sta)), (v14, .inl (cI, 6, .inl cop)), (v15, .inl (cI, 72, .inl f))]) (wr := [(v3, .inl (cI, 52, .inl chg)), (v11, .inl (cI, 3, .inl boo)), (v12, .inl (cI, 3, .inl sta)), (v14, .inl (cI, 6, .inl cop)), (v15, .inl (cI, 72, .inl f))]) (x_runV (n := 4) ⟨hx, hb, hml, hown, hts⟩ (zX5_chosenAt l D cI cP cS cL v0 v1 v2 v3 v4 v5 v6 v7 v8 v9 v10 v11 v12 v13 v14 v15 v16 v17 n lim (nI 0) kept col rel num lis (bk si) tn j n hk4 htn9 (by omega) (by omega)) gX5_copy_X5_chosenAt rfl rfl rfl (by decide +kernel) ⟨by decide, by decide⟩ hN hK hP hD [0, 1, 3, 4, 5, 6] rfl rfl (ci := 5) (q0 := 0) rfl rfl rfl rfl hl.1 (rest := [.int (nI (((24 * si) + (12 * tn)) + j)), .ref v15]) (As := [.int (nI (bk si)), .int (nI tn), .int (nI j), .int (nI n)]) rfl (Nat.le_of_ble_eq_true rfl) dX5_copy_102 ⟨by decide, by decide⟩) hP hD hS hA [0, 1, 3, 4, 5, 6] [2, 7, 8, 9, 10] [5, 6, 0, 7, 8, 9, 10, 1, 2, 3, 4] rfl rfl rfl (by decide) rfl (fun _ => rfl) (fun r102 u H locs hw hP hD hS => ?_)
            subst hw
            refine x_ast (g := upd f (((24 * si) + (12 * tn)) + j) (mSel (col (2 * (bk si) + tn)) (rel (2 * (bk si) + tn)) (num (2 * (bk si) + tn)) (lis (2 * (bk si) + tn)) (kept (24 * n + 12 * tn + j)))) (ws' := [(v0, .inr (5, [.ref v1, .ref v2, .int (nI n), .int (nI lim), .ref v3, .ref v4, .ref v5, .ref v6, .ref v7, .ref v8, .ref v9, .ref v10, .ref v11, .ref v12, .ref v13, .ref v14, .ref v15, .ref v16, .ref v17, .int (nI 0)])), (v2, .inl (cI, 1224, .inl kept)), (v3, .inl (cI, 52, .inl chg)), (v7, .inl (cI, 6, .inl col)), (v8, .inl (cI, 6, .inl rel)), (v9, .inl (cI, 6, .inl num)), (v10, .inl (cI, 6, .inl lis)), (v11, .inl (cI, 3, .inl boo)), (v12, .inl (cI, 3, .inl sta)), (v14, .inl (cI, 6, .inl cop)), (v15, .inl (cI, 72, .inl (upd f (((24 * si) + (12 * tn)) + j) (mSel (col (2 * (bk si) + tn)) (rel (2 * (bk si) + tn)) (num (2 * (bk si) + tn)) (lis (2 * (bk si) + tn)) (kept (24 * n + 12 * tn + j))))))]) hx hb hK hP hD hS 10 0 rfl rfl (by omega) (by omega) (rfl) rfl dX5_copy_105 (fun H locs hP hD hS => ?_)
            refine lv_iload_n hx hb dX5_copy_106 rfl (lv_at hl 4 rfl) ?_
            refine lv_aload_n hx hb dX5_copy_107 rfl (lv_at hl 1 rfl) ?_
            refine va_get (D := D) (ci := 5) (v := .ref v15) (C := RX5) (T := TX5) (N := 20) hx hb hts kX5_copy_X5 hown hK hP 0 rfl rfl 16 (by decide) (hts _ kX5_copy_f56) (fun _ h9 => h9) rfl dX5_copy_108 ?_
            refine lv_iload hx hb dX5_copy_111 (lv_at hl 0 rfl) ?_
            refine x_ald (v := mSel (col (2 * (bk si) + tn)) (rel (2 * (bk si) + tn)) (num (2 * (bk si) + tn)) (lis (2 * (bk si) + tn)) (kept (24 * n + 12 * tn + j))) hx hb hK hP 10 0 rfl rfl (by omega) (by omega) pk_us dX5_copy_113 ?_
            refine lv_iconst (v := -1) hx hb dX5_copy_114 (by decide) ?_
            refine x_cmp_ne (tgt := 122) hx hb (Iff.rfl) dX5_copy_115 (by decide) (fun c115 => ?_) (fun c115 => ?_)
            · refine lv_iconst (v := nI 1) hx hb dX5_copy_122 (by decide) ?_
              refine x_add (k := cq + 1) hx hb dX5_copy_123 rfl ?_
              refine lv_istore_n (lv' := [(3, .int (nI (cq + 1))), (5, .int (nI (((24 * si) + (12 * tn)) + j))), (0, .ref v0), (1, .int (nI si)), (2, .int (nI tn)), (4, .int (nI j))]) hx hb dX5_copy_124 rfl hl (by decide) rfl (fun ls hl => ?_)
              refine x_iinc (k := 5) (o := 1) (v := j + 1) (lv' := [(4, .int (nI (j + 1))), (3, .int (nI (cq + 1))), (5, .int (nI (((24 * si) + (12 * tn)) + j))), (0, .ref v0), (1, .int (nI si)), (2, .int (nI tn))]) hx hb dX5_copy_125 hl rfl rfl rfl (by decide) rfl (fun ls hl => ?_)
              refine lv_goto (tgt := 61) hx hb dX5_copy_128 (by decide) ?_
              exact ih61 (j + 1, upd f (((24 * si) + (12 * tn)) + j) (mSel (col (2 * (bk si) + tn)) (rel (2 * (bk si) + tn)) (num (2 * (bk si) + tn)) (lis (2 * (bk si) + tn)) (kept (24 * n + 12 * tn + j))), cq + 1) ⟨by omega, (by rw [hf]; exact mPut_s rfl), (by rw [hq]; exact (mCnt_n (g := (fun j => mSel (col (2 * bk si + tn)) (rel (2 * bk si + tn)) (num (2 * bk si + tn)) (lis (2 * bk si + tn)) (kept (24 * n + 12 * tn + j)))) c115).symm)⟩ (by show 12 - (j + 1) < 12 - j; omega) _ _ _ hP hD hS (lv_sub hl [3, 4, 5, 1, 0] rfl)
            · refine lv_iconst (v := nI 0) hx hb dX5_copy_118 (by decide) ?_
              refine lv_goto (tgt := 123) hx hb dX5_copy_119 (by decide) ?_
              refine x_add (k := cq + 0) hx hb dX5_copy_123 rfl ?_
              refine lv_istore_n (lv' := [(3, .int (nI (cq + 0))), (5, .int (nI (((24 * si) + (12 * tn)) + j))), (0, .ref v0), (1, .int (nI si)), (2, .int (nI tn)), (4, .int (nI j))]) hx hb dX5_copy_124 rfl hl (by decide) rfl (fun ls hl => ?_)
              refine x_iinc (k := 5) (o := 1) (v := j + 1) (lv' := [(4, .int (nI (j + 1))), (3, .int (nI (cq + 0))), (5, .int (nI (((24 * si) + (12 * tn)) + j))), (0, .ref v0), (1, .int (nI si)), (2, .int (nI tn))]) hx hb dX5_copy_125 hl rfl rfl rfl (by decide) rfl (fun ls hl => ?_)
              refine lv_goto (tgt := 61) hx hb dX5_copy_128 (by decide) ?_
              exact ih61 (j + 1, upd f (((24 * si) + (12 * tn)) + j) (mSel (col (2 * (bk si) + tn)) (rel (2 * (bk si) + tn)) (num (2 * (bk si) + tn)) (lis (2 * (bk si) + tn)) (kept (24 * n + 12 * tn + j))), cq + 0) ⟨by omega, (by rw [hf]; exact mPut_s rfl), (by rw [hq]; exact (mCnt_y (g := (fun j => mSel (col (2 * bk si + tn)) (rel (2 * bk si + tn)) (num (2 * bk si + tn)) (lis (2 * bk si + tn)) (kept (24 * n + 12 * tn + j)))) c115).symm)⟩ (by show 12 - (j + 1) < 12 - j; omega) _ _ _ hP hD hS (lv_sub hl [3, 4, 5, 1, 0] rfl)
        · refine lv_iconst (v := nI 2) hx hb dX5_copy_43 (by decide) ?_
          refine lv_goto (tgt := 48) hx hb dX5_copy_44 (by decide) ?_
          refine x_calli (w2 := fun (u : Unit) => [(v0, .inr (5, [.ref v1, .ref v2, .int (nI n), .int (nI lim), .ref v3, .ref v4, .ref v5, .ref v6, .ref v7, .ref v8, .ref v9, .ref v10, .ref v11, .ref v12, .ref v13, .ref v14, .ref v15, .ref v16, .ref v17, .int (nI 2)])), (v2, .inl (cI, 1224, .inl kept)), (v3, .inl (cI, 52, .inl chg)), (v7, .inl (cI, 6, .inl col)), (v8, .inl (cI, 6, .inl rel)), (v9, .inl (cI, 6, .inl num)), (v10, .inl (cI, 6, .inl lis)), (v11, .inl (cI, 3, .inl boo)), (v12, .inl (cI, 3, .inl sta)), (v14, .inl (cI, 6, .inl cop)), (v15, .inl (cI, 72, .inl see))]) (wr := [(v2, .inl (cI, 1224, .inl kept)), (v3, .inl (cI, 52, .inl chg)), (v7, .inl (cI, 6, .inl col)), (v8, .inl (cI, 6, .inl rel)), (v9, .inl (cI, 6, .inl num)), (v10, .inl (cI, 6, .inl lis)), (v11, .inl (cI, 3, .inl boo)), (v12, .inl (cI, 3, .inl sta)), (v14, .inl (cI, 6, .inl cop)), (v15, .inl (cI, 72, .inl see))]) (x_runV (n := 1) ⟨hx, hb, hml, hown, hts⟩ (zX5_fails l D cI cP cS cL v0 v1 v2 v3 v4 v5 v6 v7 v8 v9 v10 v11 v12 v13 v14 v15 v16 v17 n lim (th) 2 (by decide)) gX5_copy_X5_fails rfl rfl rfl (by decide +kernel) ⟨by decide, by decide⟩ hN hK hP hD [0] rfl rfl (ci := 5) (q0 := 0) rfl rfl rfl rfl hl.1 (rest := []) (As := [.int (nI 2)]) rfl (Nat.le_of_ble_eq_true rfl) dX5_copy_48 ⟨by decide, by decide⟩) hP hD hS hA [0] [1, 2, 3, 4, 5, 6, 7, 8, 9, 10] [10, 0, 1, 2, 3, 4, 5, 6, 7, 8, 9] rfl rfl rfl (by decide) rfl (fun _ => rfl) (fun r48 u H locs hw hP hD hS => ?_)
          replace hw : r48 = nI 1 := hw.trans (by decide)
          subst hw
          refine x_if_eq (tgt := 56) hx hb (nI_z (by omega)) dX5_copy_51 (by decide) (fun c51 => ?_) (fun c51 => ?_)
          · exact absurd c51 (by omega)
          refine lv_iconst (v := nI 0) hx hb dX5_copy_54 (by decide) ?_
          exact x_ret_i hx hb hrt hlk hP hD hS dX5_copy_55 ⟨by decide, by decide⟩ ((nI 2), cop, see) (Or.inr (Or.inl ⟨si, tn, rfl, hsi9, rfl, htn9, (fun q => by omega), rfl, rfl, rfl⟩)) rfl
    · refine lv_iconst (v := nI 1) hx hb dX5_copy_15 (by decide) ?_
      refine lv_goto (tgt := 48) hx hb dX5_copy_16 (by decide) ?_
      refine x_calli (w2 := fun (u : Unit) => [(v0, .inr (5, [.ref v1, .ref v2, .int (nI n), .int (nI lim), .ref v3, .ref v4, .ref v5, .ref v6, .ref v7, .ref v8, .ref v9, .ref v10, .ref v11, .ref v12, .ref v13, .ref v14, .ref v15, .ref v16, .ref v17, .int (nI 1)])), (v2, .inl (cI, 1224, .inl kept)), (v3, .inl (cI, 52, .inl chg)), (v7, .inl (cI, 6, .inl col)), (v8, .inl (cI, 6, .inl rel)), (v9, .inl (cI, 6, .inl num)), (v10, .inl (cI, 6, .inl lis)), (v11, .inl (cI, 3, .inl boo)), (v12, .inl (cI, 3, .inl sta)), (v14, .inl (cI, 6, .inl cop)), (v15, .inl (cI, 72, .inl see))]) (wr := [(v2, .inl (cI, 1224, .inl kept)), (v3, .inl (cI, 52, .inl chg)), (v7, .inl (cI, 6, .inl col)), (v8, .inl (cI, 6, .inl rel)), (v9, .inl (cI, 6, .inl num)), (v10, .inl (cI, 6, .inl lis)), (v11, .inl (cI, 3, .inl boo)), (v12, .inl (cI, 3, .inl sta)), (v14, .inl (cI, 6, .inl cop)), (v15, .inl (cI, 72, .inl see))]) (x_runV (n := 1) ⟨hx, hb, hml, hown, hts⟩ (zX5_fails l D cI cP cS cL v0 v1 v2 v3 v4 v5 v6 v7 v8 v9 v10 v11 v12 v13 v14 v15 v16 v17 n lim (th) 1 (by decide)) gX5_copy_X5_fails rfl rfl rfl (by decide +kernel) ⟨by decide, by decide⟩ hN hK hP hD [0] rfl rfl (ci := 5) (q0 := 0) rfl rfl rfl rfl hl.1 (rest := []) (As := [.int (nI 1)]) rfl (Nat.le_of_ble_eq_true rfl) dX5_copy_48 ⟨by decide, by decide⟩) hP hD hS hA [0] [1, 2, 3, 4, 5, 6, 7, 8, 9, 10] [10, 0, 1, 2, 3, 4, 5, 6, 7, 8, 9] rfl rfl rfl (by decide) rfl (fun _ => rfl) (fun r48 u H locs hw hP hD hS => ?_)
      replace hw : r48 = nI 1 := hw.trans (by decide)
      subst hw
      refine x_if_eq (tgt := 56) hx hb (nI_z (by omega)) dX5_copy_51 (by decide) (fun c51 => ?_) (fun c51 => ?_)
      · exact absurd c51 (by omega)
      refine lv_iconst (v := nI 0) hx hb dX5_copy_54 (by decide) ?_
      exact x_ret_i hx hb hrt hlk hP hD hS dX5_copy_55 ⟨by decide, by decide⟩ ((nI 1), cop, see) (Or.inl ⟨fun q => qIn_n c12 q.2, rfl, rfl, rfl⟩) rfl

set_option maxRecDepth 20000 in
theorem kX5_goOn_f47 : Cond.fieldLink RX5 47 "RowReplicatorModel" "state" "[I" ∈ wsX5_goOn := by decide +kernel
set_option maxRecDepth 20000 in
theorem kX5_goOn_X5 : ∀ w ∈ wsX50, w ∈ wsX5_goOn := by decide +kernel
set_option maxRecDepth 20000 in
theorem kX5_goOn_f50 : Cond.fieldLink RX5 50 "RowReplicatorModel" "slot" "[I" ∈ wsX5_goOn := by decide +kernel
set_option maxHeartbeats 4000000 in
set_option maxRecDepth 100000 in
theorem zX5_goOn (l : Launch) (D : va_G) (cI cP cS cL : ClassId) (v0 v1 v2 v3 v4 v5 v6 v7 v8 v9 v10 v11 v12 v13 v14 v15 v16 v17 : Nat) (n lim : Nat) (th : Int32) (st sl : Nat → Nat) (sta slo : Nat → Int32) (sx bx : Int32) (hsta : ∀ i, i < 3 → sta i = nI (st i)) (hst3 : ∀ i, i < 3 → st i ≤ 3) (hslo : ∀ i, i < 3 → slo i = nI (sl i)) : xMi l yX5_goOn wsX5_goOn (rmD 2 0 0) D [(cI, .int), (cP, .object RX0), (cS, .object RX2), (cL, .long)] [.ref v0, .int sx, .int bx] [(v0, .inr (5, [.ref v1, .ref v2, .int (nI n), .int (nI lim), .ref v3, .ref v4, .ref v5, .ref v6, .ref v7, .ref v8, .ref v9, .ref v10, .ref v11, .ref v12, .ref v13, .ref v14, .ref v15, .ref v16, .ref v17, .int th])), (v12, .inl (cI, 3, .inl sta)), (v13, .inl (cI, 3, .inl slo))] (fun (r : Int32) (u : Int32 × (Nat → Int32) × (Nat → Int32)) => match u with | (h, a2, a3) => ((¬ vp_in sx 3 ∧ h = nI 1 ∧ a2 = sta ∧ a3 = slo) ∨ (∃ si, sx = nI si ∧ si < 3 ∧ ¬ st si = 2 ∧ h = nI 2 ∧ a2 = sta ∧ a3 = slo) ∨ (∃ si, sx = nI si ∧ si < 3 ∧ st si = 2 ∧ h = nI 0 ∧ r = nI (if bx = 0 then sl si else sl si + 1) ∧ a2 = upd sta si (nI 1) ∧ a3 = upd slo si (nI (if bx = 0 then sl si else sl si + 1))))) (fun (u : Int32 × (Nat → Int32) × (Nat → Int32)) => match u with | (h, a2, a3) => [(v0, .inr (5, [.ref v1, .ref v2, .int (nI n), .int (nI lim), .ref v3, .ref v4, .ref v5, .ref v6, .ref v7, .ref v8, .ref v9, .ref v10, .ref v11, .ref v12, .ref v13, .ref v14, .ref v15, .ref v16, .ref v17, .int h])), (v12, .inl (cI, 3, .inl a2)), (v13, .inl (cI, 3, .inl a3))]) 0 0 := by
  refine xe_i (cc := cX5_goOn) (maxL := 3) (ret := (some .int)) (by decide) rfl (Nat.le_of_ble_eq_true rfl) ?_
  intro zp ze s zm below meth zc A ls B
  obtain ⟨hx, hb, hml, hrt, hts, hown, hnm, hlk, hK, hP, hD, hA, hS, hN, hl⟩ := B
  have hown : s.vm.findClass RX5 = some zm.cls := hown
  have hl : lv_has ls 3 [(0, .ref v0), (1, .int sx), (2, .int bx)] := hl
  have hA : ∀ q, s.heap.size ≤ q → A q := hA
  refine lv_aload_n hx hb dX5_goOn_0 rfl (lv_at hl 0 rfl) ?_
  refine lv_iload_n hx hb dX5_goOn_1 rfl (lv_at hl 1 rfl) ?_
  refine x_calli (w2 := fun (u : Unit) => [(v0, .inr (5, [.ref v1, .ref v2, .int (nI n), .int (nI lim), .ref v3, .ref v4, .ref v5, .ref v6, .ref v7, .ref v8, .ref v9, .ref v10, .ref v11, .ref v12, .ref v13, .ref v14, .ref v15, .ref v16, .ref v17, .int th])), (v12, .inl (cI, 3, .inl sta)), (v13, .inl (cI, 3, .inl slo))]) (wr := [(v0, .inr (5, [.ref v1, .ref v2, .int (nI n), .int (nI lim), .ref v3, .ref v4, .ref v5, .ref v6, .ref v7, .ref v8, .ref v9, .ref v10, .ref v11, .ref v12, .ref v13, .ref v14, .ref v15, .ref v16, .ref v17, .int th])), (v12, .inl (cI, 3, .inl sta)), (v13, .inl (cI, 3, .inl slo))]) (x_runS (n := 1) ⟨hx, hb, hml, hown, hts⟩ (zX5_isThird l D cI cP cS cL sx) gX5_goOn_X5_isThird rfl rfl rfl (by decide +kernel) ⟨by decide, by decide⟩ hN hK hP hD [] rfl rfl rfl hl.1 (rest := [.ref v0]) (As := [.int sx]) rfl (Nat.le_of_ble_eq_true rfl) dX5_goOn_2 ⟨by decide, by decide⟩) hP hD hS hA [] [0, 1, 2] [0, 1, 2] rfl rfl rfl (by decide) rfl (fun _ => rfl) (fun r2 u H locs hw hP hD hS => ?_)
  subst hw
  refine x_if_ne (tgt := 12) hx hb (bI_0 _) dX5_goOn_5 (by decide) (fun c5 => ?_) (fun c5 => ?_)
  · obtain ⟨si, hsi9, esi⟩ := vp_in_of (qIn_y c5) (by decide)
    subst esi
    have hk3 := hst3 si hsi9
    refine lv_aload_n hx hb dX5_goOn_12 rfl (lv_at hl 0 rfl) ?_
    refine va_get (D := D) (ci := 5) (v := .ref v12) (C := RX5) (T := TX5) (N := 20) hx hb hts kX5_goOn_X5 hown hK hP 0 rfl rfl 13 (by decide) (hts _ kX5_goOn_f47) (fun _ h9 => h9) rfl dX5_goOn_13 ?_
    refine lv_iload_n hx hb dX5_goOn_16 rfl (lv_at hl 1 rfl) ?_
    refine x_ald (v := nI (st si)) hx hb hK hP 1 0 rfl rfl (by omega) (by omega) (hsta _ (by omega)) dX5_goOn_17 ?_
    refine lv_iconst (v := nI 2) hx hb dX5_goOn_18 (by decide) ?_
    refine x_cmp_ne (tgt := 26) hx hb (nI_eq (a := (st si)) (b := 2) (by omega) (by omega)) dX5_goOn_19 (by decide) (fun c19 => ?_) (fun c19 => ?_)
    · refine lv_iconst (v := nI 2) hx hb dX5_goOn_26 (by decide) ?_
      refine x_calli (w2 := fun (u : Unit) => [(v0, .inr (5, [.ref v1, .ref v2, .int (nI n), .int (nI lim), .ref v3, .ref v4, .ref v5, .ref v6, .ref v7, .ref v8, .ref v9, .ref v10, .ref v11, .ref v12, .ref v13, .ref v14, .ref v15, .ref v16, .ref v17, .int (nI 2)])), (v12, .inl (cI, 3, .inl sta)), (v13, .inl (cI, 3, .inl slo))]) (wr := [(v12, .inl (cI, 3, .inl sta)), (v13, .inl (cI, 3, .inl slo))]) (x_runV (n := 1) ⟨hx, hb, hml, hown, hts⟩ (zX5_fails l D cI cP cS cL v0 v1 v2 v3 v4 v5 v6 v7 v8 v9 v10 v11 v12 v13 v14 v15 v16 v17 n lim (th) 2 (by decide)) gX5_goOn_X5_fails rfl rfl rfl (by decide +kernel) ⟨by decide, by decide⟩ hN hK hP hD [0] rfl rfl (ci := 5) (q0 := 0) rfl rfl rfl rfl hl.1 (rest := []) (As := [.int (nI 2)]) rfl (Nat.le_of_ble_eq_true rfl) dX5_goOn_27 ⟨by decide, by decide⟩) hP hD hS hA [0] [1, 2] [2, 0, 1] rfl rfl rfl (by decide) rfl (fun _ => rfl) (fun r27 u H locs hw hP hD hS => ?_)
      replace hw : r27 = nI 1 := hw.trans (by decide)
      subst hw
      refine x_if_eq (tgt := 35) hx hb (nI_z (by omega)) dX5_goOn_30 (by decide) (fun c30 => ?_) (fun c30 => ?_)
      · exact absurd c30 (by omega)
      refine lv_iconst (v := nI 0) hx hb dX5_goOn_33 (by decide) ?_
      exact x_ret_i hx hb hrt hlk hP hD hS dX5_goOn_34 ⟨by decide, by decide⟩ ((nI 2), sta, slo) (Or.inr (Or.inl ⟨si, rfl, hsi9, c19, rfl, rfl, rfl⟩)) rfl
    · refine lv_iconst (v := nI 0) hx hb dX5_goOn_22 (by decide) ?_
      refine lv_goto (tgt := 27) hx hb dX5_goOn_23 (by decide) ?_
      refine x_calli (w2 := fun (u : Unit) => [(v0, .inr (5, [.ref v1, .ref v2, .int (nI n), .int (nI lim), .ref v3, .ref v4, .ref v5, .ref v6, .ref v7, .ref v8, .ref v9, .ref v10, .ref v11, .ref v12, .ref v13, .ref v14, .ref v15, .ref v16, .ref v17, .int (nI 0)])), (v12, .inl (cI, 3, .inl sta)), (v13, .inl (cI, 3, .inl slo))]) (wr := [(v12, .inl (cI, 3, .inl sta)), (v13, .inl (cI, 3, .inl slo))]) (x_runV (n := 1) ⟨hx, hb, hml, hown, hts⟩ (zX5_fails l D cI cP cS cL v0 v1 v2 v3 v4 v5 v6 v7 v8 v9 v10 v11 v12 v13 v14 v15 v16 v17 n lim (th) 0 (by decide)) gX5_goOn_X5_fails rfl rfl rfl (by decide +kernel) ⟨by decide, by decide⟩ hN hK hP hD [0] rfl rfl (ci := 5) (q0 := 0) rfl rfl rfl rfl hl.1 (rest := []) (As := [.int (nI 0)]) rfl (Nat.le_of_ble_eq_true rfl) dX5_goOn_27 ⟨by decide, by decide⟩) hP hD hS hA [0] [1, 2] [2, 0, 1] rfl rfl rfl (by decide) rfl (fun _ => rfl) (fun r27 u H locs hw hP hD hS => ?_)
      replace hw : r27 = nI 0 := hw.trans (by decide)
      subst hw
      refine x_if_eq (tgt := 35) hx hb (nI_z (by omega)) dX5_goOn_30 (by decide) (fun c30 => ?_) (fun c30 => ?_)
      rotate_left
      · exact absurd c30 (by omega)
      refine lv_aload_n hx hb dX5_goOn_35 rfl (lv_at hl 0 rfl) ?_
      refine va_get (D := D) (ci := 5) (v := .ref v12) (C := RX5) (T := TX5) (N := 20) hx hb hts kX5_goOn_X5 hown hK hP 0 rfl rfl 13 (by decide) (hts _ kX5_goOn_f47) (fun _ h9 => h9) rfl dX5_goOn_36 ?_
      refine lv_iload_n hx hb dX5_goOn_39 rfl (lv_at hl 1 rfl) ?_
      refine lv_iconst (v := nI 1) hx hb dX5_goOn_40 (by decide) ?_
      refine x_ast (g := upd sta si (nI 1)) (ws' := [(v0, .inr (5, [.ref v1, .ref v2, .int (nI n), .int (nI lim), .ref v3, .ref v4, .ref v5, .ref v6, .ref v7, .ref v8, .ref v9, .ref v10, .ref v11, .ref v12, .ref v13, .ref v14, .ref v15, .ref v16, .ref v17, .int (nI 0)])), (v12, .inl (cI, 3, .inl (upd sta si (nI 1)))), (v13, .inl (cI, 3, .inl slo))]) hx hb hK hP hD hS 1 0 rfl rfl (by omega) (by omega) (rfl) rfl dX5_goOn_41 (fun H locs hP hD hS => ?_)
      refine lv_aload_n hx hb dX5_goOn_42 rfl (lv_at hl 0 rfl) ?_
      refine va_get (D := D) (ci := 5) (v := .ref v13) (C := RX5) (T := TX5) (N := 20) hx hb hts kX5_goOn_X5 hown hK hP 0 rfl rfl 14 (by decide) (hts _ kX5_goOn_f50) (fun _ h9 => h9) rfl dX5_goOn_43 ?_
      refine lv_iload_n hx hb dX5_goOn_46 rfl (lv_at hl 1 rfl) ?_
      refine lv_dup2_11 hx hb dX5_goOn_47 rfl rfl ?_
      refine x_ald (v := nI (sl si)) hx hb hK hP 2 0 rfl rfl (by omega) (by omega) (hslo _ (by omega)) dX5_goOn_48 ?_
      refine lv_iload_n hx hb dX5_goOn_49 rfl (lv_at hl 2 rfl) ?_
      refine x_if_eq (tgt := 57) hx hb (Iff.rfl) dX5_goOn_50 (by decide) (fun c50 => ?_) (fun c50 => ?_)
      · refine lv_iconst (v := nI 0) hx hb dX5_goOn_57 (by decide) ?_
        refine x_add (k := (sl si) + 0) hx hb dX5_goOn_58 rfl ?_
        refine x_ast (g := upd slo si (nI ((sl si) + 0))) (ws' := [(v0, .inr (5, [.ref v1, .ref v2, .int (nI n), .int (nI lim), .ref v3, .ref v4, .ref v5, .ref v6, .ref v7, .ref v8, .ref v9, .ref v10, .ref v11, .ref v12, .ref v13, .ref v14, .ref v15, .ref v16, .ref v17, .int (nI 0)])), (v12, .inl (cI, 3, .inl (upd sta si (nI 1)))), (v13, .inl (cI, 3, .inl (upd slo si (nI ((sl si) + 0)))))]) hx hb hK hP hD hS 2 0 rfl rfl (by omega) (by omega) (rfl) rfl dX5_goOn_59 (fun H locs hP hD hS => ?_)
        refine lv_aload_n hx hb dX5_goOn_60 rfl (lv_at hl 0 rfl) ?_
        refine va_get (D := D) (ci := 5) (v := .ref v13) (C := RX5) (T := TX5) (N := 20) hx hb hts kX5_goOn_X5 hown hK hP 0 rfl rfl 14 (by decide) (hts _ kX5_goOn_f50) (fun _ h9 => h9) rfl dX5_goOn_61 ?_
        refine lv_iload_n hx hb dX5_goOn_64 rfl (lv_at hl 1 rfl) ?_
        refine x_ald (v := nI ((sl si) + 0)) hx hb hK hP 2 0 rfl rfl (by omega) (by omega) pk_us dX5_goOn_65 ?_
        exact x_ret_i hx hb hrt hlk hP hD hS dX5_goOn_66 ⟨by decide, by decide⟩ ((nI 0), upd sta si (nI 1), upd slo si (nI ((sl si) + 0))) (Or.inr (Or.inr ⟨si, rfl, hsi9, c19, rfl, (by rw [if_pos c50] <;> rfl), rfl, (by rw [if_pos c50] <;> rfl)⟩)) rfl
      · refine lv_iconst (v := nI 1) hx hb dX5_goOn_53 (by decide) ?_
        refine lv_goto (tgt := 58) hx hb dX5_goOn_54 (by decide) ?_
        refine x_add (k := (sl si) + 1) hx hb dX5_goOn_58 rfl ?_
        refine x_ast (g := upd slo si (nI ((sl si) + 1))) (ws' := [(v0, .inr (5, [.ref v1, .ref v2, .int (nI n), .int (nI lim), .ref v3, .ref v4, .ref v5, .ref v6, .ref v7, .ref v8, .ref v9, .ref v10, .ref v11, .ref v12, .ref v13, .ref v14, .ref v15, .ref v16, .ref v17, .int (nI 0)])), (v12, .inl (cI, 3, .inl (upd sta si (nI 1)))), (v13, .inl (cI, 3, .inl (upd slo si (nI ((sl si) + 1)))))]) hx hb hK hP hD hS 2 0 rfl rfl (by omega) (by omega) (rfl) rfl dX5_goOn_59 (fun H locs hP hD hS => ?_)
        refine lv_aload_n hx hb dX5_goOn_60 rfl (lv_at hl 0 rfl) ?_
        refine va_get (D := D) (ci := 5) (v := .ref v13) (C := RX5) (T := TX5) (N := 20) hx hb hts kX5_goOn_X5 hown hK hP 0 rfl rfl 14 (by decide) (hts _ kX5_goOn_f50) (fun _ h9 => h9) rfl dX5_goOn_61 ?_
        refine lv_iload_n hx hb dX5_goOn_64 rfl (lv_at hl 1 rfl) ?_
        refine x_ald (v := nI ((sl si) + 1)) hx hb hK hP 2 0 rfl rfl (by omega) (by omega) pk_us dX5_goOn_65 ?_
        exact x_ret_i hx hb hrt hlk hP hD hS dX5_goOn_66 ⟨by decide, by decide⟩ ((nI 0), upd sta si (nI 1), upd slo si (nI ((sl si) + 1))) (Or.inr (Or.inr ⟨si, rfl, hsi9, c19, rfl, (by rw [if_neg c50] <;> rfl), rfl, (by rw [if_neg c50] <;> rfl)⟩)) rfl
  · refine lv_iconst (v := nI 1) hx hb dX5_goOn_8 (by decide) ?_
    refine lv_goto (tgt := 27) hx hb dX5_goOn_9 (by decide) ?_
    refine x_calli (w2 := fun (u : Unit) => [(v0, .inr (5, [.ref v1, .ref v2, .int (nI n), .int (nI lim), .ref v3, .ref v4, .ref v5, .ref v6, .ref v7, .ref v8, .ref v9, .ref v10, .ref v11, .ref v12, .ref v13, .ref v14, .ref v15, .ref v16, .ref v17, .int (nI 1)])), (v12, .inl (cI, 3, .inl sta)), (v13, .inl (cI, 3, .inl slo))]) (wr := [(v12, .inl (cI, 3, .inl sta)), (v13, .inl (cI, 3, .inl slo))]) (x_runV (n := 1) ⟨hx, hb, hml, hown, hts⟩ (zX5_fails l D cI cP cS cL v0 v1 v2 v3 v4 v5 v6 v7 v8 v9 v10 v11 v12 v13 v14 v15 v16 v17 n lim (th) 1 (by decide)) gX5_goOn_X5_fails rfl rfl rfl (by decide +kernel) ⟨by decide, by decide⟩ hN hK hP hD [0] rfl rfl (ci := 5) (q0 := 0) rfl rfl rfl rfl hl.1 (rest := []) (As := [.int (nI 1)]) rfl (Nat.le_of_ble_eq_true rfl) dX5_goOn_27 ⟨by decide, by decide⟩) hP hD hS hA [0] [1, 2] [2, 0, 1] rfl rfl rfl (by decide) rfl (fun _ => rfl) (fun r27 u H locs hw hP hD hS => ?_)
    replace hw : r27 = nI 1 := hw.trans (by decide)
    subst hw
    refine x_if_eq (tgt := 35) hx hb (nI_z (by omega)) dX5_goOn_30 (by decide) (fun c30 => ?_) (fun c30 => ?_)
    · exact absurd c30 (by omega)
    refine lv_iconst (v := nI 0) hx hb dX5_goOn_33 (by decide) ?_
    exact x_ret_i hx hb hrt hlk hP hD hS dX5_goOn_34 ⟨by decide, by decide⟩ ((nI 1), sta, slo) (Or.inl ⟨qIn_n c5, rfl, rfl, rfl⟩) rfl

set_option maxRecDepth 20000 in
theorem kX5_own_f56 : Cond.fieldLink RX5 56 "RowReplicatorModel" "seen" "[I" ∈ wsX5_own := by decide +kernel
set_option maxRecDepth 20000 in
theorem kX5_own_X5 : ∀ w ∈ wsX50, w ∈ wsX5_own := by decide +kernel
set_option maxHeartbeats 4000000 in
set_option maxRecDepth 100000 in
theorem zX5_own (l : Launch) (D : va_G) (cI cP cS cL : ClassId) (v0 v1 v2 v3 v4 v5 v6 v7 v8 v9 v10 v11 v12 v13 v14 v15 v16 v17 : Nat) (n lim : Nat) (th : Int32) (see : Nat → Int32) (sx tx kx nx : Int32)  : xMi l yX5_own wsX5_own (rmD 3 0 0) D [(cI, .int), (cP, .object RX0), (cS, .object RX2), (cL, .long)] [.ref v0, .int sx, .int tx, .int kx, .int nx] [(v0, .inr (5, [.ref v1, .ref v2, .int (nI n), .int (nI lim), .ref v3, .ref v4, .ref v5, .ref v6, .ref v7, .ref v8, .ref v9, .ref v10, .ref v11, .ref v12, .ref v13, .ref v14, .ref v15, .ref v16, .ref v17, .int th])), (v15, .inl (cI, 72, .inl see))] (fun (r : Int32) (u : Int32 × (Nat → Int32)) => match u with | (h, a1) => ((¬ (vp_in sx 3 ∧ vp_in tx 2 ∧ vp_in kx 12) ∧ h = nI 1 ∧ a1 = see) ∨ ((vp_in sx 3 ∧ vp_in tx 2 ∧ vp_in kx 12) ∧ ¬ (nx = -1 ∨ vp_in nx 100) ∧ h = nI 2 ∧ a1 = see) ∨ (∃ si tn kn, sx = nI si ∧ si < 3 ∧ tx = nI tn ∧ tn < 2 ∧ kx = nI kn ∧ kn < 12 ∧ (nx = -1 ∨ vp_in nx 100) ∧ h = nI 0 ∧ r = bI (decide (¬ see (24 * si + 12 * tn + kn) = -1)) ∧ a1 = upd see (24 * si + 12 * tn + kn) (if nx = -1 then -1 else nI 10101 * nx)))) (fun (u : Int32 × (Nat → Int32)) => match u with | (h, a1) => [(v0, .inr (5, [.ref v1, .ref v2, .int (nI n), .int (nI lim), .ref v3, .ref v4, .ref v5, .ref v6, .ref v7, .ref v8, .ref v9, .ref v10, .ref v11, .ref v12, .ref v13, .ref v14, .ref v15, .ref v16, .ref v17, .int h])), (v15, .inl (cI, 72, .inl a1))]) 0 0 := by
  refine xe_i (cc := cX5_own) (maxL := 7) (ret := (some .boolean)) (by decide) rfl (Nat.le_of_ble_eq_true rfl) ?_
  intro zp ze s zm below meth zc A ls B
  obtain ⟨hx, hb, hml, hrt, hts, hown, hnm, hlk, hK, hP, hD, hA, hS, hN, hl⟩ := B
  have hown : s.vm.findClass RX5 = some zm.cls := hown
  have hl : lv_has ls 7 [(0, .ref v0), (1, .int sx), (2, .int tx), (3, .int kx), (4, .int nx)] := hl
  have hA : ∀ q, s.heap.size ≤ q → A q := hA
  refine lv_aload_n hx hb dX5_own_0 rfl (lv_at hl 0 rfl) ?_
  refine lv_iload_n hx hb dX5_own_1 rfl (lv_at hl 1 rfl) ?_
  refine x_calli (w2 := fun (u : Unit) => [(v0, .inr (5, [.ref v1, .ref v2, .int (nI n), .int (nI lim), .ref v3, .ref v4, .ref v5, .ref v6, .ref v7, .ref v8, .ref v9, .ref v10, .ref v11, .ref v12, .ref v13, .ref v14, .ref v15, .ref v16, .ref v17, .int th])), (v15, .inl (cI, 72, .inl see))]) (wr := [(v0, .inr (5, [.ref v1, .ref v2, .int (nI n), .int (nI lim), .ref v3, .ref v4, .ref v5, .ref v6, .ref v7, .ref v8, .ref v9, .ref v10, .ref v11, .ref v12, .ref v13, .ref v14, .ref v15, .ref v16, .ref v17, .int th])), (v15, .inl (cI, 72, .inl see))]) (x_runS (n := 1) ⟨hx, hb, hml, hown, hts⟩ (zX5_isThird l D cI cP cS cL sx) gX5_own_X5_isThird rfl rfl rfl (by decide +kernel) ⟨by decide, by decide⟩ hN hK hP hD [] rfl rfl rfl hl.1 (rest := [.ref v0]) (As := [.int sx]) rfl (Nat.le_of_ble_eq_true rfl) dX5_own_2 ⟨by decide, by decide⟩) hP hD hS hA [] [0, 1] [0, 1] rfl rfl rfl (by decide) rfl (fun _ => rfl) (fun r2 u H locs hw hP hD hS => ?_)
  subst hw
  refine x_if_eq (tgt := 16) hx hb (bI_0 _) dX5_own_5 (by decide) (fun c5 => ?_) (fun c5 => ?_)
  · refine lv_iconst (v := nI 1) hx hb dX5_own_16 (by decide) ?_
    refine lv_goto (tgt := 36) hx hb dX5_own_17 (by decide) ?_
    refine x_calli (w2 := fun (u : Unit) => [(v0, .inr (5, [.ref v1, .ref v2, .int (nI n), .int (nI lim), .ref v3, .ref v4, .ref v5, .ref v6, .ref v7, .ref v8, .ref v9, .ref v10, .ref v11, .ref v12, .ref v13, .ref v14, .ref v15, .ref v16, .ref v17, .int (nI 1)])), (v15, .inl (cI, 72, .inl see))]) (wr := [(v15, .inl (cI, 72, .inl see))]) (x_runV (n := 1) ⟨hx, hb, hml, hown, hts⟩ (zX5_fails l D cI cP cS cL v0 v1 v2 v3 v4 v5 v6 v7 v8 v9 v10 v11 v12 v13 v14 v15 v16 v17 n lim (th) 1 (by decide)) gX5_own_X5_fails rfl rfl rfl (by decide +kernel) ⟨by decide, by decide⟩ hN hK hP hD [0] rfl rfl (ci := 5) (q0 := 0) rfl rfl rfl rfl hl.1 (rest := []) (As := [.int (nI 1)]) rfl (Nat.le_of_ble_eq_true rfl) dX5_own_36 ⟨by decide, by decide⟩) hP hD hS hA [0] [1] [1, 0] rfl rfl rfl (by decide) rfl (fun _ => rfl) (fun r36 u H locs hw hP hD hS => ?_)
    replace hw : r36 = nI 1 := hw.trans (by decide)
    subst hw
    refine x_if_eq (tgt := 44) hx hb (nI_z (by omega)) dX5_own_39 (by decide) (fun c39 => ?_) (fun c39 => ?_)
    · exact absurd c39 (by omega)
    refine lv_iconst (v := nI 0) hx hb dX5_own_42 (by decide) ?_
    exact x_ret_z hx hb hrt (by first | exact Or.inl rfl | exact Or.inr rfl) hlk hP hD hS dX5_own_43 ⟨by decide, by decide⟩ ((nI 1), see) (Or.inl ⟨fun q => qIn_n c5 q.1, rfl, rfl⟩) rfl
  · refine lv_iload_n hx hb dX5_own_8 rfl (lv_at hl 2 rfl) ?_
    refine lv_iload_n hx hb dX5_own_9 rfl (lv_at hl 3 rfl) ?_
    refine x_calli (w2 := fun (u : Unit) => [(v0, .inr (5, [.ref v1, .ref v2, .int (nI n), .int (nI lim), .ref v3, .ref v4, .ref v5, .ref v6, .ref v7, .ref v8, .ref v9, .ref v10, .ref v11, .ref v12, .ref v13, .ref v14, .ref v15, .ref v16, .ref v17, .int th])), (v15, .inl (cI, 72, .inl see))]) (wr := [(v0, .inr (5, [.ref v1, .ref v2, .int (nI n), .int (nI lim), .ref v3, .ref v4, .ref v5, .ref v6, .ref v7, .ref v8, .ref v9, .ref v10, .ref v11, .ref v12, .ref v13, .ref v14, .ref v15, .ref v16, .ref v17, .int th])), (v15, .inl (cI, 72, .inl see))]) (x_runS (n := 2) ⟨hx, hb, hml, hown, hts⟩ (zX5_isRow l D cI cP cS cL tx kx) gX5_own_X5_isRow rfl rfl rfl (by decide +kernel) ⟨by decide, by decide⟩ hN hK hP hD [] rfl rfl rfl hl.1 (rest := [.ref v0]) (As := [.int tx, .int kx]) rfl (Nat.le_of_ble_eq_true rfl) dX5_own_10 ⟨by decide, by decide⟩) hP hD hS hA [] [0, 1] [0, 1] rfl rfl rfl (by decide) rfl (fun _ => rfl) (fun r10 u H locs hw hP hD hS => ?_)
    subst hw
    refine x_if_ne (tgt := 20) hx hb (bI_0 _) dX5_own_13 (by decide) (fun c13 => ?_) (fun c13 => ?_)
    · obtain ⟨si, hsi9, esi⟩ := vp_in_of (qIn_y c5) (by decide)
      subst esi
      have hin := qI2_y c13
      obtain ⟨tn, ht2, etn⟩ := vp_in_of hin.1 (by decide)
      obtain ⟨kn, hk2, ekn⟩ := vp_in_of hin.2 (by decide)
      subst etn
      subst ekn
      refine lv_iload hx hb dX5_own_20 (lv_at hl 4 rfl) ?_
      refine lv_iconst (v := -1) hx hb dX5_own_22 (by decide) ?_
      refine lv_bipush (v := nI 99) hx hb dX5_own_23 (by decide) ?_
      refine x_calli (w2 := fun (u : Unit) => [(v0, .inr (5, [.ref v1, .ref v2, .int (nI n), .int (nI lim), .ref v3, .ref v4, .ref v5, .ref v6, .ref v7, .ref v8, .ref v9, .ref v10, .ref v11, .ref v12, .ref v13, .ref v14, .ref v15, .ref v16, .ref v17, .int th])), (v15, .inl (cI, 72, .inl see))]) (wr := [(v0, .inr (5, [.ref v1, .ref v2, .int (nI n), .int (nI lim), .ref v3, .ref v4, .ref v5, .ref v6, .ref v7, .ref v8, .ref v9, .ref v10, .ref v11, .ref v12, .ref v13, .ref v14, .ref v15, .ref v16, .ref v17, .int th])), (v15, .inl (cI, 72, .inl see))]) (x_runS (n := 3) ⟨hx, hb, hml, hown, hts⟩ (zX5_isIn l D cI cP cS cL nx (-1) (nI 99)) gX5_own_X5_isIn rfl rfl rfl (by decide +kernel) ⟨by decide, by decide⟩ hN hK hP hD [] rfl rfl rfl hl.1 (rest := [.ref v0]) (As := [.int nx, .int (-1), .int (nI 99)]) rfl (Nat.le_of_ble_eq_true rfl) dX5_own_25 ⟨by decide, by decide⟩) hP hD hS hA [] [0, 1] [0, 1] rfl rfl rfl (by decide) rfl (fun _ => rfl) (fun r25 u H locs hw hP hD hS => ?_)
      subst hw
      refine x_if_eq (tgt := 35) hx hb (bI_0 _) dX5_own_28 (by decide) (fun c28 => ?_) (fun c28 => ?_)
      · refine lv_iconst (v := nI 2) hx hb dX5_own_35 (by decide) ?_
        refine x_calli (w2 := fun (u : Unit) => [(v0, .inr (5, [.ref v1, .ref v2, .int (nI n), .int (nI lim), .ref v3, .ref v4, .ref v5, .ref v6, .ref v7, .ref v8, .ref v9, .ref v10, .ref v11, .ref v12, .ref v13, .ref v14, .ref v15, .ref v16, .ref v17, .int (nI 2)])), (v15, .inl (cI, 72, .inl see))]) (wr := [(v15, .inl (cI, 72, .inl see))]) (x_runV (n := 1) ⟨hx, hb, hml, hown, hts⟩ (zX5_fails l D cI cP cS cL v0 v1 v2 v3 v4 v5 v6 v7 v8 v9 v10 v11 v12 v13 v14 v15 v16 v17 n lim (th) 2 (by decide)) gX5_own_X5_fails rfl rfl rfl (by decide +kernel) ⟨by decide, by decide⟩ hN hK hP hD [0] rfl rfl (ci := 5) (q0 := 0) rfl rfl rfl rfl hl.1 (rest := []) (As := [.int (nI 2)]) rfl (Nat.le_of_ble_eq_true rfl) dX5_own_36 ⟨by decide, by decide⟩) hP hD hS hA [0] [1] [1, 0] rfl rfl rfl (by decide) rfl (fun _ => rfl) (fun r36 u H locs hw hP hD hS => ?_)
        replace hw : r36 = nI 1 := hw.trans (by decide)
        subst hw
        refine x_if_eq (tgt := 44) hx hb (nI_z (by omega)) dX5_own_39 (by decide) (fun c39 => ?_) (fun c39 => ?_)
        · exact absurd c39 (by omega)
        refine lv_iconst (v := nI 0) hx hb dX5_own_42 (by decide) ?_
        exact x_ret_z hx hb hrt (by first | exact Or.inl rfl | exact Or.inr rfl) hlk hP hD hS dX5_own_43 ⟨by decide, by decide⟩ ((nI 2), see) (Or.inr (Or.inl ⟨⟨qIn_y c5, qI2_y c13⟩, fun q => of_decide_eq_false c28 (in_m1.mpr q), rfl, rfl⟩)) rfl
      · refine lv_iconst (v := nI 0) hx hb dX5_own_31 (by decide) ?_
        refine lv_goto (tgt := 36) hx hb dX5_own_32 (by decide) ?_
        refine x_calli (w2 := fun (u : Unit) => [(v0, .inr (5, [.ref v1, .ref v2, .int (nI n), .int (nI lim), .ref v3, .ref v4, .ref v5, .ref v6, .ref v7, .ref v8, .ref v9, .ref v10, .ref v11, .ref v12, .ref v13, .ref v14, .ref v15, .ref v16, .ref v17, .int (nI 0)])), (v15, .inl (cI, 72, .inl see))]) (wr := [(v15, .inl (cI, 72, .inl see))]) (x_runV (n := 1) ⟨hx, hb, hml, hown, hts⟩ (zX5_fails l D cI cP cS cL v0 v1 v2 v3 v4 v5 v6 v7 v8 v9 v10 v11 v12 v13 v14 v15 v16 v17 n lim (th) 0 (by decide)) gX5_own_X5_fails rfl rfl rfl (by decide +kernel) ⟨by decide, by decide⟩ hN hK hP hD [0] rfl rfl (ci := 5) (q0 := 0) rfl rfl rfl rfl hl.1 (rest := []) (As := [.int (nI 0)]) rfl (Nat.le_of_ble_eq_true rfl) dX5_own_36 ⟨by decide, by decide⟩) hP hD hS hA [0] [1] [1, 0] rfl rfl rfl (by decide) rfl (fun _ => rfl) (fun r36 u H locs hw hP hD hS => ?_)
        replace hw : r36 = nI 0 := hw.trans (by decide)
        subst hw
        refine x_if_eq (tgt := 44) hx hb (nI_z (by omega)) dX5_own_39 (by decide) (fun c39 => ?_) (fun c39 => ?_)
        rotate_left
        · exact absurd c39 (by omega)
        refine lv_bipush (v := nI 24) hx hb dX5_own_44 (by decide) ?_
        refine lv_iload_n hx hb dX5_own_46 rfl (lv_at hl 1 rfl) ?_
        refine x_mul (k := 24 * si) hx hb dX5_own_47 rfl ?_
        refine lv_bipush (v := nI 12) hx hb dX5_own_48 (by decide) ?_
        refine lv_iload_n hx hb dX5_own_50 rfl (lv_at hl 2 rfl) ?_
        refine x_mul (k := 12 * tn) hx hb dX5_own_51 rfl ?_
        refine x_add (k := (24 * si) + (12 * tn)) hx hb dX5_own_52 rfl ?_
        refine lv_iload_n hx hb dX5_own_53 rfl (lv_at hl 3 rfl) ?_
        refine x_add (k := ((24 * si) + (12 * tn)) + kn) hx hb dX5_own_54 rfl ?_
        refine lv_istore (lv' := [(5, .int (nI (((24 * si) + (12 * tn)) + kn))), (0, .ref v0), (1, .int (nI si)), (2, .int (nI tn)), (3, .int (nI kn)), (4, .int nx)]) hx hb dX5_own_55 hl (by decide) rfl (fun ls hl => ?_)
        refine lv_aload_n hx hb dX5_own_57 rfl (lv_at hl 1 rfl) ?_
        refine va_get (D := D) (ci := 5) (v := .ref v15) (C := RX5) (T := TX5) (N := 20) hx hb hts kX5_own_X5 hown hK hP 0 rfl rfl 16 (by decide) (hts _ kX5_own_f56) (fun _ h9 => h9) rfl dX5_own_58 ?_
        refine lv_iload hx hb dX5_own_61 (lv_at hl 0 rfl) ?_
        refine x_ald (v := see (((24 * si) + (12 * tn)) + kn)) hx hb hK hP 1 0 rfl rfl (by omega) (by omega) rfl dX5_own_63 ?_
        refine lv_iconst (v := -1) hx hb dX5_own_64 (by decide) ?_
        refine x_cmp_eq (tgt := 72) hx hb (Iff.rfl) dX5_own_65 (by decide) (fun c65 => ?_) (fun c65 => ?_)
        · refine lv_iconst (v := nI 0) hx hb dX5_own_72 (by decide) ?_
          refine lv_istore (lv' := [(6, .int (nI 0)), (5, .int (nI (((24 * si) + (12 * tn)) + kn))), (0, .ref v0), (1, .int (nI si)), (2, .int (nI tn)), (3, .int (nI kn)), (4, .int nx)]) hx hb dX5_own_73 hl (by decide) rfl (fun ls hl => ?_)
          refine lv_aload_n hx hb dX5_own_75 rfl (lv_at hl 2 rfl) ?_
          refine va_get (D := D) (ci := 5) (v := .ref v15) (C := RX5) (T := TX5) (N := 20) hx hb hts kX5_own_X5 hown hK hP 0 rfl rfl 16 (by decide) (hts _ kX5_own_f56) (fun _ h9 => h9) rfl dX5_own_76 ?_
          refine lv_iload hx hb dX5_own_79 (lv_at hl 1 rfl) ?_
          refine lv_iload hx hb dX5_own_81 (lv_at hl 6 rfl) ?_
          refine lv_iconst (v := -1) hx hb dX5_own_83 (by decide) ?_
          refine x_cmp_ne (tgt := 91) hx hb (Iff.rfl) dX5_own_84 (by decide) (fun c84 => ?_) (fun c84 => ?_)
          · refine lv_sipush (v := nI 10101) hx hb dX5_own_91 (by decide) ?_
            refine lv_iload hx hb dX5_own_94 (lv_at hl 6 rfl) ?_
            refine lv_imul hx hb dX5_own_96 ?_
            refine x_ast (g := upd see (((24 * si) + (12 * tn)) + kn) ((nI 10101) * nx)) (ws' := [(v0, .inr (5, [.ref v1, .ref v2, .int (nI n), .int (nI lim), .ref v3, .ref v4, .ref v5, .ref v6, .ref v7, .ref v8, .ref v9, .ref v10, .ref v11, .ref v12, .ref v13, .ref v14, .ref v15, .ref v16, .ref v17, .int (nI 0)])), (v15, .inl (cI, 72, .inl (upd see (((24 * si) + (12 * tn)) + kn) ((nI 10101) * nx))))]) hx hb hK hP hD hS 1 0 rfl rfl (by omega) (by omega) (rfl) rfl dX5_own_97 (fun H locs hP hD hS => ?_)
            refine lv_iload hx hb dX5_own_98 (lv_at hl 0 rfl) ?_
            exact x_ret_z hx hb hrt (by first | exact Or.inl rfl | exact Or.inr rfl) hlk hP hD hS dX5_own_100 ⟨by decide, by decide⟩ ((nI 0), upd see (((24 * si) + (12 * tn)) + kn) ((nI 10101) * nx)) (Or.inr (Or.inr ⟨si, tn, kn, rfl, hsi9, rfl, ht2, rfl, hk2, in_m1.mp (dec_y c28), rfl, (bI_n (fun q => q c65)).symm, (by rw [if_neg c84])⟩)) rfl
          · refine lv_iconst (v := -1) hx hb dX5_own_87 (by decide) ?_
            refine lv_goto (tgt := 97) hx hb dX5_own_88 (by decide) ?_
            refine x_ast (g := upd see (((24 * si) + (12 * tn)) + kn) (-1)) (ws' := [(v0, .inr (5, [.ref v1, .ref v2, .int (nI n), .int (nI lim), .ref v3, .ref v4, .ref v5, .ref v6, .ref v7, .ref v8, .ref v9, .ref v10, .ref v11, .ref v12, .ref v13, .ref v14, .ref v15, .ref v16, .ref v17, .int (nI 0)])), (v15, .inl (cI, 72, .inl (upd see (((24 * si) + (12 * tn)) + kn) (-1))))]) hx hb hK hP hD hS 1 0 rfl rfl (by omega) (by omega) (rfl) rfl dX5_own_97 (fun H locs hP hD hS => ?_)
            refine lv_iload hx hb dX5_own_98 (lv_at hl 0 rfl) ?_
            exact x_ret_z hx hb hrt (by first | exact Or.inl rfl | exact Or.inr rfl) hlk hP hD hS dX5_own_100 ⟨by decide, by decide⟩ ((nI 0), upd see (((24 * si) + (12 * tn)) + kn) (-1)) (Or.inr (Or.inr ⟨si, tn, kn, rfl, hsi9, rfl, ht2, rfl, hk2, in_m1.mp (dec_y c28), rfl, (bI_n (fun q => q c65)).symm, (by rw [if_pos c84])⟩)) rfl
        · refine lv_iconst (v := nI 1) hx hb dX5_own_68 (by decide) ?_
          refine lv_goto (tgt := 73) hx hb dX5_own_69 (by decide) ?_
          refine lv_istore (lv' := [(6, .int (nI 1)), (5, .int (nI (((24 * si) + (12 * tn)) + kn))), (0, .ref v0), (1, .int (nI si)), (2, .int (nI tn)), (3, .int (nI kn)), (4, .int nx)]) hx hb dX5_own_73 hl (by decide) rfl (fun ls hl => ?_)
          refine lv_aload_n hx hb dX5_own_75 rfl (lv_at hl 2 rfl) ?_
          refine va_get (D := D) (ci := 5) (v := .ref v15) (C := RX5) (T := TX5) (N := 20) hx hb hts kX5_own_X5 hown hK hP 0 rfl rfl 16 (by decide) (hts _ kX5_own_f56) (fun _ h9 => h9) rfl dX5_own_76 ?_
          refine lv_iload hx hb dX5_own_79 (lv_at hl 1 rfl) ?_
          refine lv_iload hx hb dX5_own_81 (lv_at hl 6 rfl) ?_
          refine lv_iconst (v := -1) hx hb dX5_own_83 (by decide) ?_
          refine x_cmp_ne (tgt := 91) hx hb (Iff.rfl) dX5_own_84 (by decide) (fun c84 => ?_) (fun c84 => ?_)
          · refine lv_sipush (v := nI 10101) hx hb dX5_own_91 (by decide) ?_
            refine lv_iload hx hb dX5_own_94 (lv_at hl 6 rfl) ?_
            refine lv_imul hx hb dX5_own_96 ?_
            refine x_ast (g := upd see (((24 * si) + (12 * tn)) + kn) ((nI 10101) * nx)) (ws' := [(v0, .inr (5, [.ref v1, .ref v2, .int (nI n), .int (nI lim), .ref v3, .ref v4, .ref v5, .ref v6, .ref v7, .ref v8, .ref v9, .ref v10, .ref v11, .ref v12, .ref v13, .ref v14, .ref v15, .ref v16, .ref v17, .int (nI 0)])), (v15, .inl (cI, 72, .inl (upd see (((24 * si) + (12 * tn)) + kn) ((nI 10101) * nx))))]) hx hb hK hP hD hS 1 0 rfl rfl (by omega) (by omega) (rfl) rfl dX5_own_97 (fun H locs hP hD hS => ?_)
            refine lv_iload hx hb dX5_own_98 (lv_at hl 0 rfl) ?_
            exact x_ret_z hx hb hrt (by first | exact Or.inl rfl | exact Or.inr rfl) hlk hP hD hS dX5_own_100 ⟨by decide, by decide⟩ ((nI 0), upd see (((24 * si) + (12 * tn)) + kn) ((nI 10101) * nx)) (Or.inr (Or.inr ⟨si, tn, kn, rfl, hsi9, rfl, ht2, rfl, hk2, in_m1.mp (dec_y c28), rfl, (bI_d c65).symm, (by rw [if_neg c84])⟩)) rfl
          · refine lv_iconst (v := -1) hx hb dX5_own_87 (by decide) ?_
            refine lv_goto (tgt := 97) hx hb dX5_own_88 (by decide) ?_
            refine x_ast (g := upd see (((24 * si) + (12 * tn)) + kn) (-1)) (ws' := [(v0, .inr (5, [.ref v1, .ref v2, .int (nI n), .int (nI lim), .ref v3, .ref v4, .ref v5, .ref v6, .ref v7, .ref v8, .ref v9, .ref v10, .ref v11, .ref v12, .ref v13, .ref v14, .ref v15, .ref v16, .ref v17, .int (nI 0)])), (v15, .inl (cI, 72, .inl (upd see (((24 * si) + (12 * tn)) + kn) (-1))))]) hx hb hK hP hD hS 1 0 rfl rfl (by omega) (by omega) (rfl) rfl dX5_own_97 (fun H locs hP hD hS => ?_)
            refine lv_iload hx hb dX5_own_98 (lv_at hl 0 rfl) ?_
            exact x_ret_z hx hb hrt (by first | exact Or.inl rfl | exact Or.inr rfl) hlk hP hD hS dX5_own_100 ⟨by decide, by decide⟩ ((nI 0), upd see (((24 * si) + (12 * tn)) + kn) (-1)) (Or.inr (Or.inr ⟨si, tn, kn, rfl, hsi9, rfl, ht2, rfl, hk2, in_m1.mp (dec_y c28), rfl, (bI_d c65).symm, (by rw [if_pos c84])⟩)) rfl
    · refine lv_iconst (v := nI 1) hx hb dX5_own_16 (by decide) ?_
      refine lv_goto (tgt := 36) hx hb dX5_own_17 (by decide) ?_
      refine x_calli (w2 := fun (u : Unit) => [(v0, .inr (5, [.ref v1, .ref v2, .int (nI n), .int (nI lim), .ref v3, .ref v4, .ref v5, .ref v6, .ref v7, .ref v8, .ref v9, .ref v10, .ref v11, .ref v12, .ref v13, .ref v14, .ref v15, .ref v16, .ref v17, .int (nI 1)])), (v15, .inl (cI, 72, .inl see))]) (wr := [(v15, .inl (cI, 72, .inl see))]) (x_runV (n := 1) ⟨hx, hb, hml, hown, hts⟩ (zX5_fails l D cI cP cS cL v0 v1 v2 v3 v4 v5 v6 v7 v8 v9 v10 v11 v12 v13 v14 v15 v16 v17 n lim (th) 1 (by decide)) gX5_own_X5_fails rfl rfl rfl (by decide +kernel) ⟨by decide, by decide⟩ hN hK hP hD [0] rfl rfl (ci := 5) (q0 := 0) rfl rfl rfl rfl hl.1 (rest := []) (As := [.int (nI 1)]) rfl (Nat.le_of_ble_eq_true rfl) dX5_own_36 ⟨by decide, by decide⟩) hP hD hS hA [0] [1] [1, 0] rfl rfl rfl (by decide) rfl (fun _ => rfl) (fun r36 u H locs hw hP hD hS => ?_)
      replace hw : r36 = nI 1 := hw.trans (by decide)
      subst hw
      refine x_if_eq (tgt := 44) hx hb (nI_z (by omega)) dX5_own_39 (by decide) (fun c39 => ?_) (fun c39 => ?_)
      · exact absurd c39 (by omega)
      refine lv_iconst (v := nI 0) hx hb dX5_own_42 (by decide) ?_
      exact x_ret_z hx hb hrt (by first | exact Or.inl rfl | exact Or.inr rfl) hlk hP hD hS dX5_own_43 ⟨by decide, by decide⟩ ((nI 1), see) (Or.inl ⟨fun q => qI2_n c13 q.2, rfl, rfl⟩) rfl

set_option maxRecDepth 20000 in
theorem kX5_applies_f44 : Cond.fieldLink RX5 44 "RowReplicatorModel" "book" "[I" ∈ wsX5_applies := by decide +kernel
set_option maxRecDepth 20000 in
theorem kX5_applies_X5 : ∀ w ∈ wsX50, w ∈ wsX5_applies := by decide +kernel
set_option maxRecDepth 20000 in
theorem kX5_applies_f59 : Cond.fieldLink RX5 59 "RowReplicatorModel" "there" "[I" ∈ wsX5_applies := by decide +kernel
set_option maxRecDepth 20000 in
theorem kX5_applies_f62 : Cond.fieldLink RX5 62 "RowReplicatorModel" "here" "[I" ∈ wsX5_applies := by decide +kernel
set_option maxHeartbeats 4000000 in
set_option maxRecDepth 100000 in
theorem zX5_applies (l : Launch) (D : va_G) (cI cP cS cL : ClassId) (v0 v1 v2 v3 v4 v5 v6 v7 v8 v9 v10 v11 v12 v13 v14 v15 v16 v17 : Nat) (n lim : Nat) (th : Int32) (bk : Nat → Nat) (col rel num lis boo the her : Nat → Int32) (si t j : Nat) (v : Int32) (hsi9 : si < 3) (ht2 : t < 2) (hj12 : j < 12) (hboo : ∀ i, i < 3 → boo i = nI (bk i)) (hbk : ∀ i, i < 3 → bk i < 3) : xMi l yX5_applies wsX5_applies (rmD 2 0 0) D [(cI, .int), (cP, .object RX0), (cS, .object RX2), (cL, .long)] [.ref v0, .int (nI si), .int (nI t), .int (nI (12 * t + j)), .int v] [(v0, .inr (5, [.ref v1, .ref v2, .int (nI n), .int (nI lim), .ref v3, .ref v4, .ref v5, .ref v6, .ref v7, .ref v8, .ref v9, .ref v10, .ref v11, .ref v12, .ref v13, .ref v14, .ref v15, .ref v16, .ref v17, .int th])), (v7, .inl (cI, 6, .inl col)), (v8, .inl (cI, 6, .inl rel)), (v9, .inl (cI, 6, .inl num)), (v10, .inl (cI, 6, .inl lis)), (v11, .inl (cI, 3, .inl boo)), (v16, .inl (cI, 24, .inl the)), (v17, .inl (cI, 24, .inl her))] (fun (r : Int32) (u : Nat → Int32) => match u with | a1 => (a1 = mOne col rel num lis (2 * bk si + t) (the (12 * t + j)) v her (12 * t + j) ∧ r = bI (mOk col rel num (2 * bk si + t) (the (12 * t + j)) v her (12 * t + j)))) (fun (u : Nat → Int32) => match u with | a1 => [(v0, .inr (5, [.ref v1, .ref v2, .int (nI n), .int (nI lim), .ref v3, .ref v4, .ref v5, .ref v6, .ref v7, .ref v8, .ref v9, .ref v10, .ref v11, .ref v12, .ref v13, .ref v14, .ref v15, .ref v16, .ref v17, .int th])), (v7, .inl (cI, 6, .inl col)), (v8, .inl (cI, 6, .inl rel)), (v9, .inl (cI, 6, .inl num)), (v10, .inl (cI, 6, .inl lis)), (v11, .inl (cI, 3, .inl boo)), (v16, .inl (cI, 24, .inl the)), (v17, .inl (cI, 24, .inl a1))]) 0 0 := by
  refine xe_i (cc := cX5_applies) (maxL := 8) (ret := (some .boolean)) (by decide) rfl (Nat.le_of_ble_eq_true rfl) ?_
  intro zp ze s zm below meth zc A ls B
  obtain ⟨hx, hb, hml, hrt, hts, hown, hnm, hlk, hK, hP, hD, hA, hS, hN, hl⟩ := B
  have hown : s.vm.findClass RX5 = some zm.cls := hown
  have hl : lv_has ls 8 [(0, .ref v0), (1, .int (nI si)), (2, .int (nI t)), (3, .int (nI (12 * t + j))), (4, .int v)] := hl
  have hA : ∀ q, s.heap.size ≤ q → A q := hA
  have hk4 := hbk si hsi9
  refine lv_aload_n hx hb dX5_applies_0 rfl (lv_at hl 0 rfl) ?_
  refine lv_aload_n hx hb dX5_applies_1 rfl (lv_at hl 0 rfl) ?_
  refine va_get (D := D) (ci := 5) (v := .ref v11) (C := RX5) (T := TX5) (N := 20) hx hb hts kX5_applies_X5 hown hK hP 0 rfl rfl 12 (by decide) (hts _ kX5_applies_f44) (fun _ h9 => h9) rfl dX5_applies_2 ?_
  refine lv_iload_n hx hb dX5_applies_5 rfl (lv_at hl 1 rfl) ?_
  refine x_ald (v := nI (bk si)) hx hb hK hP 5 0 rfl rfl (by omega) (by omega) (hboo _ (by omega)) dX5_applies_6 ?_
  refine lv_iload_n hx hb dX5_applies_7 rfl (lv_at hl 2 rfl) ?_
  refine lv_aload_n hx hb dX5_applies_8 rfl (lv_at hl 0 rfl) ?_
  refine va_get (D := D) (ci := 5) (v := .ref v16) (C := RX5) (T := TX5) (N := 20) hx hb hts kX5_applies_X5 hown hK hP 0 rfl rfl 17 (by decide) (hts _ kX5_applies_f59) (fun _ h9 => h9) rfl dX5_applies_9 ?_
  refine lv_iload_n hx hb dX5_applies_12 rfl (lv_at hl 3 rfl) ?_
  refine x_ald (v := the (12 * t + j)) hx hb hK hP 6 0 rfl rfl (by omega) (by omega) rfl dX5_applies_13 ?_
  refine x_calli (w2 := fun (u : Unit) => [(v0, .inr (5, [.ref v1, .ref v2, .int (nI n), .int (nI lim), .ref v3, .ref v4, .ref v5, .ref v6, .ref v7, .ref v8, .ref v9, .ref v10, .ref v11, .ref v12, .ref v13, .ref v14, .ref v15, .ref v16, .ref v17, .int th])), (v7, .inl (cI, 6, .inl col)), (v8, .inl (cI, 6, .inl rel)), (v9, .inl (cI, 6, .inl num)), (v10, .inl (cI, 6, .inl lis)), (v11, .inl (cI, 3, .inl boo)), (v16, .inl (cI, 24, .inl the)), (v17, .inl (cI, 24, .inl her))]) (wr := [(v10, .inl (cI, 6, .inl lis)), (v11, .inl (cI, 3, .inl boo)), (v16, .inl (cI, 24, .inl the)), (v17, .inl (cI, 24, .inl her))]) (x_runV (n := 3) ⟨hx, hb, hml, hown, hts⟩ (zX5_counts l D cI cP cS cL v0 v1 v2 v3 v4 v5 v6 v7 v8 v9 v10 v11 v12 v13 v14 v15 v16 v17 n lim (th) col rel num (bk si) t (the (12 * t + j)) hk4 ht2) gX5_applies_X5_counts rfl rfl rfl (by decide +kernel) ⟨by decide, by decide⟩ hN hK hP hD [0, 1, 2, 3] rfl rfl (ci := 5) (q0 := 0) rfl rfl rfl rfl hl.1 (rest := []) (As := [.int (nI (bk si)), .int (nI t), .int (the (12 * t + j))]) rfl (Nat.le_of_ble_eq_true rfl) dX5_applies_14 ⟨by decide, by decide⟩) hP hD hS hA [0, 1, 2, 3] [4, 5, 6, 7] [4, 5, 6, 7, 0, 1, 2, 3] rfl rfl rfl (by decide) rfl (fun _ => rfl) (fun r14 u H locs hw hP hD hS => ?_)
  subst hw
  refine lv_istore (lv' := [(5, .int (bI (mCouB (col (2 * (bk si) + t)) (rel (2 * (bk si) + t)) (num (2 * (bk si) + t)) (the (12 * t + j))))), (0, .ref v0), (1, .int (nI si)), (2, .int (nI t)), (3, .int (nI (12 * t + j))), (4, .int v)]) hx hb dX5_applies_17 hl (by decide) rfl (fun ls hl => ?_)
  refine lv_aload_n hx hb dX5_applies_19 rfl (lv_at hl 1 rfl) ?_
  refine lv_aload_n hx hb dX5_applies_20 rfl (lv_at hl 1 rfl) ?_
  refine va_get (D := D) (ci := 5) (v := .ref v11) (C := RX5) (T := TX5) (N := 20) hx hb hts kX5_applies_X5 hown hK hP 0 rfl rfl 12 (by decide) (hts _ kX5_applies_f44) (fun _ h9 => h9) rfl dX5_applies_21 ?_
  refine lv_iload_n hx hb dX5_applies_24 rfl (lv_at hl 2 rfl) ?_
  refine x_ald (v := nI (bk si)) hx hb hK hP 5 0 rfl rfl (by omega) (by omega) (hboo _ (by omega)) dX5_applies_25 ?_
  refine lv_iload_n hx hb dX5_applies_26 rfl (lv_at hl 3 rfl) ?_
  refine lv_iload hx hb dX5_applies_27 (lv_at hl 5 rfl) ?_
  refine x_calli (w2 := fun (u : Unit) => [(v0, .inr (5, [.ref v1, .ref v2, .int (nI n), .int (nI lim), .ref v3, .ref v4, .ref v5, .ref v6, .ref v7, .ref v8, .ref v9, .ref v10, .ref v11, .ref v12, .ref v13, .ref v14, .ref v15, .ref v16, .ref v17, .int th])), (v7, .inl (cI, 6, .inl col)), (v8, .inl (cI, 6, .inl rel)), (v9, .inl (cI, 6, .inl num)), (v10, .inl (cI, 6, .inl lis)), (v11, .inl (cI, 3, .inl boo)), (v16, .inl (cI, 24, .inl the)), (v17, .inl (cI, 24, .inl her))]) (wr := [(v10, .inl (cI, 6, .inl lis)), (v11, .inl (cI, 3, .inl boo)), (v16, .inl (cI, 24, .inl the)), (v17, .inl (cI, 24, .inl her))]) (x_runV (n := 3) ⟨hx, hb, hml, hown, hts⟩ (zX5_counts l D cI cP cS cL v0 v1 v2 v3 v4 v5 v6 v7 v8 v9 v10 v11 v12 v13 v14 v15 v16 v17 n lim (th) col rel num (bk si) t v hk4 ht2) gX5_applies_X5_counts rfl rfl rfl (by decide +kernel) ⟨by decide, by decide⟩ hN hK hP hD [0, 1, 2, 3] rfl rfl (ci := 5) (q0 := 0) rfl rfl rfl rfl hl.1 (rest := []) (As := [.int (nI (bk si)), .int (nI t), .int v]) rfl (Nat.le_of_ble_eq_true rfl) dX5_applies_29 ⟨by decide, by decide⟩) hP hD hS hA [0, 1, 2, 3] [4, 5, 6, 7] [4, 5, 6, 7, 0, 1, 2, 3] rfl rfl rfl (by decide) rfl (fun _ => rfl) (fun r29 u H locs hw hP hD hS => ?_)
  subst hw
  refine lv_istore (lv' := [(6, .int (bI (mCouB (col (2 * (bk si) + t)) (rel (2 * (bk si) + t)) (num (2 * (bk si) + t)) v))), (5, .int (bI (mCouB (col (2 * (bk si) + t)) (rel (2 * (bk si) + t)) (num (2 * (bk si) + t)) (the (12 * t + j))))), (0, .ref v0), (1, .int (nI si)), (2, .int (nI t)), (3, .int (nI (12 * t + j))), (4, .int v)]) hx hb dX5_applies_32 hl (by decide) rfl (fun ls hl => ?_)
  refine lv_iload hx hb dX5_applies_34 (lv_at hl 0 rfl) ?_
  refine x_if_eq (tgt := 58) hx hb (bI_0 _) dX5_applies_36 (by decide) (fun c36 => ?_) (fun c36 => ?_)
  · refine lv_iconst (v := nI 0) hx hb dX5_applies_58 (by decide) ?_
    refine lv_istore (lv' := [(7, .int (nI 0)), (6, .int (bI (mCouB (col (2 * (bk si) + t)) (rel (2 * (bk si) + t)) (num (2 * (bk si) + t)) v))), (5, .int (bI (mCouB (col (2 * (bk si) + t)) (rel (2 * (bk si) + t)) (num (2 * (bk si) + t)) (the (12 * t + j))))), (0, .ref v0), (1, .int (nI si)), (2, .int (nI t)), (3, .int (nI (12 * t + j))), (4, .int v)]) hx hb dX5_applies_59 hl (by decide) rfl (fun ls hl => ?_)
    refine lv_iload hx hb dX5_applies_61 (lv_at hl 1 rfl) ?_
    refine x_if_eq (tgt := 88) hx hb (bI_0 _) dX5_applies_63 (by decide) (fun c63 => ?_) (fun c63 => ?_)
    · refine lv_iload hx hb dX5_applies_88 (lv_at hl 2 rfl) ?_
      refine x_if_eq (tgt := 100) hx hb (bI_0 _) dX5_applies_90 (by decide) (fun c90 => ?_) (fun c90 => ?_)
      · refine lv_iload hx hb dX5_applies_100 (lv_at hl 0 rfl) ?_
        refine x_if_ne (tgt := 109) hx hb (nI_z (by omega)) dX5_applies_102 (by decide) (fun c102 => ?_) (fun c102 => ?_)
        · exact absurd c102 (by omega)
        refine lv_iconst (v := nI 1) hx hb dX5_applies_105 (by decide) ?_
        refine lv_goto (tgt := 110) hx hb dX5_applies_106 (by decide) ?_
        exact x_ret_z hx hb hrt (by first | exact Or.inl rfl | exact Or.inr rfl) hlk hP hD hS dX5_applies_110 ⟨by decide, by decide⟩ (her) ⟨(by show _ = ite _ _ _; rw [if_neg (show ¬ mHas col rel num (2 * bk si + t) v = true from fun q => by rw [show mHas col rel num (2 * bk si + t) v = false from c36] at q; cases q), if_neg (show ¬ mHas col rel num (2 * bk si + t) (the (12 * t + j)) = true from fun q => by rw [show mHas col rel num (2 * bk si + t) (the (12 * t + j)) = false from c90] at q; cases q)]), (by rw [mOk_t (fun q => by rw [show mHas col rel num (2 * bk si + t) v = false from c36] at q; cases q.1)]; rfl)⟩ rfl
      · refine lv_aload_n hx hb dX5_applies_93 rfl (lv_at hl 3 rfl) ?_
        refine va_get (D := D) (ci := 5) (v := .ref v17) (C := RX5) (T := TX5) (N := 20) hx hb hts kX5_applies_X5 hown hK hP 0 rfl rfl 18 (by decide) (hts _ kX5_applies_f62) (fun _ h9 => h9) rfl dX5_applies_94 ?_
        refine lv_iload_n hx hb dX5_applies_97 rfl (lv_at hl 6 rfl) ?_
        refine lv_iconst (v := -1) hx hb dX5_applies_98 (by decide) ?_
        refine x_ast (g := upd her (12 * t + j) (-1)) (ws' := [(v0, .inr (5, [.ref v1, .ref v2, .int (nI n), .int (nI lim), .ref v3, .ref v4, .ref v5, .ref v6, .ref v7, .ref v8, .ref v9, .ref v10, .ref v11, .ref v12, .ref v13, .ref v14, .ref v15, .ref v16, .ref v17, .int th])), (v7, .inl (cI, 6, .inl col)), (v8, .inl (cI, 6, .inl rel)), (v9, .inl (cI, 6, .inl num)), (v10, .inl (cI, 6, .inl lis)), (v11, .inl (cI, 3, .inl boo)), (v16, .inl (cI, 24, .inl the)), (v17, .inl (cI, 24, .inl (upd her (12 * t + j) (-1))))]) hx hb hK hP hD hS 7 0 rfl rfl (by omega) (by omega) (rfl) rfl dX5_applies_99 (fun H locs hP hD hS => ?_)
        refine lv_iload hx hb dX5_applies_100 (lv_at hl 0 rfl) ?_
        refine x_if_ne (tgt := 109) hx hb (nI_z (by omega)) dX5_applies_102 (by decide) (fun c102 => ?_) (fun c102 => ?_)
        · exact absurd c102 (by omega)
        refine lv_iconst (v := nI 1) hx hb dX5_applies_105 (by decide) ?_
        refine lv_goto (tgt := 110) hx hb dX5_applies_106 (by decide) ?_
        exact x_ret_z hx hb hrt (by first | exact Or.inl rfl | exact Or.inr rfl) hlk hP hD hS dX5_applies_110 ⟨by decide, by decide⟩ (upd her (12 * t + j) (-1)) ⟨(by show _ = ite _ _ _; rw [if_neg (show ¬ mHas col rel num (2 * bk si + t) v = true from fun q => by rw [show mHas col rel num (2 * bk si + t) v = false from c36] at q; cases q), if_pos (show mHas col rel num (2 * bk si + t) (the (12 * t + j)) = true from (b_y c90))]), (by rw [mOk_t (fun q => by rw [show mHas col rel num (2 * bk si + t) v = false from c36] at q; cases q.1)]; rfl)⟩ rfl
    · exact absurd c36 c63
  · refine lv_iload hx hb dX5_applies_39 (lv_at hl 1 rfl) ?_
    refine x_if_ne (tgt := 58) hx hb (bI_0 _) dX5_applies_41 (by decide) (fun c41 => ?_) (fun c41 => ?_)
    · refine lv_iconst (v := nI 0) hx hb dX5_applies_58 (by decide) ?_
      refine lv_istore (lv' := [(7, .int (nI 0)), (6, .int (bI (mCouB (col (2 * (bk si) + t)) (rel (2 * (bk si) + t)) (num (2 * (bk si) + t)) v))), (5, .int (bI (mCouB (col (2 * (bk si) + t)) (rel (2 * (bk si) + t)) (num (2 * (bk si) + t)) (the (12 * t + j))))), (0, .ref v0), (1, .int (nI si)), (2, .int (nI t)), (3, .int (nI (12 * t + j))), (4, .int v)]) hx hb dX5_applies_59 hl (by decide) rfl (fun ls hl => ?_)
      refine lv_iload hx hb dX5_applies_61 (lv_at hl 1 rfl) ?_
      refine x_if_eq (tgt := 88) hx hb (bI_0 _) dX5_applies_63 (by decide) (fun c63 => ?_) (fun c63 => ?_)
      · exact absurd c63 c36
      · refine lv_aload_n hx hb dX5_applies_66 rfl (lv_at hl 3 rfl) ?_
        refine va_get (D := D) (ci := 5) (v := .ref v17) (C := RX5) (T := TX5) (N := 20) hx hb hts kX5_applies_X5 hown hK hP 0 rfl rfl 18 (by decide) (hts _ kX5_applies_f62) (fun _ h9 => h9) rfl dX5_applies_67 ?_
        refine lv_iload_n hx hb dX5_applies_70 rfl (lv_at hl 6 rfl) ?_
        refine lv_aload_n hx hb dX5_applies_71 rfl (lv_at hl 3 rfl) ?_
        refine lv_aload_n hx hb dX5_applies_72 rfl (lv_at hl 3 rfl) ?_
        refine va_get (D := D) (ci := 5) (v := .ref v11) (C := RX5) (T := TX5) (N := 20) hx hb hts kX5_applies_X5 hown hK hP 0 rfl rfl 12 (by decide) (hts _ kX5_applies_f44) (fun _ h9 => h9) rfl dX5_applies_73 ?_
        refine lv_iload_n hx hb dX5_applies_76 rfl (lv_at hl 4 rfl) ?_
        refine x_ald (v := nI (bk si)) hx hb hK hP 5 0 rfl rfl (by omega) (by omega) (hboo _ (by omega)) dX5_applies_77 ?_
        refine lv_iload_n hx hb dX5_applies_78 rfl (lv_at hl 5 rfl) ?_
        refine lv_iload hx hb dX5_applies_79 (lv_at hl 7 rfl) ?_
        refine x_calli (w2 := fun (u : Unit) => [(v0, .inr (5, [.ref v1, .ref v2, .int (nI n), .int (nI lim), .ref v3, .ref v4, .ref v5, .ref v6, .ref v7, .ref v8, .ref v9, .ref v10, .ref v11, .ref v12, .ref v13, .ref v14, .ref v15, .ref v16, .ref v17, .int th])), (v7, .inl (cI, 6, .inl col)), (v8, .inl (cI, 6, .inl rel)), (v9, .inl (cI, 6, .inl num)), (v10, .inl (cI, 6, .inl lis)), (v11, .inl (cI, 3, .inl boo)), (v16, .inl (cI, 24, .inl the)), (v17, .inl (cI, 24, .inl her))]) (wr := [(v7, .inl (cI, 6, .inl col)), (v8, .inl (cI, 6, .inl rel)), (v9, .inl (cI, 6, .inl num)), (v11, .inl (cI, 3, .inl boo)), (v16, .inl (cI, 24, .inl the)), (v17, .inl (cI, 24, .inl her))]) (x_runV (n := 3) ⟨hx, hb, hml, hown, hts⟩ (zX5_chosen l D cI cP cS cL v0 v1 v2 v3 v4 v5 v6 v7 v8 v9 v10 v11 v12 v13 v14 v15 v16 v17 n lim (th) lis (bk si) t v hk4 ht2) gX5_applies_X5_chosen rfl rfl rfl (by decide +kernel) ⟨by decide, by decide⟩ hN hK hP hD [0, 4] rfl rfl (ci := 5) (q0 := 0) rfl rfl rfl rfl hl.1 (rest := [.int (nI (12 * t + j)), .ref v17]) (As := [.int (nI (bk si)), .int (nI t), .int v]) rfl (Nat.le_of_ble_eq_true rfl) dX5_applies_81 ⟨by decide, by decide⟩) hP hD hS hA [0, 4] [1, 2, 3, 5, 6, 7] [6, 0, 1, 2, 7, 3, 4, 5] rfl rfl rfl (by decide) rfl (fun _ => rfl) (fun r81 u H locs hw hP hD hS => ?_)
        subst hw
        refine x_ast (g := upd her (12 * t + j) (mChoN (lis (2 * (bk si) + t)) v 3)) (ws' := [(v0, .inr (5, [.ref v1, .ref v2, .int (nI n), .int (nI lim), .ref v3, .ref v4, .ref v5, .ref v6, .ref v7, .ref v8, .ref v9, .ref v10, .ref v11, .ref v12, .ref v13, .ref v14, .ref v15, .ref v16, .ref v17, .int th])), (v7, .inl (cI, 6, .inl col)), (v8, .inl (cI, 6, .inl rel)), (v9, .inl (cI, 6, .inl num)), (v10, .inl (cI, 6, .inl lis)), (v11, .inl (cI, 3, .inl boo)), (v16, .inl (cI, 24, .inl the)), (v17, .inl (cI, 24, .inl (upd her (12 * t + j) (mChoN (lis (2 * (bk si) + t)) v 3))))]) hx hb hK hP hD hS 7 0 rfl rfl (by omega) (by omega) (rfl) rfl dX5_applies_84 (fun H locs hP hD hS => ?_)
        refine lv_goto (tgt := 100) hx hb dX5_applies_85 (by decide) ?_
        refine lv_iload hx hb dX5_applies_100 (lv_at hl 0 rfl) ?_
        refine x_if_ne (tgt := 109) hx hb (nI_z (by omega)) dX5_applies_102 (by decide) (fun c102 => ?_) (fun c102 => ?_)
        · exact absurd c102 (by omega)
        refine lv_iconst (v := nI 1) hx hb dX5_applies_105 (by decide) ?_
        refine lv_goto (tgt := 110) hx hb dX5_applies_106 (by decide) ?_
        exact x_ret_z hx hb hrt (by first | exact Or.inl rfl | exact Or.inr rfl) hlk hP hD hS dX5_applies_110 ⟨by decide, by decide⟩ (upd her (12 * t + j) (mChoN (lis (2 * (bk si) + t)) v 3)) ⟨(by show _ = ite _ _ _; rw [if_pos (show mHas col rel num (2 * bk si + t) v = true from (b_y c36))]), (by rw [mOk_t (fun q => c41 q.2.1)]; rfl)⟩ rfl
    · refine lv_aload_n hx hb dX5_applies_44 rfl (lv_at hl 2 rfl) ?_
      refine va_get (D := D) (ci := 5) (v := .ref v17) (C := RX5) (T := TX5) (N := 20) hx hb hts kX5_applies_X5 hown hK hP 0 rfl rfl 18 (by decide) (hts _ kX5_applies_f62) (fun _ h9 => h9) rfl dX5_applies_45 ?_
      refine lv_iload_n hx hb dX5_applies_48 rfl (lv_at hl 5 rfl) ?_
      refine x_ald (v := her (12 * t + j)) hx hb hK hP 7 0 rfl rfl (by omega) (by omega) rfl dX5_applies_49 ?_
      refine lv_iconst (v := -1) hx hb dX5_applies_50 (by decide) ?_
      refine x_cmp_eq (tgt := 58) hx hb (Iff.rfl) dX5_applies_51 (by decide) (fun c51 => ?_) (fun c51 => ?_)
      · refine lv_iconst (v := nI 0) hx hb dX5_applies_58 (by decide) ?_
        refine lv_istore (lv' := [(7, .int (nI 0)), (6, .int (bI (mCouB (col (2 * (bk si) + t)) (rel (2 * (bk si) + t)) (num (2 * (bk si) + t)) v))), (5, .int (bI (mCouB (col (2 * (bk si) + t)) (rel (2 * (bk si) + t)) (num (2 * (bk si) + t)) (the (12 * t + j))))), (0, .ref v0), (1, .int (nI si)), (2, .int (nI t)), (3, .int (nI (12 * t + j))), (4, .int v)]) hx hb dX5_applies_59 hl (by decide) rfl (fun ls hl => ?_)
        refine lv_iload hx hb dX5_applies_61 (lv_at hl 1 rfl) ?_
        refine x_if_eq (tgt := 88) hx hb (bI_0 _) dX5_applies_63 (by decide) (fun c63 => ?_) (fun c63 => ?_)
        · exact absurd c63 c36
        · refine lv_aload_n hx hb dX5_applies_66 rfl (lv_at hl 3 rfl) ?_
          refine va_get (D := D) (ci := 5) (v := .ref v17) (C := RX5) (T := TX5) (N := 20) hx hb hts kX5_applies_X5 hown hK hP 0 rfl rfl 18 (by decide) (hts _ kX5_applies_f62) (fun _ h9 => h9) rfl dX5_applies_67 ?_
          refine lv_iload_n hx hb dX5_applies_70 rfl (lv_at hl 6 rfl) ?_
          refine lv_aload_n hx hb dX5_applies_71 rfl (lv_at hl 3 rfl) ?_
          refine lv_aload_n hx hb dX5_applies_72 rfl (lv_at hl 3 rfl) ?_
          refine va_get (D := D) (ci := 5) (v := .ref v11) (C := RX5) (T := TX5) (N := 20) hx hb hts kX5_applies_X5 hown hK hP 0 rfl rfl 12 (by decide) (hts _ kX5_applies_f44) (fun _ h9 => h9) rfl dX5_applies_73 ?_
          refine lv_iload_n hx hb dX5_applies_76 rfl (lv_at hl 4 rfl) ?_
          refine x_ald (v := nI (bk si)) hx hb hK hP 5 0 rfl rfl (by omega) (by omega) (hboo _ (by omega)) dX5_applies_77 ?_
          refine lv_iload_n hx hb dX5_applies_78 rfl (lv_at hl 5 rfl) ?_
          refine lv_iload hx hb dX5_applies_79 (lv_at hl 7 rfl) ?_
          refine x_calli (w2 := fun (u : Unit) => [(v0, .inr (5, [.ref v1, .ref v2, .int (nI n), .int (nI lim), .ref v3, .ref v4, .ref v5, .ref v6, .ref v7, .ref v8, .ref v9, .ref v10, .ref v11, .ref v12, .ref v13, .ref v14, .ref v15, .ref v16, .ref v17, .int th])), (v7, .inl (cI, 6, .inl col)), (v8, .inl (cI, 6, .inl rel)), (v9, .inl (cI, 6, .inl num)), (v10, .inl (cI, 6, .inl lis)), (v11, .inl (cI, 3, .inl boo)), (v16, .inl (cI, 24, .inl the)), (v17, .inl (cI, 24, .inl her))]) (wr := [(v7, .inl (cI, 6, .inl col)), (v8, .inl (cI, 6, .inl rel)), (v9, .inl (cI, 6, .inl num)), (v11, .inl (cI, 3, .inl boo)), (v16, .inl (cI, 24, .inl the)), (v17, .inl (cI, 24, .inl her))]) (x_runV (n := 3) ⟨hx, hb, hml, hown, hts⟩ (zX5_chosen l D cI cP cS cL v0 v1 v2 v3 v4 v5 v6 v7 v8 v9 v10 v11 v12 v13 v14 v15 v16 v17 n lim (th) lis (bk si) t v hk4 ht2) gX5_applies_X5_chosen rfl rfl rfl (by decide +kernel) ⟨by decide, by decide⟩ hN hK hP hD [0, 4] rfl rfl (ci := 5) (q0 := 0) rfl rfl rfl rfl hl.1 (rest := [.int (nI (12 * t + j)), .ref v17]) (As := [.int (nI (bk si)), .int (nI t), .int v]) rfl (Nat.le_of_ble_eq_true rfl) dX5_applies_81 ⟨by decide, by decide⟩) hP hD hS hA [0, 4] [1, 2, 3, 5, 6, 7] [6, 0, 1, 2, 7, 3, 4, 5] rfl rfl rfl (by decide) rfl (fun _ => rfl) (fun r81 u H locs hw hP hD hS => ?_)
          subst hw
          refine x_ast (g := upd her (12 * t + j) (mChoN (lis (2 * (bk si) + t)) v 3)) (ws' := [(v0, .inr (5, [.ref v1, .ref v2, .int (nI n), .int (nI lim), .ref v3, .ref v4, .ref v5, .ref v6, .ref v7, .ref v8, .ref v9, .ref v10, .ref v11, .ref v12, .ref v13, .ref v14, .ref v15, .ref v16, .ref v17, .int th])), (v7, .inl (cI, 6, .inl col)), (v8, .inl (cI, 6, .inl rel)), (v9, .inl (cI, 6, .inl num)), (v10, .inl (cI, 6, .inl lis)), (v11, .inl (cI, 3, .inl boo)), (v16, .inl (cI, 24, .inl the)), (v17, .inl (cI, 24, .inl (upd her (12 * t + j) (mChoN (lis (2 * (bk si) + t)) v 3))))]) hx hb hK hP hD hS 7 0 rfl rfl (by omega) (by omega) (rfl) rfl dX5_applies_84 (fun H locs hP hD hS => ?_)
          refine lv_goto (tgt := 100) hx hb dX5_applies_85 (by decide) ?_
          refine lv_iload hx hb dX5_applies_100 (lv_at hl 0 rfl) ?_
          refine x_if_ne (tgt := 109) hx hb (nI_z (by omega)) dX5_applies_102 (by decide) (fun c102 => ?_) (fun c102 => ?_)
          · exact absurd c102 (by omega)
          refine lv_iconst (v := nI 1) hx hb dX5_applies_105 (by decide) ?_
          refine lv_goto (tgt := 110) hx hb dX5_applies_106 (by decide) ?_
          exact x_ret_z hx hb hrt (by first | exact Or.inl rfl | exact Or.inr rfl) hlk hP hD hS dX5_applies_110 ⟨by decide, by decide⟩ (upd her (12 * t + j) (mChoN (lis (2 * (bk si) + t)) v 3)) ⟨(by show _ = ite _ _ _; rw [if_pos (show mHas col rel num (2 * bk si + t) v = true from (b_y c36))]), (by rw [mOk_t (fun q => q.2.2 c51)]; rfl)⟩ rfl
      · refine lv_iconst (v := nI 1) hx hb dX5_applies_54 (by decide) ?_
        refine lv_goto (tgt := 59) hx hb dX5_applies_55 (by decide) ?_
        refine lv_istore (lv' := [(7, .int (nI 1)), (6, .int (bI (mCouB (col (2 * (bk si) + t)) (rel (2 * (bk si) + t)) (num (2 * (bk si) + t)) v))), (5, .int (bI (mCouB (col (2 * (bk si) + t)) (rel (2 * (bk si) + t)) (num (2 * (bk si) + t)) (the (12 * t + j))))), (0, .ref v0), (1, .int (nI si)), (2, .int (nI t)), (3, .int (nI (12 * t + j))), (4, .int v)]) hx hb dX5_applies_59 hl (by decide) rfl (fun ls hl => ?_)
        refine lv_iload hx hb dX5_applies_61 (lv_at hl 1 rfl) ?_
        refine x_if_eq (tgt := 88) hx hb (bI_0 _) dX5_applies_63 (by decide) (fun c63 => ?_) (fun c63 => ?_)
        · exact absurd c63 c36
        · refine lv_aload_n hx hb dX5_applies_66 rfl (lv_at hl 3 rfl) ?_
          refine va_get (D := D) (ci := 5) (v := .ref v17) (C := RX5) (T := TX5) (N := 20) hx hb hts kX5_applies_X5 hown hK hP 0 rfl rfl 18 (by decide) (hts _ kX5_applies_f62) (fun _ h9 => h9) rfl dX5_applies_67 ?_
          refine lv_iload_n hx hb dX5_applies_70 rfl (lv_at hl 6 rfl) ?_
          refine lv_aload_n hx hb dX5_applies_71 rfl (lv_at hl 3 rfl) ?_
          refine lv_aload_n hx hb dX5_applies_72 rfl (lv_at hl 3 rfl) ?_
          refine va_get (D := D) (ci := 5) (v := .ref v11) (C := RX5) (T := TX5) (N := 20) hx hb hts kX5_applies_X5 hown hK hP 0 rfl rfl 12 (by decide) (hts _ kX5_applies_f44) (fun _ h9 => h9) rfl dX5_applies_73 ?_
          refine lv_iload_n hx hb dX5_applies_76 rfl (lv_at hl 4 rfl) ?_
          refine x_ald (v := nI (bk si)) hx hb hK hP 5 0 rfl rfl (by omega) (by omega) (hboo _ (by omega)) dX5_applies_77 ?_
          refine lv_iload_n hx hb dX5_applies_78 rfl (lv_at hl 5 rfl) ?_
          refine lv_iload hx hb dX5_applies_79 (lv_at hl 7 rfl) ?_
          refine x_calli (w2 := fun (u : Unit) => [(v0, .inr (5, [.ref v1, .ref v2, .int (nI n), .int (nI lim), .ref v3, .ref v4, .ref v5, .ref v6, .ref v7, .ref v8, .ref v9, .ref v10, .ref v11, .ref v12, .ref v13, .ref v14, .ref v15, .ref v16, .ref v17, .int th])), (v7, .inl (cI, 6, .inl col)), (v8, .inl (cI, 6, .inl rel)), (v9, .inl (cI, 6, .inl num)), (v10, .inl (cI, 6, .inl lis)), (v11, .inl (cI, 3, .inl boo)), (v16, .inl (cI, 24, .inl the)), (v17, .inl (cI, 24, .inl her))]) (wr := [(v7, .inl (cI, 6, .inl col)), (v8, .inl (cI, 6, .inl rel)), (v9, .inl (cI, 6, .inl num)), (v11, .inl (cI, 3, .inl boo)), (v16, .inl (cI, 24, .inl the)), (v17, .inl (cI, 24, .inl her))]) (x_runV (n := 3) ⟨hx, hb, hml, hown, hts⟩ (zX5_chosen l D cI cP cS cL v0 v1 v2 v3 v4 v5 v6 v7 v8 v9 v10 v11 v12 v13 v14 v15 v16 v17 n lim (th) lis (bk si) t v hk4 ht2) gX5_applies_X5_chosen rfl rfl rfl (by decide +kernel) ⟨by decide, by decide⟩ hN hK hP hD [0, 4] rfl rfl (ci := 5) (q0 := 0) rfl rfl rfl rfl hl.1 (rest := [.int (nI (12 * t + j)), .ref v17]) (As := [.int (nI (bk si)), .int (nI t), .int v]) rfl (Nat.le_of_ble_eq_true rfl) dX5_applies_81 ⟨by decide, by decide⟩) hP hD hS hA [0, 4] [1, 2, 3, 5, 6, 7] [6, 0, 1, 2, 7, 3, 4, 5] rfl rfl rfl (by decide) rfl (fun _ => rfl) (fun r81 u H locs hw hP hD hS => ?_)
          subst hw
          refine x_ast (g := upd her (12 * t + j) (mChoN (lis (2 * (bk si) + t)) v 3)) (ws' := [(v0, .inr (5, [.ref v1, .ref v2, .int (nI n), .int (nI lim), .ref v3, .ref v4, .ref v5, .ref v6, .ref v7, .ref v8, .ref v9, .ref v10, .ref v11, .ref v12, .ref v13, .ref v14, .ref v15, .ref v16, .ref v17, .int th])), (v7, .inl (cI, 6, .inl col)), (v8, .inl (cI, 6, .inl rel)), (v9, .inl (cI, 6, .inl num)), (v10, .inl (cI, 6, .inl lis)), (v11, .inl (cI, 3, .inl boo)), (v16, .inl (cI, 24, .inl the)), (v17, .inl (cI, 24, .inl (upd her (12 * t + j) (mChoN (lis (2 * (bk si) + t)) v 3))))]) hx hb hK hP hD hS 7 0 rfl rfl (by omega) (by omega) (rfl) rfl dX5_applies_84 (fun H locs hP hD hS => ?_)
          refine lv_goto (tgt := 100) hx hb dX5_applies_85 (by decide) ?_
          refine lv_iload hx hb dX5_applies_100 (lv_at hl 0 rfl) ?_
          refine x_if_ne (tgt := 109) hx hb (nI_z (by omega)) dX5_applies_102 (by decide) (fun c102 => ?_) (fun c102 => ?_)
          rotate_left
          · exact absurd c102 (by omega)
          refine lv_iconst (v := nI 0) hx hb dX5_applies_109 (by decide) ?_
          exact x_ret_z hx hb hrt (by first | exact Or.inl rfl | exact Or.inr rfl) hlk hP hD hS dX5_applies_110 ⟨by decide, by decide⟩ (upd her (12 * t + j) (mChoN (lis (2 * (bk si) + t)) v 3)) ⟨(by show _ = ite _ _ _; rw [if_pos (show mHas col rel num (2 * bk si + t) v = true from (b_y c36))]), (by rw [mOk_f ⟨(b_y c36), c41, c51⟩]; rfl)⟩ rfl
