set_option maxRecDepth 20000 in
theorem kX5_setCondition_f32 : Cond.fieldLink RX5 32 "RowReplicatorModel" "column" "[I" ∈ wsX5_setCondition := by decide +kernel
set_option maxRecDepth 20000 in
theorem kX5_setCondition_X5 : ∀ w ∈ wsX50, w ∈ wsX5_setCondition := by decide +kernel
set_option maxRecDepth 20000 in
theorem kX5_setCondition_f35 : Cond.fieldLink RX5 35 "RowReplicatorModel" "relation" "[I" ∈ wsX5_setCondition := by decide +kernel
set_option maxRecDepth 20000 in
theorem kX5_setCondition_f38 : Cond.fieldLink RX5 38 "RowReplicatorModel" "number" "[I" ∈ wsX5_setCondition := by decide +kernel
set_option maxHeartbeats 4000000 in
set_option maxRecDepth 100000 in
theorem zX5_setCondition (l : Launch) (D : va_G) (cI cP cS cL : ClassId) (v0 v1 v2 v3 v4 v5 v6 v7 v8 v9 v10 v11 v12 v13 v14 v15 v16 v17 : Nat) (n lim : Nat) (th : Int32) (col rel num : Nat → Int32) (st bk : Nat → Nat) (sta boo cop : Nat → Int32) (px tx cx rx nx : Int32) (hsta : ∀ i, i < 3 → sta i = nI (st i)) (hst3 : ∀ i, i < 3 → st i ≤ 3) (hboo : ∀ i, i < 3 → boo i = nI (bk i)) (hbk : ∀ i, i < 3 → bk i < 3) : xMi l yX5_setCondition wsX5_setCondition (rmD 2 0 0) D [(cI, .int), (cP, .object RX0), (cS, .object RX2), (cL, .long)] [.ref v0, .int px, .int tx, .int cx, .int rx, .int nx] [(v0, .inr (5, [.ref v1, .ref v2, .int (nI n), .int (nI lim), .ref v3, .ref v4, .ref v5, .ref v6, .ref v7, .ref v8, .ref v9, .ref v10, .ref v11, .ref v12, .ref v13, .ref v14, .ref v15, .ref v16, .ref v17, .int th])), (v7, .inl (cI, 6, .inl col)), (v8, .inl (cI, 6, .inl rel)), (v9, .inl (cI, 6, .inl num)), (v12, .inl (cI, 3, .inl sta)), (v11, .inl (cI, 3, .inl boo)), (v14, .inl (cI, 6, .inl cop))] (fun (r : Int32) (u : Int32 × (Nat → Int32) × (Nat → Int32) × (Nat → Int32) × (Nat → Int32)) => match u with | (h, a1, a2, a3, a4) => ((¬ (vp_in px 3 ∧ vp_in tx 2 ∧ vp_in cx 3) ∧ h = nI 1 ∧ a1 = col ∧ a2 = rel ∧ a3 = num ∧ a4 = cop) ∨ ((vp_in px 3 ∧ vp_in tx 2 ∧ vp_in cx 3) ∧ ¬ (vp_in rx 3 ∧ vp_in nx 100) ∧ h = nI 2 ∧ a1 = col ∧ a2 = rel ∧ a3 = num ∧ a4 = cop) ∨ (∃ pi tn, px = nI pi ∧ pi < 3 ∧ tx = nI tn ∧ tn < 2 ∧ vp_in cx 3 ∧ (vp_in rx 3 ∧ vp_in nx 100) ∧ h = nI 0 ∧ r = nI (mFgN cop st bk pi tn 3) ∧ a1 = upd col (2 * pi + tn) cx ∧ a2 = upd rel (2 * pi + tn) rx ∧ a3 = upd num (2 * pi + tn) nx ∧ a4 = mFg cop st bk pi tn 3))) (fun (u : Int32 × (Nat → Int32) × (Nat → Int32) × (Nat → Int32) × (Nat → Int32)) => match u with | (h, a1, a2, a3, a4) => [(v0, .inr (5, [.ref v1, .ref v2, .int (nI n), .int (nI lim), .ref v3, .ref v4, .ref v5, .ref v6, .ref v7, .ref v8, .ref v9, .ref v10, .ref v11, .ref v12, .ref v13, .ref v14, .ref v15, .ref v16, .ref v17, .int h])), (v7, .inl (cI, 6, .inl a1)), (v8, .inl (cI, 6, .inl a2)), (v9, .inl (cI, 6, .inl a3)), (v12, .inl (cI, 3, .inl sta)), (v11, .inl (cI, 3, .inl boo)), (v14, .inl (cI, 6, .inl a4))]) 0 0 := by
  refine xe_i (cc := cX5_setCondition) (maxL := 7) (ret := (some .int)) (by decide) rfl (Nat.le_of_ble_eq_true rfl) ?_
  intro zp ze s zm below meth zc A ls B
  obtain ⟨hx, hb, hml, hrt, hts, hown, hnm, hlk, hK, hP, hD, hA, hS, hN, hl⟩ := B
  have hown : s.vm.findClass RX5 = some zm.cls := hown
  have hl : lv_has ls 7 [(0, .ref v0), (1, .int px), (2, .int tx), (3, .int cx), (4, .int rx), (5, .int nx)] := hl
  have hA : ∀ q, s.heap.size ≤ q → A q := hA
  refine lv_iload_n hx hb dX5_setCondition_0 rfl (lv_at hl 1 rfl) ?_
  refine x_calli (w2 := fun (u : Unit) => [(v0, .inr (5, [.ref v1, .ref v2, .int (nI n), .int (nI lim), .ref v3, .ref v4, .ref v5, .ref v6, .ref v7, .ref v8, .ref v9, .ref v10, .ref v11, .ref v12, .ref v13, .ref v14, .ref v15, .ref v16, .ref v17, .int th])), (v7, .inl (cI, 6, .inl col)), (v8, .inl (cI, 6, .inl rel)), (v9, .inl (cI, 6, .inl num)), (v12, .inl (cI, 3, .inl sta)), (v11, .inl (cI, 3, .inl boo)), (v14, .inl (cI, 6, .inl cop))]) (wr := [(v0, .inr (5, [.ref v1, .ref v2, .int (nI n), .int (nI lim), .ref v3, .ref v4, .ref v5, .ref v6, .ref v7, .ref v8, .ref v9, .ref v10, .ref v11, .ref v12, .ref v13, .ref v14, .ref v15, .ref v16, .ref v17, .int th])), (v7, .inl (cI, 6, .inl col)), (v8, .inl (cI, 6, .inl rel)), (v9, .inl (cI, 6, .inl num)), (v12, .inl (cI, 3, .inl sta)), (v11, .inl (cI, 3, .inl boo)), (v14, .inl (cI, 6, .inl cop))]) (x_runS (n := 1) ⟨hx, hb, hml, hown, hts⟩ (zX5_isThird l D cI cP cS cL px) gX5_setCondition_X5_isThird rfl rfl rfl (by decide +kernel) ⟨by decide, by decide⟩ hN hK hP hD [] rfl rfl rfl hl.1 (rest := []) (As := [.int px]) rfl (Nat.le_of_ble_eq_true rfl) dX5_setCondition_1 ⟨by decide, by decide⟩) hP hD hS hA [] [0, 1, 2, 3, 4, 5, 6] [0, 1, 2, 3, 4, 5, 6] rfl rfl rfl (by decide) rfl (fun _ => rfl) (fun r1 u H locs hw hP hD hS => ?_)
  subst hw
  refine x_if_eq (tgt := 25) hx hb (bI_0 _) dX5_setCondition_4 (by decide) (fun c4 => ?_) (fun c4 => ?_)
  · refine lv_iconst (v := nI 0) hx hb dX5_setCondition_25 (by decide) ?_
    refine lv_istore (lv' := [(6, .int (nI 0)), (0, .ref v0), (1, .int px), (2, .int tx), (3, .int cx), (4, .int rx), (5, .int nx)]) hx hb dX5_setCondition_26 hl (by decide) rfl (fun ls hl => ?_)
    refine lv_aload_n hx hb dX5_setCondition_28 rfl (lv_at hl 1 rfl) ?_
    refine lv_iload hx hb dX5_setCondition_29 (lv_at hl 0 rfl) ?_
    refine x_if_ne (tgt := 38) hx hb (nI_z (by omega)) dX5_setCondition_31 (by decide) (fun c31 => ?_) (fun c31 => ?_)
    · exact absurd c31 (by omega)
    refine lv_iconst (v := nI 1) hx hb dX5_setCondition_34 (by decide) ?_
    refine lv_goto (tgt := 59) hx hb dX5_setCondition_35 (by decide) ?_
    refine x_calli (w2 := fun (u : Unit) => [(v0, .inr (5, [.ref v1, .ref v2, .int (nI n), .int (nI lim), .ref v3, .ref v4, .ref v5, .ref v6, .ref v7, .ref v8, .ref v9, .ref v10, .ref v11, .ref v12, .ref v13, .ref v14, .ref v15, .ref v16, .ref v17, .int (nI 1)])), (v7, .inl (cI, 6, .inl col)), (v8, .inl (cI, 6, .inl rel)), (v9, .inl (cI, 6, .inl num)), (v12, .inl (cI, 3, .inl sta)), (v11, .inl (cI, 3, .inl boo)), (v14, .inl (cI, 6, .inl cop))]) (wr := [(v7, .inl (cI, 6, .inl col)), (v8, .inl (cI, 6, .inl rel)), (v9, .inl (cI, 6, .inl num)), (v12, .inl (cI, 3, .inl sta)), (v11, .inl (cI, 3, .inl boo)), (v14, .inl (cI, 6, .inl cop))]) (x_runV (n := 1) ⟨hx, hb, hml, hown, hts⟩ (zX5_fails l D cI cP cS cL v0 v1 v2 v3 v4 v5 v6 v7 v8 v9 v10 v11 v12 v13 v14 v15 v16 v17 n lim (th) 1 (by decide)) gX5_setCondition_X5_fails rfl rfl rfl (by decide +kernel) ⟨by decide, by decide⟩ hN hK hP hD [0] rfl rfl (ci := 5) (q0 := 0) rfl rfl rfl rfl hl.1 (rest := []) (As := [.int (nI 1)]) rfl (Nat.le_of_ble_eq_true rfl) dX5_setCondition_59 ⟨by decide, by decide⟩) hP hD hS hA [0] [1, 2, 3, 4, 5, 6] [6, 0, 1, 2, 3, 4, 5] rfl rfl rfl (by decide) rfl (fun _ => rfl) (fun r59 u H locs hw hP hD hS => ?_)
    replace hw : r59 = nI 1 := hw.trans (by decide)
    subst hw
    refine x_if_eq (tgt := 67) hx hb (nI_z (by omega)) dX5_setCondition_62 (by decide) (fun c62 => ?_) (fun c62 => ?_)
    · exact absurd c62 (by omega)
    refine lv_iconst (v := nI 0) hx hb dX5_setCondition_65 (by decide) ?_
    exact x_ret_i hx hb hrt hlk hP hD hS dX5_setCondition_66 ⟨by decide, by decide⟩ ((nI 1), col, rel, num, cop) (Or.inl ⟨fun q => qIn_n c4 q.1, rfl, rfl, rfl, rfl, rfl⟩) rfl
  · refine lv_iload_n hx hb dX5_setCondition_7 rfl (lv_at hl 2 rfl) ?_
    refine x_calli (w2 := fun (u : Unit) => [(v0, .inr (5, [.ref v1, .ref v2, .int (nI n), .int (nI lim), .ref v3, .ref v4, .ref v5, .ref v6, .ref v7, .ref v8, .ref v9, .ref v10, .ref v11, .ref v12, .ref v13, .ref v14, .ref v15, .ref v16, .ref v17, .int th])), (v7, .inl (cI, 6, .inl col)), (v8, .inl (cI, 6, .inl rel)), (v9, .inl (cI, 6, .inl num)), (v12, .inl (cI, 3, .inl sta)), (v11, .inl (cI, 3, .inl boo)), (v14, .inl (cI, 6, .inl cop))]) (wr := [(v0, .inr (5, [.ref v1, .ref v2, .int (nI n), .int (nI lim), .ref v3, .ref v4, .ref v5, .ref v6, .ref v7, .ref v8, .ref v9, .ref v10, .ref v11, .ref v12, .ref v13, .ref v14, .ref v15, .ref v16, .ref v17, .int th])), (v7, .inl (cI, 6, .inl col)), (v8, .inl (cI, 6, .inl rel)), (v9, .inl (cI, 6, .inl num)), (v12, .inl (cI, 3, .inl sta)), (v11, .inl (cI, 3, .inl boo)), (v14, .inl (cI, 6, .inl cop))]) (x_runS (n := 1) ⟨hx, hb, hml, hown, hts⟩ (zX5_isTable l D cI cP cS cL tx) gX5_setCondition_X5_isTable rfl rfl rfl (by decide +kernel) ⟨by decide, by decide⟩ hN hK hP hD [] rfl rfl rfl hl.1 (rest := []) (As := [.int tx]) rfl (Nat.le_of_ble_eq_true rfl) dX5_setCondition_8 ⟨by decide, by decide⟩) hP hD hS hA [] [0, 1, 2, 3, 4, 5, 6] [0, 1, 2, 3, 4, 5, 6] rfl rfl rfl (by decide) rfl (fun _ => rfl) (fun r8 u H locs hw hP hD hS => ?_)
    subst hw
    refine x_if_eq (tgt := 25) hx hb (bI_0 _) dX5_setCondition_11 (by decide) (fun c11 => ?_) (fun c11 => ?_)
    · refine lv_iconst (v := nI 0) hx hb dX5_setCondition_25 (by decide) ?_
      refine lv_istore (lv' := [(6, .int (nI 0)), (0, .ref v0), (1, .int px), (2, .int tx), (3, .int cx), (4, .int rx), (5, .int nx)]) hx hb dX5_setCondition_26 hl (by decide) rfl (fun ls hl => ?_)
      refine lv_aload_n hx hb dX5_setCondition_28 rfl (lv_at hl 1 rfl) ?_
      refine lv_iload hx hb dX5_setCondition_29 (lv_at hl 0 rfl) ?_
      refine x_if_ne (tgt := 38) hx hb (nI_z (by omega)) dX5_setCondition_31 (by decide) (fun c31 => ?_) (fun c31 => ?_)
      · exact absurd c31 (by omega)
      refine lv_iconst (v := nI 1) hx hb dX5_setCondition_34 (by decide) ?_
      refine lv_goto (tgt := 59) hx hb dX5_setCondition_35 (by decide) ?_
      refine x_calli (w2 := fun (u : Unit) => [(v0, .inr (5, [.ref v1, .ref v2, .int (nI n), .int (nI lim), .ref v3, .ref v4, .ref v5, .ref v6, .ref v7, .ref v8, .ref v9, .ref v10, .ref v11, .ref v12, .ref v13, .ref v14, .ref v15, .ref v16, .ref v17, .int (nI 1)])), (v7, .inl (cI, 6, .inl col)), (v8, .inl (cI, 6, .inl rel)), (v9, .inl (cI, 6, .inl num)), (v12, .inl (cI, 3, .inl sta)), (v11, .inl (cI, 3, .inl boo)), (v14, .inl (cI, 6, .inl cop))]) (wr := [(v7, .inl (cI, 6, .inl col)), (v8, .inl (cI, 6, .inl rel)), (v9, .inl (cI, 6, .inl num)), (v12, .inl (cI, 3, .inl sta)), (v11, .inl (cI, 3, .inl boo)), (v14, .inl (cI, 6, .inl cop))]) (x_runV (n := 1) ⟨hx, hb, hml, hown, hts⟩ (zX5_fails l D cI cP cS cL v0 v1 v2 v3 v4 v5 v6 v7 v8 v9 v10 v11 v12 v13 v14 v15 v16 v17 n lim (th) 1 (by decide)) gX5_setCondition_X5_fails rfl rfl rfl (by decide +kernel) ⟨by decide, by decide⟩ hN hK hP hD [0] rfl rfl (ci := 5) (q0 := 0) rfl rfl rfl rfl hl.1 (rest := []) (As := [.int (nI 1)]) rfl (Nat.le_of_ble_eq_true rfl) dX5_setCondition_59 ⟨by decide, by decide⟩) hP hD hS hA [0] [1, 2, 3, 4, 5, 6] [6, 0, 1, 2, 3, 4, 5] rfl rfl rfl (by decide) rfl (fun _ => rfl) (fun r59 u H locs hw hP hD hS => ?_)
      replace hw : r59 = nI 1 := hw.trans (by decide)
      subst hw
      refine x_if_eq (tgt := 67) hx hb (nI_z (by omega)) dX5_setCondition_62 (by decide) (fun c62 => ?_) (fun c62 => ?_)
      · exact absurd c62 (by omega)
      refine lv_iconst (v := nI 0) hx hb dX5_setCondition_65 (by decide) ?_
      exact x_ret_i hx hb hrt hlk hP hD hS dX5_setCondition_66 ⟨by decide, by decide⟩ ((nI 1), col, rel, num, cop) (Or.inl ⟨fun q => qIn_n c11 q.2.1, rfl, rfl, rfl, rfl, rfl⟩) rfl
    · refine lv_iload_n hx hb dX5_setCondition_14 rfl (lv_at hl 3 rfl) ?_
      refine x_calli (w2 := fun (u : Unit) => [(v0, .inr (5, [.ref v1, .ref v2, .int (nI n), .int (nI lim), .ref v3, .ref v4, .ref v5, .ref v6, .ref v7, .ref v8, .ref v9, .ref v10, .ref v11, .ref v12, .ref v13, .ref v14, .ref v15, .ref v16, .ref v17, .int th])), (v7, .inl (cI, 6, .inl col)), (v8, .inl (cI, 6, .inl rel)), (v9, .inl (cI, 6, .inl num)), (v12, .inl (cI, 3, .inl sta)), (v11, .inl (cI, 3, .inl boo)), (v14, .inl (cI, 6, .inl cop))]) (wr := [(v0, .inr (5, [.ref v1, .ref v2, .int (nI n), .int (nI lim), .ref v3, .ref v4, .ref v5, .ref v6, .ref v7, .ref v8, .ref v9, .ref v10, .ref v11, .ref v12, .ref v13, .ref v14, .ref v15, .ref v16, .ref v17, .int th])), (v7, .inl (cI, 6, .inl col)), (v8, .inl (cI, 6, .inl rel)), (v9, .inl (cI, 6, .inl num)), (v12, .inl (cI, 3, .inl sta)), (v11, .inl (cI, 3, .inl boo)), (v14, .inl (cI, 6, .inl cop))]) (x_runS (n := 1) ⟨hx, hb, hml, hown, hts⟩ (zX5_isThird l D cI cP cS cL cx) gX5_setCondition_X5_isThird rfl rfl rfl (by decide +kernel) ⟨by decide, by decide⟩ hN hK hP hD [] rfl rfl rfl hl.1 (rest := []) (As := [.int cx]) rfl (Nat.le_of_ble_eq_true rfl) dX5_setCondition_15 ⟨by decide, by decide⟩) hP hD hS hA [] [0, 1, 2, 3, 4, 5, 6] [0, 1, 2, 3, 4, 5, 6] rfl rfl rfl (by decide) rfl (fun _ => rfl) (fun r15 u H locs hw hP hD hS => ?_)
      subst hw
      refine x_if_eq (tgt := 25) hx hb (bI_0 _) dX5_setCondition_18 (by decide) (fun c18 => ?_) (fun c18 => ?_)
      · refine lv_iconst (v := nI 0) hx hb dX5_setCondition_25 (by decide) ?_
        refine lv_istore (lv' := [(6, .int (nI 0)), (0, .ref v0), (1, .int px), (2, .int tx), (3, .int cx), (4, .int rx), (5, .int nx)]) hx hb dX5_setCondition_26 hl (by decide) rfl (fun ls hl => ?_)
        refine lv_aload_n hx hb dX5_setCondition_28 rfl (lv_at hl 1 rfl) ?_
        refine lv_iload hx hb dX5_setCondition_29 (lv_at hl 0 rfl) ?_
        refine x_if_ne (tgt := 38) hx hb (nI_z (by omega)) dX5_setCondition_31 (by decide) (fun c31 => ?_) (fun c31 => ?_)
        · exact absurd c31 (by omega)
        refine lv_iconst (v := nI 1) hx hb dX5_setCondition_34 (by decide) ?_
        refine lv_goto (tgt := 59) hx hb dX5_setCondition_35 (by decide) ?_
        refine x_calli (w2 := fun (u : Unit) => [(v0, .inr (5, [.ref v1, .ref v2, .int (nI n), .int (nI lim), .ref v3, .ref v4, .ref v5, .ref v6, .ref v7, .ref v8, .ref v9, .ref v10, .ref v11, .ref v12, .ref v13, .ref v14, .ref v15, .ref v16, .ref v17, .int (nI 1)])), (v7, .inl (cI, 6, .inl col)), (v8, .inl (cI, 6, .inl rel)), (v9, .inl (cI, 6, .inl num)), (v12, .inl (cI, 3, .inl sta)), (v11, .inl (cI, 3, .inl boo)), (v14, .inl (cI, 6, .inl cop))]) (wr := [(v7, .inl (cI, 6, .inl col)), (v8, .inl (cI, 6, .inl rel)), (v9, .inl (cI, 6, .inl num)), (v12, .inl (cI, 3, .inl sta)), (v11, .inl (cI, 3, .inl boo)), (v14, .inl (cI, 6, .inl cop))]) (x_runV (n := 1) ⟨hx, hb, hml, hown, hts⟩ (zX5_fails l D cI cP cS cL v0 v1 v2 v3 v4 v5 v6 v7 v8 v9 v10 v11 v12 v13 v14 v15 v16 v17 n lim (th) 1 (by decide)) gX5_setCondition_X5_fails rfl rfl rfl (by decide +kernel) ⟨by decide, by decide⟩ hN hK hP hD [0] rfl rfl (ci := 5) (q0 := 0) rfl rfl rfl rfl hl.1 (rest := []) (As := [.int (nI 1)]) rfl (Nat.le_of_ble_eq_true rfl) dX5_setCondition_59 ⟨by decide, by decide⟩) hP hD hS hA [0] [1, 2, 3, 4, 5, 6] [6, 0, 1, 2, 3, 4, 5] rfl rfl rfl (by decide) rfl (fun _ => rfl) (fun r59 u H locs hw hP hD hS => ?_)
        replace hw : r59 = nI 1 := hw.trans (by decide)
        subst hw
        refine x_if_eq (tgt := 67) hx hb (nI_z (by omega)) dX5_setCondition_62 (by decide) (fun c62 => ?_) (fun c62 => ?_)
        · exact absurd c62 (by omega)
        refine lv_iconst (v := nI 0) hx hb dX5_setCondition_65 (by decide) ?_
        exact x_ret_i hx hb hrt hlk hP hD hS dX5_setCondition_66 ⟨by decide, by decide⟩ ((nI 1), col, rel, num, cop) (Or.inl ⟨fun q => qIn_n c18 q.2.2, rfl, rfl, rfl, rfl, rfl⟩) rfl
      · refine lv_iconst (v := nI 1) hx hb dX5_setCondition_21 (by decide) ?_
        refine lv_goto (tgt := 26) hx hb dX5_setCondition_22 (by decide) ?_
        refine lv_istore (lv' := [(6, .int (nI 1)), (0, .ref v0), (1, .int px), (2, .int tx), (3, .int cx), (4, .int rx), (5, .int nx)]) hx hb dX5_setCondition_26 hl (by decide) rfl (fun ls hl => ?_)
        refine lv_aload_n hx hb dX5_setCondition_28 rfl (lv_at hl 1 rfl) ?_
        refine lv_iload hx hb dX5_setCondition_29 (lv_at hl 0 rfl) ?_
        refine x_if_ne (tgt := 38) hx hb (nI_z (by omega)) dX5_setCondition_31 (by decide) (fun c31 => ?_) (fun c31 => ?_)
        rotate_left
        · exact absurd c31 (by omega)
        refine lv_iload hx hb dX5_setCondition_38 (lv_at hl 5 rfl) ?_
        refine x_calli (w2 := fun (u : Unit) => [(v0, .inr (5, [.ref v1, .ref v2, .int (nI n), .int (nI lim), .ref v3, .ref v4, .ref v5, .ref v6, .ref v7, .ref v8, .ref v9, .ref v10, .ref v11, .ref v12, .ref v13, .ref v14, .ref v15, .ref v16, .ref v17, .int th])), (v7, .inl (cI, 6, .inl col)), (v8, .inl (cI, 6, .inl rel)), (v9, .inl (cI, 6, .inl num)), (v12, .inl (cI, 3, .inl sta)), (v11, .inl (cI, 3, .inl boo)), (v14, .inl (cI, 6, .inl cop))]) (wr := [(v0, .inr (5, [.ref v1, .ref v2, .int (nI n), .int (nI lim), .ref v3, .ref v4, .ref v5, .ref v6, .ref v7, .ref v8, .ref v9, .ref v10, .ref v11, .ref v12, .ref v13, .ref v14, .ref v15, .ref v16, .ref v17, .int th])), (v7, .inl (cI, 6, .inl col)), (v8, .inl (cI, 6, .inl rel)), (v9, .inl (cI, 6, .inl num)), (v12, .inl (cI, 3, .inl sta)), (v11, .inl (cI, 3, .inl boo)), (v14, .inl (cI, 6, .inl cop))]) (x_runS (n := 1) ⟨hx, hb, hml, hown, hts⟩ (zX5_isThird l D cI cP cS cL rx) gX5_setCondition_X5_isThird rfl rfl rfl (by decide +kernel) ⟨by decide, by decide⟩ hN hK hP hD [] rfl rfl rfl hl.1 (rest := [.ref v0]) (As := [.int rx]) rfl (Nat.le_of_ble_eq_true rfl) dX5_setCondition_40 ⟨by decide, by decide⟩) hP hD hS hA [] [0, 1, 2, 3, 4, 5, 6] [0, 1, 2, 3, 4, 5, 6] rfl rfl rfl (by decide) rfl (fun _ => rfl) (fun r40 u H locs hw hP hD hS => ?_)
        subst hw
        refine x_if_eq (tgt := 58) hx hb (bI_0 _) dX5_setCondition_43 (by decide) (fun c43 => ?_) (fun c43 => ?_)
        · refine lv_iconst (v := nI 2) hx hb dX5_setCondition_58 (by decide) ?_
          refine x_calli (w2 := fun (u : Unit) => [(v0, .inr (5, [.ref v1, .ref v2, .int (nI n), .int (nI lim), .ref v3, .ref v4, .ref v5, .ref v6, .ref v7, .ref v8, .ref v9, .ref v10, .ref v11, .ref v12, .ref v13, .ref v14, .ref v15, .ref v16, .ref v17, .int (nI 2)])), (v7, .inl (cI, 6, .inl col)), (v8, .inl (cI, 6, .inl rel)), (v9, .inl (cI, 6, .inl num)), (v12, .inl (cI, 3, .inl sta)), (v11, .inl (cI, 3, .inl boo)), (v14, .inl (cI, 6, .inl cop))]) (wr := [(v7, .inl (cI, 6, .inl col)), (v8, .inl (cI, 6, .inl rel)), (v9, .inl (cI, 6, .inl num)), (v12, .inl (cI, 3, .inl sta)), (v11, .inl (cI, 3, .inl boo)), (v14, .inl (cI, 6, .inl cop))]) (x_runV (n := 1) ⟨hx, hb, hml, hown, hts⟩ (zX5_fails l D cI cP cS cL v0 v1 v2 v3 v4 v5 v6 v7 v8 v9 v10 v11 v12 v13 v14 v15 v16 v17 n lim (th) 2 (by decide)) gX5_setCondition_X5_fails rfl rfl rfl (by decide +kernel) ⟨by decide, by decide⟩ hN hK hP hD [0] rfl rfl (ci := 5) (q0 := 0) rfl rfl rfl rfl hl.1 (rest := []) (As := [.int (nI 2)]) rfl (Nat.le_of_ble_eq_true rfl) dX5_setCondition_59 ⟨by decide, by decide⟩) hP hD hS hA [0] [1, 2, 3, 4, 5, 6] [6, 0, 1, 2, 3, 4, 5] rfl rfl rfl (by decide) rfl (fun _ => rfl) (fun r59 u H locs hw hP hD hS => ?_)
          replace hw : r59 = nI 1 := hw.trans (by decide)
          subst hw
          refine x_if_eq (tgt := 67) hx hb (nI_z (by omega)) dX5_setCondition_62 (by decide) (fun c62 => ?_) (fun c62 => ?_)
          · exact absurd c62 (by omega)
          refine lv_iconst (v := nI 0) hx hb dX5_setCondition_65 (by decide) ?_
          exact x_ret_i hx hb hrt hlk hP hD hS dX5_setCondition_66 ⟨by decide, by decide⟩ ((nI 2), col, rel, num, cop) (Or.inr (Or.inl ⟨⟨qIn_y c4, qIn_y c11, qIn_y c18⟩, fun q => qIn_n c43 q.1, rfl, rfl, rfl, rfl, rfl⟩)) rfl
        · refine lv_iload hx hb dX5_setCondition_46 (lv_at hl 6 rfl) ?_
          refine x_calli (w2 := fun (u : Unit) => [(v0, .inr (5, [.ref v1, .ref v2, .int (nI n), .int (nI lim), .ref v3, .ref v4, .ref v5, .ref v6, .ref v7, .ref v8, .ref v9, .ref v10, .ref v11, .ref v12, .ref v13, .ref v14, .ref v15, .ref v16, .ref v17, .int th])), (v7, .inl (cI, 6, .inl col)), (v8, .inl (cI, 6, .inl rel)), (v9, .inl (cI, 6, .inl num)), (v12, .inl (cI, 3, .inl sta)), (v11, .inl (cI, 3, .inl boo)), (v14, .inl (cI, 6, .inl cop))]) (wr := [(v0, .inr (5, [.ref v1, .ref v2, .int (nI n), .int (nI lim), .ref v3, .ref v4, .ref v5, .ref v6, .ref v7, .ref v8, .ref v9, .ref v10, .ref v11, .ref v12, .ref v13, .ref v14, .ref v15, .ref v16, .ref v17, .int th])), (v7, .inl (cI, 6, .inl col)), (v8, .inl (cI, 6, .inl rel)), (v9, .inl (cI, 6, .inl num)), (v12, .inl (cI, 3, .inl sta)), (v11, .inl (cI, 3, .inl boo)), (v14, .inl (cI, 6, .inl cop))]) (x_runS (n := 1) ⟨hx, hb, hml, hown, hts⟩ (zX5_isNumber l D cI cP cS cL nx) gX5_setCondition_X5_isNumber rfl rfl rfl (by decide +kernel) ⟨by decide, by decide⟩ hN hK hP hD [] rfl rfl rfl hl.1 (rest := [.ref v0]) (As := [.int nx]) rfl (Nat.le_of_ble_eq_true rfl) dX5_setCondition_48 ⟨by decide, by decide⟩) hP hD hS hA [] [0, 1, 2, 3, 4, 5, 6] [0, 1, 2, 3, 4, 5, 6] rfl rfl rfl (by decide) rfl (fun _ => rfl) (fun r48 u H locs hw hP hD hS => ?_)
          subst hw
          refine x_if_eq (tgt := 58) hx hb (bI_0 _) dX5_setCondition_51 (by decide) (fun c51 => ?_) (fun c51 => ?_)
          · refine lv_iconst (v := nI 2) hx hb dX5_setCondition_58 (by decide) ?_
            refine x_calli (w2 := fun (u : Unit) => [(v0, .inr (5, [.ref v1, .ref v2, .int (nI n), .int (nI lim), .ref v3, .ref v4, .ref v5, .ref v6, .ref v7, .ref v8, .ref v9, .ref v10, .ref v11, .ref v12, .ref v13, .ref v14, .ref v15, .ref v16, .ref v17, .int (nI 2)])), (v7, .inl (cI, 6, .inl col)), (v8, .inl (cI, 6, .inl rel)), (v9, .inl (cI, 6, .inl num)), (v12, .inl (cI, 3, .inl sta)), (v11, .inl (cI, 3, .inl boo)), (v14, .inl (cI, 6, .inl cop))]) (wr := [(v7, .inl (cI, 6, .inl col)), (v8, .inl (cI, 6, .inl rel)), (v9, .inl (cI, 6, .inl num)), (v12, .inl (cI, 3, .inl sta)), (v11, .inl (cI, 3, .inl boo)), (v14, .inl (cI, 6, .inl cop))]) (x_runV (n := 1) ⟨hx, hb, hml, hown, hts⟩ (zX5_fails l D cI cP cS cL v0 v1 v2 v3 v4 v5 v6 v7 v8 v9 v10 v11 v12 v13 v14 v15 v16 v17 n lim (th) 2 (by decide)) gX5_setCondition_X5_fails rfl rfl rfl (by decide +kernel) ⟨by decide, by decide⟩ hN hK hP hD [0] rfl rfl (ci := 5) (q0 := 0) rfl rfl rfl rfl hl.1 (rest := []) (As := [.int (nI 2)]) rfl (Nat.le_of_ble_eq_true rfl) dX5_setCondition_59 ⟨by decide, by decide⟩) hP hD hS hA [0] [1, 2, 3, 4, 5, 6] [6, 0, 1, 2, 3, 4, 5] rfl rfl rfl (by decide) rfl (fun _ => rfl) (fun r59 u H locs hw hP hD hS => ?_)
            replace hw : r59 = nI 1 := hw.trans (by decide)
            subst hw
            refine x_if_eq (tgt := 67) hx hb (nI_z (by omega)) dX5_setCondition_62 (by decide) (fun c62 => ?_) (fun c62 => ?_)
            · exact absurd c62 (by omega)
            refine lv_iconst (v := nI 0) hx hb dX5_setCondition_65 (by decide) ?_
            exact x_ret_i hx hb hrt hlk hP hD hS dX5_setCondition_66 ⟨by decide, by decide⟩ ((nI 2), col, rel, num, cop) (Or.inr (Or.inl ⟨⟨qIn_y c4, qIn_y c11, qIn_y c18⟩, fun q => qIn_n c51 q.2, rfl, rfl, rfl, rfl, rfl⟩)) rfl
          · refine lv_iconst (v := nI 0) hx hb dX5_setCondition_54 (by decide) ?_
            refine lv_goto (tgt := 59) hx hb dX5_setCondition_55 (by decide) ?_
            refine x_calli (w2 := fun (u : Unit) => [(v0, .inr (5, [.ref v1, .ref v2, .int (nI n), .int (nI lim), .ref v3, .ref v4, .ref v5, .ref v6, .ref v7, .ref v8, .ref v9, .ref v10, .ref v11, .ref v12, .ref v13, .ref v14, .ref v15, .ref v16, .ref v17, .int (nI 0)])), (v7, .inl (cI, 6, .inl col)), (v8, .inl (cI, 6, .inl rel)), (v9, .inl (cI, 6, .inl num)), (v12, .inl (cI, 3, .inl sta)), (v11, .inl (cI, 3, .inl boo)), (v14, .inl (cI, 6, .inl cop))]) (wr := [(v7, .inl (cI, 6, .inl col)), (v8, .inl (cI, 6, .inl rel)), (v9, .inl (cI, 6, .inl num)), (v12, .inl (cI, 3, .inl sta)), (v11, .inl (cI, 3, .inl boo)), (v14, .inl (cI, 6, .inl cop))]) (x_runV (n := 1) ⟨hx, hb, hml, hown, hts⟩ (zX5_fails l D cI cP cS cL v0 v1 v2 v3 v4 v5 v6 v7 v8 v9 v10 v11 v12 v13 v14 v15 v16 v17 n lim (th) 0 (by decide)) gX5_setCondition_X5_fails rfl rfl rfl (by decide +kernel) ⟨by decide, by decide⟩ hN hK hP hD [0] rfl rfl (ci := 5) (q0 := 0) rfl rfl rfl rfl hl.1 (rest := []) (As := [.int (nI 0)]) rfl (Nat.le_of_ble_eq_true rfl) dX5_setCondition_59 ⟨by decide, by decide⟩) hP hD hS hA [0] [1, 2, 3, 4, 5, 6] [6, 0, 1, 2, 3, 4, 5] rfl rfl rfl (by decide) rfl (fun _ => rfl) (fun r59 u H locs hw hP hD hS => ?_)
            replace hw : r59 = nI 0 := hw.trans (by decide)
            subst hw
            refine x_if_eq (tgt := 67) hx hb (nI_z (by omega)) dX5_setCondition_62 (by decide) (fun c62 => ?_) (fun c62 => ?_)
            rotate_left
            · exact absurd c62 (by omega)
            obtain ⟨pi, hpi9, epi⟩ := vp_in_of (qIn_y c4) (by decide)
            obtain ⟨tn, htn9, etn⟩ := vp_in_of (qIn_y c11) (by decide)
            subst epi
            subst etn
            refine lv_aload_n hx hb dX5_setCondition_67 rfl (lv_at hl 1 rfl) ?_
            refine va_get (D := D) (ci := 5) (v := .ref v7) (C := RX5) (T := TX5) (N := 20) hx hb hts kX5_setCondition_X5 hown hK hP 0 rfl rfl 8 (by decide) (hts _ kX5_setCondition_f32) (fun _ h9 => h9) rfl dX5_setCondition_68 ?_
            refine lv_iconst (v := nI 2) hx hb dX5_setCondition_71 (by decide) ?_
            refine lv_iload_n hx hb dX5_setCondition_72 rfl (lv_at hl 2 rfl) ?_
            refine x_mul (k := 2 * pi) hx hb dX5_setCondition_73 rfl ?_
            refine lv_iload_n hx hb dX5_setCondition_74 rfl (lv_at hl 3 rfl) ?_
            refine x_add (k := (2 * pi) + tn) hx hb dX5_setCondition_75 rfl ?_
            refine lv_iload_n hx hb dX5_setCondition_76 rfl (lv_at hl 4 rfl) ?_
            refine x_ast (g := upd col ((2 * pi) + tn) cx) (ws' := [(v0, .inr (5, [.ref v1, .ref v2, .int (nI n), .int (nI lim), .ref v3, .ref v4, .ref v5, .ref v6, .ref v7, .ref v8, .ref v9, .ref v10, .ref v11, .ref v12, .ref v13, .ref v14, .ref v15, .ref v16, .ref v17, .int (nI 0)])), (v7, .inl (cI, 6, .inl (upd col ((2 * pi) + tn) cx))), (v8, .inl (cI, 6, .inl rel)), (v9, .inl (cI, 6, .inl num)), (v12, .inl (cI, 3, .inl sta)), (v11, .inl (cI, 3, .inl boo)), (v14, .inl (cI, 6, .inl cop))]) hx hb hK hP hD hS 1 0 rfl rfl (by omega) (by omega) (rfl) rfl dX5_setCondition_77 (fun H locs hP hD hS => ?_)
            refine lv_aload_n hx hb dX5_setCondition_78 rfl (lv_at hl 1 rfl) ?_
            refine va_get (D := D) (ci := 5) (v := .ref v8) (C := RX5) (T := TX5) (N := 20) hx hb hts kX5_setCondition_X5 hown hK hP 0 rfl rfl 9 (by decide) (hts _ kX5_setCondition_f35) (fun _ h9 => h9) rfl dX5_setCondition_79 ?_
            refine lv_iconst (v := nI 2) hx hb dX5_setCondition_82 (by decide) ?_
            refine lv_iload_n hx hb dX5_setCondition_83 rfl (lv_at hl 2 rfl) ?_
            refine x_mul (k := 2 * pi) hx hb dX5_setCondition_84 rfl ?_
            refine lv_iload_n hx hb dX5_setCondition_85 rfl (lv_at hl 3 rfl) ?_
            refine x_add (k := (2 * pi) + tn) hx hb dX5_setCondition_86 rfl ?_
            refine lv_iload hx hb dX5_setCondition_87 (lv_at hl 5 rfl) ?_
            refine x_ast (g := upd rel ((2 * pi) + tn) rx) (ws' := [(v0, .inr (5, [.ref v1, .ref v2, .int (nI n), .int (nI lim), .ref v3, .ref v4, .ref v5, .ref v6, .ref v7, .ref v8, .ref v9, .ref v10, .ref v11, .ref v12, .ref v13, .ref v14, .ref v15, .ref v16, .ref v17, .int (nI 0)])), (v7, .inl (cI, 6, .inl (upd col ((2 * pi) + tn) cx))), (v8, .inl (cI, 6, .inl (upd rel ((2 * pi) + tn) rx))), (v9, .inl (cI, 6, .inl num)), (v12, .inl (cI, 3, .inl sta)), (v11, .inl (cI, 3, .inl boo)), (v14, .inl (cI, 6, .inl cop))]) hx hb hK hP hD hS 2 0 rfl rfl (by omega) (by omega) (rfl) rfl dX5_setCondition_89 (fun H locs hP hD hS => ?_)
            refine lv_aload_n hx hb dX5_setCondition_90 rfl (lv_at hl 1 rfl) ?_
            refine va_get (D := D) (ci := 5) (v := .ref v9) (C := RX5) (T := TX5) (N := 20) hx hb hts kX5_setCondition_X5 hown hK hP 0 rfl rfl 10 (by decide) (hts _ kX5_setCondition_f38) (fun _ h9 => h9) rfl dX5_setCondition_91 ?_
            refine lv_iconst (v := nI 2) hx hb dX5_setCondition_94 (by decide) ?_
            refine lv_iload_n hx hb dX5_setCondition_95 rfl (lv_at hl 2 rfl) ?_
            refine x_mul (k := 2 * pi) hx hb dX5_setCondition_96 rfl ?_
            refine lv_iload_n hx hb dX5_setCondition_97 rfl (lv_at hl 3 rfl) ?_
            refine x_add (k := (2 * pi) + tn) hx hb dX5_setCondition_98 rfl ?_
            refine lv_iload hx hb dX5_setCondition_99 (lv_at hl 6 rfl) ?_
            refine x_ast (g := upd num ((2 * pi) + tn) nx) (ws' := [(v0, .inr (5, [.ref v1, .ref v2, .int (nI n), .int (nI lim), .ref v3, .ref v4, .ref v5, .ref v6, .ref v7, .ref v8, .ref v9, .ref v10, .ref v11, .ref v12, .ref v13, .ref v14, .ref v15, .ref v16, .ref v17, .int (nI 0)])), (v7, .inl (cI, 6, .inl (upd col ((2 * pi) + tn) cx))), (v8, .inl (cI, 6, .inl (upd rel ((2 * pi) + tn) rx))), (v9, .inl (cI, 6, .inl (upd num ((2 * pi) + tn) nx))), (v12, .inl (cI, 3, .inl sta)), (v11, .inl (cI, 3, .inl boo)), (v14, .inl (cI, 6, .inl cop))]) hx hb hK hP hD hS 3 0 rfl rfl (by omega) (by omega) (rfl) rfl dX5_setCondition_101 (fun H locs hP hD hS => ?_)
            refine lv_aload_n hx hb dX5_setCondition_102 rfl (lv_at hl 1 rfl) ?_
            refine lv_iload_n hx hb dX5_setCondition_103 rfl (lv_at hl 2 rfl) ?_
            refine lv_iload_n hx hb dX5_setCondition_104 rfl (lv_at hl 3 rfl) ?_
            refine x_calli (w2 := fun (u : Unit) => [(v0, .inr (5, [.ref v1, .ref v2, .int (nI n), .int (nI lim), .ref v3, .ref v4, .ref v5, .ref v6, .ref v7, .ref v8, .ref v9, .ref v10, .ref v11, .ref v12, .ref v13, .ref v14, .ref v15, .ref v16, .ref v17, .int (nI 0)])), (v7, .inl (cI, 6, .inl (upd col ((2 * pi) + tn) cx))), (v8, .inl (cI, 6, .inl (upd rel ((2 * pi) + tn) rx))), (v9, .inl (cI, 6, .inl (upd num ((2 * pi) + tn) nx))), (v12, .inl (cI, 3, .inl sta)), (v11, .inl (cI, 3, .inl boo)), (v14, .inl (cI, 6, .inl (mFg cop st bk pi tn 3)))]) (wr := [(v7, .inl (cI, 6, .inl (upd col ((2 * pi) + tn) cx))), (v8, .inl (cI, 6, .inl (upd rel ((2 * pi) + tn) rx))), (v9, .inl (cI, 6, .inl (upd num ((2 * pi) + tn) nx)))]) (x_runV (n := 2) ⟨hx, hb, hml, hown, hts⟩ (zX5_forgets l D cI cP cS cL v0 v1 v2 v3 v4 v5 v6 v7 v8 v9 v10 v11 v12 v13 v14 v15 v16 v17 n lim (nI 0) st bk sta boo cop pi tn hpi9 htn9 hsta hst3 hboo hbk) gX5_setCondition_X5_forgets rfl rfl rfl (by decide +kernel) ⟨by decide, by decide⟩ hN hK hP hD [0, 4, 5, 6] rfl rfl (ci := 5) (q0 := 0) rfl rfl rfl rfl hl.1 (rest := []) (As := [.int (nI pi), .int (nI tn)]) rfl (Nat.le_of_ble_eq_true rfl) dX5_setCondition_105 ⟨by decide, by decide⟩) hP hD hS hA [0, 4, 5, 6] [1, 2, 3] [3, 0, 1, 2, 4, 5, 6] rfl rfl rfl (by decide) rfl (fun _ => rfl) (fun r105 u H locs hw hP hD hS => ?_)
            exact x_ret_i hx hb hrt hlk hP hD hS dX5_setCondition_108 ⟨by decide, by decide⟩ ((nI 0), upd col ((2 * pi) + tn) cx, upd rel ((2 * pi) + tn) rx, upd num ((2 * pi) + tn) nx, mFg cop st bk pi tn 3) (Or.inr (Or.inr ⟨pi, tn, rfl, hpi9, rfl, htn9, qIn_y c18, ⟨qIn_y c43, qIn_y c51⟩, rfl, hw, rfl, rfl, rfl, rfl⟩)) rfl

set_option maxRecDepth 20000 in
theorem kX5_setColumns_f41 : Cond.fieldLink RX5 41 "RowReplicatorModel" "list" "[I" ∈ wsX5_setColumns := by decide +kernel
set_option maxRecDepth 20000 in
theorem kX5_setColumns_X5 : ∀ w ∈ wsX50, w ∈ wsX5_setColumns := by decide +kernel
set_option maxHeartbeats 4000000 in
set_option maxRecDepth 100000 in
theorem zX5_setColumns (l : Launch) (D : va_G) (cI cP cS cL : ClassId) (v0 v1 v2 v3 v4 v5 v6 v7 v8 v9 v10 v11 v12 v13 v14 v15 v16 v17 : Nat) (n lim : Nat) (th : Int32) (lis : Nat → Int32) (st bk : Nat → Nat) (sta boo cop : Nat → Int32) (px tx cx : Int32) (hsta : ∀ i, i < 3 → sta i = nI (st i)) (hst3 : ∀ i, i < 3 → st i ≤ 3) (hboo : ∀ i, i < 3 → boo i = nI (bk i)) (hbk : ∀ i, i < 3 → bk i < 3) : xMi l yX5_setColumns wsX5_setColumns (rmD 2 0 0) D [(cI, .int), (cP, .object RX0), (cS, .object RX2), (cL, .long)] [.ref v0, .int px, .int tx, .int cx] [(v0, .inr (5, [.ref v1, .ref v2, .int (nI n), .int (nI lim), .ref v3, .ref v4, .ref v5, .ref v6, .ref v7, .ref v8, .ref v9, .ref v10, .ref v11, .ref v12, .ref v13, .ref v14, .ref v15, .ref v16, .ref v17, .int th])), (v10, .inl (cI, 6, .inl lis)), (v12, .inl (cI, 3, .inl sta)), (v11, .inl (cI, 3, .inl boo)), (v14, .inl (cI, 6, .inl cop))] (fun (r : Int32) (u : Int32 × (Nat → Int32) × (Nat → Int32)) => match u with | (h, a1, a4) => ((¬ (vp_in px 3 ∧ vp_in tx 2) ∧ h = nI 1 ∧ a1 = lis ∧ a4 = cop) ∨ ((vp_in px 3 ∧ vp_in tx 2) ∧ ¬ vp_in cx 8 ∧ h = nI 2 ∧ a1 = lis ∧ a4 = cop) ∨ (∃ pi tn, px = nI pi ∧ pi < 3 ∧ tx = nI tn ∧ tn < 2 ∧ vp_in cx 8 ∧ h = nI 0 ∧ r = nI (mFgN cop st bk pi tn 3) ∧ a1 = upd lis (2 * pi + tn) cx ∧ a4 = mFg cop st bk pi tn 3))) (fun (u : Int32 × (Nat → Int32) × (Nat → Int32)) => match u with | (h, a1, a4) => [(v0, .inr (5, [.ref v1, .ref v2, .int (nI n), .int (nI lim), .ref v3, .ref v4, .ref v5, .ref v6, .ref v7, .ref v8, .ref v9, .ref v10, .ref v11, .ref v12, .ref v13, .ref v14, .ref v15, .ref v16, .ref v17, .int h])), (v10, .inl (cI, 6, .inl a1)), (v12, .inl (cI, 3, .inl sta)), (v11, .inl (cI, 3, .inl boo)), (v14, .inl (cI, 6, .inl a4))]) 0 0 := by
  refine xe_i (cc := cX5_setColumns) (maxL := 4) (ret := (some .int)) (by decide) rfl (Nat.le_of_ble_eq_true rfl) ?_
  intro zp ze s zm below meth zc A ls B
  obtain ⟨hx, hb, hml, hrt, hts, hown, hnm, hlk, hK, hP, hD, hA, hS, hN, hl⟩ := B
  have hown : s.vm.findClass RX5 = some zm.cls := hown
  have hl : lv_has ls 4 [(0, .ref v0), (1, .int px), (2, .int tx), (3, .int cx)] := hl
  have hA : ∀ q, s.heap.size ≤ q → A q := hA
  refine lv_aload_n hx hb dX5_setColumns_0 rfl (lv_at hl 0 rfl) ?_
  refine lv_iload_n hx hb dX5_setColumns_1 rfl (lv_at hl 1 rfl) ?_
  refine x_calli (w2 := fun (u : Unit) => [(v0, .inr (5, [.ref v1, .ref v2, .int (nI n), .int (nI lim), .ref v3, .ref v4, .ref v5, .ref v6, .ref v7, .ref v8, .ref v9, .ref v10, .ref v11, .ref v12, .ref v13, .ref v14, .ref v15, .ref v16, .ref v17, .int th])), (v10, .inl (cI, 6, .inl lis)), (v12, .inl (cI, 3, .inl sta)), (v11, .inl (cI, 3, .inl boo)), (v14, .inl (cI, 6, .inl cop))]) (wr := [(v0, .inr (5, [.ref v1, .ref v2, .int (nI n), .int (nI lim), .ref v3, .ref v4, .ref v5, .ref v6, .ref v7, .ref v8, .ref v9, .ref v10, .ref v11, .ref v12, .ref v13, .ref v14, .ref v15, .ref v16, .ref v17, .int th])), (v10, .inl (cI, 6, .inl lis)), (v12, .inl (cI, 3, .inl sta)), (v11, .inl (cI, 3, .inl boo)), (v14, .inl (cI, 6, .inl cop))]) (x_runS (n := 1) ⟨hx, hb, hml, hown, hts⟩ (zX5_isThird l D cI cP cS cL px) gX5_setColumns_X5_isThird rfl rfl rfl (by decide +kernel) ⟨by decide, by decide⟩ hN hK hP hD [] rfl rfl rfl hl.1 (rest := [.ref v0]) (As := [.int px]) rfl (Nat.le_of_ble_eq_true rfl) dX5_setColumns_2 ⟨by decide, by decide⟩) hP hD hS hA [] [0, 1, 2, 3, 4] [0, 1, 2, 3, 4] rfl rfl rfl (by decide) rfl (fun _ => rfl) (fun r2 u H locs hw hP hD hS => ?_)
  subst hw
  refine x_if_eq (tgt := 15) hx hb (bI_0 _) dX5_setColumns_5 (by decide) (fun c5 => ?_) (fun c5 => ?_)
  · refine lv_iconst (v := nI 1) hx hb dX5_setColumns_15 (by decide) ?_
    refine lv_goto (tgt := 34) hx hb dX5_setColumns_16 (by decide) ?_
    refine x_calli (w2 := fun (u : Unit) => [(v0, .inr (5, [.ref v1, .ref v2, .int (nI n), .int (nI lim), .ref v3, .ref v4, .ref v5, .ref v6, .ref v7, .ref v8, .ref v9, .ref v10, .ref v11, .ref v12, .ref v13, .ref v14, .ref v15, .ref v16, .ref v17, .int (nI 1)])), (v10, .inl (cI, 6, .inl lis)), (v12, .inl (cI, 3, .inl sta)), (v11, .inl (cI, 3, .inl boo)), (v14, .inl (cI, 6, .inl cop))]) (wr := [(v10, .inl (cI, 6, .inl lis)), (v12, .inl (cI, 3, .inl sta)), (v11, .inl (cI, 3, .inl boo)), (v14, .inl (cI, 6, .inl cop))]) (x_runV (n := 1) ⟨hx, hb, hml, hown, hts⟩ (zX5_fails l D cI cP cS cL v0 v1 v2 v3 v4 v5 v6 v7 v8 v9 v10 v11 v12 v13 v14 v15 v16 v17 n lim (th) 1 (by decide)) gX5_setColumns_X5_fails rfl rfl rfl (by decide +kernel) ⟨by decide, by decide⟩ hN hK hP hD [0] rfl rfl (ci := 5) (q0 := 0) rfl rfl rfl rfl hl.1 (rest := []) (As := [.int (nI 1)]) rfl (Nat.le_of_ble_eq_true rfl) dX5_setColumns_34 ⟨by decide, by decide⟩) hP hD hS hA [0] [1, 2, 3, 4] [4, 0, 1, 2, 3] rfl rfl rfl (by decide) rfl (fun _ => rfl) (fun r34 u H locs hw hP hD hS => ?_)
    replace hw : r34 = nI 1 := hw.trans (by decide)
    subst hw
    refine x_if_eq (tgt := 42) hx hb (nI_z (by omega)) dX5_setColumns_37 (by decide) (fun c37 => ?_) (fun c37 => ?_)
    · exact absurd c37 (by omega)
    refine lv_iconst (v := nI 0) hx hb dX5_setColumns_40 (by decide) ?_
    exact x_ret_i hx hb hrt hlk hP hD hS dX5_setColumns_41 ⟨by decide, by decide⟩ ((nI 1), lis, cop) (Or.inl ⟨fun q => qIn_n c5 q.1, rfl, rfl, rfl⟩) rfl
  · refine lv_iload_n hx hb dX5_setColumns_8 rfl (lv_at hl 2 rfl) ?_
    refine x_calli (w2 := fun (u : Unit) => [(v0, .inr (5, [.ref v1, .ref v2, .int (nI n), .int (nI lim), .ref v3, .ref v4, .ref v5, .ref v6, .ref v7, .ref v8, .ref v9, .ref v10, .ref v11, .ref v12, .ref v13, .ref v14, .ref v15, .ref v16, .ref v17, .int th])), (v10, .inl (cI, 6, .inl lis)), (v12, .inl (cI, 3, .inl sta)), (v11, .inl (cI, 3, .inl boo)), (v14, .inl (cI, 6, .inl cop))]) (wr := [(v0, .inr (5, [.ref v1, .ref v2, .int (nI n), .int (nI lim), .ref v3, .ref v4, .ref v5, .ref v6, .ref v7, .ref v8, .ref v9, .ref v10, .ref v11, .ref v12, .ref v13, .ref v14, .ref v15, .ref v16, .ref v17, .int th])), (v10, .inl (cI, 6, .inl lis)), (v12, .inl (cI, 3, .inl sta)), (v11, .inl (cI, 3, .inl boo)), (v14, .inl (cI, 6, .inl cop))]) (x_runS (n := 1) ⟨hx, hb, hml, hown, hts⟩ (zX5_isTable l D cI cP cS cL tx) gX5_setColumns_X5_isTable rfl rfl rfl (by decide +kernel) ⟨by decide, by decide⟩ hN hK hP hD [] rfl rfl rfl hl.1 (rest := [.ref v0]) (As := [.int tx]) rfl (Nat.le_of_ble_eq_true rfl) dX5_setColumns_9 ⟨by decide, by decide⟩) hP hD hS hA [] [0, 1, 2, 3, 4] [0, 1, 2, 3, 4] rfl rfl rfl (by decide) rfl (fun _ => rfl) (fun r9 u H locs hw hP hD hS => ?_)
    subst hw
    refine x_if_ne (tgt := 19) hx hb (bI_0 _) dX5_setColumns_12 (by decide) (fun c12 => ?_) (fun c12 => ?_)
    · refine lv_iload_n hx hb dX5_setColumns_19 rfl (lv_at hl 3 rfl) ?_
      refine lv_iconst (v := nI 0) hx hb dX5_setColumns_20 (by decide) ?_
      refine lv_bipush (v := nI 7) hx hb dX5_setColumns_21 (by decide) ?_
      refine x_calli (w2 := fun (u : Unit) => [(v0, .inr (5, [.ref v1, .ref v2, .int (nI n), .int (nI lim), .ref v3, .ref v4, .ref v5, .ref v6, .ref v7, .ref v8, .ref v9, .ref v10, .ref v11, .ref v12, .ref v13, .ref v14, .ref v15, .ref v16, .ref v17, .int th])), (v10, .inl (cI, 6, .inl lis)), (v12, .inl (cI, 3, .inl sta)), (v11, .inl (cI, 3, .inl boo)), (v14, .inl (cI, 6, .inl cop))]) (wr := [(v0, .inr (5, [.ref v1, .ref v2, .int (nI n), .int (nI lim), .ref v3, .ref v4, .ref v5, .ref v6, .ref v7, .ref v8, .ref v9, .ref v10, .ref v11, .ref v12, .ref v13, .ref v14, .ref v15, .ref v16, .ref v17, .int th])), (v10, .inl (cI, 6, .inl lis)), (v12, .inl (cI, 3, .inl sta)), (v11, .inl (cI, 3, .inl boo)), (v14, .inl (cI, 6, .inl cop))]) (x_runS (n := 3) ⟨hx, hb, hml, hown, hts⟩ (zX5_isIn l D cI cP cS cL cx (nI 0) (nI 7)) gX5_setColumns_X5_isIn rfl rfl rfl (by decide +kernel) ⟨by decide, by decide⟩ hN hK hP hD [] rfl rfl rfl hl.1 (rest := [.ref v0]) (As := [.int cx, .int (nI 0), .int (nI 7)]) rfl (Nat.le_of_ble_eq_true rfl) dX5_setColumns_23 ⟨by decide, by decide⟩) hP hD hS hA [] [0, 1, 2, 3, 4] [0, 1, 2, 3, 4] rfl rfl rfl (by decide) rfl (fun _ => rfl) (fun r23 u H locs hw hP hD hS => ?_)
      rw [qIn_and (by decide)] at hw
      subst hw
      refine x_if_eq (tgt := 33) hx hb (bI_0 _) dX5_setColumns_26 (by decide) (fun c26 => ?_) (fun c26 => ?_)
      · refine lv_iconst (v := nI 2) hx hb dX5_setColumns_33 (by decide) ?_
        refine x_calli (w2 := fun (u : Unit) => [(v0, .inr (5, [.ref v1, .ref v2, .int (nI n), .int (nI lim), .ref v3, .ref v4, .ref v5, .ref v6, .ref v7, .ref v8, .ref v9, .ref v10, .ref v11, .ref v12, .ref v13, .ref v14, .ref v15, .ref v16, .ref v17, .int (nI 2)])), (v10, .inl (cI, 6, .inl lis)), (v12, .inl (cI, 3, .inl sta)), (v11, .inl (cI, 3, .inl boo)), (v14, .inl (cI, 6, .inl cop))]) (wr := [(v10, .inl (cI, 6, .inl lis)), (v12, .inl (cI, 3, .inl sta)), (v11, .inl (cI, 3, .inl boo)), (v14, .inl (cI, 6, .inl cop))]) (x_runV (n := 1) ⟨hx, hb, hml, hown, hts⟩ (zX5_fails l D cI cP cS cL v0 v1 v2 v3 v4 v5 v6 v7 v8 v9 v10 v11 v12 v13 v14 v15 v16 v17 n lim (th) 2 (by decide)) gX5_setColumns_X5_fails rfl rfl rfl (by decide +kernel) ⟨by decide, by decide⟩ hN hK hP hD [0] rfl rfl (ci := 5) (q0 := 0) rfl rfl rfl rfl hl.1 (rest := []) (As := [.int (nI 2)]) rfl (Nat.le_of_ble_eq_true rfl) dX5_setColumns_34 ⟨by decide, by decide⟩) hP hD hS hA [0] [1, 2, 3, 4] [4, 0, 1, 2, 3] rfl rfl rfl (by decide) rfl (fun _ => rfl) (fun r34 u H locs hw hP hD hS => ?_)
        replace hw : r34 = nI 1 := hw.trans (by decide)
        subst hw
        refine x_if_eq (tgt := 42) hx hb (nI_z (by omega)) dX5_setColumns_37 (by decide) (fun c37 => ?_) (fun c37 => ?_)
        · exact absurd c37 (by omega)
        refine lv_iconst (v := nI 0) hx hb dX5_setColumns_40 (by decide) ?_
        exact x_ret_i hx hb hrt hlk hP hD hS dX5_setColumns_41 ⟨by decide, by decide⟩ ((nI 2), lis, cop) (Or.inr (Or.inl ⟨⟨qIn_y c5, qIn_y c12⟩, qIn_n c26, rfl, rfl, rfl⟩)) rfl
      · refine lv_iconst (v := nI 0) hx hb dX5_setColumns_29 (by decide) ?_
        refine lv_goto (tgt := 34) hx hb dX5_setColumns_30 (by decide) ?_
        refine x_calli (w2 := fun (u : Unit) => [(v0, .inr (5, [.ref v1, .ref v2, .int (nI n), .int (nI lim), .ref v3, .ref v4, .ref v5, .ref v6, .ref v7, .ref v8, .ref v9, .ref v10, .ref v11, .ref v12, .ref v13, .ref v14, .ref v15, .ref v16, .ref v17, .int (nI 0)])), (v10, .inl (cI, 6, .inl lis)), (v12, .inl (cI, 3, .inl sta)), (v11, .inl (cI, 3, .inl boo)), (v14, .inl (cI, 6, .inl cop))]) (wr := [(v10, .inl (cI, 6, .inl lis)), (v12, .inl (cI, 3, .inl sta)), (v11, .inl (cI, 3, .inl boo)), (v14, .inl (cI, 6, .inl cop))]) (x_runV (n := 1) ⟨hx, hb, hml, hown, hts⟩ (zX5_fails l D cI cP cS cL v0 v1 v2 v3 v4 v5 v6 v7 v8 v9 v10 v11 v12 v13 v14 v15 v16 v17 n lim (th) 0 (by decide)) gX5_setColumns_X5_fails rfl rfl rfl (by decide +kernel) ⟨by decide, by decide⟩ hN hK hP hD [0] rfl rfl (ci := 5) (q0 := 0) rfl rfl rfl rfl hl.1 (rest := []) (As := [.int (nI 0)]) rfl (Nat.le_of_ble_eq_true rfl) dX5_setColumns_34 ⟨by decide, by decide⟩) hP hD hS hA [0] [1, 2, 3, 4] [4, 0, 1, 2, 3] rfl rfl rfl (by decide) rfl (fun _ => rfl) (fun r34 u H locs hw hP hD hS => ?_)
        replace hw : r34 = nI 0 := hw.trans (by decide)
        subst hw
        refine x_if_eq (tgt := 42) hx hb (nI_z (by omega)) dX5_setColumns_37 (by decide) (fun c37 => ?_) (fun c37 => ?_)
        rotate_left
        · exact absurd c37 (by omega)
        obtain ⟨pi, hpi9, epi⟩ := vp_in_of (qIn_y c5) (by decide)
        obtain ⟨tn, htn9, etn⟩ := vp_in_of (qIn_y c12) (by decide)
        subst epi
        subst etn
        refine lv_aload_n hx hb dX5_setColumns_42 rfl (lv_at hl 0 rfl) ?_
        refine va_get (D := D) (ci := 5) (v := .ref v10) (C := RX5) (T := TX5) (N := 20) hx hb hts kX5_setColumns_X5 hown hK hP 0 rfl rfl 11 (by decide) (hts _ kX5_setColumns_f41) (fun _ h9 => h9) rfl dX5_setColumns_43 ?_
        refine lv_iconst (v := nI 2) hx hb dX5_setColumns_46 (by decide) ?_
        refine lv_iload_n hx hb dX5_setColumns_47 rfl (lv_at hl 1 rfl) ?_
        refine x_mul (k := 2 * pi) hx hb dX5_setColumns_48 rfl ?_
        refine lv_iload_n hx hb dX5_setColumns_49 rfl (lv_at hl 2 rfl) ?_
        refine x_add (k := (2 * pi) + tn) hx hb dX5_setColumns_50 rfl ?_
        refine lv_iload_n hx hb dX5_setColumns_51 rfl (lv_at hl 3 rfl) ?_
        refine x_ast (g := upd lis ((2 * pi) + tn) cx) (ws' := [(v0, .inr (5, [.ref v1, .ref v2, .int (nI n), .int (nI lim), .ref v3, .ref v4, .ref v5, .ref v6, .ref v7, .ref v8, .ref v9, .ref v10, .ref v11, .ref v12, .ref v13, .ref v14, .ref v15, .ref v16, .ref v17, .int (nI 0)])), (v10, .inl (cI, 6, .inl (upd lis ((2 * pi) + tn) cx))), (v12, .inl (cI, 3, .inl sta)), (v11, .inl (cI, 3, .inl boo)), (v14, .inl (cI, 6, .inl cop))]) hx hb hK hP hD hS 1 0 rfl rfl (by omega) (by omega) (rfl) rfl dX5_setColumns_52 (fun H locs hP hD hS => ?_)
        refine lv_aload_n hx hb dX5_setColumns_53 rfl (lv_at hl 0 rfl) ?_
        refine lv_iload_n hx hb dX5_setColumns_54 rfl (lv_at hl 1 rfl) ?_
        refine lv_iload_n hx hb dX5_setColumns_55 rfl (lv_at hl 2 rfl) ?_
        refine x_calli (w2 := fun (u : Unit) => [(v0, .inr (5, [.ref v1, .ref v2, .int (nI n), .int (nI lim), .ref v3, .ref v4, .ref v5, .ref v6, .ref v7, .ref v8, .ref v9, .ref v10, .ref v11, .ref v12, .ref v13, .ref v14, .ref v15, .ref v16, .ref v17, .int (nI 0)])), (v10, .inl (cI, 6, .inl (upd lis ((2 * pi) + tn) cx))), (v12, .inl (cI, 3, .inl sta)), (v11, .inl (cI, 3, .inl boo)), (v14, .inl (cI, 6, .inl (mFg cop st bk pi tn 3)))]) (wr := [(v10, .inl (cI, 6, .inl (upd lis ((2 * pi) + tn) cx)))]) (x_runV (n := 2) ⟨hx, hb, hml, hown, hts⟩ (zX5_forgets l D cI cP cS cL v0 v1 v2 v3 v4 v5 v6 v7 v8 v9 v10 v11 v12 v13 v14 v15 v16 v17 n lim (nI 0) st bk sta boo cop pi tn hpi9 htn9 hsta hst3 hboo hbk) gX5_setColumns_X5_forgets rfl rfl rfl (by decide +kernel) ⟨by decide, by decide⟩ hN hK hP hD [0, 2, 3, 4] rfl rfl (ci := 5) (q0 := 0) rfl rfl rfl rfl hl.1 (rest := []) (As := [.int (nI pi), .int (nI tn)]) rfl (Nat.le_of_ble_eq_true rfl) dX5_setColumns_56 ⟨by decide, by decide⟩) hP hD hS hA [0, 2, 3, 4] [1] [1, 0, 2, 3, 4] rfl rfl rfl (by decide) rfl (fun _ => rfl) (fun r56 u H locs hw hP hD hS => ?_)
        exact x_ret_i hx hb hrt hlk hP hD hS dX5_setColumns_59 ⟨by decide, by decide⟩ ((nI 0), upd lis ((2 * pi) + tn) cx, mFg cop st bk pi tn 3) (Or.inr (Or.inr ⟨pi, tn, rfl, hpi9, rfl, htn9, qIn_y c26, rfl, hw, rfl, rfl⟩)) rfl
    · refine lv_iconst (v := nI 1) hx hb dX5_setColumns_15 (by decide) ?_
      refine lv_goto (tgt := 34) hx hb dX5_setColumns_16 (by decide) ?_
      refine x_calli (w2 := fun (u : Unit) => [(v0, .inr (5, [.ref v1, .ref v2, .int (nI n), .int (nI lim), .ref v3, .ref v4, .ref v5, .ref v6, .ref v7, .ref v8, .ref v9, .ref v10, .ref v11, .ref v12, .ref v13, .ref v14, .ref v15, .ref v16, .ref v17, .int (nI 1)])), (v10, .inl (cI, 6, .inl lis)), (v12, .inl (cI, 3, .inl sta)), (v11, .inl (cI, 3, .inl boo)), (v14, .inl (cI, 6, .inl cop))]) (wr := [(v10, .inl (cI, 6, .inl lis)), (v12, .inl (cI, 3, .inl sta)), (v11, .inl (cI, 3, .inl boo)), (v14, .inl (cI, 6, .inl cop))]) (x_runV (n := 1) ⟨hx, hb, hml, hown, hts⟩ (zX5_fails l D cI cP cS cL v0 v1 v2 v3 v4 v5 v6 v7 v8 v9 v10 v11 v12 v13 v14 v15 v16 v17 n lim (th) 1 (by decide)) gX5_setColumns_X5_fails rfl rfl rfl (by decide +kernel) ⟨by decide, by decide⟩ hN hK hP hD [0] rfl rfl (ci := 5) (q0 := 0) rfl rfl rfl rfl hl.1 (rest := []) (As := [.int (nI 1)]) rfl (Nat.le_of_ble_eq_true rfl) dX5_setColumns_34 ⟨by decide, by decide⟩) hP hD hS hA [0] [1, 2, 3, 4] [4, 0, 1, 2, 3] rfl rfl rfl (by decide) rfl (fun _ => rfl) (fun r34 u H locs hw hP hD hS => ?_)
      replace hw : r34 = nI 1 := hw.trans (by decide)
      subst hw
      refine x_if_eq (tgt := 42) hx hb (nI_z (by omega)) dX5_setColumns_37 (by decide) (fun c37 => ?_) (fun c37 => ?_)
      · exact absurd c37 (by omega)
      refine lv_iconst (v := nI 0) hx hb dX5_setColumns_40 (by decide) ?_
      exact x_ret_i hx hb hrt hlk hP hD hS dX5_setColumns_41 ⟨by decide, by decide⟩ ((nI 1), lis, cop) (Or.inl ⟨fun q => qIn_n c12 q.2, rfl, rfl, rfl⟩) rfl

set_option maxRecDepth 20000 in
theorem kX5_counts_f32 : Cond.fieldLink RX5 32 "RowReplicatorModel" "column" "[I" ∈ wsX5_counts := by decide +kernel
set_option maxRecDepth 20000 in
theorem kX5_counts_X5 : ∀ w ∈ wsX50, w ∈ wsX5_counts := by decide +kernel
set_option maxRecDepth 20000 in
theorem kX5_counts_f35 : Cond.fieldLink RX5 35 "RowReplicatorModel" "relation" "[I" ∈ wsX5_counts := by decide +kernel
set_option maxRecDepth 20000 in
theorem kX5_counts_f38 : Cond.fieldLink RX5 38 "RowReplicatorModel" "number" "[I" ∈ wsX5_counts := by decide +kernel
set_option maxHeartbeats 4000000 in
set_option maxRecDepth 100000 in
theorem zX5_counts (l : Launch) (D : va_G) (cI cP cS cL : ClassId) (v0 v1 v2 v3 v4 v5 v6 v7 v8 v9 v10 v11 v12 v13 v14 v15 v16 v17 : Nat) (n lim : Nat) (th : Int32) (col rel num : Nat → Int32) (p t : Nat) (side : Int32) (hp3 : p < 3) (ht2 : t < 2) : xMi l yX5_counts wsX5_counts (rmD 1 0 0) D [(cI, .int), (cP, .object RX0), (cS, .object RX2), (cL, .long)] [.ref v0, .int (nI p), .int (nI t), .int side] [(v0, .inr (5, [.ref v1, .ref v2, .int (nI n), .int (nI lim), .ref v3, .ref v4, .ref v5, .ref v6, .ref v7, .ref v8, .ref v9, .ref v10, .ref v11, .ref v12, .ref v13, .ref v14, .ref v15, .ref v16, .ref v17, .int th])), (v7, .inl (cI, 6, .inl col)), (v8, .inl (cI, 6, .inl rel)), (v9, .inl (cI, 6, .inl num))] (fun (r : Int32) (u : Unit) => r = bI (mCouB (col (2 * p + t)) (rel (2 * p + t)) (num (2 * p + t)) side)) (fun (u : Unit) => [(v0, .inr (5, [.ref v1, .ref v2, .int (nI n), .int (nI lim), .ref v3, .ref v4, .ref v5, .ref v6, .ref v7, .ref v8, .ref v9, .ref v10, .ref v11, .ref v12, .ref v13, .ref v14, .ref v15, .ref v16, .ref v17, .int th])), (v7, .inl (cI, 6, .inl col)), (v8, .inl (cI, 6, .inl rel)), (v9, .inl (cI, 6, .inl num))]) 0 0 := by
  refine xe_i (cc := cX5_counts) (maxL := 6) (ret := (some .boolean)) (by decide) rfl (Nat.le_of_ble_eq_true rfl) ?_
  intro zp ze s zm below meth zc A ls B
  obtain ⟨hx, hb, hml, hrt, hts, hown, hnm, hlk, hK, hP, hD, hA, hS, hN, hl⟩ := B
  have hown : s.vm.findClass RX5 = some zm.cls := hown
  have hl : lv_has ls 6 [(0, .ref v0), (1, .int (nI p)), (2, .int (nI t)), (3, .int side)] := hl
  have hA : ∀ q, s.heap.size ≤ q → A q := hA
  refine lv_iconst (v := nI 2) hx hb dX5_counts_0 (by decide) ?_
  refine lv_iload_n hx hb dX5_counts_1 rfl (lv_at hl 1 rfl) ?_
  refine x_mul (k := 2 * p) hx hb dX5_counts_2 rfl ?_
  refine lv_iload_n hx hb dX5_counts_3 rfl (lv_at hl 2 rfl) ?_
  refine x_add (k := (2 * p) + t) hx hb dX5_counts_4 rfl ?_
  refine lv_istore (lv' := [(4, .int (nI ((2 * p) + t))), (0, .ref v0), (1, .int (nI p)), (2, .int (nI t)), (3, .int side)]) hx hb dX5_counts_5 hl (by decide) rfl (fun ls hl => ?_)
  refine lv_iload_n hx hb dX5_counts_7 rfl (lv_at hl 4 rfl) ?_
  refine lv_aload_n hx hb dX5_counts_8 rfl (lv_at hl 1 rfl) ?_
  refine va_get (D := D) (ci := 5) (v := .ref v7) (C := RX5) (T := TX5) (N := 20) hx hb hts kX5_counts_X5 hown hK hP 0 rfl rfl 8 (by decide) (hts _ kX5_counts_f32) (fun _ h9 => h9) rfl dX5_counts_9 ?_
  refine lv_iload hx hb dX5_counts_12 (lv_at hl 0 rfl) ?_
  refine x_ald (v := col ((2 * p) + t)) hx hb hK hP 1 0 rfl rfl (by omega) (by omega) rfl dX5_counts_14 ?_
  refine x_calli (w2 := fun (u : Unit) => [(v0, .inr (5, [.ref v1, .ref v2, .int (nI n), .int (nI lim), .ref v3, .ref v4, .ref v5, .ref v6, .ref v7, .ref v8, .ref v9, .ref v10, .ref v11, .ref v12, .ref v13, .ref v14, .ref v15, .ref v16, .ref v17, .int th])), (v7, .inl (cI, 6, .inl col)), (v8, .inl (cI, 6, .inl rel)), (v9, .inl (cI, 6, .inl num))]) (wr := [(v0, .inr (5, [.ref v1, .ref v2, .int (nI n), .int (nI lim), .ref v3, .ref v4, .ref v5, .ref v6, .ref v7, .ref v8, .ref v9, .ref v10, .ref v11, .ref v12, .ref v13, .ref v14, .ref v15, .ref v16, .ref v17, .int th])), (v7, .inl (cI, 6, .inl col)), (v8, .inl (cI, 6, .inl rel)), (v9, .inl (cI, 6, .inl num))]) (x_runS (n := 2) ⟨hx, hb, hml, hown, hts⟩ (zX5_numberOf l D cI cP cS cL side (col ((2 * p) + t))) gX5_counts_X5_numberOf rfl rfl rfl (by decide +kernel) ⟨by decide, by decide⟩ hN hK hP hD [] rfl rfl rfl hl.1 (rest := []) (As := [.int side, .int (col ((2 * p) + t))]) rfl (Nat.le_of_ble_eq_true rfl) dX5_counts_15 ⟨by decide, by decide⟩) hP hD hS hA [] [0, 1, 2, 3] [0, 1, 2, 3] rfl rfl rfl (by decide) rfl (fun _ => rfl) (fun r15 u H locs hw hP hD hS => ?_)
  subst hw
  refine lv_istore (lv' := [(5, .int (mNum side (col ((2 * p) + t)))), (4, .int (nI ((2 * p) + t))), (0, .ref v0), (1, .int (nI p)), (2, .int (nI t)), (3, .int side)]) hx hb dX5_counts_18 hl (by decide) rfl (fun ls hl => ?_)
  refine lv_iload_n hx hb dX5_counts_20 rfl (lv_at hl 5 rfl) ?_
  refine lv_iconst (v := -1) hx hb dX5_counts_21 (by decide) ?_
  refine x_cmp_eq (tgt := 75) hx hb (Iff.rfl) dX5_counts_22 (by decide) (fun c22 => ?_) (fun c22 => ?_)
  · refine lv_iconst (v := nI 0) hx hb dX5_counts_75 (by decide) ?_
    exact x_ret_z hx hb hrt (by first | exact Or.inl rfl | exact Or.inr rfl) hlk hP hD hS dX5_counts_76 ⟨by decide, by decide⟩ () (by rw [mCouB_f (fun q => q.1 c22)]; rfl) rfl
  · refine lv_aload_n hx hb dX5_counts_25 rfl (lv_at hl 2 rfl) ?_
    refine va_get (D := D) (ci := 5) (v := .ref v8) (C := RX5) (T := TX5) (N := 20) hx hb hts kX5_counts_X5 hown hK hP 0 rfl rfl 9 (by decide) (hts _ kX5_counts_f35) (fun _ h9 => h9) rfl dX5_counts_26 ?_
    refine lv_iload hx hb dX5_counts_29 (lv_at hl 1 rfl) ?_
    refine x_ald (v := rel ((2 * p) + t)) hx hb hK hP 2 0 rfl rfl (by omega) (by omega) rfl dX5_counts_31 ?_
    refine x_if_eq (tgt := 71) hx hb (Iff.rfl) dX5_counts_32 (by decide) (fun c32 => ?_) (fun c32 => ?_)
    · refine lv_iconst (v := nI 1) hx hb dX5_counts_71 (by decide) ?_
      refine lv_goto (tgt := 76) hx hb dX5_counts_72 (by decide) ?_
      exact x_ret_z hx hb hrt (by first | exact Or.inl rfl | exact Or.inr rfl) hlk hP hD hS dX5_counts_76 ⟨by decide, by decide⟩ () (by rw [mCouB_t ⟨c22, Or.inl c32⟩]; rfl) rfl
    · refine lv_aload_n hx hb dX5_counts_35 rfl (lv_at hl 2 rfl) ?_
      refine va_get (D := D) (ci := 5) (v := .ref v8) (C := RX5) (T := TX5) (N := 20) hx hb hts kX5_counts_X5 hown hK hP 0 rfl rfl 9 (by decide) (hts _ kX5_counts_f35) (fun _ h9 => h9) rfl dX5_counts_36 ?_
      refine lv_iload hx hb dX5_counts_39 (lv_at hl 1 rfl) ?_
      refine x_ald (v := rel ((2 * p) + t)) hx hb hK hP 2 0 rfl rfl (by omega) (by omega) rfl dX5_counts_41 ?_
      refine lv_iconst (v := nI 1) hx hb dX5_counts_42 (by decide) ?_
      refine x_cmp_ne (tgt := 50) hx hb (Iff.rfl) dX5_counts_43 (by decide) (fun c43 => ?_) (fun c43 => ?_)
      · refine lv_iconst (v := nI 0) hx hb dX5_counts_50 (by decide) ?_
        refine lv_iload hx hb dX5_counts_51 (lv_at hl 0 rfl) ?_
        refine lv_aload_n hx hb dX5_counts_53 rfl (lv_at hl 2 rfl) ?_
        refine va_get (D := D) (ci := 5) (v := .ref v9) (C := RX5) (T := TX5) (N := 20) hx hb hts kX5_counts_X5 hown hK hP 0 rfl rfl 10 (by decide) (hts _ kX5_counts_f38) (fun _ h9 => h9) rfl dX5_counts_54 ?_
        refine lv_iload hx hb dX5_counts_57 (lv_at hl 1 rfl) ?_
        refine x_ald (v := num ((2 * p) + t)) hx hb hK hP 3 0 rfl rfl (by omega) (by omega) rfl dX5_counts_59 ?_
        refine x_cmp_ge (tgt := 67) hx hb (Iff.rfl) dX5_counts_60 (by decide) (fun c60 => ?_) (fun c60 => ?_)
        · refine lv_iconst (v := nI 0) hx hb dX5_counts_67 (by decide) ?_
          refine x_cmp_ne (tgt := 75) hx hb (nI_eq (a := 0) (b := 0) (by omega) (by omega)) dX5_counts_68 (by decide) (fun c68 => ?_) (fun c68 => ?_)
          · exfalso; omega
          · refine lv_iconst (v := nI 1) hx hb dX5_counts_71 (by decide) ?_
            refine lv_goto (tgt := 76) hx hb dX5_counts_72 (by decide) ?_
            exact x_ret_z hx hb hrt (by first | exact Or.inl rfl | exact Or.inr rfl) hlk hP hD hS dX5_counts_76 ⟨by decide, by decide⟩ () (by rw [mCouB_t ⟨c22, Or.inr (iff_of_false c43 (Int32.not_lt.mpr c60))⟩]; rfl) rfl
        · refine lv_iconst (v := nI 1) hx hb dX5_counts_63 (by decide) ?_
          refine lv_goto (tgt := 68) hx hb dX5_counts_64 (by decide) ?_
          refine x_cmp_ne (tgt := 75) hx hb (nI_eq (a := 0) (b := 1) (by omega) (by omega)) dX5_counts_68 (by decide) (fun c68 => ?_) (fun c68 => ?_)
          · refine lv_iconst (v := nI 0) hx hb dX5_counts_75 (by decide) ?_
            exact x_ret_z hx hb hrt (by first | exact Or.inl rfl | exact Or.inr rfl) hlk hP hD hS dX5_counts_76 ⟨by decide, by decide⟩ () (by rw [mCouB_f (fun q => q.2.elim c32 (fun e => c43 (e.mpr (Int32.not_le.mp c60))))]; rfl) rfl
          · exfalso; omega
      · refine lv_iconst (v := nI 1) hx hb dX5_counts_46 (by decide) ?_
        refine lv_goto (tgt := 51) hx hb dX5_counts_47 (by decide) ?_
        refine lv_iload hx hb dX5_counts_51 (lv_at hl 0 rfl) ?_
        refine lv_aload_n hx hb dX5_counts_53 rfl (lv_at hl 2 rfl) ?_
        refine va_get (D := D) (ci := 5) (v := .ref v9) (C := RX5) (T := TX5) (N := 20) hx hb hts kX5_counts_X5 hown hK hP 0 rfl rfl 10 (by decide) (hts _ kX5_counts_f38) (fun _ h9 => h9) rfl dX5_counts_54 ?_
        refine lv_iload hx hb dX5_counts_57 (lv_at hl 1 rfl) ?_
        refine x_ald (v := num ((2 * p) + t)) hx hb hK hP 3 0 rfl rfl (by omega) (by omega) rfl dX5_counts_59 ?_
        refine x_cmp_ge (tgt := 67) hx hb (Iff.rfl) dX5_counts_60 (by decide) (fun c60 => ?_) (fun c60 => ?_)
        · refine lv_iconst (v := nI 0) hx hb dX5_counts_67 (by decide) ?_
          refine x_cmp_ne (tgt := 75) hx hb (nI_eq (a := 1) (b := 0) (by omega) (by omega)) dX5_counts_68 (by decide) (fun c68 => ?_) (fun c68 => ?_)
          · refine lv_iconst (v := nI 0) hx hb dX5_counts_75 (by decide) ?_
            exact x_ret_z hx hb hrt (by first | exact Or.inl rfl | exact Or.inr rfl) hlk hP hD hS dX5_counts_76 ⟨by decide, by decide⟩ () (by rw [mCouB_f (fun q => q.2.elim c32 (fun e => absurd (e.mp c43) (Int32.not_lt.mpr c60)))]; rfl) rfl
          · exfalso; omega
        · refine lv_iconst (v := nI 1) hx hb dX5_counts_63 (by decide) ?_
          refine lv_goto (tgt := 68) hx hb dX5_counts_64 (by decide) ?_
          refine x_cmp_ne (tgt := 75) hx hb (nI_eq (a := 1) (b := 1) (by omega) (by omega)) dX5_counts_68 (by decide) (fun c68 => ?_) (fun c68 => ?_)
          · exfalso; omega
          · refine lv_iconst (v := nI 1) hx hb dX5_counts_71 (by decide) ?_
            refine lv_goto (tgt := 76) hx hb dX5_counts_72 (by decide) ?_
            exact x_ret_z hx hb hrt (by first | exact Or.inl rfl | exact Or.inr rfl) hlk hP hD hS dX5_counts_76 ⟨by decide, by decide⟩ () (by rw [mCouB_t ⟨c22, Or.inr (iff_of_true c43 (Int32.not_le.mp c60))⟩]; rfl) rfl

set_option maxRecDepth 20000 in
theorem kX5_chosen_f41 : Cond.fieldLink RX5 41 "RowReplicatorModel" "list" "[I" ∈ wsX5_chosen := by decide +kernel
set_option maxRecDepth 20000 in
theorem kX5_chosen_X5 : ∀ w ∈ wsX50, w ∈ wsX5_chosen := by decide +kernel
set_option maxHeartbeats 4000000 in
set_option maxRecDepth 100000 in
theorem zX5_chosen (l : Launch) (D : va_G) (cI cP cS cL : ClassId) (v0 v1 v2 v3 v4 v5 v6 v7 v8 v9 v10 v11 v12 v13 v14 v15 v16 v17 : Nat) (n lim : Nat) (th : Int32) (lis : Nat → Int32) (p t : Nat) (side : Int32) (hp3 : p < 3) (ht2 : t < 2) : xMi l yX5_chosen wsX5_chosen (rmD 1 0 0) D [(cI, .int), (cP, .object RX0), (cS, .object RX2), (cL, .long)] [.ref v0, .int (nI p), .int (nI t), .int side] [(v0, .inr (5, [.ref v1, .ref v2, .int (nI n), .int (nI lim), .ref v3, .ref v4, .ref v5, .ref v6, .ref v7, .ref v8, .ref v9, .ref v10, .ref v11, .ref v12, .ref v13, .ref v14, .ref v15, .ref v16, .ref v17, .int th])), (v10, .inl (cI, 6, .inl lis))] (fun (r : Int32) (u : Unit) => r = mChoN (lis (2 * p + t)) side 3) (fun (u : Unit) => [(v0, .inr (5, [.ref v1, .ref v2, .int (nI n), .int (nI lim), .ref v3, .ref v4, .ref v5, .ref v6, .ref v7, .ref v8, .ref v9, .ref v10, .ref v11, .ref v12, .ref v13, .ref v14, .ref v15, .ref v16, .ref v17, .int th])), (v10, .inl (cI, 6, .inl lis))]) 0 0 := by
  refine xe_i (cc := cX5_chosen) (maxL := 7) (ret := (some .int)) (by decide) rfl (Nat.le_of_ble_eq_true rfl) ?_
  intro zp ze s zm below meth zc A ls B
  obtain ⟨hx, hb, hml, hrt, hts, hown, hnm, hlk, hK, hP, hD, hA, hS, hN, hl⟩ := B
  have hown : s.vm.findClass RX5 = some zm.cls := hown
  have hl : lv_has ls 7 [(0, .ref v0), (1, .int (nI p)), (2, .int (nI t)), (3, .int side)] := hl
  have hA : ∀ q, s.heap.size ≤ q → A q := hA
  refine lv_iconst (v := nI 0) hx hb dX5_chosen_0 (by decide) ?_
  refine lv_istore (lv' := [(4, .int (nI 0)), (0, .ref v0), (1, .int (nI p)), (2, .int (nI t)), (3, .int side)]) hx hb dX5_chosen_1 hl (by decide) rfl (fun ls hl => ?_)
  refine lv_iconst (v := nI 1) hx hb dX5_chosen_3 (by decide) ?_
  refine lv_istore (lv' := [(5, .int (nI 1)), (4, .int (nI 0)), (0, .ref v0), (1, .int (nI p)), (2, .int (nI t)), (3, .int side)]) hx hb dX5_chosen_4 hl (by decide) rfl (fun ls hl => ?_)
  refine lv_iconst (v := nI 0) hx hb dX5_chosen_6 (by decide) ?_
  refine lv_istore (lv' := [(6, .int (nI 0)), (5, .int (nI 1)), (4, .int (nI 0)), (0, .ref v0), (1, .int (nI p)), (2, .int (nI t)), (3, .int side)]) hx hb dX5_chosen_7 hl (by decide) rfl (fun ls hl => ?_)
  refine x_loop (nL := 7) (fun (x : Nat × Int32 × Nat) => match x with | (k, sm, pl) => k ≤ 3 ∧ sm = mChoN (lis (2 * p + t)) side k ∧ pl = 100 ^ k) (fun (x : Nat × Int32 × Nat) => match x with | (k, sm, pl) => 3 - k) (fun (x : Nat × Int32 × Nat) => match x with | (k, sm, pl) => [(v0, .inr (5, [.ref v1, .ref v2, .int (nI n), .int (nI lim), .ref v3, .ref v4, .ref v5, .ref v6, .ref v7, .ref v8, .ref v9, .ref v10, .ref v11, .ref v12, .ref v13, .ref v14, .ref v15, .ref v16, .ref v17, .int th])), (v10, .inl (cI, 6, .inl lis))]) (fun (x : Nat × Int32 × Nat) => match x with | (k, sm, pl) => [(0, .ref v0), (1, .int (nI p)), (2, .int (nI t)), (3, .int side), (4, .int sm), (5, .int (nI pl)), (6, .int (nI k))]) (fun (x : Nat × Int32 × Nat) => match x with | (k, sm, pl) => []) ?_ (0, nI 0, 1) ⟨by omega, rfl, rfl⟩ hP hD hS (lv_sub hl [3, 4, 5, 6, 2, 1, 0] rfl)
  intro x9 hI9 ih9 H locs ls hP hD hS hl
  obtain ⟨k, sm, pl⟩ := x9
  have hP : va_P D vwCl [(v0, .inr (5, [.ref v1, .ref v2, .int (nI n), .int (nI lim), .ref v3, .ref v4, .ref v5, .ref v6, .ref v7, .ref v8, .ref v9, .ref v10, .ref v11, .ref v12, .ref v13, .ref v14, .ref v15, .ref v16, .ref v17, .int th])), (v10, .inl (cI, 6, .inl lis))] H := hP
  have hD : va_D A [(v0, .inr (5, [.ref v1, .ref v2, .int (nI n), .int (nI lim), .ref v3, .ref v4, .ref v5, .ref v6, .ref v7, .ref v8, .ref v9, .ref v10, .ref v11, .ref v12, .ref v13, .ref v14, .ref v15, .ref v16, .ref v17, .int th])), (v10, .inl (cI, 6, .inl lis))] := hD
  have hl : lv_has ls 7 [(0, .ref v0), (1, .int (nI p)), (2, .int (nI t)), (3, .int side), (4, .int sm), (5, .int (nI pl)), (6, .int (nI k))] := hl
  obtain ⟨hk, hs, hpl⟩ := hI9
  refine lv_iload hx hb dX5_chosen_9 (lv_at hl 6 rfl) ?_
  refine lv_iconst (v := nI 3) hx hb dX5_chosen_11 (by decide) ?_
  refine x_cmp_ge (tgt := 65) hx hb (nI_leI (a := 3) (b := k) (by omega) (by omega)) dX5_chosen_12 (by decide) (fun c12 => ?_) (fun c12 => ?_)
  · refine lv_iload hx hb dX5_chosen_65 (lv_at hl 4 rfl) ?_
    exact x_ret_i hx hb hrt hlk hP hD hS dX5_chosen_67 ⟨by decide, by decide⟩ () (by rw [hs, show k = 3 by omega]) rfl
  · refine lv_iload hx hb dX5_chosen_15 (lv_at hl 4 rfl) ?_
    refine lv_aload_n hx hb dX5_chosen_17 rfl (lv_at hl 0 rfl) ?_
    refine va_get (D := D) (ci := 5) (v := .ref v10) (C := RX5) (T := TX5) (N := 20) hx hb hts kX5_chosen_X5 hown hK hP 0 rfl rfl 11 (by decide) (hts _ kX5_chosen_f41) (fun _ h9 => h9) rfl dX5_chosen_18 ?_
    refine lv_iconst (v := nI 2) hx hb dX5_chosen_21 (by decide) ?_
    refine lv_iload_n hx hb dX5_chosen_22 rfl (lv_at hl 1 rfl) ?_
    refine x_mul (k := 2 * p) hx hb dX5_chosen_23 rfl ?_
    refine lv_iload_n hx hb dX5_chosen_24 rfl (lv_at hl 2 rfl) ?_
    refine x_add (k := (2 * p) + t) hx hb dX5_chosen_25 rfl ?_
    refine x_ald (v := lis ((2 * p) + t)) hx hb hK hP 1 0 rfl rfl (by omega) (by omega) rfl dX5_chosen_26 ?_
    refine lv_iload hx hb dX5_chosen_27 (lv_at hl 6 rfl) ?_
    refine lv_ishr hx hb dX5_chosen_29 ?_
    refine lv_iconst (v := nI 1) hx hb dX5_chosen_30 (by decide) ?_
    refine lv_iand hx hb dX5_chosen_31 ?_
    refine lv_iconst (v := nI 1) hx hb dX5_chosen_32 (by decide) ?_
    refine x_cmp_ne (tgt := 48) hx hb (Iff.rfl) dX5_chosen_33 (by decide) (fun c33 => ?_) (fun c33 => ?_)
    · refine lv_iconst (v := nI 0) hx hb dX5_chosen_48 (by decide) ?_
      refine lv_iadd hx hb dX5_chosen_49 ?_
      refine lv_istore (lv' := [(4, .int (sm + (nI 0))), (0, .ref v0), (1, .int (nI p)), (2, .int (nI t)), (3, .int side), (5, .int (nI pl)), (6, .int (nI k))]) hx hb dX5_chosen_50 hl (by decide) rfl (fun ls hl => ?_)
      refine lv_iload hx hb dX5_chosen_52 (lv_at hl 5 rfl) ?_
      refine lv_bipush (v := nI 100) hx hb dX5_chosen_54 (by decide) ?_
      refine x_mul (k := pl * 100) hx hb dX5_chosen_56 rfl ?_
      refine lv_istore (lv' := [(5, .int (nI (pl * 100))), (4, .int (sm + (nI 0))), (0, .ref v0), (1, .int (nI p)), (2, .int (nI t)), (3, .int side), (6, .int (nI k))]) hx hb dX5_chosen_57 hl (by decide) rfl (fun ls hl => ?_)
      refine x_iinc (k := 6) (o := 1) (v := k + 1) (lv' := [(6, .int (nI (k + 1))), (5, .int (nI (pl * 100))), (4, .int (sm + (nI 0))), (0, .ref v0), (1, .int (nI p)), (2, .int (nI t)), (3, .int side)]) hx hb dX5_chosen_59 hl rfl rfl rfl (by decide) rfl (fun ls hl => ?_)
      refine lv_goto (tgt := 9) hx hb dX5_chosen_62 (by decide) ?_
      exact ih9 (k + 1, sm + (nI 0), pl * 100) ⟨by omega, (by rw [hs]; show _ = mChoN _ side k + ite _ _ _; rw [if_neg c33]), (by rw [hpl]; exact (Nat.pow_succ 100 k).symm)⟩ (by show 3 - (k + 1) < 3 - k; omega) _ _ _ hP hD hS (lv_sub hl [3, 4, 5, 6, 2, 1, 0] rfl)
    · refine lv_iload hx hb dX5_chosen_36 (lv_at hl 5 rfl) ?_
      refine lv_iload_n hx hb dX5_chosen_38 rfl (lv_at hl 3 rfl) ?_
      refine lv_iload hx hb dX5_chosen_39 (lv_at hl 6 rfl) ?_
      refine x_calli (w2 := fun (u : Unit) => [(v0, .inr (5, [.ref v1, .ref v2, .int (nI n), .int (nI lim), .ref v3, .ref v4, .ref v5, .ref v6, .ref v7, .ref v8, .ref v9, .ref v10, .ref v11, .ref v12, .ref v13, .ref v14, .ref v15, .ref v16, .ref v17, .int th])), (v10, .inl (cI, 6, .inl lis))]) (wr := [(v0, .inr (5, [.ref v1, .ref v2, .int (nI n), .int (nI lim), .ref v3, .ref v4, .ref v5, .ref v6, .ref v7, .ref v8, .ref v9, .ref v10, .ref v11, .ref v12, .ref v13, .ref v14, .ref v15, .ref v16, .ref v17, .int th])), (v10, .inl (cI, 6, .inl lis))]) (x_runS (n := 2) ⟨hx, hb, hml, hown, hts⟩ (zX5_numberOf l D cI cP cS cL side (nI k)) gX5_chosen_X5_numberOf rfl rfl rfl (by decide +kernel) ⟨by decide, by decide⟩ hN hK hP hD [] rfl rfl rfl hl.1 (rest := [.int (nI pl), .int sm]) (As := [.int side, .int (nI k)]) rfl (Nat.le_of_ble_eq_true rfl) dX5_chosen_41 ⟨by decide, by decide⟩) hP hD hS hA [] [0, 1] [0, 1] rfl rfl rfl (by decide) rfl (fun _ => rfl) (fun r41 u H locs hw hP hD hS => ?_)
      subst hw
      refine lv_imul hx hb dX5_chosen_44 ?_
      refine lv_goto (tgt := 49) hx hb dX5_chosen_45 (by decide) ?_
      refine lv_iadd hx hb dX5_chosen_49 ?_
      refine lv_istore (lv' := [(4, .int (sm + ((nI pl) * (mNum side (nI k))))), (0, .ref v0), (1, .int (nI p)), (2, .int (nI t)), (3, .int side), (5, .int (nI pl)), (6, .int (nI k))]) hx hb dX5_chosen_50 hl (by decide) rfl (fun ls hl => ?_)
      refine lv_iload hx hb dX5_chosen_52 (lv_at hl 5 rfl) ?_
      refine lv_bipush (v := nI 100) hx hb dX5_chosen_54 (by decide) ?_
      refine x_mul (k := pl * 100) hx hb dX5_chosen_56 rfl ?_
      refine lv_istore (lv' := [(5, .int (nI (pl * 100))), (4, .int (sm + ((nI pl) * (mNum side (nI k))))), (0, .ref v0), (1, .int (nI p)), (2, .int (nI t)), (3, .int side), (6, .int (nI k))]) hx hb dX5_chosen_57 hl (by decide) rfl (fun ls hl => ?_)
      refine x_iinc (k := 6) (o := 1) (v := k + 1) (lv' := [(6, .int (nI (k + 1))), (5, .int (nI (pl * 100))), (4, .int (sm + ((nI pl) * (mNum side (nI k))))), (0, .ref v0), (1, .int (nI p)), (2, .int (nI t)), (3, .int side)]) hx hb dX5_chosen_59 hl rfl rfl rfl (by decide) rfl (fun ls hl => ?_)
      refine lv_goto (tgt := 9) hx hb dX5_chosen_62 (by decide) ?_
      exact ih9 (k + 1, sm + ((nI pl) * (mNum side (nI k))), pl * 100) ⟨by omega, (by rw [hs, hpl]; show _ = mChoN _ side k + ite _ _ _; rw [if_pos c33]), (by rw [hpl]; exact (Nat.pow_succ 100 k).symm)⟩ (by show 3 - (k + 1) < 3 - k; omega) _ _ _ hP hD hS (lv_sub hl [3, 4, 5, 6, 2, 1, 0] rfl)

set_option maxRecDepth 20000 in
theorem kX5_chosenAt_f13 : Cond.fieldLink RX5 13 "RowReplicatorModel" "kept" "[I" ∈ wsX5_chosenAt := by decide +kernel
set_option maxRecDepth 20000 in
theorem kX5_chosenAt_X5 : ∀ w ∈ wsX50, w ∈ wsX5_chosenAt := by decide +kernel
set_option maxHeartbeats 4000000 in
set_option maxRecDepth 100000 in
theorem zX5_chosenAt (l : Launch) (D : va_G) (cI cP cS cL : ClassId) (v0 v1 v2 v3 v4 v5 v6 v7 v8 v9 v10 v11 v12 v13 v14 v15 v16 v17 : Nat) (n lim : Nat) (th : Int32) (kept col rel num lis : Nat → Int32) (p t j c : Nat) (hp3 : p < 3) (ht2 : t < 2) (hj12 : j < 12) (hc50 : c ≤ 50) : xMi l yX5_chosenAt wsX5_chosenAt (rmD 2 0 0) D [(cI, .int), (cP, .object RX0), (cS, .object RX2), (cL, .long)] [.ref v0, .int (nI p), .int (nI t), .int (nI j), .int (nI c)] [(v0, .inr (5, [.ref v1, .ref v2, .int (nI n), .int (nI lim), .ref v3, .ref v4, .ref v5, .ref v6, .ref v7, .ref v8, .ref v9, .ref v10, .ref v11, .ref v12, .ref v13, .ref v14, .ref v15, .ref v16, .ref v17, .int th])), (v2, .inl (cI, 1224, .inl kept)), (v7, .inl (cI, 6, .inl col)), (v8, .inl (cI, 6, .inl rel)), (v9, .inl (cI, 6, .inl num)), (v10, .inl (cI, 6, .inl lis))] (fun (r : Int32) (u : Unit) => r = mSel (col (2 * p + t)) (rel (2 * p + t)) (num (2 * p + t)) (lis (2 * p + t)) (kept (24 * c + 12 * t + j))) (fun (u : Unit) => [(v0, .inr (5, [.ref v1, .ref v2, .int (nI n), .int (nI lim), .ref v3, .ref v4, .ref v5, .ref v6, .ref v7, .ref v8, .ref v9, .ref v10, .ref v11, .ref v12, .ref v13, .ref v14, .ref v15, .ref v16, .ref v17, .int th])), (v2, .inl (cI, 1224, .inl kept)), (v7, .inl (cI, 6, .inl col)), (v8, .inl (cI, 6, .inl rel)), (v9, .inl (cI, 6, .inl num)), (v10, .inl (cI, 6, .inl lis))]) 0 0 := by
  refine xe_i (cc := cX5_chosenAt) (maxL := 6) (ret := (some .int)) (by decide) rfl (Nat.le_of_ble_eq_true rfl) ?_
  intro zp ze s zm below meth zc A ls B
  obtain ⟨hx, hb, hml, hrt, hts, hown, hnm, hlk, hK, hP, hD, hA, hS, hN, hl⟩ := B
  have hown : s.vm.findClass RX5 = some zm.cls := hown
  have hl : lv_has ls 6 [(0, .ref v0), (1, .int (nI p)), (2, .int (nI t)), (3, .int (nI j)), (4, .int (nI c))] := hl
  have hA : ∀ q, s.heap.size ≤ q → A q := hA
  refine lv_aload_n hx hb dX5_chosenAt_0 rfl (lv_at hl 0 rfl) ?_
  refine va_get (D := D) (ci := 5) (v := .ref v2) (C := RX5) (T := TX5) (N := 20) hx hb hts kX5_chosenAt_X5 hown hK hP 0 rfl rfl 1 (by decide) (hts _ kX5_chosenAt_f13) (fun _ h9 => h9) rfl dX5_chosenAt_1 ?_
  refine lv_bipush (v := nI 24) hx hb dX5_chosenAt_4 (by decide) ?_
  refine lv_iload hx hb dX5_chosenAt_6 (lv_at hl 4 rfl) ?_
  refine x_mul (k := 24 * c) hx hb dX5_chosenAt_8 rfl ?_
  refine lv_bipush (v := nI 12) hx hb dX5_chosenAt_9 (by decide) ?_
  refine lv_iload_n hx hb dX5_chosenAt_11 rfl (lv_at hl 2 rfl) ?_
  refine x_mul (k := 12 * t) hx hb dX5_chosenAt_12 rfl ?_
  refine x_add (k := (24 * c) + (12 * t)) hx hb dX5_chosenAt_13 rfl ?_
  refine lv_iload_n hx hb dX5_chosenAt_14 rfl (lv_at hl 3 rfl) ?_
  refine x_add (k := ((24 * c) + (12 * t)) + j) hx hb dX5_chosenAt_15 rfl ?_
  refine x_ald (v := kept (((24 * c) + (12 * t)) + j)) hx hb hK hP 1 0 rfl rfl (by omega) (by omega) rfl dX5_chosenAt_16 ?_
  refine lv_istore (lv' := [(5, .int (kept (((24 * c) + (12 * t)) + j))), (0, .ref v0), (1, .int (nI p)), (2, .int (nI t)), (3, .int (nI j)), (4, .int (nI c))]) hx hb dX5_chosenAt_17 hl (by decide) rfl (fun ls hl => ?_)
  refine lv_aload_n hx hb dX5_chosenAt_19 rfl (lv_at hl 1 rfl) ?_
  refine lv_iload_n hx hb dX5_chosenAt_20 rfl (lv_at hl 2 rfl) ?_
  refine lv_iload_n hx hb dX5_chosenAt_21 rfl (lv_at hl 3 rfl) ?_
  refine lv_iload hx hb dX5_chosenAt_22 (lv_at hl 0 rfl) ?_
  refine x_calli (w2 := fun (u : Unit) => [(v0, .inr (5, [.ref v1, .ref v2, .int (nI n), .int (nI lim), .ref v3, .ref v4, .ref v5, .ref v6, .ref v7, .ref v8, .ref v9, .ref v10, .ref v11, .ref v12, .ref v13, .ref v14, .ref v15, .ref v16, .ref v17, .int th])), (v2, .inl (cI, 1224, .inl kept)), (v7, .inl (cI, 6, .inl col)), (v8, .inl (cI, 6, .inl rel)), (v9, .inl (cI, 6, .inl num)), (v10, .inl (cI, 6, .inl lis))]) (wr := [(v2, .inl (cI, 1224, .inl kept)), (v10, .inl (cI, 6, .inl lis))]) (x_runV (n := 3) ⟨hx, hb, hml, hown, hts⟩ (zX5_counts l D cI cP cS cL v0 v1 v2 v3 v4 v5 v6 v7 v8 v9 v10 v11 v12 v13 v14 v15 v16 v17 n lim (th) col rel num p t (kept (((24 * c) + (12 * t)) + j)) hp3 ht2) gX5_chosenAt_X5_counts rfl rfl rfl (by decide +kernel) ⟨by decide, by decide⟩ hN hK hP hD [0, 2, 3, 4] rfl rfl (ci := 5) (q0 := 0) rfl rfl rfl rfl hl.1 (rest := []) (As := [.int (nI p), .int (nI t), .int (kept (((24 * c) + (12 * t)) + j))]) rfl (Nat.le_of_ble_eq_true rfl) dX5_chosenAt_24 ⟨by decide, by decide⟩) hP hD hS hA [0, 2, 3, 4] [1, 5] [2, 0, 3, 4, 5, 1] rfl rfl rfl (by decide) rfl (fun _ => rfl) (fun r24 u H locs hw hP hD hS => ?_)
  subst hw
  refine x_if_eq (tgt := 41) hx hb (bI_0 _) dX5_chosenAt_27 (by decide) (fun c27 => ?_) (fun c27 => ?_)
  · refine lv_iconst (v := -1) hx hb dX5_chosenAt_41 (by decide) ?_
    exact x_ret_i hx hb hrt hlk hP hD hS dX5_chosenAt_42 ⟨by decide, by decide⟩ () (by unfold mSel; rw [if_neg (by intro q; rw [c27] at q; cases q)]) rfl
  · refine lv_aload_n hx hb dX5_chosenAt_30 rfl (lv_at hl 1 rfl) ?_
    refine lv_iload_n hx hb dX5_chosenAt_31 rfl (lv_at hl 2 rfl) ?_
    refine lv_iload_n hx hb dX5_chosenAt_32 rfl (lv_at hl 3 rfl) ?_
    refine lv_iload hx hb dX5_chosenAt_33 (lv_at hl 0 rfl) ?_
    refine x_calli (w2 := fun (u : Unit) => [(v0, .inr (5, [.ref v1, .ref v2, .int (nI n), .int (nI lim), .ref v3, .ref v4, .ref v5, .ref v6, .ref v7, .ref v8, .ref v9, .ref v10, .ref v11, .ref v12, .ref v13, .ref v14, .ref v15, .ref v16, .ref v17, .int th])), (v2, .inl (cI, 1224, .inl kept)), (v7, .inl (cI, 6, .inl col)), (v8, .inl (cI, 6, .inl rel)), (v9, .inl (cI, 6, .inl num)), (v10, .inl (cI, 6, .inl lis))]) (wr := [(v2, .inl (cI, 1224, .inl kept)), (v7, .inl (cI, 6, .inl col)), (v8, .inl (cI, 6, .inl rel)), (v9, .inl (cI, 6, .inl num))]) (x_runV (n := 3) ⟨hx, hb, hml, hown, hts⟩ (zX5_chosen l D cI cP cS cL v0 v1 v2 v3 v4 v5 v6 v7 v8 v9 v10 v11 v12 v13 v14 v15 v16 v17 n lim (th) lis p t (kept (((24 * c) + (12 * t)) + j)) hp3 ht2) gX5_chosenAt_X5_chosen rfl rfl rfl (by decide +kernel) ⟨by decide, by decide⟩ hN hK hP hD [0, 5] rfl rfl (ci := 5) (q0 := 0) rfl rfl rfl rfl hl.1 (rest := []) (As := [.int (nI p), .int (nI t), .int (kept (((24 * c) + (12 * t)) + j))]) rfl (Nat.le_of_ble_eq_true rfl) dX5_chosenAt_35 ⟨by decide, by decide⟩) hP hD hS hA [0, 5] [1, 2, 3, 4] [4, 0, 1, 2, 3, 5] rfl rfl rfl (by decide) rfl (fun _ => rfl) (fun r35 u H locs hw hP hD hS => ?_)
    subst hw
    refine lv_goto (tgt := 42) hx hb dX5_chosenAt_38 (by decide) ?_
    exact x_ret_i hx hb hrt hlk hP hD hS dX5_chosenAt_42 ⟨by decide, by decide⟩ () (by unfold mSel; rw [if_pos (by cases h : mCouB (col (2 * p + t)) (rel (2 * p + t)) (num (2 * p + t)) (kept (24 * c + 12 * t + j)) with | true => rfl | false => exact absurd h c27)]) rfl

set_option maxRecDepth 20000 in
theorem kX5_subscribe_f47 : Cond.fieldLink RX5 47 "RowReplicatorModel" "state" "[I" ∈ wsX5_subscribe := by decide +kernel
set_option maxRecDepth 20000 in
theorem kX5_subscribe_X5 : ∀ w ∈ wsX50, w ∈ wsX5_subscribe := by decide +kernel
set_option maxRecDepth 20000 in
theorem kX5_subscribe_f44 : Cond.fieldLink RX5 44 "RowReplicatorModel" "book" "[I" ∈ wsX5_subscribe := by decide +kernel
set_option maxRecDepth 20000 in
theorem kX5_subscribe_f50 : Cond.fieldLink RX5 50 "RowReplicatorModel" "slot" "[I" ∈ wsX5_subscribe := by decide +kernel
set_option maxRecDepth 20000 in
theorem kX5_subscribe_f76 : Cond.fieldLink RX5 76 "RowReplicatorModel" "commits" "I" ∈ wsX5_subscribe := by decide +kernel
set_option maxRecDepth 20000 in
theorem kX5_subscribe_f53 : Cond.fieldLink RX5 53 "RowReplicatorModel" "copied" "[I" ∈ wsX5_subscribe := by decide +kernel
set_option maxHeartbeats 4000000 in
set_option maxRecDepth 100000 in
theorem zX5_subscribe (l : Launch) (D : va_G) (cI cP cS cL : ClassId) (v0 v1 v2 v3 v4 v5 v6 v7 v8 v9 v10 v11 v12 v13 v14 v15 v16 v17 : Nat) (n lim : Nat) (th : Int32) (st : Nat → Nat) (sta slo boo cop : Nat → Int32) (sx px : Int32) (hsta : ∀ i, i < 3 → sta i = nI (st i)) : xMi l yX5_subscribe wsX5_subscribe (rmD 2 0 0) D [(cI, .int), (cP, .object RX0), (cS, .object RX2), (cL, .long)] [.ref v0, .int sx, .int px] [(v0, .inr (5, [.ref v1, .ref v2, .int (nI n), .int (nI lim), .ref v3, .ref v4, .ref v5, .ref v6, .ref v7, .ref v8, .ref v9, .ref v10, .ref v11, .ref v12, .ref v13, .ref v14, .ref v15, .ref v16, .ref v17, .int th])), (v11, .inl (cI, 3, .inl boo)), (v12, .inl (cI, 3, .inl sta)), (v13, .inl (cI, 3, .inl slo)), (v14, .inl (cI, 6, .inl cop))] (fun (r : Int32) (u : Int32 × (Nat → Int32) × (Nat → Int32) × (Nat → Int32) × (Nat → Int32)) => match u with | (h, a1, a2, a3, a4) => ((¬ (vp_in sx 3 ∧ vp_in px 3) ∧ h = nI 1 ∧ a1 = boo ∧ a2 = sta ∧ a3 = slo ∧ a4 = cop) ∨ (∃ si pi, sx = nI si ∧ si < 3 ∧ px = nI pi ∧ pi < 3 ∧ h = nI 0 ∧ r = nI (st si) ∧ a1 = upd boo si (nI pi) ∧ a2 = upd sta si (nI 1) ∧ a3 = upd slo si (nI n) ∧ a4 = upd (upd cop (2 * si + 0) (-1)) (2 * si + 1) (-1)))) (fun (u : Int32 × (Nat → Int32) × (Nat → Int32) × (Nat → Int32) × (Nat → Int32)) => match u with | (h, a1, a2, a3, a4) => [(v0, .inr (5, [.ref v1, .ref v2, .int (nI n), .int (nI lim), .ref v3, .ref v4, .ref v5, .ref v6, .ref v7, .ref v8, .ref v9, .ref v10, .ref v11, .ref v12, .ref v13, .ref v14, .ref v15, .ref v16, .ref v17, .int h])), (v11, .inl (cI, 3, .inl a1)), (v12, .inl (cI, 3, .inl a2)), (v13, .inl (cI, 3, .inl a3)), (v14, .inl (cI, 6, .inl a4))]) 0 0 := by
  refine xe_i (cc := cX5_subscribe) (maxL := 5) (ret := (some .int)) (by decide) rfl (Nat.le_of_ble_eq_true rfl) ?_
  intro zp ze s zm below meth zc A ls B
  obtain ⟨hx, hb, hml, hrt, hts, hown, hnm, hlk, hK, hP, hD, hA, hS, hN, hl⟩ := B
  have hown : s.vm.findClass RX5 = some zm.cls := hown
  have hl : lv_has ls 5 [(0, .ref v0), (1, .int sx), (2, .int px)] := hl
  have hA : ∀ q, s.heap.size ≤ q → A q := hA
  refine lv_aload_n hx hb dX5_subscribe_0 rfl (lv_at hl 0 rfl) ?_
  refine lv_iload_n hx hb dX5_subscribe_1 rfl (lv_at hl 1 rfl) ?_
  refine x_calli (w2 := fun (u : Unit) => [(v0, .inr (5, [.ref v1, .ref v2, .int (nI n), .int (nI lim), .ref v3, .ref v4, .ref v5, .ref v6, .ref v7, .ref v8, .ref v9, .ref v10, .ref v11, .ref v12, .ref v13, .ref v14, .ref v15, .ref v16, .ref v17, .int th])), (v11, .inl (cI, 3, .inl boo)), (v12, .inl (cI, 3, .inl sta)), (v13, .inl (cI, 3, .inl slo)), (v14, .inl (cI, 6, .inl cop))]) (wr := [(v0, .inr (5, [.ref v1, .ref v2, .int (nI n), .int (nI lim), .ref v3, .ref v4, .ref v5, .ref v6, .ref v7, .ref v8, .ref v9, .ref v10, .ref v11, .ref v12, .ref v13, .ref v14, .ref v15, .ref v16, .ref v17, .int th])), (v11, .inl (cI, 3, .inl boo)), (v12, .inl (cI, 3, .inl sta)), (v13, .inl (cI, 3, .inl slo)), (v14, .inl (cI, 6, .inl cop))]) (x_runS (n := 1) ⟨hx, hb, hml, hown, hts⟩ (zX5_isThird l D cI cP cS cL sx) gX5_subscribe_X5_isThird rfl rfl rfl (by decide +kernel) ⟨by decide, by decide⟩ hN hK hP hD [] rfl rfl rfl hl.1 (rest := [.ref v0]) (As := [.int sx]) rfl (Nat.le_of_ble_eq_true rfl) dX5_subscribe_2 ⟨by decide, by decide⟩) hP hD hS hA [] [0, 1, 2, 3, 4] [0, 1, 2, 3, 4] rfl rfl rfl (by decide) rfl (fun _ => rfl) (fun r2 u H locs hw hP hD hS => ?_)
  subst hw
  refine x_if_eq (tgt := 19) hx hb (bI_0 _) dX5_subscribe_5 (by decide) (fun c5 => ?_) (fun c5 => ?_)
  · refine lv_iconst (v := nI 1) hx hb dX5_subscribe_19 (by decide) ?_
    refine x_calli (w2 := fun (u : Unit) => [(v0, .inr (5, [.ref v1, .ref v2, .int (nI n), .int (nI lim), .ref v3, .ref v4, .ref v5, .ref v6, .ref v7, .ref v8, .ref v9, .ref v10, .ref v11, .ref v12, .ref v13, .ref v14, .ref v15, .ref v16, .ref v17, .int (nI 1)])), (v11, .inl (cI, 3, .inl boo)), (v12, .inl (cI, 3, .inl sta)), (v13, .inl (cI, 3, .inl slo)), (v14, .inl (cI, 6, .inl cop))]) (wr := [(v11, .inl (cI, 3, .inl boo)), (v12, .inl (cI, 3, .inl sta)), (v13, .inl (cI, 3, .inl slo)), (v14, .inl (cI, 6, .inl cop))]) (x_runV (n := 1) ⟨hx, hb, hml, hown, hts⟩ (zX5_fails l D cI cP cS cL v0 v1 v2 v3 v4 v5 v6 v7 v8 v9 v10 v11 v12 v13 v14 v15 v16 v17 n lim (th) 1 (by decide)) gX5_subscribe_X5_fails rfl rfl rfl (by decide +kernel) ⟨by decide, by decide⟩ hN hK hP hD [0] rfl rfl (ci := 5) (q0 := 0) rfl rfl rfl rfl hl.1 (rest := []) (As := [.int (nI 1)]) rfl (Nat.le_of_ble_eq_true rfl) dX5_subscribe_20 ⟨by decide, by decide⟩) hP hD hS hA [0] [1, 2, 3, 4] [4, 0, 1, 2, 3] rfl rfl rfl (by decide) rfl (fun _ => rfl) (fun r20 u H locs hw hP hD hS => ?_)
    replace hw : r20 = nI 1 := hw.trans (by decide)
    subst hw
    refine x_if_eq (tgt := 28) hx hb (nI_z (by omega)) dX5_subscribe_23 (by decide) (fun c23 => ?_) (fun c23 => ?_)
    · exact absurd c23 (by omega)
    refine lv_iconst (v := nI 0) hx hb dX5_subscribe_26 (by decide) ?_
    exact x_ret_i hx hb hrt hlk hP hD hS dX5_subscribe_27 ⟨by decide, by decide⟩ ((nI 1), boo, sta, slo, cop) (Or.inl ⟨fun q => qIn_n c5 q.1, rfl, rfl, rfl, rfl, rfl⟩) rfl
  · refine lv_iload_n hx hb dX5_subscribe_8 rfl (lv_at hl 2 rfl) ?_
    refine x_calli (w2 := fun (u : Unit) => [(v0, .inr (5, [.ref v1, .ref v2, .int (nI n), .int (nI lim), .ref v3, .ref v4, .ref v5, .ref v6, .ref v7, .ref v8, .ref v9, .ref v10, .ref v11, .ref v12, .ref v13, .ref v14, .ref v15, .ref v16, .ref v17, .int th])), (v11, .inl (cI, 3, .inl boo)), (v12, .inl (cI, 3, .inl sta)), (v13, .inl (cI, 3, .inl slo)), (v14, .inl (cI, 6, .inl cop))]) (wr := [(v0, .inr (5, [.ref v1, .ref v2, .int (nI n), .int (nI lim), .ref v3, .ref v4, .ref v5, .ref v6, .ref v7, .ref v8, .ref v9, .ref v10, .ref v11, .ref v12, .ref v13, .ref v14, .ref v15, .ref v16, .ref v17, .int th])), (v11, .inl (cI, 3, .inl boo)), (v12, .inl (cI, 3, .inl sta)), (v13, .inl (cI, 3, .inl slo)), (v14, .inl (cI, 6, .inl cop))]) (x_runS (n := 1) ⟨hx, hb, hml, hown, hts⟩ (zX5_isThird l D cI cP cS cL px) gX5_subscribe_X5_isThird rfl rfl rfl (by decide +kernel) ⟨by decide, by decide⟩ hN hK hP hD [] rfl rfl rfl hl.1 (rest := [.ref v0]) (As := [.int px]) rfl (Nat.le_of_ble_eq_true rfl) dX5_subscribe_9 ⟨by decide, by decide⟩) hP hD hS hA [] [0, 1, 2, 3, 4] [0, 1, 2, 3, 4] rfl rfl rfl (by decide) rfl (fun _ => rfl) (fun r9 u H locs hw hP hD hS => ?_)
    subst hw
    refine x_if_eq (tgt := 19) hx hb (bI_0 _) dX5_subscribe_12 (by decide) (fun c12 => ?_) (fun c12 => ?_)
    · refine lv_iconst (v := nI 1) hx hb dX5_subscribe_19 (by decide) ?_
      refine x_calli (w2 := fun (u : Unit) => [(v0, .inr (5, [.ref v1, .ref v2, .int (nI n), .int (nI lim), .ref v3, .ref v4, .ref v5, .ref v6, .ref v7, .ref v8, .ref v9, .ref v10, .ref v11, .ref v12, .ref v13, .ref v14, .ref v15, .ref v16, .ref v17, .int (nI 1)])), (v11, .inl (cI, 3, .inl boo)), (v12, .inl (cI, 3, .inl sta)), (v13, .inl (cI, 3, .inl slo)), (v14, .inl (cI, 6, .inl cop))]) (wr := [(v11, .inl (cI, 3, .inl boo)), (v12, .inl (cI, 3, .inl sta)), (v13, .inl (cI, 3, .inl slo)), (v14, .inl (cI, 6, .inl cop))]) (x_runV (n := 1) ⟨hx, hb, hml, hown, hts⟩ (zX5_fails l D cI cP cS cL v0 v1 v2 v3 v4 v5 v6 v7 v8 v9 v10 v11 v12 v13 v14 v15 v16 v17 n lim (th) 1 (by decide)) gX5_subscribe_X5_fails rfl rfl rfl (by decide +kernel) ⟨by decide, by decide⟩ hN hK hP hD [0] rfl rfl (ci := 5) (q0 := 0) rfl rfl rfl rfl hl.1 (rest := []) (As := [.int (nI 1)]) rfl (Nat.le_of_ble_eq_true rfl) dX5_subscribe_20 ⟨by decide, by decide⟩) hP hD hS hA [0] [1, 2, 3, 4] [4, 0, 1, 2, 3] rfl rfl rfl (by decide) rfl (fun _ => rfl) (fun r20 u H locs hw hP hD hS => ?_)
      replace hw : r20 = nI 1 := hw.trans (by decide)
      subst hw
      refine x_if_eq (tgt := 28) hx hb (nI_z (by omega)) dX5_subscribe_23 (by decide) (fun c23 => ?_) (fun c23 => ?_)
      · exact absurd c23 (by omega)
      refine lv_iconst (v := nI 0) hx hb dX5_subscribe_26 (by decide) ?_
      exact x_ret_i hx hb hrt hlk hP hD hS dX5_subscribe_27 ⟨by decide, by decide⟩ ((nI 1), boo, sta, slo, cop) (Or.inl ⟨fun q => qIn_n c12 q.2, rfl, rfl, rfl, rfl, rfl⟩) rfl
    · obtain ⟨si, hsi9, esi⟩ := vp_in_of (qIn_y c5) (by decide)
      subst esi
      obtain ⟨pi, hpi9, epi⟩ := vp_in_of (qIn_y c12) (by decide)
      subst epi
      refine lv_iconst (v := nI 0) hx hb dX5_subscribe_15 (by decide) ?_
      refine lv_goto (tgt := 20) hx hb dX5_subscribe_16 (by decide) ?_
      refine x_calli (w2 := fun (u : Unit) => [(v0, .inr (5, [.ref v1, .ref v2, .int (nI n), .int (nI lim), .ref v3, .ref v4, .ref v5, .ref v6, .ref v7, .ref v8, .ref v9, .ref v10, .ref v11, .ref v12, .ref v13, .ref v14, .ref v15, .ref v16, .ref v17, .int (nI 0)])), (v11, .inl (cI, 3, .inl boo)), (v12, .inl (cI, 3, .inl sta)), (v13, .inl (cI, 3, .inl slo)), (v14, .inl (cI, 6, .inl cop))]) (wr := [(v11, .inl (cI, 3, .inl boo)), (v12, .inl (cI, 3, .inl sta)), (v13, .inl (cI, 3, .inl slo)), (v14, .inl (cI, 6, .inl cop))]) (x_runV (n := 1) ⟨hx, hb, hml, hown, hts⟩ (zX5_fails l D cI cP cS cL v0 v1 v2 v3 v4 v5 v6 v7 v8 v9 v10 v11 v12 v13 v14 v15 v16 v17 n lim (th) 0 (by decide)) gX5_subscribe_X5_fails rfl rfl rfl (by decide +kernel) ⟨by decide, by decide⟩ hN hK hP hD [0] rfl rfl (ci := 5) (q0 := 0) rfl rfl rfl rfl hl.1 (rest := []) (As := [.int (nI 0)]) rfl (Nat.le_of_ble_eq_true rfl) dX5_subscribe_20 ⟨by decide, by decide⟩) hP hD hS hA [0] [1, 2, 3, 4] [4, 0, 1, 2, 3] rfl rfl rfl (by decide) rfl (fun _ => rfl) (fun r20 u H locs hw hP hD hS => ?_)
      replace hw : r20 = nI 0 := hw.trans (by decide)
      subst hw
      refine x_if_eq (tgt := 28) hx hb (nI_z (by omega)) dX5_subscribe_23 (by decide) (fun c23 => ?_) (fun c23 => ?_)
      rotate_left
      · exact absurd c23 (by omega)
      refine lv_aload_n hx hb dX5_subscribe_28 rfl (lv_at hl 0 rfl) ?_
      refine va_get (D := D) (ci := 5) (v := .ref v12) (C := RX5) (T := TX5) (N := 20) hx hb hts kX5_subscribe_X5 hown hK hP 0 rfl rfl 13 (by decide) (hts _ kX5_subscribe_f47) (fun _ h9 => h9) rfl dX5_subscribe_29 ?_
      refine lv_iload_n hx hb dX5_subscribe_32 rfl (lv_at hl 1 rfl) ?_
      refine x_ald (v := nI (st si)) hx hb hK hP 2 0 rfl rfl (by omega) (by omega) (hsta _ (by omega)) dX5_subscribe_33 ?_
      refine lv_istore_n (lv' := [(3, .int (nI (st si))), (0, .ref v0), (1, .int (nI si)), (2, .int (nI pi))]) hx hb dX5_subscribe_34 rfl hl (by decide) rfl (fun ls hl => ?_)
      refine lv_aload_n hx hb dX5_subscribe_35 rfl (lv_at hl 1 rfl) ?_
      refine va_get (D := D) (ci := 5) (v := .ref v11) (C := RX5) (T := TX5) (N := 20) hx hb hts kX5_subscribe_X5 hown hK hP 0 rfl rfl 12 (by decide) (hts _ kX5_subscribe_f44) (fun _ h9 => h9) rfl dX5_subscribe_36 ?_
      refine lv_iload_n hx hb dX5_subscribe_39 rfl (lv_at hl 2 rfl) ?_
      refine lv_iload_n hx hb dX5_subscribe_40 rfl (lv_at hl 3 rfl) ?_
      refine x_ast (g := upd boo si (nI pi)) (ws' := [(v0, .inr (5, [.ref v1, .ref v2, .int (nI n), .int (nI lim), .ref v3, .ref v4, .ref v5, .ref v6, .ref v7, .ref v8, .ref v9, .ref v10, .ref v11, .ref v12, .ref v13, .ref v14, .ref v15, .ref v16, .ref v17, .int (nI 0)])), (v11, .inl (cI, 3, .inl (upd boo si (nI pi)))), (v12, .inl (cI, 3, .inl sta)), (v13, .inl (cI, 3, .inl slo)), (v14, .inl (cI, 6, .inl cop))]) hx hb hK hP hD hS 1 0 rfl rfl (by omega) (by omega) (rfl) rfl dX5_subscribe_41 (fun H locs hP hD hS => ?_)
      refine lv_aload_n hx hb dX5_subscribe_42 rfl (lv_at hl 1 rfl) ?_
      refine va_get (D := D) (ci := 5) (v := .ref v12) (C := RX5) (T := TX5) (N := 20) hx hb hts kX5_subscribe_X5 hown hK hP 0 rfl rfl 13 (by decide) (hts _ kX5_subscribe_f47) (fun _ h9 => h9) rfl dX5_subscribe_43 ?_
      refine lv_iload_n hx hb dX5_subscribe_46 rfl (lv_at hl 2 rfl) ?_
      refine lv_iconst (v := nI 1) hx hb dX5_subscribe_47 (by decide) ?_
      refine x_ast (g := upd sta si (nI 1)) (ws' := [(v0, .inr (5, [.ref v1, .ref v2, .int (nI n), .int (nI lim), .ref v3, .ref v4, .ref v5, .ref v6, .ref v7, .ref v8, .ref v9, .ref v10, .ref v11, .ref v12, .ref v13, .ref v14, .ref v15, .ref v16, .ref v17, .int (nI 0)])), (v11, .inl (cI, 3, .inl (upd boo si (nI pi)))), (v12, .inl (cI, 3, .inl (upd sta si (nI 1)))), (v13, .inl (cI, 3, .inl slo)), (v14, .inl (cI, 6, .inl cop))]) hx hb hK hP hD hS 2 0 rfl rfl (by omega) (by omega) (rfl) rfl dX5_subscribe_48 (fun H locs hP hD hS => ?_)
      refine lv_aload_n hx hb dX5_subscribe_49 rfl (lv_at hl 1 rfl) ?_
      refine va_get (D := D) (ci := 5) (v := .ref v13) (C := RX5) (T := TX5) (N := 20) hx hb hts kX5_subscribe_X5 hown hK hP 0 rfl rfl 14 (by decide) (hts _ kX5_subscribe_f50) (fun _ h9 => h9) rfl dX5_subscribe_50 ?_
      refine lv_iload_n hx hb dX5_subscribe_53 rfl (lv_at hl 2 rfl) ?_
      refine lv_aload_n hx hb dX5_subscribe_54 rfl (lv_at hl 1 rfl) ?_
      refine va_get (D := D) (ci := 5) (v := .int (nI n)) (C := RX5) (T := TX5) (N := 20) hx hb hts kX5_subscribe_X5 hown hK hP 0 rfl rfl 2 (by decide) (hts _ kX5_subscribe_f76) (fun _ h9 => h9) rfl dX5_subscribe_55 ?_
      refine x_ast (g := upd slo si (nI n)) (ws' := [(v0, .inr (5, [.ref v1, .ref v2, .int (nI n), .int (nI lim), .ref v3, .ref v4, .ref v5, .ref v6, .ref v7, .ref v8, .ref v9, .ref v10, .ref v11, .ref v12, .ref v13, .ref v14, .ref v15, .ref v16, .ref v17, .int (nI 0)])), (v11, .inl (cI, 3, .inl (upd boo si (nI pi)))), (v12, .inl (cI, 3, .inl (upd sta si (nI 1)))), (v13, .inl (cI, 3, .inl (upd slo si (nI n)))), (v14, .inl (cI, 6, .inl cop))]) hx hb hK hP hD hS 3 0 rfl rfl (by omega) (by omega) (rfl) rfl dX5_subscribe_58 (fun H locs hP hD hS => ?_)
      refine lv_iconst (v := nI 0) hx hb dX5_subscribe_59 (by decide) ?_
      refine lv_istore (lv' := [(4, .int (nI 0)), (3, .int (nI (st si))), (0, .ref v0), (1, .int (nI si)), (2, .int (nI pi))]) hx hb dX5_subscribe_60 hl (by decide) rfl (fun ls hl => ?_)
      refine lv_iload hx hb dX5_subscribe_62 (lv_at hl 0 rfl) ?_
      refine lv_iconst (v := nI 2) hx hb dX5_subscribe_64 (by decide) ?_
      refine x_cmp_ge (tgt := 86) hx hb (nI_leI (a := 2) (b := 0) (by omega) (by omega)) dX5_subscribe_65 (by decide) (fun c65 => ?_) (fun c65 => ?_)
      · exfalso; omega
      · refine lv_aload_n hx hb dX5_subscribe_68 rfl (lv_at hl 2 rfl) ?_
        refine va_get (D := D) (ci := 5) (v := .ref v14) (C := RX5) (T := TX5) (N := 20) hx hb hts kX5_subscribe_X5 hown hK hP 0 rfl rfl 15 (by decide) (hts _ kX5_subscribe_f53) (fun _ h9 => h9) rfl dX5_subscribe_69 ?_
        refine lv_iconst (v := nI 2) hx hb dX5_subscribe_72 (by decide) ?_
        refine lv_iload_n hx hb dX5_subscribe_73 rfl (lv_at hl 3 rfl) ?_
        refine x_mul (k := 2 * si) hx hb dX5_subscribe_74 rfl ?_
        refine lv_iload hx hb dX5_subscribe_75 (lv_at hl 0 rfl) ?_
        refine x_add (k := (2 * si) + 0) hx hb dX5_subscribe_77 rfl ?_
        refine lv_iconst (v := -1) hx hb dX5_subscribe_78 (by decide) ?_
        refine x_ast (g := upd cop ((2 * si) + 0) (-1)) (ws' := [(v0, .inr (5, [.ref v1, .ref v2, .int (nI n), .int (nI lim), .ref v3, .ref v4, .ref v5, .ref v6, .ref v7, .ref v8, .ref v9, .ref v10, .ref v11, .ref v12, .ref v13, .ref v14, .ref v15, .ref v16, .ref v17, .int (nI 0)])), (v11, .inl (cI, 3, .inl (upd boo si (nI pi)))), (v12, .inl (cI, 3, .inl (upd sta si (nI 1)))), (v13, .inl (cI, 3, .inl (upd slo si (nI n)))), (v14, .inl (cI, 6, .inl (upd cop ((2 * si) + 0) (-1))))]) hx hb hK hP hD hS 4 0 rfl rfl (by omega) (by omega) (rfl) rfl dX5_subscribe_79 (fun H locs hP hD hS => ?_)
        refine x_iinc (k := 0) (o := 1) (v := 1) (lv' := [(4, .int (nI 1)), (3, .int (nI (st si))), (0, .ref v0), (1, .int (nI si)), (2, .int (nI pi))]) hx hb dX5_subscribe_80 hl rfl rfl rfl (by decide) rfl (fun ls hl => ?_)
        refine lv_goto (tgt := 62) hx hb dX5_subscribe_83 (by decide) ?_
        refine lv_iload hx hb dX5_subscribe_62 (lv_at hl 0 rfl) ?_
        refine lv_iconst (v := nI 2) hx hb dX5_subscribe_64 (by decide) ?_
        refine x_cmp_ge (tgt := 86) hx hb (nI_leI (a := 2) (b := 1) (by omega) (by omega)) dX5_subscribe_65 (by decide) (fun c65 => ?_) (fun c65 => ?_)
        · exfalso; omega
        · refine lv_aload_n hx hb dX5_subscribe_68 rfl (lv_at hl 2 rfl) ?_
          refine va_get (D := D) (ci := 5) (v := .ref v14) (C := RX5) (T := TX5) (N := 20) hx hb hts kX5_subscribe_X5 hown hK hP 0 rfl rfl 15 (by decide) (hts _ kX5_subscribe_f53) (fun _ h9 => h9) rfl dX5_subscribe_69 ?_
          refine lv_iconst (v := nI 2) hx hb dX5_subscribe_72 (by decide) ?_
          refine lv_iload_n hx hb dX5_subscribe_73 rfl (lv_at hl 3 rfl) ?_
          refine x_mul (k := 2 * si) hx hb dX5_subscribe_74 rfl ?_
          refine lv_iload hx hb dX5_subscribe_75 (lv_at hl 0 rfl) ?_
          refine x_add (k := (2 * si) + 1) hx hb dX5_subscribe_77 rfl ?_
          refine lv_iconst (v := -1) hx hb dX5_subscribe_78 (by decide) ?_
          refine x_ast (g := upd (upd cop ((2 * si) + 0) (-1)) ((2 * si) + 1) (-1)) (ws' := [(v0, .inr (5, [.ref v1, .ref v2, .int (nI n), .int (nI lim), .ref v3, .ref v4, .ref v5, .ref v6, .ref v7, .ref v8, .ref v9, .ref v10, .ref v11, .ref v12, .ref v13, .ref v14, .ref v15, .ref v16, .ref v17, .int (nI 0)])), (v11, .inl (cI, 3, .inl (upd boo si (nI pi)))), (v12, .inl (cI, 3, .inl (upd sta si (nI 1)))), (v13, .inl (cI, 3, .inl (upd slo si (nI n)))), (v14, .inl (cI, 6, .inl (upd (upd cop ((2 * si) + 0) (-1)) ((2 * si) + 1) (-1))))]) hx hb hK hP hD hS 4 0 rfl rfl (by omega) (by omega) (rfl) rfl dX5_subscribe_79 (fun H locs hP hD hS => ?_)
          refine x_iinc (k := 0) (o := 1) (v := 2) (lv' := [(4, .int (nI 2)), (3, .int (nI (st si))), (0, .ref v0), (1, .int (nI si)), (2, .int (nI pi))]) hx hb dX5_subscribe_80 hl rfl rfl rfl (by decide) rfl (fun ls hl => ?_)
          refine lv_goto (tgt := 62) hx hb dX5_subscribe_83 (by decide) ?_
          refine lv_iload hx hb dX5_subscribe_62 (lv_at hl 0 rfl) ?_
          refine lv_iconst (v := nI 2) hx hb dX5_subscribe_64 (by decide) ?_
          refine x_cmp_ge (tgt := 86) hx hb (nI_leI (a := 2) (b := 2) (by omega) (by omega)) dX5_subscribe_65 (by decide) (fun c65 => ?_) (fun c65 => ?_)
          · refine lv_iload_n hx hb dX5_subscribe_86 rfl (lv_at hl 1 rfl) ?_
            exact x_ret_i hx hb hrt hlk hP hD hS dX5_subscribe_87 ⟨by decide, by decide⟩ ((nI 0), upd boo si (nI pi), upd sta si (nI 1), upd slo si (nI n), upd (upd cop ((2 * si) + 0) (-1)) ((2 * si) + 1) (-1)) (Or.inr ⟨si, pi, rfl, hsi9, rfl, hpi9, rfl, rfl, rfl, rfl, rfl, rfl⟩) rfl
          · exfalso; omega

set_option maxRecDepth 20000 in
theorem kX5_drop_f47 : Cond.fieldLink RX5 47 "RowReplicatorModel" "state" "[I" ∈ wsX5_drop := by decide +kernel
set_option maxRecDepth 20000 in
theorem kX5_drop_X5 : ∀ w ∈ wsX50, w ∈ wsX5_drop := by decide +kernel
set_option maxRecDepth 20000 in
theorem kX5_drop_f53 : Cond.fieldLink RX5 53 "RowReplicatorModel" "copied" "[I" ∈ wsX5_drop := by decide +kernel
set_option maxHeartbeats 4000000 in
set_option maxRecDepth 100000 in
theorem zX5_drop (l : Launch) (D : va_G) (cI cP cS cL : ClassId) (v0 v1 v2 v3 v4 v5 v6 v7 v8 v9 v10 v11 v12 v13 v14 v15 v16 v17 : Nat) (n lim : Nat) (th : Int32) (st : Nat → Nat) (sta cop : Nat → Int32) (sx : Int32) (hsta : ∀ i, i < 3 → sta i = nI (st i)) : xMi l yX5_drop wsX5_drop (rmD 2 0 0) D [(cI, .int), (cP, .object RX0), (cS, .object RX2), (cL, .long)] [.ref v0, .int sx] [(v0, .inr (5, [.ref v1, .ref v2, .int (nI n), .int (nI lim), .ref v3, .ref v4, .ref v5, .ref v6, .ref v7, .ref v8, .ref v9, .ref v10, .ref v11, .ref v12, .ref v13, .ref v14, .ref v15, .ref v16, .ref v17, .int th])), (v12, .inl (cI, 3, .inl sta)), (v14, .inl (cI, 6, .inl cop))] (fun (r : Int32) (u : Int32 × (Nat → Int32) × (Nat → Int32)) => match u with | (h, a2, a4) => ((¬ vp_in sx 3 ∧ h = nI 1 ∧ a2 = sta ∧ a4 = cop) ∨ (∃ si, sx = nI si ∧ si < 3 ∧ h = nI 0 ∧ r = nI (st si) ∧ a2 = upd sta si (nI 0) ∧ a4 = upd (upd cop (2 * si + 0) (-1)) (2 * si + 1) (-1)))) (fun (u : Int32 × (Nat → Int32) × (Nat → Int32)) => match u with | (h, a2, a4) => [(v0, .inr (5, [.ref v1, .ref v2, .int (nI n), .int (nI lim), .ref v3, .ref v4, .ref v5, .ref v6, .ref v7, .ref v8, .ref v9, .ref v10, .ref v11, .ref v12, .ref v13, .ref v14, .ref v15, .ref v16, .ref v17, .int h])), (v12, .inl (cI, 3, .inl a2)), (v14, .inl (cI, 6, .inl a4))]) 0 0 := by
  refine xe_i (cc := cX5_drop) (maxL := 4) (ret := (some .int)) (by decide) rfl (Nat.le_of_ble_eq_true rfl) ?_
  intro zp ze s zm below meth zc A ls B
  obtain ⟨hx, hb, hml, hrt, hts, hown, hnm, hlk, hK, hP, hD, hA, hS, hN, hl⟩ := B
  have hown : s.vm.findClass RX5 = some zm.cls := hown
  have hl : lv_has ls 4 [(0, .ref v0), (1, .int sx)] := hl
  have hA : ∀ q, s.heap.size ≤ q → A q := hA
  refine lv_aload_n hx hb dX5_drop_0 rfl (lv_at hl 0 rfl) ?_
  refine lv_iload_n hx hb dX5_drop_1 rfl (lv_at hl 1 rfl) ?_
  refine x_calli (w2 := fun (u : Unit) => [(v0, .inr (5, [.ref v1, .ref v2, .int (nI n), .int (nI lim), .ref v3, .ref v4, .ref v5, .ref v6, .ref v7, .ref v8, .ref v9, .ref v10, .ref v11, .ref v12, .ref v13, .ref v14, .ref v15, .ref v16, .ref v17, .int th])), (v12, .inl (cI, 3, .inl sta)), (v14, .inl (cI, 6, .inl cop))]) (wr := [(v0, .inr (5, [.ref v1, .ref v2, .int (nI n), .int (nI lim), .ref v3, .ref v4, .ref v5, .ref v6, .ref v7, .ref v8, .ref v9, .ref v10, .ref v11, .ref v12, .ref v13, .ref v14, .ref v15, .ref v16, .ref v17, .int th])), (v12, .inl (cI, 3, .inl sta)), (v14, .inl (cI, 6, .inl cop))]) (x_runS (n := 1) ⟨hx, hb, hml, hown, hts⟩ (zX5_isThird l D cI cP cS cL sx) gX5_drop_X5_isThird rfl rfl rfl (by decide +kernel) ⟨by decide, by decide⟩ hN hK hP hD [] rfl rfl rfl hl.1 (rest := [.ref v0]) (As := [.int sx]) rfl (Nat.le_of_ble_eq_true rfl) dX5_drop_2 ⟨by decide, by decide⟩) hP hD hS hA [] [0, 1, 2] [0, 1, 2] rfl rfl rfl (by decide) rfl (fun _ => rfl) (fun r2 u H locs hw hP hD hS => ?_)
  subst hw
  refine x_if_eq (tgt := 12) hx hb (bI_0 _) dX5_drop_5 (by decide) (fun c5 => ?_) (fun c5 => ?_)
  · refine lv_iconst (v := nI 1) hx hb dX5_drop_12 (by decide) ?_
    refine x_calli (w2 := fun (u : Unit) => [(v0, .inr (5, [.ref v1, .ref v2, .int (nI n), .int (nI lim), .ref v3, .ref v4, .ref v5, .ref v6, .ref v7, .ref v8, .ref v9, .ref v10, .ref v11, .ref v12, .ref v13, .ref v14, .ref v15, .ref v16, .ref v17, .int (nI 1)])), (v12, .inl (cI, 3, .inl sta)), (v14, .inl (cI, 6, .inl cop))]) (wr := [(v12, .inl (cI, 3, .inl sta)), (v14, .inl (cI, 6, .inl cop))]) (x_runV (n := 1) ⟨hx, hb, hml, hown, hts⟩ (zX5_fails l D cI cP cS cL v0 v1 v2 v3 v4 v5 v6 v7 v8 v9 v10 v11 v12 v13 v14 v15 v16 v17 n lim (th) 1 (by decide)) gX5_drop_X5_fails rfl rfl rfl (by decide +kernel) ⟨by decide, by decide⟩ hN hK hP hD [0] rfl rfl (ci := 5) (q0 := 0) rfl rfl rfl rfl hl.1 (rest := []) (As := [.int (nI 1)]) rfl (Nat.le_of_ble_eq_true rfl) dX5_drop_13 ⟨by decide, by decide⟩) hP hD hS hA [0] [1, 2] [2, 0, 1] rfl rfl rfl (by decide) rfl (fun _ => rfl) (fun r13 u H locs hw hP hD hS => ?_)
    replace hw : r13 = nI 1 := hw.trans (by decide)
    subst hw
    refine x_if_eq (tgt := 21) hx hb (nI_z (by omega)) dX5_drop_16 (by decide) (fun c16 => ?_) (fun c16 => ?_)
    · exact absurd c16 (by omega)
    refine lv_iconst (v := nI 0) hx hb dX5_drop_19 (by decide) ?_
    exact x_ret_i hx hb hrt hlk hP hD hS dX5_drop_20 ⟨by decide, by decide⟩ ((nI 1), sta, cop) (Or.inl ⟨qIn_n c5, rfl, rfl, rfl⟩) rfl
  · obtain ⟨si, hsi9, esi⟩ := vp_in_of (qIn_y c5) (by decide)
    subst esi
    refine lv_iconst (v := nI 0) hx hb dX5_drop_8 (by decide) ?_
    refine lv_goto (tgt := 13) hx hb dX5_drop_9 (by decide) ?_
    refine x_calli (w2 := fun (u : Unit) => [(v0, .inr (5, [.ref v1, .ref v2, .int (nI n), .int (nI lim), .ref v3, .ref v4, .ref v5, .ref v6, .ref v7, .ref v8, .ref v9, .ref v10, .ref v11, .ref v12, .ref v13, .ref v14, .ref v15, .ref v16, .ref v17, .int (nI 0)])), (v12, .inl (cI, 3, .inl sta)), (v14, .inl (cI, 6, .inl cop))]) (wr := [(v12, .inl (cI, 3, .inl sta)), (v14, .inl (cI, 6, .inl cop))]) (x_runV (n := 1) ⟨hx, hb, hml, hown, hts⟩ (zX5_fails l D cI cP cS cL v0 v1 v2 v3 v4 v5 v6 v7 v8 v9 v10 v11 v12 v13 v14 v15 v16 v17 n lim (th) 0 (by decide)) gX5_drop_X5_fails rfl rfl rfl (by decide +kernel) ⟨by decide, by decide⟩ hN hK hP hD [0] rfl rfl (ci := 5) (q0 := 0) rfl rfl rfl rfl hl.1 (rest := []) (As := [.int (nI 0)]) rfl (Nat.le_of_ble_eq_true rfl) dX5_drop_13 ⟨by decide, by decide⟩) hP hD hS hA [0] [1, 2] [2, 0, 1] rfl rfl rfl (by decide) rfl (fun _ => rfl) (fun r13 u H locs hw hP hD hS => ?_)
    replace hw : r13 = nI 0 := hw.trans (by decide)
    subst hw
    refine x_if_eq (tgt := 21) hx hb (nI_z (by omega)) dX5_drop_16 (by decide) (fun c16 => ?_) (fun c16 => ?_)
    rotate_left
    · exact absurd c16 (by omega)
    refine lv_aload_n hx hb dX5_drop_21 rfl (lv_at hl 0 rfl) ?_
    refine va_get (D := D) (ci := 5) (v := .ref v12) (C := RX5) (T := TX5) (N := 20) hx hb hts kX5_drop_X5 hown hK hP 0 rfl rfl 13 (by decide) (hts _ kX5_drop_f47) (fun _ h9 => h9) rfl dX5_drop_22 ?_
    refine lv_iload_n hx hb dX5_drop_25 rfl (lv_at hl 1 rfl) ?_
    refine x_ald (v := nI (st si)) hx hb hK hP 1 0 rfl rfl (by omega) (by omega) (hsta _ (by omega)) dX5_drop_26 ?_
    refine lv_istore_n (lv' := [(2, .int (nI (st si))), (0, .ref v0), (1, .int (nI si))]) hx hb dX5_drop_27 rfl hl (by decide) rfl (fun ls hl => ?_)
    refine lv_aload_n hx hb dX5_drop_28 rfl (lv_at hl 1 rfl) ?_
    refine va_get (D := D) (ci := 5) (v := .ref v12) (C := RX5) (T := TX5) (N := 20) hx hb hts kX5_drop_X5 hown hK hP 0 rfl rfl 13 (by decide) (hts _ kX5_drop_f47) (fun _ h9 => h9) rfl dX5_drop_29 ?_
    refine lv_iload_n hx hb dX5_drop_32 rfl (lv_at hl 2 rfl) ?_
    refine lv_iconst (v := nI 0) hx hb dX5_drop_33 (by decide) ?_
    refine x_ast (g := upd sta si (nI 0)) (ws' := [(v0, .inr (5, [.ref v1, .ref v2, .int (nI n), .int (nI lim), .ref v3, .ref v4, .ref v5, .ref v6, .ref v7, .ref v8, .ref v9, .ref v10, .ref v11, .ref v12, .ref v13, .ref v14, .ref v15, .ref v16, .ref v17, .int (nI 0)])), (v12, .inl (cI, 3, .inl (upd sta si (nI 0)))), (v14, .inl (cI, 6, .inl cop))]) hx hb hK hP hD hS 1 0 rfl rfl (by omega) (by omega) (rfl) rfl dX5_drop_34 (fun H locs hP hD hS => ?_)
    refine lv_iconst (v := nI 0) hx hb dX5_drop_35 (by decide) ?_
    refine lv_istore_n (lv' := [(3, .int (nI 0)), (2, .int (nI (st si))), (0, .ref v0), (1, .int (nI si))]) hx hb dX5_drop_36 rfl hl (by decide) rfl (fun ls hl => ?_)
    refine lv_iload_n hx hb dX5_drop_37 rfl (lv_at hl 0 rfl) ?_
    refine lv_iconst (v := nI 2) hx hb dX5_drop_38 (by decide) ?_
    refine x_cmp_ge (tgt := 59) hx hb (nI_leI (a := 2) (b := 0) (by omega) (by omega)) dX5_drop_39 (by decide) (fun c39 => ?_) (fun c39 => ?_)
    · exfalso; omega
    · refine lv_aload_n hx hb dX5_drop_42 rfl (lv_at hl 2 rfl) ?_
      refine va_get (D := D) (ci := 5) (v := .ref v14) (C := RX5) (T := TX5) (N := 20) hx hb hts kX5_drop_X5 hown hK hP 0 rfl rfl 15 (by decide) (hts _ kX5_drop_f53) (fun _ h9 => h9) rfl dX5_drop_43 ?_
      refine lv_iconst (v := nI 2) hx hb dX5_drop_46 (by decide) ?_
      refine lv_iload_n hx hb dX5_drop_47 rfl (lv_at hl 3 rfl) ?_
      refine x_mul (k := 2 * si) hx hb dX5_drop_48 rfl ?_
      refine lv_iload_n hx hb dX5_drop_49 rfl (lv_at hl 0 rfl) ?_
      refine x_add (k := (2 * si) + 0) hx hb dX5_drop_50 rfl ?_
      refine lv_iconst (v := -1) hx hb dX5_drop_51 (by decide) ?_
      refine x_ast (g := upd cop ((2 * si) + 0) (-1)) (ws' := [(v0, .inr (5, [.ref v1, .ref v2, .int (nI n), .int (nI lim), .ref v3, .ref v4, .ref v5, .ref v6, .ref v7, .ref v8, .ref v9, .ref v10, .ref v11, .ref v12, .ref v13, .ref v14, .ref v15, .ref v16, .ref v17, .int (nI 0)])), (v12, .inl (cI, 3, .inl (upd sta si (nI 0)))), (v14, .inl (cI, 6, .inl (upd cop ((2 * si) + 0) (-1))))]) hx hb hK hP hD hS 2 0 rfl rfl (by omega) (by omega) (rfl) rfl dX5_drop_52 (fun H locs hP hD hS => ?_)
      refine x_iinc (k := 0) (o := 1) (v := 1) (lv' := [(3, .int (nI 1)), (2, .int (nI (st si))), (0, .ref v0), (1, .int (nI si))]) hx hb dX5_drop_53 hl rfl rfl rfl (by decide) rfl (fun ls hl => ?_)
      refine lv_goto (tgt := 37) hx hb dX5_drop_56 (by decide) ?_
      refine lv_iload_n hx hb dX5_drop_37 rfl (lv_at hl 0 rfl) ?_
      refine lv_iconst (v := nI 2) hx hb dX5_drop_38 (by decide) ?_
      refine x_cmp_ge (tgt := 59) hx hb (nI_leI (a := 2) (b := 1) (by omega) (by omega)) dX5_drop_39 (by decide) (fun c39 => ?_) (fun c39 => ?_)
      · exfalso; omega
      · refine lv_aload_n hx hb dX5_drop_42 rfl (lv_at hl 2 rfl) ?_
        refine va_get (D := D) (ci := 5) (v := .ref v14) (C := RX5) (T := TX5) (N := 20) hx hb hts kX5_drop_X5 hown hK hP 0 rfl rfl 15 (by decide) (hts _ kX5_drop_f53) (fun _ h9 => h9) rfl dX5_drop_43 ?_
        refine lv_iconst (v := nI 2) hx hb dX5_drop_46 (by decide) ?_
        refine lv_iload_n hx hb dX5_drop_47 rfl (lv_at hl 3 rfl) ?_
        refine x_mul (k := 2 * si) hx hb dX5_drop_48 rfl ?_
        refine lv_iload_n hx hb dX5_drop_49 rfl (lv_at hl 0 rfl) ?_
        refine x_add (k := (2 * si) + 1) hx hb dX5_drop_50 rfl ?_
        refine lv_iconst (v := -1) hx hb dX5_drop_51 (by decide) ?_
        refine x_ast (g := upd (upd cop ((2 * si) + 0) (-1)) ((2 * si) + 1) (-1)) (ws' := [(v0, .inr (5, [.ref v1, .ref v2, .int (nI n), .int (nI lim), .ref v3, .ref v4, .ref v5, .ref v6, .ref v7, .ref v8, .ref v9, .ref v10, .ref v11, .ref v12, .ref v13, .ref v14, .ref v15, .ref v16, .ref v17, .int (nI 0)])), (v12, .inl (cI, 3, .inl (upd sta si (nI 0)))), (v14, .inl (cI, 6, .inl (upd (upd cop ((2 * si) + 0) (-1)) ((2 * si) + 1) (-1))))]) hx hb hK hP hD hS 2 0 rfl rfl (by omega) (by omega) (rfl) rfl dX5_drop_52 (fun H locs hP hD hS => ?_)
        refine x_iinc (k := 0) (o := 1) (v := 2) (lv' := [(3, .int (nI 2)), (2, .int (nI (st si))), (0, .ref v0), (1, .int (nI si))]) hx hb dX5_drop_53 hl rfl rfl rfl (by decide) rfl (fun ls hl => ?_)
        refine lv_goto (tgt := 37) hx hb dX5_drop_56 (by decide) ?_
        refine lv_iload_n hx hb dX5_drop_37 rfl (lv_at hl 0 rfl) ?_
        refine lv_iconst (v := nI 2) hx hb dX5_drop_38 (by decide) ?_
        refine x_cmp_ge (tgt := 59) hx hb (nI_leI (a := 2) (b := 2) (by omega) (by omega)) dX5_drop_39 (by decide) (fun c39 => ?_) (fun c39 => ?_)
        · refine lv_iload_n hx hb dX5_drop_59 rfl (lv_at hl 1 rfl) ?_
          exact x_ret_i hx hb hrt hlk hP hD hS dX5_drop_60 ⟨by decide, by decide⟩ ((nI 0), upd sta si (nI 0), upd (upd cop ((2 * si) + 0) (-1)) ((2 * si) + 1) (-1)) (Or.inr ⟨si, rfl, hsi9, rfl, rfl, rfl, rfl⟩) rfl
        · exfalso; omega

set_option maxRecDepth 20000 in
theorem kX5_state_f47 : Cond.fieldLink RX5 47 "RowReplicatorModel" "state" "[I" ∈ wsX5_state := by decide +kernel
set_option maxRecDepth 20000 in
theorem kX5_state_X5 : ∀ w ∈ wsX50, w ∈ wsX5_state := by decide +kernel
set_option maxHeartbeats 4000000 in
set_option maxRecDepth 100000 in
theorem zX5_state (l : Launch) (D : va_G) (cI cP cS cL : ClassId) (v0 v1 v2 v3 v4 v5 v6 v7 v8 v9 v10 v11 v12 v13 v14 v15 v16 v17 : Nat) (n lim : Nat) (th : Int32) (st : Nat → Nat) (sta : Nat → Int32) (sx : Int32) (hsta : ∀ i, i < 3 → sta i = nI (st i)) : xMi l yX5_state wsX5_state (rmD 2 0 0) D [(cI, .int), (cP, .object RX0), (cS, .object RX2), (cL, .long)] [.ref v0, .int sx] [(v0, .inr (5, [.ref v1, .ref v2, .int (nI n), .int (nI lim), .ref v3, .ref v4, .ref v5, .ref v6, .ref v7, .ref v8, .ref v9, .ref v10, .ref v11, .ref v12, .ref v13, .ref v14, .ref v15, .ref v16, .ref v17, .int th])), (v12, .inl (cI, 3, .inl sta))] (fun (r : Int32) (u : Int32) => match u with | h => ((¬ vp_in sx 3 ∧ h = nI 1) ∨ (∃ si, sx = nI si ∧ si < 3 ∧ h = nI 0 ∧ r = nI (st si)))) (fun (u : Int32) => match u with | h => [(v0, .inr (5, [.ref v1, .ref v2, .int (nI n), .int (nI lim), .ref v3, .ref v4, .ref v5, .ref v6, .ref v7, .ref v8, .ref v9, .ref v10, .ref v11, .ref v12, .ref v13, .ref v14, .ref v15, .ref v16, .ref v17, .int h])), (v12, .inl (cI, 3, .inl sta))]) 0 0 := by
  refine xe_i (cc := cX5_state) (maxL := 2) (ret := (some .int)) (by decide) rfl (Nat.le_of_ble_eq_true rfl) ?_
  intro zp ze s zm below meth zc A ls B
  obtain ⟨hx, hb, hml, hrt, hts, hown, hnm, hlk, hK, hP, hD, hA, hS, hN, hl⟩ := B
  have hown : s.vm.findClass RX5 = some zm.cls := hown
  have hl : lv_has ls 2 [(0, .ref v0), (1, .int sx)] := hl
  have hA : ∀ q, s.heap.size ≤ q → A q := hA
  refine lv_aload_n hx hb dX5_state_0 rfl (lv_at hl 0 rfl) ?_
  refine lv_iload_n hx hb dX5_state_1 rfl (lv_at hl 1 rfl) ?_
  refine x_calli (w2 := fun (u : Unit) => [(v0, .inr (5, [.ref v1, .ref v2, .int (nI n), .int (nI lim), .ref v3, .ref v4, .ref v5, .ref v6, .ref v7, .ref v8, .ref v9, .ref v10, .ref v11, .ref v12, .ref v13, .ref v14, .ref v15, .ref v16, .ref v17, .int th])), (v12, .inl (cI, 3, .inl sta))]) (wr := [(v0, .inr (5, [.ref v1, .ref v2, .int (nI n), .int (nI lim), .ref v3, .ref v4, .ref v5, .ref v6, .ref v7, .ref v8, .ref v9, .ref v10, .ref v11, .ref v12, .ref v13, .ref v14, .ref v15, .ref v16, .ref v17, .int th])), (v12, .inl (cI, 3, .inl sta))]) (x_runS (n := 1) ⟨hx, hb, hml, hown, hts⟩ (zX5_isThird l D cI cP cS cL sx) gX5_state_X5_isThird rfl rfl rfl (by decide +kernel) ⟨by decide, by decide⟩ hN hK hP hD [] rfl rfl rfl hl.1 (rest := [.ref v0]) (As := [.int sx]) rfl (Nat.le_of_ble_eq_true rfl) dX5_state_2 ⟨by decide, by decide⟩) hP hD hS hA [] [0, 1] [0, 1] rfl rfl rfl (by decide) rfl (fun _ => rfl) (fun r2 u H locs hw hP hD hS => ?_)
  subst hw
  refine x_if_eq (tgt := 12) hx hb (bI_0 _) dX5_state_5 (by decide) (fun c5 => ?_) (fun c5 => ?_)
  · refine lv_iconst (v := nI 1) hx hb dX5_state_12 (by decide) ?_
    refine x_calli (w2 := fun (u : Unit) => [(v0, .inr (5, [.ref v1, .ref v2, .int (nI n), .int (nI lim), .ref v3, .ref v4, .ref v5, .ref v6, .ref v7, .ref v8, .ref v9, .ref v10, .ref v11, .ref v12, .ref v13, .ref v14, .ref v15, .ref v16, .ref v17, .int (nI 1)])), (v12, .inl (cI, 3, .inl sta))]) (wr := [(v12, .inl (cI, 3, .inl sta))]) (x_runV (n := 1) ⟨hx, hb, hml, hown, hts⟩ (zX5_fails l D cI cP cS cL v0 v1 v2 v3 v4 v5 v6 v7 v8 v9 v10 v11 v12 v13 v14 v15 v16 v17 n lim (th) 1 (by decide)) gX5_state_X5_fails rfl rfl rfl (by decide +kernel) ⟨by decide, by decide⟩ hN hK hP hD [0] rfl rfl (ci := 5) (q0 := 0) rfl rfl rfl rfl hl.1 (rest := []) (As := [.int (nI 1)]) rfl (Nat.le_of_ble_eq_true rfl) dX5_state_13 ⟨by decide, by decide⟩) hP hD hS hA [0] [1] [1, 0] rfl rfl rfl (by decide) rfl (fun _ => rfl) (fun r13 u H locs hw hP hD hS => ?_)
    replace hw : r13 = nI 1 := hw.trans (by decide)
    subst hw
    refine x_if_eq (tgt := 23) hx hb (nI_z (by omega)) dX5_state_16 (by decide) (fun c16 => ?_) (fun c16 => ?_)
    · exact absurd c16 (by omega)
    refine lv_iconst (v := nI 0) hx hb dX5_state_19 (by decide) ?_
    refine lv_goto (tgt := 29) hx hb dX5_state_20 (by decide) ?_
    exact x_ret_i hx hb hrt hlk hP hD hS dX5_state_29 ⟨by decide, by decide⟩ (nI 1) (Or.inl ⟨qIn_n c5, rfl⟩) rfl
  · obtain ⟨si, hsi9, esi⟩ := vp_in_of (qIn_y c5) (by decide)
    subst esi
    refine lv_iconst (v := nI 0) hx hb dX5_state_8 (by decide) ?_
    refine lv_goto (tgt := 13) hx hb dX5_state_9 (by decide) ?_
    refine x_calli (w2 := fun (u : Unit) => [(v0, .inr (5, [.ref v1, .ref v2, .int (nI n), .int (nI lim), .ref v3, .ref v4, .ref v5, .ref v6, .ref v7, .ref v8, .ref v9, .ref v10, .ref v11, .ref v12, .ref v13, .ref v14, .ref v15, .ref v16, .ref v17, .int (nI 0)])), (v12, .inl (cI, 3, .inl sta))]) (wr := [(v12, .inl (cI, 3, .inl sta))]) (x_runV (n := 1) ⟨hx, hb, hml, hown, hts⟩ (zX5_fails l D cI cP cS cL v0 v1 v2 v3 v4 v5 v6 v7 v8 v9 v10 v11 v12 v13 v14 v15 v16 v17 n lim (th) 0 (by decide)) gX5_state_X5_fails rfl rfl rfl (by decide +kernel) ⟨by decide, by decide⟩ hN hK hP hD [0] rfl rfl (ci := 5) (q0 := 0) rfl rfl rfl rfl hl.1 (rest := []) (As := [.int (nI 0)]) rfl (Nat.le_of_ble_eq_true rfl) dX5_state_13 ⟨by decide, by decide⟩) hP hD hS hA [0] [1] [1, 0] rfl rfl rfl (by decide) rfl (fun _ => rfl) (fun r13 u H locs hw hP hD hS => ?_)
    replace hw : r13 = nI 0 := hw.trans (by decide)
    subst hw
    refine x_if_eq (tgt := 23) hx hb (nI_z (by omega)) dX5_state_16 (by decide) (fun c16 => ?_) (fun c16 => ?_)
    rotate_left
    · exact absurd c16 (by omega)
    refine lv_aload_n hx hb dX5_state_23 rfl (lv_at hl 0 rfl) ?_
    refine va_get (D := D) (ci := 5) (v := .ref v12) (C := RX5) (T := TX5) (N := 20) hx hb hts kX5_state_X5 hown hK hP 0 rfl rfl 13 (by decide) (hts _ kX5_state_f47) (fun _ h9 => h9) rfl dX5_state_24 ?_
    refine lv_iload_n hx hb dX5_state_27 rfl (lv_at hl 1 rfl) ?_
    refine x_ald (v := nI (st si)) hx hb hK hP 1 0 rfl rfl (by omega) (by omega) (hsta _ (by omega)) dX5_state_28 ?_
    exact x_ret_i hx hb hrt hlk hP hD hS dX5_state_29 ⟨by decide, by decide⟩ (nI 0) (Or.inr ⟨si, rfl, hsi9, rfl, rfl⟩) rfl

set_option maxRecDepth 20000 in
theorem kX5_lag_f47 : Cond.fieldLink RX5 47 "RowReplicatorModel" "state" "[I" ∈ wsX5_lag := by decide +kernel
set_option maxRecDepth 20000 in
theorem kX5_lag_X5 : ∀ w ∈ wsX50, w ∈ wsX5_lag := by decide +kernel
set_option maxRecDepth 20000 in
theorem kX5_lag_f76 : Cond.fieldLink RX5 76 "RowReplicatorModel" "commits" "I" ∈ wsX5_lag := by decide +kernel
set_option maxRecDepth 20000 in
theorem kX5_lag_f50 : Cond.fieldLink RX5 50 "RowReplicatorModel" "slot" "[I" ∈ wsX5_lag := by decide +kernel
set_option maxHeartbeats 4000000 in
set_option maxRecDepth 100000 in
theorem zX5_lag (l : Launch) (D : va_G) (cI cP cS cL : ClassId) (v0 v1 v2 v3 v4 v5 v6 v7 v8 v9 v10 v11 v12 v13 v14 v15 v16 v17 : Nat) (n lim : Nat) (th : Int32) (st sl : Nat → Nat) (sta slo : Nat → Int32) (sx : Int32) (hsta : ∀ i, i < 3 → sta i = nI (st i)) (hst3 : ∀ i, i < 3 → st i ≤ 3) (hslo : ∀ i, i < 3 → slo i = nI (sl i)) (hsl : ∀ i, i < 3 → sl i ≤ n) (hn9 : n ≤ 50) : xMi l yX5_lag wsX5_lag (rmD 2 0 0) D [(cI, .int), (cP, .object RX0), (cS, .object RX2), (cL, .long)] [.ref v0, .int sx] [(v0, .inr (5, [.ref v1, .ref v2, .int (nI n), .int (nI lim), .ref v3, .ref v4, .ref v5, .ref v6, .ref v7, .ref v8, .ref v9, .ref v10, .ref v11, .ref v12, .ref v13, .ref v14, .ref v15, .ref v16, .ref v17, .int th])), (v12, .inl (cI, 3, .inl sta)), (v13, .inl (cI, 3, .inl slo))] (fun (r : Int32) (u : Int32) => match u with | h => ((¬ vp_in sx 3 ∧ h = nI 1) ∨ (∃ si, sx = nI si ∧ si < 3 ∧ h = nI 0 ∧ r = nI (qLag (st si) (sl si) n)))) (fun (u : Int32) => match u with | h => [(v0, .inr (5, [.ref v1, .ref v2, .int (nI n), .int (nI lim), .ref v3, .ref v4, .ref v5, .ref v6, .ref v7, .ref v8, .ref v9, .ref v10, .ref v11, .ref v12, .ref v13, .ref v14, .ref v15, .ref v16, .ref v17, .int h])), (v12, .inl (cI, 3, .inl sta)), (v13, .inl (cI, 3, .inl slo))]) 0 0 := by
  refine xe_i (cc := cX5_lag) (maxL := 2) (ret := (some .int)) (by decide) rfl (Nat.le_of_ble_eq_true rfl) ?_
  intro zp ze s zm below meth zc A ls B
  obtain ⟨hx, hb, hml, hrt, hts, hown, hnm, hlk, hK, hP, hD, hA, hS, hN, hl⟩ := B
  have hown : s.vm.findClass RX5 = some zm.cls := hown
  have hl : lv_has ls 2 [(0, .ref v0), (1, .int sx)] := hl
  have hA : ∀ q, s.heap.size ≤ q → A q := hA
  refine lv_aload_n hx hb dX5_lag_0 rfl (lv_at hl 0 rfl) ?_
  refine lv_iload_n hx hb dX5_lag_1 rfl (lv_at hl 1 rfl) ?_
  refine x_calli (w2 := fun (u : Unit) => [(v0, .inr (5, [.ref v1, .ref v2, .int (nI n), .int (nI lim), .ref v3, .ref v4, .ref v5, .ref v6, .ref v7, .ref v8, .ref v9, .ref v10, .ref v11, .ref v12, .ref v13, .ref v14, .ref v15, .ref v16, .ref v17, .int th])), (v12, .inl (cI, 3, .inl sta)), (v13, .inl (cI, 3, .inl slo))]) (wr := [(v0, .inr (5, [.ref v1, .ref v2, .int (nI n), .int (nI lim), .ref v3, .ref v4, .ref v5, .ref v6, .ref v7, .ref v8, .ref v9, .ref v10, .ref v11, .ref v12, .ref v13, .ref v14, .ref v15, .ref v16, .ref v17, .int th])), (v12, .inl (cI, 3, .inl sta)), (v13, .inl (cI, 3, .inl slo))]) (x_runS (n := 1) ⟨hx, hb, hml, hown, hts⟩ (zX5_isThird l D cI cP cS cL sx) gX5_lag_X5_isThird rfl rfl rfl (by decide +kernel) ⟨by decide, by decide⟩ hN hK hP hD [] rfl rfl rfl hl.1 (rest := [.ref v0]) (As := [.int sx]) rfl (Nat.le_of_ble_eq_true rfl) dX5_lag_2 ⟨by decide, by decide⟩) hP hD hS hA [] [0, 1, 2] [0, 1, 2] rfl rfl rfl (by decide) rfl (fun _ => rfl) (fun r2 u H locs hw hP hD hS => ?_)
  subst hw
  refine x_if_eq (tgt := 12) hx hb (bI_0 _) dX5_lag_5 (by decide) (fun c5 => ?_) (fun c5 => ?_)
  · refine lv_iconst (v := nI 1) hx hb dX5_lag_12 (by decide) ?_
    refine x_calli (w2 := fun (u : Unit) => [(v0, .inr (5, [.ref v1, .ref v2, .int (nI n), .int (nI lim), .ref v3, .ref v4, .ref v5, .ref v6, .ref v7, .ref v8, .ref v9, .ref v10, .ref v11, .ref v12, .ref v13, .ref v14, .ref v15, .ref v16, .ref v17, .int (nI 1)])), (v12, .inl (cI, 3, .inl sta)), (v13, .inl (cI, 3, .inl slo))]) (wr := [(v12, .inl (cI, 3, .inl sta)), (v13, .inl (cI, 3, .inl slo))]) (x_runV (n := 1) ⟨hx, hb, hml, hown, hts⟩ (zX5_fails l D cI cP cS cL v0 v1 v2 v3 v4 v5 v6 v7 v8 v9 v10 v11 v12 v13 v14 v15 v16 v17 n lim (th) 1 (by decide)) gX5_lag_X5_fails rfl rfl rfl (by decide +kernel) ⟨by decide, by decide⟩ hN hK hP hD [0] rfl rfl (ci := 5) (q0 := 0) rfl rfl rfl rfl hl.1 (rest := []) (As := [.int (nI 1)]) rfl (Nat.le_of_ble_eq_true rfl) dX5_lag_13 ⟨by decide, by decide⟩) hP hD hS hA [0] [1, 2] [2, 0, 1] rfl rfl rfl (by decide) rfl (fun _ => rfl) (fun r13 u H locs hw hP hD hS => ?_)
    replace hw : r13 = nI 1 := hw.trans (by decide)
    subst hw
    refine x_if_eq (tgt := 23) hx hb (nI_z (by omega)) dX5_lag_16 (by decide) (fun c16 => ?_) (fun c16 => ?_)
    · exact absurd c16 (by omega)
    refine lv_iconst (v := nI 0) hx hb dX5_lag_19 (by decide) ?_
    refine lv_goto (tgt := 52) hx hb dX5_lag_20 (by decide) ?_
    exact x_ret_i hx hb hrt hlk hP hD hS dX5_lag_52 ⟨by decide, by decide⟩ (nI 1) (Or.inl ⟨qIn_n c5, rfl⟩) rfl
  · obtain ⟨si, hsi9, esi⟩ := vp_in_of (qIn_y c5) (by decide)
    subst esi
    have hk3 := hst3 si hsi9
    have hk4 := hsl si hsi9
    refine lv_iconst (v := nI 0) hx hb dX5_lag_8 (by decide) ?_
    refine lv_goto (tgt := 13) hx hb dX5_lag_9 (by decide) ?_
    refine x_calli (w2 := fun (u : Unit) => [(v0, .inr (5, [.ref v1, .ref v2, .int (nI n), .int (nI lim), .ref v3, .ref v4, .ref v5, .ref v6, .ref v7, .ref v8, .ref v9, .ref v10, .ref v11, .ref v12, .ref v13, .ref v14, .ref v15, .ref v16, .ref v17, .int (nI 0)])), (v12, .inl (cI, 3, .inl sta)), (v13, .inl (cI, 3, .inl slo))]) (wr := [(v12, .inl (cI, 3, .inl sta)), (v13, .inl (cI, 3, .inl slo))]) (x_runV (n := 1) ⟨hx, hb, hml, hown, hts⟩ (zX5_fails l D cI cP cS cL v0 v1 v2 v3 v4 v5 v6 v7 v8 v9 v10 v11 v12 v13 v14 v15 v16 v17 n lim (th) 0 (by decide)) gX5_lag_X5_fails rfl rfl rfl (by decide +kernel) ⟨by decide, by decide⟩ hN hK hP hD [0] rfl rfl (ci := 5) (q0 := 0) rfl rfl rfl rfl hl.1 (rest := []) (As := [.int (nI 0)]) rfl (Nat.le_of_ble_eq_true rfl) dX5_lag_13 ⟨by decide, by decide⟩) hP hD hS hA [0] [1, 2] [2, 0, 1] rfl rfl rfl (by decide) rfl (fun _ => rfl) (fun r13 u H locs hw hP hD hS => ?_)
    replace hw : r13 = nI 0 := hw.trans (by decide)
    subst hw
    refine x_if_eq (tgt := 23) hx hb (nI_z (by omega)) dX5_lag_16 (by decide) (fun c16 => ?_) (fun c16 => ?_)
    rotate_left
    · exact absurd c16 (by omega)
    refine lv_aload_n hx hb dX5_lag_23 rfl (lv_at hl 0 rfl) ?_
    refine va_get (D := D) (ci := 5) (v := .ref v12) (C := RX5) (T := TX5) (N := 20) hx hb hts kX5_lag_X5 hown hK hP 0 rfl rfl 13 (by decide) (hts _ kX5_lag_f47) (fun _ h9 => h9) rfl dX5_lag_24 ?_
    refine lv_iload_n hx hb dX5_lag_27 rfl (lv_at hl 1 rfl) ?_
    refine x_ald (v := nI (st si)) hx hb hK hP 1 0 rfl rfl (by omega) (by omega) (hsta _ (by omega)) dX5_lag_28 ?_
    refine lv_iconst (v := nI 1) hx hb dX5_lag_29 (by decide) ?_
    refine lv_iconst (v := nI 2) hx hb dX5_lag_30 (by decide) ?_
    refine x_calli (w2 := fun (u : Unit) => [(v0, .inr (5, [.ref v1, .ref v2, .int (nI n), .int (nI lim), .ref v3, .ref v4, .ref v5, .ref v6, .ref v7, .ref v8, .ref v9, .ref v10, .ref v11, .ref v12, .ref v13, .ref v14, .ref v15, .ref v16, .ref v17, .int (nI 0)])), (v12, .inl (cI, 3, .inl sta)), (v13, .inl (cI, 3, .inl slo))]) (wr := [(v0, .inr (5, [.ref v1, .ref v2, .int (nI n), .int (nI lim), .ref v3, .ref v4, .ref v5, .ref v6, .ref v7, .ref v8, .ref v9, .ref v10, .ref v11, .ref v12, .ref v13, .ref v14, .ref v15, .ref v16, .ref v17, .int (nI 0)])), (v12, .inl (cI, 3, .inl sta)), (v13, .inl (cI, 3, .inl slo))]) (x_runS (n := 3) ⟨hx, hb, hml, hown, hts⟩ (zX5_isIn l D cI cP cS cL (nI (st si)) (nI 1) (nI 2)) gX5_lag_X5_isIn rfl rfl rfl (by decide +kernel) ⟨by decide, by decide⟩ hN hK hP hD [] rfl rfl rfl hl.1 (rest := []) (As := [.int (nI (st si)), .int (nI 1), .int (nI 2)]) rfl (Nat.le_of_ble_eq_true rfl) dX5_lag_31 ⟨by decide, by decide⟩) hP hD hS hA [] [0, 1, 2] [0, 1, 2] rfl rfl rfl (by decide) rfl (fun _ => rfl) (fun r31 u H locs hw hP hD hS => ?_)
    rw [m12 (by omega)] at hw
    subst hw
    refine x_if_eq (tgt := 51) hx hb (bI_0 _) dX5_lag_34 (by decide) (fun c34 => ?_) (fun c34 => ?_)
    · refine lv_iconst (v := nI 0) hx hb dX5_lag_51 (by decide) ?_
      exact x_ret_i hx hb hrt hlk hP hD hS dX5_lag_52 ⟨by decide, by decide⟩ (nI 0) (Or.inr ⟨si, rfl, hsi9, rfl, (by rw [qLag_o (of_decide_eq_false c34)])⟩) rfl
    · refine lv_aload_n hx hb dX5_lag_37 rfl (lv_at hl 0 rfl) ?_
      refine va_get (D := D) (ci := 5) (v := .int (nI n)) (C := RX5) (T := TX5) (N := 20) hx hb hts kX5_lag_X5 hown hK hP 0 rfl rfl 2 (by decide) (hts _ kX5_lag_f76) (fun _ h9 => h9) rfl dX5_lag_38 ?_
      refine lv_aload_n hx hb dX5_lag_41 rfl (lv_at hl 0 rfl) ?_
      refine va_get (D := D) (ci := 5) (v := .ref v13) (C := RX5) (T := TX5) (N := 20) hx hb hts kX5_lag_X5 hown hK hP 0 rfl rfl 14 (by decide) (hts _ kX5_lag_f50) (fun _ h9 => h9) rfl dX5_lag_42 ?_
      refine lv_iload_n hx hb dX5_lag_45 rfl (lv_at hl 1 rfl) ?_
      refine x_ald (v := nI (sl si)) hx hb hK hP 2 0 rfl rfl (by omega) (by omega) (hslo _ (by omega)) dX5_lag_46 ?_
      refine x_sub (k := n - (sl si)) hx hb dX5_lag_47 (by omega) rfl ?_
      refine lv_goto (tgt := 52) hx hb dX5_lag_48 (by decide) ?_
      exact x_ret_i hx hb hrt hlk hP hD hS dX5_lag_52 ⟨by decide, by decide⟩ (nI 0) (Or.inr ⟨si, rfl, hsi9, rfl, (by rw [qLag_i (dec_y c34)])⟩) rfl

set_option maxRecDepth 20000 in
theorem kX5_copiedAt_f53 : Cond.fieldLink RX5 53 "RowReplicatorModel" "copied" "[I" ∈ wsX5_copiedAt := by decide +kernel
set_option maxRecDepth 20000 in
theorem kX5_copiedAt_X5 : ∀ w ∈ wsX50, w ∈ wsX5_copiedAt := by decide +kernel
set_option maxHeartbeats 4000000 in
set_option maxRecDepth 100000 in
theorem zX5_copiedAt (l : Launch) (D : va_G) (cI cP cS cL : ClassId) (v0 v1 v2 v3 v4 v5 v6 v7 v8 v9 v10 v11 v12 v13 v14 v15 v16 v17 : Nat) (n lim : Nat) (th : Int32) (cop : Nat → Int32) (sx tx : Int32)  : xMi l yX5_copiedAt wsX5_copiedAt (rmD 2 0 0) D [(cI, .int), (cP, .object RX0), (cS, .object RX2), (cL, .long)] [.ref v0, .int sx, .int tx] [(v0, .inr (5, [.ref v1, .ref v2, .int (nI n), .int (nI lim), .ref v3, .ref v4, .ref v5, .ref v6, .ref v7, .ref v8, .ref v9, .ref v10, .ref v11, .ref v12, .ref v13, .ref v14, .ref v15, .ref v16, .ref v17, .int th])), (v14, .inl (cI, 6, .inl cop))] (fun (r : Int32) (u : Int32) => match u with | h => ((¬ (vp_in sx 3 ∧ vp_in tx 2) ∧ h = nI 1) ∨ (∃ si tn, sx = nI si ∧ si < 3 ∧ tx = nI tn ∧ tn < 2 ∧ h = nI 0 ∧ r = cop (2 * si + tn)))) (fun (u : Int32) => match u with | h => [(v0, .inr (5, [.ref v1, .ref v2, .int (nI n), .int (nI lim), .ref v3, .ref v4, .ref v5, .ref v6, .ref v7, .ref v8, .ref v9, .ref v10, .ref v11, .ref v12, .ref v13, .ref v14, .ref v15, .ref v16, .ref v17, .int h])), (v14, .inl (cI, 6, .inl cop))]) 0 0 := by
  refine xe_i (cc := cX5_copiedAt) (maxL := 3) (ret := (some .int)) (by decide) rfl (Nat.le_of_ble_eq_true rfl) ?_
  intro zp ze s zm below meth zc A ls B
  obtain ⟨hx, hb, hml, hrt, hts, hown, hnm, hlk, hK, hP, hD, hA, hS, hN, hl⟩ := B
  have hown : s.vm.findClass RX5 = some zm.cls := hown
  have hl : lv_has ls 3 [(0, .ref v0), (1, .int sx), (2, .int tx)] := hl
  have hA : ∀ q, s.heap.size ≤ q → A q := hA
  refine lv_aload_n hx hb dX5_copiedAt_0 rfl (lv_at hl 0 rfl) ?_
  refine lv_iload_n hx hb dX5_copiedAt_1 rfl (lv_at hl 1 rfl) ?_
  refine x_calli (w2 := fun (u : Unit) => [(v0, .inr (5, [.ref v1, .ref v2, .int (nI n), .int (nI lim), .ref v3, .ref v4, .ref v5, .ref v6, .ref v7, .ref v8, .ref v9, .ref v10, .ref v11, .ref v12, .ref v13, .ref v14, .ref v15, .ref v16, .ref v17, .int th])), (v14, .inl (cI, 6, .inl cop))]) (wr := [(v0, .inr (5, [.ref v1, .ref v2, .int (nI n), .int (nI lim), .ref v3, .ref v4, .ref v5, .ref v6, .ref v7, .ref v8, .ref v9, .ref v10, .ref v11, .ref v12, .ref v13, .ref v14, .ref v15, .ref v16, .ref v17, .int th])), (v14, .inl (cI, 6, .inl cop))]) (x_runS (n := 1) ⟨hx, hb, hml, hown, hts⟩ (zX5_isThird l D cI cP cS cL sx) gX5_copiedAt_X5_isThird rfl rfl rfl (by decide +kernel) ⟨by decide, by decide⟩ hN hK hP hD [] rfl rfl rfl hl.1 (rest := [.ref v0]) (As := [.int sx]) rfl (Nat.le_of_ble_eq_true rfl) dX5_copiedAt_2 ⟨by decide, by decide⟩) hP hD hS hA [] [0, 1] [0, 1] rfl rfl rfl (by decide) rfl (fun _ => rfl) (fun r2 u H locs hw hP hD hS => ?_)
  subst hw
  refine x_if_eq (tgt := 19) hx hb (bI_0 _) dX5_copiedAt_5 (by decide) (fun c5 => ?_) (fun c5 => ?_)
  · refine lv_iconst (v := nI 1) hx hb dX5_copiedAt_19 (by decide) ?_
    refine x_calli (w2 := fun (u : Unit) => [(v0, .inr (5, [.ref v1, .ref v2, .int (nI n), .int (nI lim), .ref v3, .ref v4, .ref v5, .ref v6, .ref v7, .ref v8, .ref v9, .ref v10, .ref v11, .ref v12, .ref v13, .ref v14, .ref v15, .ref v16, .ref v17, .int (nI 1)])), (v14, .inl (cI, 6, .inl cop))]) (wr := [(v14, .inl (cI, 6, .inl cop))]) (x_runV (n := 1) ⟨hx, hb, hml, hown, hts⟩ (zX5_fails l D cI cP cS cL v0 v1 v2 v3 v4 v5 v6 v7 v8 v9 v10 v11 v12 v13 v14 v15 v16 v17 n lim (th) 1 (by decide)) gX5_copiedAt_X5_fails rfl rfl rfl (by decide +kernel) ⟨by decide, by decide⟩ hN hK hP hD [0] rfl rfl (ci := 5) (q0 := 0) rfl rfl rfl rfl hl.1 (rest := []) (As := [.int (nI 1)]) rfl (Nat.le_of_ble_eq_true rfl) dX5_copiedAt_20 ⟨by decide, by decide⟩) hP hD hS hA [0] [1] [1, 0] rfl rfl rfl (by decide) rfl (fun _ => rfl) (fun r20 u H locs hw hP hD hS => ?_)
    replace hw : r20 = nI 1 := hw.trans (by decide)
    subst hw
    refine x_if_eq (tgt := 30) hx hb (nI_z (by omega)) dX5_copiedAt_23 (by decide) (fun c23 => ?_) (fun c23 => ?_)
    · exact absurd c23 (by omega)
    refine lv_iconst (v := nI 0) hx hb dX5_copiedAt_26 (by decide) ?_
    refine lv_goto (tgt := 40) hx hb dX5_copiedAt_27 (by decide) ?_
    exact x_ret_i hx hb hrt hlk hP hD hS dX5_copiedAt_40 ⟨by decide, by decide⟩ (nI 1) (Or.inl ⟨fun q => qIn_n c5 q.1, rfl⟩) rfl
  · refine lv_iload_n hx hb dX5_copiedAt_8 rfl (lv_at hl 2 rfl) ?_
    refine x_calli (w2 := fun (u : Unit) => [(v0, .inr (5, [.ref v1, .ref v2, .int (nI n), .int (nI lim), .ref v3, .ref v4, .ref v5, .ref v6, .ref v7, .ref v8, .ref v9, .ref v10, .ref v11, .ref v12, .ref v13, .ref v14, .ref v15, .ref v16, .ref v17, .int th])), (v14, .inl (cI, 6, .inl cop))]) (wr := [(v0, .inr (5, [.ref v1, .ref v2, .int (nI n), .int (nI lim), .ref v3, .ref v4, .ref v5, .ref v6, .ref v7, .ref v8, .ref v9, .ref v10, .ref v11, .ref v12, .ref v13, .ref v14, .ref v15, .ref v16, .ref v17, .int th])), (v14, .inl (cI, 6, .inl cop))]) (x_runS (n := 1) ⟨hx, hb, hml, hown, hts⟩ (zX5_isTable l D cI cP cS cL tx) gX5_copiedAt_X5_isTable rfl rfl rfl (by decide +kernel) ⟨by decide, by decide⟩ hN hK hP hD [] rfl rfl rfl hl.1 (rest := [.ref v0]) (As := [.int tx]) rfl (Nat.le_of_ble_eq_true rfl) dX5_copiedAt_9 ⟨by decide, by decide⟩) hP hD hS hA [] [0, 1] [0, 1] rfl rfl rfl (by decide) rfl (fun _ => rfl) (fun r9 u H locs hw hP hD hS => ?_)
    subst hw
    refine x_if_eq (tgt := 19) hx hb (bI_0 _) dX5_copiedAt_12 (by decide) (fun c12 => ?_) (fun c12 => ?_)
    · refine lv_iconst (v := nI 1) hx hb dX5_copiedAt_19 (by decide) ?_
      refine x_calli (w2 := fun (u : Unit) => [(v0, .inr (5, [.ref v1, .ref v2, .int (nI n), .int (nI lim), .ref v3, .ref v4, .ref v5, .ref v6, .ref v7, .ref v8, .ref v9, .ref v10, .ref v11, .ref v12, .ref v13, .ref v14, .ref v15, .ref v16, .ref v17, .int (nI 1)])), (v14, .inl (cI, 6, .inl cop))]) (wr := [(v14, .inl (cI, 6, .inl cop))]) (x_runV (n := 1) ⟨hx, hb, hml, hown, hts⟩ (zX5_fails l D cI cP cS cL v0 v1 v2 v3 v4 v5 v6 v7 v8 v9 v10 v11 v12 v13 v14 v15 v16 v17 n lim (th) 1 (by decide)) gX5_copiedAt_X5_fails rfl rfl rfl (by decide +kernel) ⟨by decide, by decide⟩ hN hK hP hD [0] rfl rfl (ci := 5) (q0 := 0) rfl rfl rfl rfl hl.1 (rest := []) (As := [.int (nI 1)]) rfl (Nat.le_of_ble_eq_true rfl) dX5_copiedAt_20 ⟨by decide, by decide⟩) hP hD hS hA [0] [1] [1, 0] rfl rfl rfl (by decide) rfl (fun _ => rfl) (fun r20 u H locs hw hP hD hS => ?_)
      replace hw : r20 = nI 1 := hw.trans (by decide)
      subst hw
      refine x_if_eq (tgt := 30) hx hb (nI_z (by omega)) dX5_copiedAt_23 (by decide) (fun c23 => ?_) (fun c23 => ?_)
      · exact absurd c23 (by omega)
      refine lv_iconst (v := nI 0) hx hb dX5_copiedAt_26 (by decide) ?_
      refine lv_goto (tgt := 40) hx hb dX5_copiedAt_27 (by decide) ?_
      exact x_ret_i hx hb hrt hlk hP hD hS dX5_copiedAt_40 ⟨by decide, by decide⟩ (nI 1) (Or.inl ⟨fun q => qIn_n c12 q.2, rfl⟩) rfl
    · obtain ⟨si, hsi9, esi⟩ := vp_in_of (qIn_y c5) (by decide)
      subst esi
      obtain ⟨tn, htn9, etn⟩ := vp_in_of (qIn_y c12) (by decide)
      subst etn
      refine lv_iconst (v := nI 0) hx hb dX5_copiedAt_15 (by decide) ?_
      refine lv_goto (tgt := 20) hx hb dX5_copiedAt_16 (by decide) ?_
      refine x_calli (w2 := fun (u : Unit) => [(v0, .inr (5, [.ref v1, .ref v2, .int (nI n), .int (nI lim), .ref v3, .ref v4, .ref v5, .ref v6, .ref v7, .ref v8, .ref v9, .ref v10, .ref v11, .ref v12, .ref v13, .ref v14, .ref v15, .ref v16, .ref v17, .int (nI 0)])), (v14, .inl (cI, 6, .inl cop))]) (wr := [(v14, .inl (cI, 6, .inl cop))]) (x_runV (n := 1) ⟨hx, hb, hml, hown, hts⟩ (zX5_fails l D cI cP cS cL v0 v1 v2 v3 v4 v5 v6 v7 v8 v9 v10 v11 v12 v13 v14 v15 v16 v17 n lim (th) 0 (by decide)) gX5_copiedAt_X5_fails rfl rfl rfl (by decide +kernel) ⟨by decide, by decide⟩ hN hK hP hD [0] rfl rfl (ci := 5) (q0 := 0) rfl rfl rfl rfl hl.1 (rest := []) (As := [.int (nI 0)]) rfl (Nat.le_of_ble_eq_true rfl) dX5_copiedAt_20 ⟨by decide, by decide⟩) hP hD hS hA [0] [1] [1, 0] rfl rfl rfl (by decide) rfl (fun _ => rfl) (fun r20 u H locs hw hP hD hS => ?_)
      replace hw : r20 = nI 0 := hw.trans (by decide)
      subst hw
      refine x_if_eq (tgt := 30) hx hb (nI_z (by omega)) dX5_copiedAt_23 (by decide) (fun c23 => ?_) (fun c23 => ?_)
      rotate_left
      · exact absurd c23 (by omega)
      refine lv_aload_n hx hb dX5_copiedAt_30 rfl (lv_at hl 0 rfl) ?_
      refine va_get (D := D) (ci := 5) (v := .ref v14) (C := RX5) (T := TX5) (N := 20) hx hb hts kX5_copiedAt_X5 hown hK hP 0 rfl rfl 15 (by decide) (hts _ kX5_copiedAt_f53) (fun _ h9 => h9) rfl dX5_copiedAt_31 ?_
      refine lv_iconst (v := nI 2) hx hb dX5_copiedAt_34 (by decide) ?_
      refine lv_iload_n hx hb dX5_copiedAt_35 rfl (lv_at hl 1 rfl) ?_
      refine x_mul (k := 2 * si) hx hb dX5_copiedAt_36 rfl ?_
      refine lv_iload_n hx hb dX5_copiedAt_37 rfl (lv_at hl 2 rfl) ?_
      refine x_add (k := (2 * si) + tn) hx hb dX5_copiedAt_38 rfl ?_
      refine x_ald (v := cop ((2 * si) + tn)) hx hb hK hP 1 0 rfl rfl (by omega) (by omega) rfl dX5_copiedAt_39 ?_
      exact x_ret_i hx hb hrt hlk hP hD hS dX5_copiedAt_40 ⟨by decide, by decide⟩ (nI 0) (Or.inr ⟨si, tn, rfl, hsi9, rfl, htn9, rfl, rfl⟩) rfl

set_option maxRecDepth 20000 in
theorem kX5_seen_f56 : Cond.fieldLink RX5 56 "RowReplicatorModel" "seen" "[I" ∈ wsX5_seen := by decide +kernel
set_option maxRecDepth 20000 in
theorem kX5_seen_X5 : ∀ w ∈ wsX50, w ∈ wsX5_seen := by decide +kernel
set_option maxHeartbeats 4000000 in
set_option maxRecDepth 100000 in
theorem zX5_seen (l : Launch) (D : va_G) (cI cP cS cL : ClassId) (v0 v1 v2 v3 v4 v5 v6 v7 v8 v9 v10 v11 v12 v13 v14 v15 v16 v17 : Nat) (n lim : Nat) (th : Int32) (see : Nat → Int32) (sx tx kx cx : Int32)  : xMi l yX5_seen wsX5_seen (rmD 3 0 0) D [(cI, .int), (cP, .object RX0), (cS, .object RX2), (cL, .long)] [.ref v0, .int sx, .int tx, .int kx, .int cx] [(v0, .inr (5, [.ref v1, .ref v2, .int (nI n), .int (nI lim), .ref v3, .ref v4, .ref v5, .ref v6, .ref v7, .ref v8, .ref v9, .ref v10, .ref v11, .ref v12, .ref v13, .ref v14, .ref v15, .ref v16, .ref v17, .int th])), (v15, .inl (cI, 72, .inl see))] (fun (r : Int32) (u : Int32) => match u with | h => ((¬ (vp_in sx 3 ∧ (vp_in tx 2 ∧ vp_in kx 12) ∧ vp_in cx 3) ∧ h = nI 1) ∨ (∃ si tn kn, sx = nI si ∧ si < 3 ∧ tx = nI tn ∧ tn < 2 ∧ kx = nI kn ∧ kn < 12 ∧ vp_in cx 3 ∧ h = nI 0 ∧ r = mNum (see (24 * si + 12 * tn + kn)) cx))) (fun (u : Int32) => match u with | h => [(v0, .inr (5, [.ref v1, .ref v2, .int (nI n), .int (nI lim), .ref v3, .ref v4, .ref v5, .ref v6, .ref v7, .ref v8, .ref v9, .ref v10, .ref v11, .ref v12, .ref v13, .ref v14, .ref v15, .ref v16, .ref v17, .int h])), (v15, .inl (cI, 72, .inl see))]) 0 0 := by
  refine xe_i (cc := cX5_seen) (maxL := 6) (ret := (some .int)) (by decide) rfl (Nat.le_of_ble_eq_true rfl) ?_
  intro zp ze s zm below meth zc A ls B
  obtain ⟨hx, hb, hml, hrt, hts, hown, hnm, hlk, hK, hP, hD, hA, hS, hN, hl⟩ := B
  have hown : s.vm.findClass RX5 = some zm.cls := hown
  have hl : lv_has ls 6 [(0, .ref v0), (1, .int sx), (2, .int tx), (3, .int kx), (4, .int cx)] := hl
  have hA : ∀ q, s.heap.size ≤ q → A q := hA
  refine lv_iload_n hx hb dX5_seen_0 rfl (lv_at hl 1 rfl) ?_
  refine x_calli (w2 := fun (u : Unit) => [(v0, .inr (5, [.ref v1, .ref v2, .int (nI n), .int (nI lim), .ref v3, .ref v4, .ref v5, .ref v6, .ref v7, .ref v8, .ref v9, .ref v10, .ref v11, .ref v12, .ref v13, .ref v14, .ref v15, .ref v16, .ref v17, .int th])), (v15, .inl (cI, 72, .inl see))]) (wr := [(v0, .inr (5, [.ref v1, .ref v2, .int (nI n), .int (nI lim), .ref v3, .ref v4, .ref v5, .ref v6, .ref v7, .ref v8, .ref v9, .ref v10, .ref v11, .ref v12, .ref v13, .ref v14, .ref v15, .ref v16, .ref v17, .int th])), (v15, .inl (cI, 72, .inl see))]) (x_runS (n := 1) ⟨hx, hb, hml, hown, hts⟩ (zX5_isThird l D cI cP cS cL sx) gX5_seen_X5_isThird rfl rfl rfl (by decide +kernel) ⟨by decide, by decide⟩ hN hK hP hD [] rfl rfl rfl hl.1 (rest := []) (As := [.int sx]) rfl (Nat.le_of_ble_eq_true rfl) dX5_seen_1 ⟨by decide, by decide⟩) hP hD hS hA [] [0, 1] [0, 1] rfl rfl rfl (by decide) rfl (fun _ => rfl) (fun r1 u H locs hw hP hD hS => ?_)
  subst hw
  refine x_if_eq (tgt := 27) hx hb (bI_0 _) dX5_seen_4 (by decide) (fun c4 => ?_) (fun c4 => ?_)
  · refine lv_iconst (v := nI 0) hx hb dX5_seen_27 (by decide) ?_
    refine lv_istore (lv' := [(5, .int (nI 0)), (0, .ref v0), (1, .int sx), (2, .int tx), (3, .int kx), (4, .int cx)]) hx hb dX5_seen_28 hl (by decide) rfl (fun ls hl => ?_)
    refine lv_aload_n hx hb dX5_seen_30 rfl (lv_at hl 1 rfl) ?_
    refine lv_iload hx hb dX5_seen_31 (lv_at hl 0 rfl) ?_
    refine x_if_eq (tgt := 40) hx hb (nI_z (by omega)) dX5_seen_33 (by decide) (fun c33 => ?_) (fun c33 => ?_)
    rotate_left
    · exact absurd c33 (by omega)
    refine lv_iconst (v := nI 1) hx hb dX5_seen_40 (by decide) ?_
    refine x_calli (w2 := fun (u : Unit) => [(v0, .inr (5, [.ref v1, .ref v2, .int (nI n), .int (nI lim), .ref v3, .ref v4, .ref v5, .ref v6, .ref v7, .ref v8, .ref v9, .ref v10, .ref v11, .ref v12, .ref v13, .ref v14, .ref v15, .ref v16, .ref v17, .int (nI 1)])), (v15, .inl (cI, 72, .inl see))]) (wr := [(v15, .inl (cI, 72, .inl see))]) (x_runV (n := 1) ⟨hx, hb, hml, hown, hts⟩ (zX5_fails l D cI cP cS cL v0 v1 v2 v3 v4 v5 v6 v7 v8 v9 v10 v11 v12 v13 v14 v15 v16 v17 n lim (th) 1 (by decide)) gX5_seen_X5_fails rfl rfl rfl (by decide +kernel) ⟨by decide, by decide⟩ hN hK hP hD [0] rfl rfl (ci := 5) (q0 := 0) rfl rfl rfl rfl hl.1 (rest := []) (As := [.int (nI 1)]) rfl (Nat.le_of_ble_eq_true rfl) dX5_seen_41 ⟨by decide, by decide⟩) hP hD hS hA [0] [1] [1, 0] rfl rfl rfl (by decide) rfl (fun _ => rfl) (fun r41 u H locs hw hP hD hS => ?_)
    replace hw : r41 = nI 1 := hw.trans (by decide)
    subst hw
    refine x_if_eq (tgt := 51) hx hb (nI_z (by omega)) dX5_seen_44 (by decide) (fun c44 => ?_) (fun c44 => ?_)
    · exact absurd c44 (by omega)
    refine lv_iconst (v := nI 0) hx hb dX5_seen_47 (by decide) ?_
    refine lv_goto (tgt := 72) hx hb dX5_seen_48 (by decide) ?_
    exact x_ret_i hx hb hrt hlk hP hD hS dX5_seen_72 ⟨by decide, by decide⟩ (nI 1) (Or.inl ⟨fun q => qIn_n c4 q.1, rfl⟩) rfl
  · refine lv_iload_n hx hb dX5_seen_7 rfl (lv_at hl 2 rfl) ?_
    refine lv_iload_n hx hb dX5_seen_8 rfl (lv_at hl 3 rfl) ?_
    refine x_calli (w2 := fun (u : Unit) => [(v0, .inr (5, [.ref v1, .ref v2, .int (nI n), .int (nI lim), .ref v3, .ref v4, .ref v5, .ref v6, .ref v7, .ref v8, .ref v9, .ref v10, .ref v11, .ref v12, .ref v13, .ref v14, .ref v15, .ref v16, .ref v17, .int th])), (v15, .inl (cI, 72, .inl see))]) (wr := [(v0, .inr (5, [.ref v1, .ref v2, .int (nI n), .int (nI lim), .ref v3, .ref v4, .ref v5, .ref v6, .ref v7, .ref v8, .ref v9, .ref v10, .ref v11, .ref v12, .ref v13, .ref v14, .ref v15, .ref v16, .ref v17, .int th])), (v15, .inl (cI, 72, .inl see))]) (x_runS (n := 2) ⟨hx, hb, hml, hown, hts⟩ (zX5_isRow l D cI cP cS cL tx kx) gX5_seen_X5_isRow rfl rfl rfl (by decide +kernel) ⟨by decide, by decide⟩ hN hK hP hD [] rfl rfl rfl hl.1 (rest := []) (As := [.int tx, .int kx]) rfl (Nat.le_of_ble_eq_true rfl) dX5_seen_9 ⟨by decide, by decide⟩) hP hD hS hA [] [0, 1] [0, 1] rfl rfl rfl (by decide) rfl (fun _ => rfl) (fun r9 u H locs hw hP hD hS => ?_)
    subst hw
    refine x_if_eq (tgt := 27) hx hb (bI_0 _) dX5_seen_12 (by decide) (fun c12 => ?_) (fun c12 => ?_)
    · refine lv_iconst (v := nI 0) hx hb dX5_seen_27 (by decide) ?_
      refine lv_istore (lv' := [(5, .int (nI 0)), (0, .ref v0), (1, .int sx), (2, .int tx), (3, .int kx), (4, .int cx)]) hx hb dX5_seen_28 hl (by decide) rfl (fun ls hl => ?_)
      refine lv_aload_n hx hb dX5_seen_30 rfl (lv_at hl 1 rfl) ?_
      refine lv_iload hx hb dX5_seen_31 (lv_at hl 0 rfl) ?_
      refine x_if_eq (tgt := 40) hx hb (nI_z (by omega)) dX5_seen_33 (by decide) (fun c33 => ?_) (fun c33 => ?_)
      rotate_left
      · exact absurd c33 (by omega)
      refine lv_iconst (v := nI 1) hx hb dX5_seen_40 (by decide) ?_
      refine x_calli (w2 := fun (u : Unit) => [(v0, .inr (5, [.ref v1, .ref v2, .int (nI n), .int (nI lim), .ref v3, .ref v4, .ref v5, .ref v6, .ref v7, .ref v8, .ref v9, .ref v10, .ref v11, .ref v12, .ref v13, .ref v14, .ref v15, .ref v16, .ref v17, .int (nI 1)])), (v15, .inl (cI, 72, .inl see))]) (wr := [(v15, .inl (cI, 72, .inl see))]) (x_runV (n := 1) ⟨hx, hb, hml, hown, hts⟩ (zX5_fails l D cI cP cS cL v0 v1 v2 v3 v4 v5 v6 v7 v8 v9 v10 v11 v12 v13 v14 v15 v16 v17 n lim (th) 1 (by decide)) gX5_seen_X5_fails rfl rfl rfl (by decide +kernel) ⟨by decide, by decide⟩ hN hK hP hD [0] rfl rfl (ci := 5) (q0 := 0) rfl rfl rfl rfl hl.1 (rest := []) (As := [.int (nI 1)]) rfl (Nat.le_of_ble_eq_true rfl) dX5_seen_41 ⟨by decide, by decide⟩) hP hD hS hA [0] [1] [1, 0] rfl rfl rfl (by decide) rfl (fun _ => rfl) (fun r41 u H locs hw hP hD hS => ?_)
      replace hw : r41 = nI 1 := hw.trans (by decide)
      subst hw
      refine x_if_eq (tgt := 51) hx hb (nI_z (by omega)) dX5_seen_44 (by decide) (fun c44 => ?_) (fun c44 => ?_)
      · exact absurd c44 (by omega)
      refine lv_iconst (v := nI 0) hx hb dX5_seen_47 (by decide) ?_
      refine lv_goto (tgt := 72) hx hb dX5_seen_48 (by decide) ?_
      exact x_ret_i hx hb hrt hlk hP hD hS dX5_seen_72 ⟨by decide, by decide⟩ (nI 1) (Or.inl ⟨fun q => qI2_n c12 q.2.1, rfl⟩) rfl
    · refine lv_iload hx hb dX5_seen_15 (lv_at hl 4 rfl) ?_
      refine x_calli (w2 := fun (u : Unit) => [(v0, .inr (5, [.ref v1, .ref v2, .int (nI n), .int (nI lim), .ref v3, .ref v4, .ref v5, .ref v6, .ref v7, .ref v8, .ref v9, .ref v10, .ref v11, .ref v12, .ref v13, .ref v14, .ref v15, .ref v16, .ref v17, .int th])), (v15, .inl (cI, 72, .inl see))]) (wr := [(v0, .inr (5, [.ref v1, .ref v2, .int (nI n), .int (nI lim), .ref v3, .ref v4, .ref v5, .ref v6, .ref v7, .ref v8, .ref v9, .ref v10, .ref v11, .ref v12, .ref v13, .ref v14, .ref v15, .ref v16, .ref v17, .int th])), (v15, .inl (cI, 72, .inl see))]) (x_runS (n := 1) ⟨hx, hb, hml, hown, hts⟩ (zX5_isThird l D cI cP cS cL cx) gX5_seen_X5_isThird rfl rfl rfl (by decide +kernel) ⟨by decide, by decide⟩ hN hK hP hD [] rfl rfl rfl hl.1 (rest := []) (As := [.int cx]) rfl (Nat.le_of_ble_eq_true rfl) dX5_seen_17 ⟨by decide, by decide⟩) hP hD hS hA [] [0, 1] [0, 1] rfl rfl rfl (by decide) rfl (fun _ => rfl) (fun r17 u H locs hw hP hD hS => ?_)
      subst hw
      refine x_if_eq (tgt := 27) hx hb (bI_0 _) dX5_seen_20 (by decide) (fun c20 => ?_) (fun c20 => ?_)
      · refine lv_iconst (v := nI 0) hx hb dX5_seen_27 (by decide) ?_
        refine lv_istore (lv' := [(5, .int (nI 0)), (0, .ref v0), (1, .int sx), (2, .int tx), (3, .int kx), (4, .int cx)]) hx hb dX5_seen_28 hl (by decide) rfl (fun ls hl => ?_)
        refine lv_aload_n hx hb dX5_seen_30 rfl (lv_at hl 1 rfl) ?_
        refine lv_iload hx hb dX5_seen_31 (lv_at hl 0 rfl) ?_
        refine x_if_eq (tgt := 40) hx hb (nI_z (by omega)) dX5_seen_33 (by decide) (fun c33 => ?_) (fun c33 => ?_)
        rotate_left
        · exact absurd c33 (by omega)
        refine lv_iconst (v := nI 1) hx hb dX5_seen_40 (by decide) ?_
        refine x_calli (w2 := fun (u : Unit) => [(v0, .inr (5, [.ref v1, .ref v2, .int (nI n), .int (nI lim), .ref v3, .ref v4, .ref v5, .ref v6, .ref v7, .ref v8, .ref v9, .ref v10, .ref v11, .ref v12, .ref v13, .ref v14, .ref v15, .ref v16, .ref v17, .int (nI 1)])), (v15, .inl (cI, 72, .inl see))]) (wr := [(v15, .inl (cI, 72, .inl see))]) (x_runV (n := 1) ⟨hx, hb, hml, hown, hts⟩ (zX5_fails l D cI cP cS cL v0 v1 v2 v3 v4 v5 v6 v7 v8 v9 v10 v11 v12 v13 v14 v15 v16 v17 n lim (th) 1 (by decide)) gX5_seen_X5_fails rfl rfl rfl (by decide +kernel) ⟨by decide, by decide⟩ hN hK hP hD [0] rfl rfl (ci := 5) (q0 := 0) rfl rfl rfl rfl hl.1 (rest := []) (As := [.int (nI 1)]) rfl (Nat.le_of_ble_eq_true rfl) dX5_seen_41 ⟨by decide, by decide⟩) hP hD hS hA [0] [1] [1, 0] rfl rfl rfl (by decide) rfl (fun _ => rfl) (fun r41 u H locs hw hP hD hS => ?_)
        replace hw : r41 = nI 1 := hw.trans (by decide)
        subst hw
        refine x_if_eq (tgt := 51) hx hb (nI_z (by omega)) dX5_seen_44 (by decide) (fun c44 => ?_) (fun c44 => ?_)
        · exact absurd c44 (by omega)
        refine lv_iconst (v := nI 0) hx hb dX5_seen_47 (by decide) ?_
        refine lv_goto (tgt := 72) hx hb dX5_seen_48 (by decide) ?_
        exact x_ret_i hx hb hrt hlk hP hD hS dX5_seen_72 ⟨by decide, by decide⟩ (nI 1) (Or.inl ⟨fun q => qIn_n c20 q.2.2, rfl⟩) rfl
      · obtain ⟨si, hsi9, esi⟩ := vp_in_of (qIn_y c4) (by decide)
        subst esi
        have hin := qI2_y c12
        obtain ⟨tn, ht2, etn⟩ := vp_in_of hin.1 (by decide)
        obtain ⟨kn, hk2, ekn⟩ := vp_in_of hin.2 (by decide)
        subst etn
        subst ekn
        refine lv_iconst (v := nI 1) hx hb dX5_seen_23 (by decide) ?_
        refine lv_goto (tgt := 28) hx hb dX5_seen_24 (by decide) ?_
        refine lv_istore (lv' := [(5, .int (nI 1)), (0, .ref v0), (1, .int (nI si)), (2, .int (nI tn)), (3, .int (nI kn)), (4, .int cx)]) hx hb dX5_seen_28 hl (by decide) rfl (fun ls hl => ?_)
        refine lv_aload_n hx hb dX5_seen_30 rfl (lv_at hl 1 rfl) ?_
        refine lv_iload hx hb dX5_seen_31 (lv_at hl 0 rfl) ?_
        refine x_if_eq (tgt := 40) hx hb (nI_z (by omega)) dX5_seen_33 (by decide) (fun c33 => ?_) (fun c33 => ?_)
        · exact absurd c33 (by omega)
        refine lv_iconst (v := nI 0) hx hb dX5_seen_36 (by decide) ?_
        refine lv_goto (tgt := 41) hx hb dX5_seen_37 (by decide) ?_
        refine x_calli (w2 := fun (u : Unit) => [(v0, .inr (5, [.ref v1, .ref v2, .int (nI n), .int (nI lim), .ref v3, .ref v4, .ref v5, .ref v6, .ref v7, .ref v8, .ref v9, .ref v10, .ref v11, .ref v12, .ref v13, .ref v14, .ref v15, .ref v16, .ref v17, .int (nI 0)])), (v15, .inl (cI, 72, .inl see))]) (wr := [(v15, .inl (cI, 72, .inl see))]) (x_runV (n := 1) ⟨hx, hb, hml, hown, hts⟩ (zX5_fails l D cI cP cS cL v0 v1 v2 v3 v4 v5 v6 v7 v8 v9 v10 v11 v12 v13 v14 v15 v16 v17 n lim (th) 0 (by decide)) gX5_seen_X5_fails rfl rfl rfl (by decide +kernel) ⟨by decide, by decide⟩ hN hK hP hD [0] rfl rfl (ci := 5) (q0 := 0) rfl rfl rfl rfl hl.1 (rest := []) (As := [.int (nI 0)]) rfl (Nat.le_of_ble_eq_true rfl) dX5_seen_41 ⟨by decide, by decide⟩) hP hD hS hA [0] [1] [1, 0] rfl rfl rfl (by decide) rfl (fun _ => rfl) (fun r41 u H locs hw hP hD hS => ?_)
        replace hw : r41 = nI 0 := hw.trans (by decide)
        subst hw
        refine x_if_eq (tgt := 51) hx hb (nI_z (by omega)) dX5_seen_44 (by decide) (fun c44 => ?_) (fun c44 => ?_)
        rotate_left
        · exact absurd c44 (by omega)
        refine lv_aload_n hx hb dX5_seen_51 rfl (lv_at hl 1 rfl) ?_
        refine va_get (D := D) (ci := 5) (v := .ref v15) (C := RX5) (T := TX5) (N := 20) hx hb hts kX5_seen_X5 hown hK hP 0 rfl rfl 16 (by decide) (hts _ kX5_seen_f56) (fun _ h9 => h9) rfl dX5_seen_52 ?_
        refine lv_bipush (v := nI 24) hx hb dX5_seen_55 (by decide) ?_
        refine lv_iload_n hx hb dX5_seen_57 rfl (lv_at hl 2 rfl) ?_
        refine x_mul (k := 24 * si) hx hb dX5_seen_58 rfl ?_
        refine lv_bipush (v := nI 12) hx hb dX5_seen_59 (by decide) ?_
        refine lv_iload_n hx hb dX5_seen_61 rfl (lv_at hl 3 rfl) ?_
        refine x_mul (k := 12 * tn) hx hb dX5_seen_62 rfl ?_
        refine x_add (k := (24 * si) + (12 * tn)) hx hb dX5_seen_63 rfl ?_
        refine lv_iload_n hx hb dX5_seen_64 rfl (lv_at hl 4 rfl) ?_
        refine x_add (k := ((24 * si) + (12 * tn)) + kn) hx hb dX5_seen_65 rfl ?_
        refine x_ald (v := see (((24 * si) + (12 * tn)) + kn)) hx hb hK hP 1 0 rfl rfl (by omega) (by omega) rfl dX5_seen_66 ?_
        refine lv_iload hx hb dX5_seen_67 (lv_at hl 5 rfl) ?_
        refine x_calli (w2 := fun (u : Unit) => [(v0, .inr (5, [.ref v1, .ref v2, .int (nI n), .int (nI lim), .ref v3, .ref v4, .ref v5, .ref v6, .ref v7, .ref v8, .ref v9, .ref v10, .ref v11, .ref v12, .ref v13, .ref v14, .ref v15, .ref v16, .ref v17, .int (nI 0)])), (v15, .inl (cI, 72, .inl see))]) (wr := [(v0, .inr (5, [.ref v1, .ref v2, .int (nI n), .int (nI lim), .ref v3, .ref v4, .ref v5, .ref v6, .ref v7, .ref v8, .ref v9, .ref v10, .ref v11, .ref v12, .ref v13, .ref v14, .ref v15, .ref v16, .ref v17, .int (nI 0)])), (v15, .inl (cI, 72, .inl see))]) (x_runS (n := 2) ⟨hx, hb, hml, hown, hts⟩ (zX5_numberOf l D cI cP cS cL (see (((24 * si) + (12 * tn)) + kn)) cx) gX5_seen_X5_numberOf rfl rfl rfl (by decide +kernel) ⟨by decide, by decide⟩ hN hK hP hD [] rfl rfl rfl hl.1 (rest := []) (As := [.int (see (((24 * si) + (12 * tn)) + kn)), .int cx]) rfl (Nat.le_of_ble_eq_true rfl) dX5_seen_69 ⟨by decide, by decide⟩) hP hD hS hA [] [0, 1] [0, 1] rfl rfl rfl (by decide) rfl (fun _ => rfl) (fun r69 u H locs hw hP hD hS => ?_)
        subst hw
        exact x_ret_i hx hb hrt hlk hP hD hS dX5_seen_72 ⟨by decide, by decide⟩ (nI 0) (Or.inr ⟨si, tn, kn, rfl, hsi9, rfl, ht2, rfl, hk2, qIn_y c20, rfl, rfl⟩) rfl
