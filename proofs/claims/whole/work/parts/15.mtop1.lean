set_option maxRecDepth 20000 in
theorem kX5_enters_f76 : Cond.fieldLink RX5 76 "RowReplicatorModel" "commits" "I" ∈ wsX5_enters := by decide +kernel
set_option maxRecDepth 20000 in
theorem kX5_enters_X5 : ∀ w ∈ wsX50, w ∈ wsX5_enters := by decide +kernel
set_option maxRecDepth 20000 in
theorem kX5_enters_f20 : Cond.fieldLink RX5 20 "RowReplicatorModel" "changes" "[I" ∈ wsX5_enters := by decide +kernel
set_option maxRecDepth 20000 in
theorem kX5_enters_f23 : Cond.fieldLink RX5 23 "RowReplicatorModel" "table" "[I" ∈ wsX5_enters := by decide +kernel
set_option maxRecDepth 20000 in
theorem kX5_enters_f26 : Cond.fieldLink RX5 26 "RowReplicatorModel" "key" "[I" ∈ wsX5_enters := by decide +kernel
set_option maxRecDepth 20000 in
theorem kX5_enters_f29 : Cond.fieldLink RX5 29 "RowReplicatorModel" "fresh" "[I" ∈ wsX5_enters := by decide +kernel
set_option maxRecDepth 20000 in
theorem kX5_enters_f7 : Cond.fieldLink RX5 7 "RowReplicatorModel" "row" "[I" ∈ wsX5_enters := by decide +kernel
set_option maxHeartbeats 4000000 in
set_option maxRecDepth 100000 in
theorem zX5_enters (l : Launch) (D : va_G) (cI cP cS cL : ClassId) (v0 v1 v2 v3 v4 v5 v6 v7 v8 v9 v10 v11 v12 v13 v14 v15 v16 v17 : Nat) (n lim : Nat) (th : Int32) (cn t w : Nat) (v : Int32) (row chg tab key frs : Nat → Int32) (hn9 : n ≤ 50) (hcn0 : chg (n + 1) = nI cn) (hcn : cn < 12) (ht2 : t < 2) (hw12 : w < 12) : xMv l yX5_enters wsX5_enters (rmD 1 0 0) D [(cI, .int), (cP, .object RX0), (cS, .object RX2), (cL, .long)] [.ref v0, .int (nI t), .int (nI w), .int v] [(v0, .inr (5, [.ref v1, .ref v2, .int (nI n), .int (nI lim), .ref v3, .ref v4, .ref v5, .ref v6, .ref v7, .ref v8, .ref v9, .ref v10, .ref v11, .ref v12, .ref v13, .ref v14, .ref v15, .ref v16, .ref v17, .int th])), (v1, .inl (cI, 24, .inl row)), (v3, .inl (cI, 52, .inl chg)), (v4, .inl (cI, 624, .inl tab)), (v5, .inl (cI, 624, .inl key)), (v6, .inl (cI, 624, .inl frs))] (fun (u : Unit) => True) (fun (u : Unit) => [(v0, .inr (5, [.ref v1, .ref v2, .int (nI n), .int (nI lim), .ref v3, .ref v4, .ref v5, .ref v6, .ref v7, .ref v8, .ref v9, .ref v10, .ref v11, .ref v12, .ref v13, .ref v14, .ref v15, .ref v16, .ref v17, .int th])), (v1, .inl (cI, 24, .inl (upd row (12 * t + w) v))), (v3, .inl (cI, 52, .inl (upd chg (n + 1) (nI (cn + 1))))), (v4, .inl (cI, 624, .inl (upd tab (12 * (n + 1) + cn) (nI t)))), (v5, .inl (cI, 624, .inl (upd key (12 * (n + 1) + cn) (nI w)))), (v6, .inl (cI, 624, .inl (upd frs (12 * (n + 1) + cn) (v))))]) 0 0 := by
  refine xe_v (cc := cX5_enters) (maxL := 5) (ret := none) (by decide) rfl (Nat.le_of_ble_eq_true rfl) ?_
  intro zp ze s zm below meth zc A ls B
  obtain ⟨hx, hb, hml, hrt, hts, hown, hnm, hlk, hK, hP, hD, hA, hS, hN, hl⟩ := B
  have hown : s.vm.findClass RX5 = some zm.cls := hown
  have hl : lv_has ls 5 [(0, .ref v0), (1, .int (nI t)), (2, .int (nI w)), (3, .int v)] := hl
  have hA : ∀ q, s.heap.size ≤ q → A q := hA
  refine lv_bipush (v := nI 12) hx hb dX5_enters_0 (by decide) ?_
  refine lv_aload_n hx hb dX5_enters_2 rfl (lv_at hl 0 rfl) ?_
  refine va_get (D := D) (ci := 5) (v := .int (nI n)) (C := RX5) (T := TX5) (N := 20) hx hb hts kX5_enters_X5 hown hK hP 0 rfl rfl 2 (by decide) (hts _ kX5_enters_f76) (fun _ h9 => h9) rfl dX5_enters_3 ?_
  refine lv_iconst (v := nI 1) hx hb dX5_enters_6 (by decide) ?_
  refine x_add (k := n + 1) hx hb dX5_enters_7 rfl ?_
  refine x_mul (k := 12 * (n + 1)) hx hb dX5_enters_8 rfl ?_
  refine lv_aload_n hx hb dX5_enters_9 rfl (lv_at hl 0 rfl) ?_
  refine va_get (D := D) (ci := 5) (v := .ref v3) (C := RX5) (T := TX5) (N := 20) hx hb hts kX5_enters_X5 hown hK hP 0 rfl rfl 4 (by decide) (hts _ kX5_enters_f20) (fun _ h9 => h9) rfl dX5_enters_10 ?_
  refine lv_aload_n hx hb dX5_enters_13 rfl (lv_at hl 0 rfl) ?_
  refine va_get (D := D) (ci := 5) (v := .int (nI n)) (C := RX5) (T := TX5) (N := 20) hx hb hts kX5_enters_X5 hown hK hP 0 rfl rfl 2 (by decide) (hts _ kX5_enters_f76) (fun _ h9 => h9) rfl dX5_enters_14 ?_
  refine lv_iconst (v := nI 1) hx hb dX5_enters_17 (by decide) ?_
  refine x_add (k := n + 1) hx hb dX5_enters_18 rfl ?_
  refine x_ald (v := nI cn) hx hb hK hP 2 0 rfl rfl (by omega) (by omega) hcn0 dX5_enters_19 ?_
  refine x_add (k := (12 * (n + 1)) + cn) hx hb dX5_enters_20 rfl ?_
  refine lv_istore (lv' := [(4, .int (nI ((12 * (n + 1)) + cn))), (0, .ref v0), (1, .int (nI t)), (2, .int (nI w)), (3, .int v)]) hx hb dX5_enters_21 hl (by decide) rfl (fun ls hl => ?_)
  refine lv_aload_n hx hb dX5_enters_23 rfl (lv_at hl 1 rfl) ?_
  refine va_get (D := D) (ci := 5) (v := .ref v4) (C := RX5) (T := TX5) (N := 20) hx hb hts kX5_enters_X5 hown hK hP 0 rfl rfl 5 (by decide) (hts _ kX5_enters_f23) (fun _ h9 => h9) rfl dX5_enters_24 ?_
  refine lv_iload hx hb dX5_enters_27 (lv_at hl 0 rfl) ?_
  refine lv_iload_n hx hb dX5_enters_29 rfl (lv_at hl 2 rfl) ?_
  refine x_ast (g := upd tab ((12 * (n + 1)) + cn) (nI t)) (ws' := [(v0, .inr (5, [.ref v1, .ref v2, .int (nI n), .int (nI lim), .ref v3, .ref v4, .ref v5, .ref v6, .ref v7, .ref v8, .ref v9, .ref v10, .ref v11, .ref v12, .ref v13, .ref v14, .ref v15, .ref v16, .ref v17, .int th])), (v1, .inl (cI, 24, .inl row)), (v3, .inl (cI, 52, .inl chg)), (v4, .inl (cI, 624, .inl (upd tab ((12 * (n + 1)) + cn) (nI t)))), (v5, .inl (cI, 624, .inl key)), (v6, .inl (cI, 624, .inl frs))]) hx hb hK hP hD hS 3 0 rfl rfl (by omega) (by omega) (rfl) rfl dX5_enters_30 (fun H locs hP hD hS => ?_)
  refine lv_aload_n hx hb dX5_enters_31 rfl (lv_at hl 1 rfl) ?_
  refine va_get (D := D) (ci := 5) (v := .ref v5) (C := RX5) (T := TX5) (N := 20) hx hb hts kX5_enters_X5 hown hK hP 0 rfl rfl 6 (by decide) (hts _ kX5_enters_f26) (fun _ h9 => h9) rfl dX5_enters_32 ?_
  refine lv_iload hx hb dX5_enters_35 (lv_at hl 0 rfl) ?_
  refine lv_iload_n hx hb dX5_enters_37 rfl (lv_at hl 3 rfl) ?_
  refine x_ast (g := upd key ((12 * (n + 1)) + cn) (nI w)) (ws' := [(v0, .inr (5, [.ref v1, .ref v2, .int (nI n), .int (nI lim), .ref v3, .ref v4, .ref v5, .ref v6, .ref v7, .ref v8, .ref v9, .ref v10, .ref v11, .ref v12, .ref v13, .ref v14, .ref v15, .ref v16, .ref v17, .int th])), (v1, .inl (cI, 24, .inl row)), (v3, .inl (cI, 52, .inl chg)), (v4, .inl (cI, 624, .inl (upd tab ((12 * (n + 1)) + cn) (nI t)))), (v5, .inl (cI, 624, .inl (upd key ((12 * (n + 1)) + cn) (nI w)))), (v6, .inl (cI, 624, .inl frs))]) hx hb hK hP hD hS 4 0 rfl rfl (by omega) (by omega) (rfl) rfl dX5_enters_38 (fun H locs hP hD hS => ?_)
  refine lv_aload_n hx hb dX5_enters_39 rfl (lv_at hl 1 rfl) ?_
  refine va_get (D := D) (ci := 5) (v := .ref v6) (C := RX5) (T := TX5) (N := 20) hx hb hts kX5_enters_X5 hown hK hP 0 rfl rfl 7 (by decide) (hts _ kX5_enters_f29) (fun _ h9 => h9) rfl dX5_enters_40 ?_
  refine lv_iload hx hb dX5_enters_43 (lv_at hl 0 rfl) ?_
  refine lv_iload_n hx hb dX5_enters_45 rfl (lv_at hl 4 rfl) ?_
  refine x_ast (g := upd frs ((12 * (n + 1)) + cn) v) (ws' := [(v0, .inr (5, [.ref v1, .ref v2, .int (nI n), .int (nI lim), .ref v3, .ref v4, .ref v5, .ref v6, .ref v7, .ref v8, .ref v9, .ref v10, .ref v11, .ref v12, .ref v13, .ref v14, .ref v15, .ref v16, .ref v17, .int th])), (v1, .inl (cI, 24, .inl row)), (v3, .inl (cI, 52, .inl chg)), (v4, .inl (cI, 624, .inl (upd tab ((12 * (n + 1)) + cn) (nI t)))), (v5, .inl (cI, 624, .inl (upd key ((12 * (n + 1)) + cn) (nI w)))), (v6, .inl (cI, 624, .inl (upd frs ((12 * (n + 1)) + cn) v)))]) hx hb hK hP hD hS 5 0 rfl rfl (by omega) (by omega) (rfl) rfl dX5_enters_46 (fun H locs hP hD hS => ?_)
  refine lv_aload_n hx hb dX5_enters_47 rfl (lv_at hl 1 rfl) ?_
  refine va_get (D := D) (ci := 5) (v := .ref v3) (C := RX5) (T := TX5) (N := 20) hx hb hts kX5_enters_X5 hown hK hP 0 rfl rfl 4 (by decide) (hts _ kX5_enters_f20) (fun _ h9 => h9) rfl dX5_enters_48 ?_
  refine lv_aload_n hx hb dX5_enters_51 rfl (lv_at hl 1 rfl) ?_
  refine va_get (D := D) (ci := 5) (v := .int (nI n)) (C := RX5) (T := TX5) (N := 20) hx hb hts kX5_enters_X5 hown hK hP 0 rfl rfl 2 (by decide) (hts _ kX5_enters_f76) (fun _ h9 => h9) rfl dX5_enters_52 ?_
  refine lv_iconst (v := nI 1) hx hb dX5_enters_55 (by decide) ?_
  refine x_add (k := n + 1) hx hb dX5_enters_56 rfl ?_
  refine lv_dup2_11 hx hb dX5_enters_57 rfl rfl ?_
  refine x_ald (v := nI cn) hx hb hK hP 2 0 rfl rfl (by omega) (by omega) hcn0 dX5_enters_58 ?_
  refine lv_iconst (v := nI 1) hx hb dX5_enters_59 (by decide) ?_
  refine x_add (k := cn + 1) hx hb dX5_enters_60 rfl ?_
  refine x_ast (g := upd chg (n + 1) (nI (cn + 1))) (ws' := [(v0, .inr (5, [.ref v1, .ref v2, .int (nI n), .int (nI lim), .ref v3, .ref v4, .ref v5, .ref v6, .ref v7, .ref v8, .ref v9, .ref v10, .ref v11, .ref v12, .ref v13, .ref v14, .ref v15, .ref v16, .ref v17, .int th])), (v1, .inl (cI, 24, .inl row)), (v3, .inl (cI, 52, .inl (upd chg (n + 1) (nI (cn + 1))))), (v4, .inl (cI, 624, .inl (upd tab ((12 * (n + 1)) + cn) (nI t)))), (v5, .inl (cI, 624, .inl (upd key ((12 * (n + 1)) + cn) (nI w)))), (v6, .inl (cI, 624, .inl (upd frs ((12 * (n + 1)) + cn) v)))]) hx hb hK hP hD hS 2 0 rfl rfl (by omega) (by omega) (rfl) rfl dX5_enters_61 (fun H locs hP hD hS => ?_)
  refine lv_aload_n hx hb dX5_enters_62 rfl (lv_at hl 1 rfl) ?_
  refine va_get (D := D) (ci := 5) (v := .ref v1) (C := RX5) (T := TX5) (N := 20) hx hb hts kX5_enters_X5 hown hK hP 0 rfl rfl 0 (by decide) (hts _ kX5_enters_f7) (fun _ h9 => h9) rfl dX5_enters_63 ?_
  refine lv_iload_n hx hb dX5_enters_66 rfl (lv_at hl 2 rfl) ?_
  refine lv_iload_n hx hb dX5_enters_67 rfl (lv_at hl 3 rfl) ?_
  refine lv_iload_n hx hb dX5_enters_68 rfl (lv_at hl 4 rfl) ?_
  refine x_callv (w2 := fun (u : Unit) => [(v0, .inr (5, [.ref v1, .ref v2, .int (nI n), .int (nI lim), .ref v3, .ref v4, .ref v5, .ref v6, .ref v7, .ref v8, .ref v9, .ref v10, .ref v11, .ref v12, .ref v13, .ref v14, .ref v15, .ref v16, .ref v17, .int th])), (v1, .inl (cI, 24, .inl (upd row (12 * t + w) v))), (v3, .inl (cI, 52, .inl (upd chg (n + 1) (nI (cn + 1))))), (v4, .inl (cI, 624, .inl (upd tab ((12 * (n + 1)) + cn) (nI t)))), (v5, .inl (cI, 624, .inl (upd key ((12 * (n + 1)) + cn) (nI w)))), (v6, .inl (cI, 624, .inl (upd frs ((12 * (n + 1)) + cn) v)))]) (wr := [(v0, .inr (5, [.ref v1, .ref v2, .int (nI n), .int (nI lim), .ref v3, .ref v4, .ref v5, .ref v6, .ref v7, .ref v8, .ref v9, .ref v10, .ref v11, .ref v12, .ref v13, .ref v14, .ref v15, .ref v16, .ref v17, .int th])), (v3, .inl (cI, 52, .inl (upd chg (n + 1) (nI (cn + 1))))), (v4, .inl (cI, 624, .inl (upd tab ((12 * (n + 1)) + cn) (nI t)))), (v5, .inl (cI, 624, .inl (upd key ((12 * (n + 1)) + cn) (nI w)))), (v6, .inl (cI, 624, .inl (upd frs ((12 * (n + 1)) + cn) v)))]) (x_runS (n := 4) ⟨hx, hb, hml, hown, hts⟩ (zX5_goes l D cI cP cS cL v1 row t w v ht2 hw12) gX5_enters_X5_goes rfl rfl rfl (by decide +kernel) ⟨by decide, by decide⟩ hN hK hP hD [1] rfl rfl rfl hl.1 (rest := []) (As := [.ref v1, .int (nI t), .int (nI w), .int v]) rfl (Nat.le_of_ble_eq_true rfl) dX5_enters_69 ⟨by decide, by decide⟩) hP hD hS hA [1] [0, 2, 3, 4, 5] [0, 5, 1, 2, 3, 4] rfl rfl rfl (by decide) rfl (fun _ => rfl) (fun u H locs hw hP hD hS => ?_)
  exact x_ret_v hx hb hrt hlk hP hD hS dX5_enters_72 ⟨by decide, by decide⟩ () trivial rfl

set_option maxHeartbeats 4000000 in
set_option maxRecDepth 100000 in
theorem zX5_entersAll (l : Launch) (D : va_G) (cI cP cS cL : ClassId) (v0 v1 v2 v3 v4 v5 v6 v7 v8 v9 v10 v11 v12 v13 v14 v15 v16 v17 : Nat) (n lim : Nat) (th : Int32) (cn t : Nat) (v : Int32) (row chg tab key frs : Nat → Int32) (hn9 : n ≤ 50) (hcn0 : chg (n + 1) = nI cn) (hcn : cn < 12) (ht2 : t < 2) : xMv l yX5_enters wsX5_enters (rmD 1 0 0) D [(cI, .int), (cP, .object RX0), (cS, .object RX2), (cL, .long)] [.ref v0, .int (nI t), .int (-1), .int v] [(v0, .inr (5, [.ref v1, .ref v2, .int (nI n), .int (nI lim), .ref v3, .ref v4, .ref v5, .ref v6, .ref v7, .ref v8, .ref v9, .ref v10, .ref v11, .ref v12, .ref v13, .ref v14, .ref v15, .ref v16, .ref v17, .int th])), (v1, .inl (cI, 24, .inl row)), (v3, .inl (cI, 52, .inl chg)), (v4, .inl (cI, 624, .inl tab)), (v5, .inl (cI, 624, .inl key)), (v6, .inl (cI, 624, .inl frs))] (fun (u : Unit) => True) (fun (u : Unit) => [(v0, .inr (5, [.ref v1, .ref v2, .int (nI n), .int (nI lim), .ref v3, .ref v4, .ref v5, .ref v6, .ref v7, .ref v8, .ref v9, .ref v10, .ref v11, .ref v12, .ref v13, .ref v14, .ref v15, .ref v16, .ref v17, .int th])), (v1, .inl (cI, 24, .inl (qFill row (12 * t) 12 v))), (v3, .inl (cI, 52, .inl (upd chg (n + 1) (nI (cn + 1))))), (v4, .inl (cI, 624, .inl (upd tab (12 * (n + 1) + cn) (nI t)))), (v5, .inl (cI, 624, .inl (upd key (12 * (n + 1) + cn) (-1)))), (v6, .inl (cI, 624, .inl (upd frs (12 * (n + 1) + cn) (v))))]) 0 0 := by
  refine xe_v (cc := cX5_enters) (maxL := 5) (ret := none) (by decide) rfl (Nat.le_of_ble_eq_true rfl) ?_
  intro zp ze s zm below meth zc A ls B
  obtain ⟨hx, hb, hml, hrt, hts, hown, hnm, hlk, hK, hP, hD, hA, hS, hN, hl⟩ := B
  have hown : s.vm.findClass RX5 = some zm.cls := hown
  have hl : lv_has ls 5 [(0, .ref v0), (1, .int (nI t)), (2, .int (-1)), (3, .int v)] := hl
  have hA : ∀ q, s.heap.size ≤ q → A q := hA
  refine lv_bipush (v := nI 12) hx hb dX5_enters_0 (by decide) ?_
  refine lv_aload_n hx hb dX5_enters_2 rfl (lv_at hl 0 rfl) ?_
  refine va_get (D := D) (ci := 5) (v := .int (nI n)) (C := RX5) (T := TX5) (N := 20) hx hb hts kX5_enters_X5 hown hK hP 0 rfl rfl 2 (by decide) (hts _ kX5_enters_f76) (fun _ h9 => h9) rfl dX5_enters_3 ?_
  refine lv_iconst (v := nI 1) hx hb dX5_enters_6 (by decide) ?_
  refine x_add (k := n + 1) hx hb dX5_enters_7 rfl ?_
  refine x_mul (k := 12 * (n + 1)) hx hb dX5_enters_8 rfl ?_
  refine lv_aload_n hx hb dX5_enters_9 rfl (lv_at hl 0 rfl) ?_
  refine va_get (D := D) (ci := 5) (v := .ref v3) (C := RX5) (T := TX5) (N := 20) hx hb hts kX5_enters_X5 hown hK hP 0 rfl rfl 4 (by decide) (hts _ kX5_enters_f20) (fun _ h9 => h9) rfl dX5_enters_10 ?_
  refine lv_aload_n hx hb dX5_enters_13 rfl (lv_at hl 0 rfl) ?_
  refine va_get (D := D) (ci := 5) (v := .int (nI n)) (C := RX5) (T := TX5) (N := 20) hx hb hts kX5_enters_X5 hown hK hP 0 rfl rfl 2 (by decide) (hts _ kX5_enters_f76) (fun _ h9 => h9) rfl dX5_enters_14 ?_
  refine lv_iconst (v := nI 1) hx hb dX5_enters_17 (by decide) ?_
  refine x_add (k := n + 1) hx hb dX5_enters_18 rfl ?_
  refine x_ald (v := nI cn) hx hb hK hP 2 0 rfl rfl (by omega) (by omega) hcn0 dX5_enters_19 ?_
  refine x_add (k := (12 * (n + 1)) + cn) hx hb dX5_enters_20 rfl ?_
  refine lv_istore (lv' := [(4, .int (nI ((12 * (n + 1)) + cn))), (0, .ref v0), (1, .int (nI t)), (2, .int (-1)), (3, .int v)]) hx hb dX5_enters_21 hl (by decide) rfl (fun ls hl => ?_)
  refine lv_aload_n hx hb dX5_enters_23 rfl (lv_at hl 1 rfl) ?_
  refine va_get (D := D) (ci := 5) (v := .ref v4) (C := RX5) (T := TX5) (N := 20) hx hb hts kX5_enters_X5 hown hK hP 0 rfl rfl 5 (by decide) (hts _ kX5_enters_f23) (fun _ h9 => h9) rfl dX5_enters_24 ?_
  refine lv_iload hx hb dX5_enters_27 (lv_at hl 0 rfl) ?_
  refine lv_iload_n hx hb dX5_enters_29 rfl (lv_at hl 2 rfl) ?_
  refine x_ast (g := upd tab ((12 * (n + 1)) + cn) (nI t)) (ws' := [(v0, .inr (5, [.ref v1, .ref v2, .int (nI n), .int (nI lim), .ref v3, .ref v4, .ref v5, .ref v6, .ref v7, .ref v8, .ref v9, .ref v10, .ref v11, .ref v12, .ref v13, .ref v14, .ref v15, .ref v16, .ref v17, .int th])), (v1, .inl (cI, 24, .inl row)), (v3, .inl (cI, 52, .inl chg)), (v4, .inl (cI, 624, .inl (upd tab ((12 * (n + 1)) + cn) (nI t)))), (v5, .inl (cI, 624, .inl key)), (v6, .inl (cI, 624, .inl frs))]) hx hb hK hP hD hS 3 0 rfl rfl (by omega) (by omega) (rfl) rfl dX5_enters_30 (fun H locs hP hD hS => ?_)
  refine lv_aload_n hx hb dX5_enters_31 rfl (lv_at hl 1 rfl) ?_
  refine va_get (D := D) (ci := 5) (v := .ref v5) (C := RX5) (T := TX5) (N := 20) hx hb hts kX5_enters_X5 hown hK hP 0 rfl rfl 6 (by decide) (hts _ kX5_enters_f26) (fun _ h9 => h9) rfl dX5_enters_32 ?_
  refine lv_iload hx hb dX5_enters_35 (lv_at hl 0 rfl) ?_
  refine lv_iload_n hx hb dX5_enters_37 rfl (lv_at hl 3 rfl) ?_
  refine x_ast (g := upd key ((12 * (n + 1)) + cn) (-1)) (ws' := [(v0, .inr (5, [.ref v1, .ref v2, .int (nI n), .int (nI lim), .ref v3, .ref v4, .ref v5, .ref v6, .ref v7, .ref v8, .ref v9, .ref v10, .ref v11, .ref v12, .ref v13, .ref v14, .ref v15, .ref v16, .ref v17, .int th])), (v1, .inl (cI, 24, .inl row)), (v3, .inl (cI, 52, .inl chg)), (v4, .inl (cI, 624, .inl (upd tab ((12 * (n + 1)) + cn) (nI t)))), (v5, .inl (cI, 624, .inl (upd key ((12 * (n + 1)) + cn) (-1)))), (v6, .inl (cI, 624, .inl frs))]) hx hb hK hP hD hS 4 0 rfl rfl (by omega) (by omega) (rfl) rfl dX5_enters_38 (fun H locs hP hD hS => ?_)
  refine lv_aload_n hx hb dX5_enters_39 rfl (lv_at hl 1 rfl) ?_
  refine va_get (D := D) (ci := 5) (v := .ref v6) (C := RX5) (T := TX5) (N := 20) hx hb hts kX5_enters_X5 hown hK hP 0 rfl rfl 7 (by decide) (hts _ kX5_enters_f29) (fun _ h9 => h9) rfl dX5_enters_40 ?_
  refine lv_iload hx hb dX5_enters_43 (lv_at hl 0 rfl) ?_
  refine lv_iload_n hx hb dX5_enters_45 rfl (lv_at hl 4 rfl) ?_
  refine x_ast (g := upd frs ((12 * (n + 1)) + cn) v) (ws' := [(v0, .inr (5, [.ref v1, .ref v2, .int (nI n), .int (nI lim), .ref v3, .ref v4, .ref v5, .ref v6, .ref v7, .ref v8, .ref v9, .ref v10, .ref v11, .ref v12, .ref v13, .ref v14, .ref v15, .ref v16, .ref v17, .int th])), (v1, .inl (cI, 24, .inl row)), (v3, .inl (cI, 52, .inl chg)), (v4, .inl (cI, 624, .inl (upd tab ((12 * (n + 1)) + cn) (nI t)))), (v5, .inl (cI, 624, .inl (upd key ((12 * (n + 1)) + cn) (-1)))), (v6, .inl (cI, 624, .inl (upd frs ((12 * (n + 1)) + cn) v)))]) hx hb hK hP hD hS 5 0 rfl rfl (by omega) (by omega) (rfl) rfl dX5_enters_46 (fun H locs hP hD hS => ?_)
  refine lv_aload_n hx hb dX5_enters_47 rfl (lv_at hl 1 rfl) ?_
  refine va_get (D := D) (ci := 5) (v := .ref v3) (C := RX5) (T := TX5) (N := 20) hx hb hts kX5_enters_X5 hown hK hP 0 rfl rfl 4 (by decide) (hts _ kX5_enters_f20) (fun _ h9 => h9) rfl dX5_enters_48 ?_
  refine lv_aload_n hx hb dX5_enters_51 rfl (lv_at hl 1 rfl) ?_
  refine va_get (D := D) (ci := 5) (v := .int (nI n)) (C := RX5) (T := TX5) (N := 20) hx hb hts kX5_enters_X5 hown hK hP 0 rfl rfl 2 (by decide) (hts _ kX5_enters_f76) (fun _ h9 => h9) rfl dX5_enters_52 ?_
  refine lv_iconst (v := nI 1) hx hb dX5_enters_55 (by decide) ?_
  refine x_add (k := n + 1) hx hb dX5_enters_56 rfl ?_
  refine lv_dup2_11 hx hb dX5_enters_57 rfl rfl ?_
  refine x_ald (v := nI cn) hx hb hK hP 2 0 rfl rfl (by omega) (by omega) hcn0 dX5_enters_58 ?_
  refine lv_iconst (v := nI 1) hx hb dX5_enters_59 (by decide) ?_
  refine x_add (k := cn + 1) hx hb dX5_enters_60 rfl ?_
  refine x_ast (g := upd chg (n + 1) (nI (cn + 1))) (ws' := [(v0, .inr (5, [.ref v1, .ref v2, .int (nI n), .int (nI lim), .ref v3, .ref v4, .ref v5, .ref v6, .ref v7, .ref v8, .ref v9, .ref v10, .ref v11, .ref v12, .ref v13, .ref v14, .ref v15, .ref v16, .ref v17, .int th])), (v1, .inl (cI, 24, .inl row)), (v3, .inl (cI, 52, .inl (upd chg (n + 1) (nI (cn + 1))))), (v4, .inl (cI, 624, .inl (upd tab ((12 * (n + 1)) + cn) (nI t)))), (v5, .inl (cI, 624, .inl (upd key ((12 * (n + 1)) + cn) (-1)))), (v6, .inl (cI, 624, .inl (upd frs ((12 * (n + 1)) + cn) v)))]) hx hb hK hP hD hS 2 0 rfl rfl (by omega) (by omega) (rfl) rfl dX5_enters_61 (fun H locs hP hD hS => ?_)
  refine lv_aload_n hx hb dX5_enters_62 rfl (lv_at hl 1 rfl) ?_
  refine va_get (D := D) (ci := 5) (v := .ref v1) (C := RX5) (T := TX5) (N := 20) hx hb hts kX5_enters_X5 hown hK hP 0 rfl rfl 0 (by decide) (hts _ kX5_enters_f7) (fun _ h9 => h9) rfl dX5_enters_63 ?_
  refine lv_iload_n hx hb dX5_enters_66 rfl (lv_at hl 2 rfl) ?_
  refine lv_iload_n hx hb dX5_enters_67 rfl (lv_at hl 3 rfl) ?_
  refine lv_iload_n hx hb dX5_enters_68 rfl (lv_at hl 4 rfl) ?_
  refine x_callv (w2 := fun (u : Unit) => [(v0, .inr (5, [.ref v1, .ref v2, .int (nI n), .int (nI lim), .ref v3, .ref v4, .ref v5, .ref v6, .ref v7, .ref v8, .ref v9, .ref v10, .ref v11, .ref v12, .ref v13, .ref v14, .ref v15, .ref v16, .ref v17, .int th])), (v1, .inl (cI, 24, .inl (qFill row (12 * t) 12 v))), (v3, .inl (cI, 52, .inl (upd chg (n + 1) (nI (cn + 1))))), (v4, .inl (cI, 624, .inl (upd tab ((12 * (n + 1)) + cn) (nI t)))), (v5, .inl (cI, 624, .inl (upd key ((12 * (n + 1)) + cn) (-1)))), (v6, .inl (cI, 624, .inl (upd frs ((12 * (n + 1)) + cn) v)))]) (wr := [(v0, .inr (5, [.ref v1, .ref v2, .int (nI n), .int (nI lim), .ref v3, .ref v4, .ref v5, .ref v6, .ref v7, .ref v8, .ref v9, .ref v10, .ref v11, .ref v12, .ref v13, .ref v14, .ref v15, .ref v16, .ref v17, .int th])), (v3, .inl (cI, 52, .inl (upd chg (n + 1) (nI (cn + 1))))), (v4, .inl (cI, 624, .inl (upd tab ((12 * (n + 1)) + cn) (nI t)))), (v5, .inl (cI, 624, .inl (upd key ((12 * (n + 1)) + cn) (-1)))), (v6, .inl (cI, 624, .inl (upd frs ((12 * (n + 1)) + cn) v)))]) (x_runS (n := 4) ⟨hx, hb, hml, hown, hts⟩ (zX5_goesAll l D cI cP cS cL v1 row t v ht2) gX5_enters_X5_goes rfl rfl rfl (by decide +kernel) ⟨by decide, by decide⟩ hN hK hP hD [1] rfl rfl rfl hl.1 (rest := []) (As := [.ref v1, .int (nI t), .int (-1), .int v]) rfl (Nat.le_of_ble_eq_true rfl) dX5_enters_69 ⟨by decide, by decide⟩) hP hD hS hA [1] [0, 2, 3, 4, 5] [0, 5, 1, 2, 3, 4] rfl rfl rfl (by decide) rfl (fun _ => rfl) (fun u H locs hw hP hD hS => ?_)
  exact x_ret_v hx hb hrt hlk hP hD hS dX5_enters_72 ⟨by decide, by decide⟩ () trivial rfl

set_option maxRecDepth 20000 in
theorem kX5_put_f7 : Cond.fieldLink RX5 7 "RowReplicatorModel" "row" "[I" ∈ wsX5_put := by decide +kernel
set_option maxRecDepth 20000 in
theorem kX5_put_X5 : ∀ w ∈ wsX50, w ∈ wsX5_put := by decide +kernel
set_option maxHeartbeats 4000000 in
set_option maxRecDepth 100000 in
theorem zX5_put (l : Launch) (D : va_G) (cI cP cS cL : ClassId) (v0 v1 v2 v3 v4 v5 v6 v7 v8 v9 v10 v11 v12 v13 v14 v15 v16 v17 : Nat) (n lim : Nat) (th : Int32) (cn : Nat) (row chg tab key frs : Nat → Int32) (tx kx a bb cx : Int32) (hn9 : n ≤ 50) (hcn0 : chg (n + 1) = nI cn) (hcn : cn ≤ 12) : xMi l yX5_put wsX5_put (rmD 3 0 0) D [(cI, .int), (cP, .object RX0), (cS, .object RX2), (cL, .long)] [.ref v0, .int tx, .int kx, .int a, .int bb, .int cx] [(v0, .inr (5, [.ref v1, .ref v2, .int (nI n), .int (nI lim), .ref v3, .ref v4, .ref v5, .ref v6, .ref v7, .ref v8, .ref v9, .ref v10, .ref v11, .ref v12, .ref v13, .ref v14, .ref v15, .ref v16, .ref v17, .int th])), (v1, .inl (cI, 24, .inl row)), (v3, .inl (cI, 52, .inl chg)), (v4, .inl (cI, 624, .inl tab)), (v5, .inl (cI, 624, .inl key)), (v6, .inl (cI, 624, .inl frs))] (fun (r : Int32) (u : Int32 × (Nat → Int32) × (Nat → Int32) × (Nat → Int32) × (Nat → Int32) × (Nat → Int32)) => match u with | (h, a1, a2, a3, a4, a5) => ((¬ (vp_in tx 2 ∧ vp_in kx 12) ∧ h = nI 1 ∧ a1 = row ∧ a2 = chg ∧ a3 = tab ∧ a4 = key ∧ a5 = frs) ∨ ((vp_in tx 2 ∧ vp_in kx 12) ∧ ¬ (vp_in a 100 ∧ vp_in bb 100 ∧ vp_in cx 100) ∧ h = nI 2 ∧ a1 = row ∧ a2 = chg ∧ a3 = tab ∧ a4 = key ∧ a5 = frs) ∨ ((vp_in tx 2 ∧ vp_in kx 12) ∧ (vp_in a 100 ∧ vp_in bb 100 ∧ vp_in cx 100) ∧ cn = 12 ∧ h = nI 3 ∧ a1 = row ∧ a2 = chg ∧ a3 = tab ∧ a4 = key ∧ a5 = frs) ∨ (∃ tn kn, tx = nI tn ∧ tn < 2 ∧ kx = nI kn ∧ kn < 12 ∧ (vp_in a 100 ∧ vp_in bb 100 ∧ vp_in cx 100) ∧ cn < 12 ∧ h = nI 0 ∧ r = bI (decide (row (12 * tn + kn) = -1)) ∧ a1 = upd row (12 * tn + kn) (mRow a bb cx) ∧ a2 = upd chg (n + 1) (nI (cn + 1)) ∧ a3 = upd tab (12 * (n + 1) + cn) (nI tn) ∧ a4 = upd key (12 * (n + 1) + cn) (nI kn) ∧ a5 = upd frs (12 * (n + 1) + cn) (mRow a bb cx)))) (fun (u : Int32 × (Nat → Int32) × (Nat → Int32) × (Nat → Int32) × (Nat → Int32) × (Nat → Int32)) => match u with | (h, a1, a2, a3, a4, a5) => [(v0, .inr (5, [.ref v1, .ref v2, .int (nI n), .int (nI lim), .ref v3, .ref v4, .ref v5, .ref v6, .ref v7, .ref v8, .ref v9, .ref v10, .ref v11, .ref v12, .ref v13, .ref v14, .ref v15, .ref v16, .ref v17, .int h])), (v1, .inl (cI, 24, .inl a1)), (v3, .inl (cI, 52, .inl a2)), (v4, .inl (cI, 624, .inl a3)), (v5, .inl (cI, 624, .inl a4)), (v6, .inl (cI, 624, .inl a5))]) 0 0 := by
  refine xe_i (cc := cX5_put) (maxL := 8) (ret := (some .boolean)) (by decide) rfl (Nat.le_of_ble_eq_true rfl) ?_
  intro zp ze s zm below meth zc A ls B
  obtain ⟨hx, hb, hml, hrt, hts, hown, hnm, hlk, hK, hP, hD, hA, hS, hN, hl⟩ := B
  have hown : s.vm.findClass RX5 = some zm.cls := hown
  have hl : lv_has ls 8 [(0, .ref v0), (1, .int tx), (2, .int kx), (3, .int a), (4, .int bb), (5, .int cx)] := hl
  have hA : ∀ q, s.heap.size ≤ q → A q := hA
  refine lv_iload_n hx hb dX5_put_0 rfl (lv_at hl 3 rfl) ?_
  refine x_calli (w2 := fun (u : Unit) => [(v0, .inr (5, [.ref v1, .ref v2, .int (nI n), .int (nI lim), .ref v3, .ref v4, .ref v5, .ref v6, .ref v7, .ref v8, .ref v9, .ref v10, .ref v11, .ref v12, .ref v13, .ref v14, .ref v15, .ref v16, .ref v17, .int th])), (v1, .inl (cI, 24, .inl row)), (v3, .inl (cI, 52, .inl chg)), (v4, .inl (cI, 624, .inl tab)), (v5, .inl (cI, 624, .inl key)), (v6, .inl (cI, 624, .inl frs))]) (wr := [(v0, .inr (5, [.ref v1, .ref v2, .int (nI n), .int (nI lim), .ref v3, .ref v4, .ref v5, .ref v6, .ref v7, .ref v8, .ref v9, .ref v10, .ref v11, .ref v12, .ref v13, .ref v14, .ref v15, .ref v16, .ref v17, .int th])), (v1, .inl (cI, 24, .inl row)), (v3, .inl (cI, 52, .inl chg)), (v4, .inl (cI, 624, .inl tab)), (v5, .inl (cI, 624, .inl key)), (v6, .inl (cI, 624, .inl frs))]) (x_runS (n := 1) ⟨hx, hb, hml, hown, hts⟩ (zX5_isNumber l D cI cP cS cL a) gX5_put_X5_isNumber rfl rfl rfl (by decide +kernel) ⟨by decide, by decide⟩ hN hK hP hD [] rfl rfl rfl hl.1 (rest := []) (As := [.int a]) rfl (Nat.le_of_ble_eq_true rfl) dX5_put_1 ⟨by decide, by decide⟩) hP hD hS hA [] [0, 1, 2, 3, 4, 5] [0, 1, 2, 3, 4, 5] rfl rfl rfl (by decide) rfl (fun _ => rfl) (fun r1 u H locs hw hP hD hS => ?_)
  subst hw
  refine x_if_eq (tgt := 27) hx hb (bI_0 _) dX5_put_4 (by decide) (fun c4 => ?_) (fun c4 => ?_)
  · refine lv_iconst (v := nI 0) hx hb dX5_put_27 (by decide) ?_
    refine lv_istore (lv' := [(6, .int (nI 0)), (0, .ref v0), (1, .int tx), (2, .int kx), (3, .int a), (4, .int bb), (5, .int cx)]) hx hb dX5_put_28 hl (by decide) rfl (fun ls hl => ?_)
    refine lv_aload_n hx hb dX5_put_30 rfl (lv_at hl 1 rfl) ?_
    refine lv_iload_n hx hb dX5_put_31 rfl (lv_at hl 2 rfl) ?_
    refine lv_iload_n hx hb dX5_put_32 rfl (lv_at hl 3 rfl) ?_
    refine x_calli (w2 := fun (u : Unit) => [(v0, .inr (5, [.ref v1, .ref v2, .int (nI n), .int (nI lim), .ref v3, .ref v4, .ref v5, .ref v6, .ref v7, .ref v8, .ref v9, .ref v10, .ref v11, .ref v12, .ref v13, .ref v14, .ref v15, .ref v16, .ref v17, .int th])), (v1, .inl (cI, 24, .inl row)), (v3, .inl (cI, 52, .inl chg)), (v4, .inl (cI, 624, .inl tab)), (v5, .inl (cI, 624, .inl key)), (v6, .inl (cI, 624, .inl frs))]) (wr := [(v0, .inr (5, [.ref v1, .ref v2, .int (nI n), .int (nI lim), .ref v3, .ref v4, .ref v5, .ref v6, .ref v7, .ref v8, .ref v9, .ref v10, .ref v11, .ref v12, .ref v13, .ref v14, .ref v15, .ref v16, .ref v17, .int th])), (v1, .inl (cI, 24, .inl row)), (v3, .inl (cI, 52, .inl chg)), (v4, .inl (cI, 624, .inl tab)), (v5, .inl (cI, 624, .inl key)), (v6, .inl (cI, 624, .inl frs))]) (x_runS (n := 2) ⟨hx, hb, hml, hown, hts⟩ (zX5_isRow l D cI cP cS cL tx kx) gX5_put_X5_isRow rfl rfl rfl (by decide +kernel) ⟨by decide, by decide⟩ hN hK hP hD [] rfl rfl rfl hl.1 (rest := [.ref v0]) (As := [.int tx, .int kx]) rfl (Nat.le_of_ble_eq_true rfl) dX5_put_33 ⟨by decide, by decide⟩) hP hD hS hA [] [0, 1, 2, 3, 4, 5] [0, 1, 2, 3, 4, 5] rfl rfl rfl (by decide) rfl (fun _ => rfl) (fun r33 u H locs hw hP hD hS => ?_)
    subst hw
    refine x_if_ne (tgt := 43) hx hb (bI_0 _) dX5_put_36 (by decide) (fun c36 => ?_) (fun c36 => ?_)
    · have hin := qI2_y c36
      obtain ⟨tn, ht2, etn⟩ := vp_in_of hin.1 (by decide)
      obtain ⟨kn, hk2, ekn⟩ := vp_in_of hin.2 (by decide)
      subst etn
      subst ekn
      refine lv_iload hx hb dX5_put_43 (lv_at hl 0 rfl) ?_
      refine x_if_ne (tgt := 52) hx hb (nI_z (by omega)) dX5_put_45 (by decide) (fun c45 => ?_) (fun c45 => ?_)
      · exact absurd c45 (by omega)
      refine lv_iconst (v := nI 2) hx hb dX5_put_48 (by decide) ?_
      refine lv_goto (tgt := 64) hx hb dX5_put_49 (by decide) ?_
      refine x_calli (w2 := fun (u : Unit) => [(v0, .inr (5, [.ref v1, .ref v2, .int (nI n), .int (nI lim), .ref v3, .ref v4, .ref v5, .ref v6, .ref v7, .ref v8, .ref v9, .ref v10, .ref v11, .ref v12, .ref v13, .ref v14, .ref v15, .ref v16, .ref v17, .int (nI 2)])), (v1, .inl (cI, 24, .inl row)), (v3, .inl (cI, 52, .inl chg)), (v4, .inl (cI, 624, .inl tab)), (v5, .inl (cI, 624, .inl key)), (v6, .inl (cI, 624, .inl frs))]) (wr := [(v1, .inl (cI, 24, .inl row)), (v3, .inl (cI, 52, .inl chg)), (v4, .inl (cI, 624, .inl tab)), (v5, .inl (cI, 624, .inl key)), (v6, .inl (cI, 624, .inl frs))]) (x_runV (n := 1) ⟨hx, hb, hml, hown, hts⟩ (zX5_fails l D cI cP cS cL v0 v1 v2 v3 v4 v5 v6 v7 v8 v9 v10 v11 v12 v13 v14 v15 v16 v17 n lim (th) 2 (by decide)) gX5_put_X5_fails rfl rfl rfl (by decide +kernel) ⟨by decide, by decide⟩ hN hK hP hD [0] rfl rfl (ci := 5) (q0 := 0) rfl rfl rfl rfl hl.1 (rest := []) (As := [.int (nI 2)]) rfl (Nat.le_of_ble_eq_true rfl) dX5_put_64 ⟨by decide, by decide⟩) hP hD hS hA [0] [1, 2, 3, 4, 5] [5, 0, 1, 2, 3, 4] rfl rfl rfl (by decide) rfl (fun _ => rfl) (fun r64 u H locs hw hP hD hS => ?_)
      replace hw : r64 = nI 1 := hw.trans (by decide)
      subst hw
      refine x_if_eq (tgt := 72) hx hb (nI_z (by omega)) dX5_put_67 (by decide) (fun c67 => ?_) (fun c67 => ?_)
      · exact absurd c67 (by omega)
      refine lv_iconst (v := nI 0) hx hb dX5_put_70 (by decide) ?_
      exact x_ret_z hx hb hrt (by first | exact Or.inl rfl | exact Or.inr rfl) hlk hP hD hS dX5_put_71 ⟨by decide, by decide⟩ ((nI 2), row, chg, tab, key, frs) (Or.inr (Or.inl ⟨hin, fun q => qIn_n c4 q.1, rfl, rfl, rfl, rfl, rfl, rfl⟩)) rfl
    · refine lv_iconst (v := nI 1) hx hb dX5_put_39 (by decide) ?_
      refine lv_goto (tgt := 64) hx hb dX5_put_40 (by decide) ?_
      refine x_calli (w2 := fun (u : Unit) => [(v0, .inr (5, [.ref v1, .ref v2, .int (nI n), .int (nI lim), .ref v3, .ref v4, .ref v5, .ref v6, .ref v7, .ref v8, .ref v9, .ref v10, .ref v11, .ref v12, .ref v13, .ref v14, .ref v15, .ref v16, .ref v17, .int (nI 1)])), (v1, .inl (cI, 24, .inl row)), (v3, .inl (cI, 52, .inl chg)), (v4, .inl (cI, 624, .inl tab)), (v5, .inl (cI, 624, .inl key)), (v6, .inl (cI, 624, .inl frs))]) (wr := [(v1, .inl (cI, 24, .inl row)), (v3, .inl (cI, 52, .inl chg)), (v4, .inl (cI, 624, .inl tab)), (v5, .inl (cI, 624, .inl key)), (v6, .inl (cI, 624, .inl frs))]) (x_runV (n := 1) ⟨hx, hb, hml, hown, hts⟩ (zX5_fails l D cI cP cS cL v0 v1 v2 v3 v4 v5 v6 v7 v8 v9 v10 v11 v12 v13 v14 v15 v16 v17 n lim (th) 1 (by decide)) gX5_put_X5_fails rfl rfl rfl (by decide +kernel) ⟨by decide, by decide⟩ hN hK hP hD [0] rfl rfl (ci := 5) (q0 := 0) rfl rfl rfl rfl hl.1 (rest := []) (As := [.int (nI 1)]) rfl (Nat.le_of_ble_eq_true rfl) dX5_put_64 ⟨by decide, by decide⟩) hP hD hS hA [0] [1, 2, 3, 4, 5] [5, 0, 1, 2, 3, 4] rfl rfl rfl (by decide) rfl (fun _ => rfl) (fun r64 u H locs hw hP hD hS => ?_)
      replace hw : r64 = nI 1 := hw.trans (by decide)
      subst hw
      refine x_if_eq (tgt := 72) hx hb (nI_z (by omega)) dX5_put_67 (by decide) (fun c67 => ?_) (fun c67 => ?_)
      · exact absurd c67 (by omega)
      refine lv_iconst (v := nI 0) hx hb dX5_put_70 (by decide) ?_
      exact x_ret_z hx hb hrt (by first | exact Or.inl rfl | exact Or.inr rfl) hlk hP hD hS dX5_put_71 ⟨by decide, by decide⟩ ((nI 1), row, chg, tab, key, frs) (Or.inl ⟨qI2_n c36, rfl, rfl, rfl, rfl, rfl, rfl⟩) rfl
  · refine lv_iload hx hb dX5_put_7 (lv_at hl 4 rfl) ?_
    refine x_calli (w2 := fun (u : Unit) => [(v0, .inr (5, [.ref v1, .ref v2, .int (nI n), .int (nI lim), .ref v3, .ref v4, .ref v5, .ref v6, .ref v7, .ref v8, .ref v9, .ref v10, .ref v11, .ref v12, .ref v13, .ref v14, .ref v15, .ref v16, .ref v17, .int th])), (v1, .inl (cI, 24, .inl row)), (v3, .inl (cI, 52, .inl chg)), (v4, .inl (cI, 624, .inl tab)), (v5, .inl (cI, 624, .inl key)), (v6, .inl (cI, 624, .inl frs))]) (wr := [(v0, .inr (5, [.ref v1, .ref v2, .int (nI n), .int (nI lim), .ref v3, .ref v4, .ref v5, .ref v6, .ref v7, .ref v8, .ref v9, .ref v10, .ref v11, .ref v12, .ref v13, .ref v14, .ref v15, .ref v16, .ref v17, .int th])), (v1, .inl (cI, 24, .inl row)), (v3, .inl (cI, 52, .inl chg)), (v4, .inl (cI, 624, .inl tab)), (v5, .inl (cI, 624, .inl key)), (v6, .inl (cI, 624, .inl frs))]) (x_runS (n := 1) ⟨hx, hb, hml, hown, hts⟩ (zX5_isNumber l D cI cP cS cL bb) gX5_put_X5_isNumber rfl rfl rfl (by decide +kernel) ⟨by decide, by decide⟩ hN hK hP hD [] rfl rfl rfl hl.1 (rest := []) (As := [.int bb]) rfl (Nat.le_of_ble_eq_true rfl) dX5_put_9 ⟨by decide, by decide⟩) hP hD hS hA [] [0, 1, 2, 3, 4, 5] [0, 1, 2, 3, 4, 5] rfl rfl rfl (by decide) rfl (fun _ => rfl) (fun r9 u H locs hw hP hD hS => ?_)
    subst hw
    refine x_if_eq (tgt := 27) hx hb (bI_0 _) dX5_put_12 (by decide) (fun c12 => ?_) (fun c12 => ?_)
    · refine lv_iconst (v := nI 0) hx hb dX5_put_27 (by decide) ?_
      refine lv_istore (lv' := [(6, .int (nI 0)), (0, .ref v0), (1, .int tx), (2, .int kx), (3, .int a), (4, .int bb), (5, .int cx)]) hx hb dX5_put_28 hl (by decide) rfl (fun ls hl => ?_)
      refine lv_aload_n hx hb dX5_put_30 rfl (lv_at hl 1 rfl) ?_
      refine lv_iload_n hx hb dX5_put_31 rfl (lv_at hl 2 rfl) ?_
      refine lv_iload_n hx hb dX5_put_32 rfl (lv_at hl 3 rfl) ?_
      refine x_calli (w2 := fun (u : Unit) => [(v0, .inr (5, [.ref v1, .ref v2, .int (nI n), .int (nI lim), .ref v3, .ref v4, .ref v5, .ref v6, .ref v7, .ref v8, .ref v9, .ref v10, .ref v11, .ref v12, .ref v13, .ref v14, .ref v15, .ref v16, .ref v17, .int th])), (v1, .inl (cI, 24, .inl row)), (v3, .inl (cI, 52, .inl chg)), (v4, .inl (cI, 624, .inl tab)), (v5, .inl (cI, 624, .inl key)), (v6, .inl (cI, 624, .inl frs))]) (wr := [(v0, .inr (5, [.ref v1, .ref v2, .int (nI n), .int (nI lim), .ref v3, .ref v4, .ref v5, .ref v6, .ref v7, .ref v8, .ref v9, .ref v10, .ref v11, .ref v12, .ref v13, .ref v14, .ref v15, .ref v16, .ref v17, .int th])), (v1, .inl (cI, 24, .inl row)), (v3, .inl (cI, 52, .inl chg)), (v4, .inl (cI, 624, .inl tab)), (v5, .inl (cI, 624, .inl key)), (v6, .inl (cI, 624, .inl frs))]) (x_runS (n := 2) ⟨hx, hb, hml, hown, hts⟩ (zX5_isRow l D cI cP cS cL tx kx) gX5_put_X5_isRow rfl rfl rfl (by decide +kernel) ⟨by decide, by decide⟩ hN hK hP hD [] rfl rfl rfl hl.1 (rest := [.ref v0]) (As := [.int tx, .int kx]) rfl (Nat.le_of_ble_eq_true rfl) dX5_put_33 ⟨by decide, by decide⟩) hP hD hS hA [] [0, 1, 2, 3, 4, 5] [0, 1, 2, 3, 4, 5] rfl rfl rfl (by decide) rfl (fun _ => rfl) (fun r33 u H locs hw hP hD hS => ?_)
      subst hw
      refine x_if_ne (tgt := 43) hx hb (bI_0 _) dX5_put_36 (by decide) (fun c36 => ?_) (fun c36 => ?_)
      · have hin := qI2_y c36
        obtain ⟨tn, ht2, etn⟩ := vp_in_of hin.1 (by decide)
        obtain ⟨kn, hk2, ekn⟩ := vp_in_of hin.2 (by decide)
        subst etn
        subst ekn
        refine lv_iload hx hb dX5_put_43 (lv_at hl 0 rfl) ?_
        refine x_if_ne (tgt := 52) hx hb (nI_z (by omega)) dX5_put_45 (by decide) (fun c45 => ?_) (fun c45 => ?_)
        · exact absurd c45 (by omega)
        refine lv_iconst (v := nI 2) hx hb dX5_put_48 (by decide) ?_
        refine lv_goto (tgt := 64) hx hb dX5_put_49 (by decide) ?_
        refine x_calli (w2 := fun (u : Unit) => [(v0, .inr (5, [.ref v1, .ref v2, .int (nI n), .int (nI lim), .ref v3, .ref v4, .ref v5, .ref v6, .ref v7, .ref v8, .ref v9, .ref v10, .ref v11, .ref v12, .ref v13, .ref v14, .ref v15, .ref v16, .ref v17, .int (nI 2)])), (v1, .inl (cI, 24, .inl row)), (v3, .inl (cI, 52, .inl chg)), (v4, .inl (cI, 624, .inl tab)), (v5, .inl (cI, 624, .inl key)), (v6, .inl (cI, 624, .inl frs))]) (wr := [(v1, .inl (cI, 24, .inl row)), (v3, .inl (cI, 52, .inl chg)), (v4, .inl (cI, 624, .inl tab)), (v5, .inl (cI, 624, .inl key)), (v6, .inl (cI, 624, .inl frs))]) (x_runV (n := 1) ⟨hx, hb, hml, hown, hts⟩ (zX5_fails l D cI cP cS cL v0 v1 v2 v3 v4 v5 v6 v7 v8 v9 v10 v11 v12 v13 v14 v15 v16 v17 n lim (th) 2 (by decide)) gX5_put_X5_fails rfl rfl rfl (by decide +kernel) ⟨by decide, by decide⟩ hN hK hP hD [0] rfl rfl (ci := 5) (q0 := 0) rfl rfl rfl rfl hl.1 (rest := []) (As := [.int (nI 2)]) rfl (Nat.le_of_ble_eq_true rfl) dX5_put_64 ⟨by decide, by decide⟩) hP hD hS hA [0] [1, 2, 3, 4, 5] [5, 0, 1, 2, 3, 4] rfl rfl rfl (by decide) rfl (fun _ => rfl) (fun r64 u H locs hw hP hD hS => ?_)
        replace hw : r64 = nI 1 := hw.trans (by decide)
        subst hw
        refine x_if_eq (tgt := 72) hx hb (nI_z (by omega)) dX5_put_67 (by decide) (fun c67 => ?_) (fun c67 => ?_)
        · exact absurd c67 (by omega)
        refine lv_iconst (v := nI 0) hx hb dX5_put_70 (by decide) ?_
        exact x_ret_z hx hb hrt (by first | exact Or.inl rfl | exact Or.inr rfl) hlk hP hD hS dX5_put_71 ⟨by decide, by decide⟩ ((nI 2), row, chg, tab, key, frs) (Or.inr (Or.inl ⟨hin, fun q => qIn_n c12 q.2.1, rfl, rfl, rfl, rfl, rfl, rfl⟩)) rfl
      · refine lv_iconst (v := nI 1) hx hb dX5_put_39 (by decide) ?_
        refine lv_goto (tgt := 64) hx hb dX5_put_40 (by decide) ?_
        refine x_calli (w2 := fun (u : Unit) => [(v0, .inr (5, [.ref v1, .ref v2, .int (nI n), .int (nI lim), .ref v3, .ref v4, .ref v5, .ref v6, .ref v7, .ref v8, .ref v9, .ref v10, .ref v11, .ref v12, .ref v13, .ref v14, .ref v15, .ref v16, .ref v17, .int (nI 1)])), (v1, .inl (cI, 24, .inl row)), (v3, .inl (cI, 52, .inl chg)), (v4, .inl (cI, 624, .inl tab)), (v5, .inl (cI, 624, .inl key)), (v6, .inl (cI, 624, .inl frs))]) (wr := [(v1, .inl (cI, 24, .inl row)), (v3, .inl (cI, 52, .inl chg)), (v4, .inl (cI, 624, .inl tab)), (v5, .inl (cI, 624, .inl key)), (v6, .inl (cI, 624, .inl frs))]) (x_runV (n := 1) ⟨hx, hb, hml, hown, hts⟩ (zX5_fails l D cI cP cS cL v0 v1 v2 v3 v4 v5 v6 v7 v8 v9 v10 v11 v12 v13 v14 v15 v16 v17 n lim (th) 1 (by decide)) gX5_put_X5_fails rfl rfl rfl (by decide +kernel) ⟨by decide, by decide⟩ hN hK hP hD [0] rfl rfl (ci := 5) (q0 := 0) rfl rfl rfl rfl hl.1 (rest := []) (As := [.int (nI 1)]) rfl (Nat.le_of_ble_eq_true rfl) dX5_put_64 ⟨by decide, by decide⟩) hP hD hS hA [0] [1, 2, 3, 4, 5] [5, 0, 1, 2, 3, 4] rfl rfl rfl (by decide) rfl (fun _ => rfl) (fun r64 u H locs hw hP hD hS => ?_)
        replace hw : r64 = nI 1 := hw.trans (by decide)
        subst hw
        refine x_if_eq (tgt := 72) hx hb (nI_z (by omega)) dX5_put_67 (by decide) (fun c67 => ?_) (fun c67 => ?_)
        · exact absurd c67 (by omega)
        refine lv_iconst (v := nI 0) hx hb dX5_put_70 (by decide) ?_
        exact x_ret_z hx hb hrt (by first | exact Or.inl rfl | exact Or.inr rfl) hlk hP hD hS dX5_put_71 ⟨by decide, by decide⟩ ((nI 1), row, chg, tab, key, frs) (Or.inl ⟨qI2_n c36, rfl, rfl, rfl, rfl, rfl, rfl⟩) rfl
    · refine lv_iload hx hb dX5_put_15 (lv_at hl 5 rfl) ?_
      refine x_calli (w2 := fun (u : Unit) => [(v0, .inr (5, [.ref v1, .ref v2, .int (nI n), .int (nI lim), .ref v3, .ref v4, .ref v5, .ref v6, .ref v7, .ref v8, .ref v9, .ref v10, .ref v11, .ref v12, .ref v13, .ref v14, .ref v15, .ref v16, .ref v17, .int th])), (v1, .inl (cI, 24, .inl row)), (v3, .inl (cI, 52, .inl chg)), (v4, .inl (cI, 624, .inl tab)), (v5, .inl (cI, 624, .inl key)), (v6, .inl (cI, 624, .inl frs))]) (wr := [(v0, .inr (5, [.ref v1, .ref v2, .int (nI n), .int (nI lim), .ref v3, .ref v4, .ref v5, .ref v6, .ref v7, .ref v8, .ref v9, .ref v10, .ref v11, .ref v12, .ref v13, .ref v14, .ref v15, .ref v16, .ref v17, .int th])), (v1, .inl (cI, 24, .inl row)), (v3, .inl (cI, 52, .inl chg)), (v4, .inl (cI, 624, .inl tab)), (v5, .inl (cI, 624, .inl key)), (v6, .inl (cI, 624, .inl frs))]) (x_runS (n := 1) ⟨hx, hb, hml, hown, hts⟩ (zX5_isNumber l D cI cP cS cL cx) gX5_put_X5_isNumber rfl rfl rfl (by decide +kernel) ⟨by decide, by decide⟩ hN hK hP hD [] rfl rfl rfl hl.1 (rest := []) (As := [.int cx]) rfl (Nat.le_of_ble_eq_true rfl) dX5_put_17 ⟨by decide, by decide⟩) hP hD hS hA [] [0, 1, 2, 3, 4, 5] [0, 1, 2, 3, 4, 5] rfl rfl rfl (by decide) rfl (fun _ => rfl) (fun r17 u H locs hw hP hD hS => ?_)
      subst hw
      refine x_if_eq (tgt := 27) hx hb (bI_0 _) dX5_put_20 (by decide) (fun c20 => ?_) (fun c20 => ?_)
      · refine lv_iconst (v := nI 0) hx hb dX5_put_27 (by decide) ?_
        refine lv_istore (lv' := [(6, .int (nI 0)), (0, .ref v0), (1, .int tx), (2, .int kx), (3, .int a), (4, .int bb), (5, .int cx)]) hx hb dX5_put_28 hl (by decide) rfl (fun ls hl => ?_)
        refine lv_aload_n hx hb dX5_put_30 rfl (lv_at hl 1 rfl) ?_
        refine lv_iload_n hx hb dX5_put_31 rfl (lv_at hl 2 rfl) ?_
        refine lv_iload_n hx hb dX5_put_32 rfl (lv_at hl 3 rfl) ?_
        refine x_calli (w2 := fun (u : Unit) => [(v0, .inr (5, [.ref v1, .ref v2, .int (nI n), .int (nI lim), .ref v3, .ref v4, .ref v5, .ref v6, .ref v7, .ref v8, .ref v9, .ref v10, .ref v11, .ref v12, .ref v13, .ref v14, .ref v15, .ref v16, .ref v17, .int th])), (v1, .inl (cI, 24, .inl row)), (v3, .inl (cI, 52, .inl chg)), (v4, .inl (cI, 624, .inl tab)), (v5, .inl (cI, 624, .inl key)), (v6, .inl (cI, 624, .inl frs))]) (wr := [(v0, .inr (5, [.ref v1, .ref v2, .int (nI n), .int (nI lim), .ref v3, .ref v4, .ref v5, .ref v6, .ref v7, .ref v8, .ref v9, .ref v10, .ref v11, .ref v12, .ref v13, .ref v14, .ref v15, .ref v16, .ref v17, .int th])), (v1, .inl (cI, 24, .inl row)), (v3, .inl (cI, 52, .inl chg)), (v4, .inl (cI, 624, .inl tab)), (v5, .inl (cI, 624, .inl key)), (v6, .inl (cI, 624, .inl frs))]) (x_runS (n := 2) ⟨hx, hb, hml, hown, hts⟩ (zX5_isRow l D cI cP cS cL tx kx) gX5_put_X5_isRow rfl rfl rfl (by decide +kernel) ⟨by decide, by decide⟩ hN hK hP hD [] rfl rfl rfl hl.1 (rest := [.ref v0]) (As := [.int tx, .int kx]) rfl (Nat.le_of_ble_eq_true rfl) dX5_put_33 ⟨by decide, by decide⟩) hP hD hS hA [] [0, 1, 2, 3, 4, 5] [0, 1, 2, 3, 4, 5] rfl rfl rfl (by decide) rfl (fun _ => rfl) (fun r33 u H locs hw hP hD hS => ?_)
        subst hw
        refine x_if_ne (tgt := 43) hx hb (bI_0 _) dX5_put_36 (by decide) (fun c36 => ?_) (fun c36 => ?_)
        · have hin := qI2_y c36
          obtain ⟨tn, ht2, etn⟩ := vp_in_of hin.1 (by decide)
          obtain ⟨kn, hk2, ekn⟩ := vp_in_of hin.2 (by decide)
          subst etn
          subst ekn
          refine lv_iload hx hb dX5_put_43 (lv_at hl 0 rfl) ?_
          refine x_if_ne (tgt := 52) hx hb (nI_z (by omega)) dX5_put_45 (by decide) (fun c45 => ?_) (fun c45 => ?_)
          · exact absurd c45 (by omega)
          refine lv_iconst (v := nI 2) hx hb dX5_put_48 (by decide) ?_
          refine lv_goto (tgt := 64) hx hb dX5_put_49 (by decide) ?_
          refine x_calli (w2 := fun (u : Unit) => [(v0, .inr (5, [.ref v1, .ref v2, .int (nI n), .int (nI lim), .ref v3, .ref v4, .ref v5, .ref v6, .ref v7, .ref v8, .ref v9, .ref v10, .ref v11, .ref v12, .ref v13, .ref v14, .ref v15, .ref v16, .ref v17, .int (nI 2)])), (v1, .inl (cI, 24, .inl row)), (v3, .inl (cI, 52, .inl chg)), (v4, .inl (cI, 624, .inl tab)), (v5, .inl (cI, 624, .inl key)), (v6, .inl (cI, 624, .inl frs))]) (wr := [(v1, .inl (cI, 24, .inl row)), (v3, .inl (cI, 52, .inl chg)), (v4, .inl (cI, 624, .inl tab)), (v5, .inl (cI, 624, .inl key)), (v6, .inl (cI, 624, .inl frs))]) (x_runV (n := 1) ⟨hx, hb, hml, hown, hts⟩ (zX5_fails l D cI cP cS cL v0 v1 v2 v3 v4 v5 v6 v7 v8 v9 v10 v11 v12 v13 v14 v15 v16 v17 n lim (th) 2 (by decide)) gX5_put_X5_fails rfl rfl rfl (by decide +kernel) ⟨by decide, by decide⟩ hN hK hP hD [0] rfl rfl (ci := 5) (q0 := 0) rfl rfl rfl rfl hl.1 (rest := []) (As := [.int (nI 2)]) rfl (Nat.le_of_ble_eq_true rfl) dX5_put_64 ⟨by decide, by decide⟩) hP hD hS hA [0] [1, 2, 3, 4, 5] [5, 0, 1, 2, 3, 4] rfl rfl rfl (by decide) rfl (fun _ => rfl) (fun r64 u H locs hw hP hD hS => ?_)
          replace hw : r64 = nI 1 := hw.trans (by decide)
          subst hw
          refine x_if_eq (tgt := 72) hx hb (nI_z (by omega)) dX5_put_67 (by decide) (fun c67 => ?_) (fun c67 => ?_)
          · exact absurd c67 (by omega)
          refine lv_iconst (v := nI 0) hx hb dX5_put_70 (by decide) ?_
          exact x_ret_z hx hb hrt (by first | exact Or.inl rfl | exact Or.inr rfl) hlk hP hD hS dX5_put_71 ⟨by decide, by decide⟩ ((nI 2), row, chg, tab, key, frs) (Or.inr (Or.inl ⟨hin, fun q => qIn_n c20 q.2.2, rfl, rfl, rfl, rfl, rfl, rfl⟩)) rfl
        · refine lv_iconst (v := nI 1) hx hb dX5_put_39 (by decide) ?_
          refine lv_goto (tgt := 64) hx hb dX5_put_40 (by decide) ?_
          refine x_calli (w2 := fun (u : Unit) => [(v0, .inr (5, [.ref v1, .ref v2, .int (nI n), .int (nI lim), .ref v3, .ref v4, .ref v5, .ref v6, .ref v7, .ref v8, .ref v9, .ref v10, .ref v11, .ref v12, .ref v13, .ref v14, .ref v15, .ref v16, .ref v17, .int (nI 1)])), (v1, .inl (cI, 24, .inl row)), (v3, .inl (cI, 52, .inl chg)), (v4, .inl (cI, 624, .inl tab)), (v5, .inl (cI, 624, .inl key)), (v6, .inl (cI, 624, .inl frs))]) (wr := [(v1, .inl (cI, 24, .inl row)), (v3, .inl (cI, 52, .inl chg)), (v4, .inl (cI, 624, .inl tab)), (v5, .inl (cI, 624, .inl key)), (v6, .inl (cI, 624, .inl frs))]) (x_runV (n := 1) ⟨hx, hb, hml, hown, hts⟩ (zX5_fails l D cI cP cS cL v0 v1 v2 v3 v4 v5 v6 v7 v8 v9 v10 v11 v12 v13 v14 v15 v16 v17 n lim (th) 1 (by decide)) gX5_put_X5_fails rfl rfl rfl (by decide +kernel) ⟨by decide, by decide⟩ hN hK hP hD [0] rfl rfl (ci := 5) (q0 := 0) rfl rfl rfl rfl hl.1 (rest := []) (As := [.int (nI 1)]) rfl (Nat.le_of_ble_eq_true rfl) dX5_put_64 ⟨by decide, by decide⟩) hP hD hS hA [0] [1, 2, 3, 4, 5] [5, 0, 1, 2, 3, 4] rfl rfl rfl (by decide) rfl (fun _ => rfl) (fun r64 u H locs hw hP hD hS => ?_)
          replace hw : r64 = nI 1 := hw.trans (by decide)
          subst hw
          refine x_if_eq (tgt := 72) hx hb (nI_z (by omega)) dX5_put_67 (by decide) (fun c67 => ?_) (fun c67 => ?_)
          · exact absurd c67 (by omega)
          refine lv_iconst (v := nI 0) hx hb dX5_put_70 (by decide) ?_
          exact x_ret_z hx hb hrt (by first | exact Or.inl rfl | exact Or.inr rfl) hlk hP hD hS dX5_put_71 ⟨by decide, by decide⟩ ((nI 1), row, chg, tab, key, frs) (Or.inl ⟨qI2_n c36, rfl, rfl, rfl, rfl, rfl, rfl⟩) rfl
      · refine lv_iconst (v := nI 1) hx hb dX5_put_23 (by decide) ?_
        refine lv_goto (tgt := 28) hx hb dX5_put_24 (by decide) ?_
        refine lv_istore (lv' := [(6, .int (nI 1)), (0, .ref v0), (1, .int tx), (2, .int kx), (3, .int a), (4, .int bb), (5, .int cx)]) hx hb dX5_put_28 hl (by decide) rfl (fun ls hl => ?_)
        refine lv_aload_n hx hb dX5_put_30 rfl (lv_at hl 1 rfl) ?_
        refine lv_iload_n hx hb dX5_put_31 rfl (lv_at hl 2 rfl) ?_
        refine lv_iload_n hx hb dX5_put_32 rfl (lv_at hl 3 rfl) ?_
        refine x_calli (w2 := fun (u : Unit) => [(v0, .inr (5, [.ref v1, .ref v2, .int (nI n), .int (nI lim), .ref v3, .ref v4, .ref v5, .ref v6, .ref v7, .ref v8, .ref v9, .ref v10, .ref v11, .ref v12, .ref v13, .ref v14, .ref v15, .ref v16, .ref v17, .int th])), (v1, .inl (cI, 24, .inl row)), (v3, .inl (cI, 52, .inl chg)), (v4, .inl (cI, 624, .inl tab)), (v5, .inl (cI, 624, .inl key)), (v6, .inl (cI, 624, .inl frs))]) (wr := [(v0, .inr (5, [.ref v1, .ref v2, .int (nI n), .int (nI lim), .ref v3, .ref v4, .ref v5, .ref v6, .ref v7, .ref v8, .ref v9, .ref v10, .ref v11, .ref v12, .ref v13, .ref v14, .ref v15, .ref v16, .ref v17, .int th])), (v1, .inl (cI, 24, .inl row)), (v3, .inl (cI, 52, .inl chg)), (v4, .inl (cI, 624, .inl tab)), (v5, .inl (cI, 624, .inl key)), (v6, .inl (cI, 624, .inl frs))]) (x_runS (n := 2) ⟨hx, hb, hml, hown, hts⟩ (zX5_isRow l D cI cP cS cL tx kx) gX5_put_X5_isRow rfl rfl rfl (by decide +kernel) ⟨by decide, by decide⟩ hN hK hP hD [] rfl rfl rfl hl.1 (rest := [.ref v0]) (As := [.int tx, .int kx]) rfl (Nat.le_of_ble_eq_true rfl) dX5_put_33 ⟨by decide, by decide⟩) hP hD hS hA [] [0, 1, 2, 3, 4, 5] [0, 1, 2, 3, 4, 5] rfl rfl rfl (by decide) rfl (fun _ => rfl) (fun r33 u H locs hw hP hD hS => ?_)
        subst hw
        refine x_if_ne (tgt := 43) hx hb (bI_0 _) dX5_put_36 (by decide) (fun c36 => ?_) (fun c36 => ?_)
        · have hin := qI2_y c36
          obtain ⟨tn, ht2, etn⟩ := vp_in_of hin.1 (by decide)
          obtain ⟨kn, hk2, ekn⟩ := vp_in_of hin.2 (by decide)
          subst etn
          subst ekn
          refine lv_iload hx hb dX5_put_43 (lv_at hl 0 rfl) ?_
          refine x_if_ne (tgt := 52) hx hb (nI_z (by omega)) dX5_put_45 (by decide) (fun c45 => ?_) (fun c45 => ?_)
          rotate_left
          · exact absurd c45 (by omega)
          refine lv_aload_n hx hb dX5_put_52 rfl (lv_at hl 1 rfl) ?_
          refine x_calli (w2 := fun (u : Unit) => [(v0, .inr (5, [.ref v1, .ref v2, .int (nI n), .int (nI lim), .ref v3, .ref v4, .ref v5, .ref v6, .ref v7, .ref v8, .ref v9, .ref v10, .ref v11, .ref v12, .ref v13, .ref v14, .ref v15, .ref v16, .ref v17, .int th])), (v1, .inl (cI, 24, .inl row)), (v3, .inl (cI, 52, .inl chg)), (v4, .inl (cI, 624, .inl tab)), (v5, .inl (cI, 624, .inl key)), (v6, .inl (cI, 624, .inl frs))]) (wr := [(v1, .inl (cI, 24, .inl row)), (v4, .inl (cI, 624, .inl tab)), (v5, .inl (cI, 624, .inl key)), (v6, .inl (cI, 624, .inl frs))]) (x_runV (n := 0) ⟨hx, hb, hml, hown, hts⟩ (zX5_isFull l D cI cP cS cL v0 v1 v2 v3 v4 v5 v6 v7 v8 v9 v10 v11 v12 v13 v14 v15 v16 v17 n lim (th) cn chg hn9 hcn0 hcn) gX5_put_X5_isFull rfl rfl rfl (by decide +kernel) ⟨by decide, by decide⟩ hN hK hP hD [0, 2] rfl rfl (ci := 5) (q0 := 0) rfl rfl rfl rfl hl.1 (rest := [.ref v0]) (As := []) rfl (Nat.le_of_ble_eq_true rfl) dX5_put_53 ⟨by decide, by decide⟩) hP hD hS hA [0, 2] [1, 3, 4, 5] [4, 0, 5, 1, 2, 3] rfl rfl rfl (by decide) rfl (fun _ => rfl) (fun r53 u H locs hw hP hD hS => ?_)
          subst hw
          refine x_if_eq (tgt := 63) hx hb (bI_0 _) dX5_put_56 (by decide) (fun c56 => ?_) (fun c56 => ?_)
          · have hcl : cn < 12 := by have := of_decide_eq_false c56; omega
            refine lv_iconst (v := nI 0) hx hb dX5_put_63 (by decide) ?_
            refine x_calli (w2 := fun (u : Unit) => [(v0, .inr (5, [.ref v1, .ref v2, .int (nI n), .int (nI lim), .ref v3, .ref v4, .ref v5, .ref v6, .ref v7, .ref v8, .ref v9, .ref v10, .ref v11, .ref v12, .ref v13, .ref v14, .ref v15, .ref v16, .ref v17, .int (nI 0)])), (v1, .inl (cI, 24, .inl row)), (v3, .inl (cI, 52, .inl chg)), (v4, .inl (cI, 624, .inl tab)), (v5, .inl (cI, 624, .inl key)), (v6, .inl (cI, 624, .inl frs))]) (wr := [(v1, .inl (cI, 24, .inl row)), (v3, .inl (cI, 52, .inl chg)), (v4, .inl (cI, 624, .inl tab)), (v5, .inl (cI, 624, .inl key)), (v6, .inl (cI, 624, .inl frs))]) (x_runV (n := 1) ⟨hx, hb, hml, hown, hts⟩ (zX5_fails l D cI cP cS cL v0 v1 v2 v3 v4 v5 v6 v7 v8 v9 v10 v11 v12 v13 v14 v15 v16 v17 n lim (th) 0 (by decide)) gX5_put_X5_fails rfl rfl rfl (by decide +kernel) ⟨by decide, by decide⟩ hN hK hP hD [0] rfl rfl (ci := 5) (q0 := 0) rfl rfl rfl rfl hl.1 (rest := []) (As := [.int (nI 0)]) rfl (Nat.le_of_ble_eq_true rfl) dX5_put_64 ⟨by decide, by decide⟩) hP hD hS hA [0] [1, 2, 3, 4, 5] [5, 0, 1, 2, 3, 4] rfl rfl rfl (by decide) rfl (fun _ => rfl) (fun r64 u H locs hw hP hD hS => ?_)
            replace hw : r64 = nI 0 := hw.trans (by decide)
            subst hw
            refine x_if_eq (tgt := 72) hx hb (nI_z (by omega)) dX5_put_67 (by decide) (fun c67 => ?_) (fun c67 => ?_)
            rotate_left
            · exact absurd c67 (by omega)
            refine lv_aload_n hx hb dX5_put_72 rfl (lv_at hl 1 rfl) ?_
            refine va_get (D := D) (ci := 5) (v := .ref v1) (C := RX5) (T := TX5) (N := 20) hx hb hts kX5_put_X5 hown hK hP 0 rfl rfl 0 (by decide) (hts _ kX5_put_f7) (fun _ h9 => h9) rfl dX5_put_73 ?_
            refine lv_bipush (v := nI 12) hx hb dX5_put_76 (by decide) ?_
            refine lv_iload_n hx hb dX5_put_78 rfl (lv_at hl 2 rfl) ?_
            refine x_mul (k := 12 * tn) hx hb dX5_put_79 rfl ?_
            refine lv_iload_n hx hb dX5_put_80 rfl (lv_at hl 3 rfl) ?_
            refine x_add (k := (12 * tn) + kn) hx hb dX5_put_81 rfl ?_
            refine x_ald (v := row ((12 * tn) + kn)) hx hb hK hP 1 0 rfl rfl (by omega) (by omega) rfl dX5_put_82 ?_
            refine lv_iconst (v := -1) hx hb dX5_put_83 (by decide) ?_
            refine x_cmp_ne (tgt := 91) hx hb (Iff.rfl) dX5_put_84 (by decide) (fun c84 => ?_) (fun c84 => ?_)
            · refine lv_iconst (v := nI 0) hx hb dX5_put_91 (by decide) ?_
              refine lv_istore (lv' := [(7, .int (nI 0)), (6, .int (nI 1)), (0, .ref v0), (1, .int (nI tn)), (2, .int (nI kn)), (3, .int a), (4, .int bb), (5, .int cx)]) hx hb dX5_put_92 hl (by decide) rfl (fun ls hl => ?_)
              refine lv_aload_n hx hb dX5_put_94 rfl (lv_at hl 2 rfl) ?_
              refine lv_iload_n hx hb dX5_put_95 rfl (lv_at hl 3 rfl) ?_
              refine lv_iload_n hx hb dX5_put_96 rfl (lv_at hl 4 rfl) ?_
              refine lv_iload_n hx hb dX5_put_97 rfl (lv_at hl 5 rfl) ?_
              refine lv_bipush (v := nI 100) hx hb dX5_put_98 (by decide) ?_
              refine lv_iload hx hb dX5_put_100 (lv_at hl 6 rfl) ?_
              refine lv_imul hx hb dX5_put_102 ?_
              refine lv_iadd hx hb dX5_put_103 ?_
              refine lv_sipush (v := nI 10000) hx hb dX5_put_104 (by decide) ?_
              refine lv_iload hx hb dX5_put_107 (lv_at hl 7 rfl) ?_
              refine lv_imul hx hb dX5_put_109 ?_
              refine lv_iadd hx hb dX5_put_110 ?_
              refine x_top (y := mRow a bb cx) (rfl) ?_
              refine x_callv (w2 := fun (u : Unit) => [(v0, .inr (5, [.ref v1, .ref v2, .int (nI n), .int (nI lim), .ref v3, .ref v4, .ref v5, .ref v6, .ref v7, .ref v8, .ref v9, .ref v10, .ref v11, .ref v12, .ref v13, .ref v14, .ref v15, .ref v16, .ref v17, .int (nI 0)])), (v1, .inl (cI, 24, .inl (upd row (12 * tn + kn) ((mRow a bb cx))))), (v3, .inl (cI, 52, .inl (upd chg (n + 1) (nI (cn + 1))))), (v4, .inl (cI, 624, .inl (upd tab (12 * (n + 1) + cn) (nI tn)))), (v5, .inl (cI, 624, .inl (upd key (12 * (n + 1) + cn) (nI kn)))), (v6, .inl (cI, 624, .inl (upd frs (12 * (n + 1) + cn) (((mRow a bb cx))))))]) (wr := []) (x_runV (n := 3) ⟨hx, hb, hml, hown, hts⟩ (zX5_enters l D cI cP cS cL v0 v1 v2 v3 v4 v5 v6 v7 v8 v9 v10 v11 v12 v13 v14 v15 v16 v17 n lim (nI 0) cn tn kn (mRow a bb cx) row chg tab key frs hn9 hcn0 (by omega) ht2 hk2) gX5_put_X5_enters rfl rfl rfl (by decide +kernel) ⟨by decide, by decide⟩ hN hK hP hD [0, 1, 2, 3, 4, 5] rfl rfl (ci := 5) (q0 := 0) rfl rfl rfl rfl hl.1 (rest := []) (As := [.int (nI tn), .int (nI kn), .int (mRow a bb cx)]) rfl (Nat.le_of_ble_eq_true rfl) dX5_put_111 ⟨by decide, by decide⟩) hP hD hS hA [0, 1, 2, 3, 4, 5] [] [0, 1, 2, 3, 4, 5] rfl rfl rfl (by decide) rfl (fun _ => rfl) (fun u H locs hw hP hD hS => ?_)
              refine lv_iload hx hb dX5_put_114 (lv_at hl 0 rfl) ?_
              exact x_ret_z hx hb hrt (by first | exact Or.inl rfl | exact Or.inr rfl) hlk hP hD hS dX5_put_116 ⟨by decide, by decide⟩ ((nI 0), upd row (12 * tn + kn) ((mRow a bb cx)), upd chg (n + 1) (nI (cn + 1)), upd tab (12 * (n + 1) + cn) (nI tn), upd key (12 * (n + 1) + cn) (nI kn), upd frs (12 * (n + 1) + cn) (((mRow a bb cx)))) (Or.inr (Or.inr (Or.inr ⟨tn, kn, rfl, ht2, rfl, hk2, ⟨qIn_y c4, qIn_y c12, qIn_y c20⟩, hcl, rfl, (bI_n c84).symm, rfl, rfl, rfl, rfl, rfl⟩))) rfl
            · refine lv_iconst (v := nI 1) hx hb dX5_put_87 (by decide) ?_
              refine lv_goto (tgt := 92) hx hb dX5_put_88 (by decide) ?_
              refine lv_istore (lv' := [(7, .int (nI 1)), (6, .int (nI 1)), (0, .ref v0), (1, .int (nI tn)), (2, .int (nI kn)), (3, .int a), (4, .int bb), (5, .int cx)]) hx hb dX5_put_92 hl (by decide) rfl (fun ls hl => ?_)
              refine lv_aload_n hx hb dX5_put_94 rfl (lv_at hl 2 rfl) ?_
              refine lv_iload_n hx hb dX5_put_95 rfl (lv_at hl 3 rfl) ?_
              refine lv_iload_n hx hb dX5_put_96 rfl (lv_at hl 4 rfl) ?_
              refine lv_iload_n hx hb dX5_put_97 rfl (lv_at hl 5 rfl) ?_
              refine lv_bipush (v := nI 100) hx hb dX5_put_98 (by decide) ?_
              refine lv_iload hx hb dX5_put_100 (lv_at hl 6 rfl) ?_
              refine lv_imul hx hb dX5_put_102 ?_
              refine lv_iadd hx hb dX5_put_103 ?_
              refine lv_sipush (v := nI 10000) hx hb dX5_put_104 (by decide) ?_
              refine lv_iload hx hb dX5_put_107 (lv_at hl 7 rfl) ?_
              refine lv_imul hx hb dX5_put_109 ?_
              refine lv_iadd hx hb dX5_put_110 ?_
              refine x_top (y := mRow a bb cx) (rfl) ?_
              refine x_callv (w2 := fun (u : Unit) => [(v0, .inr (5, [.ref v1, .ref v2, .int (nI n), .int (nI lim), .ref v3, .ref v4, .ref v5, .ref v6, .ref v7, .ref v8, .ref v9, .ref v10, .ref v11, .ref v12, .ref v13, .ref v14, .ref v15, .ref v16, .ref v17, .int (nI 0)])), (v1, .inl (cI, 24, .inl (upd row (12 * tn + kn) ((mRow a bb cx))))), (v3, .inl (cI, 52, .inl (upd chg (n + 1) (nI (cn + 1))))), (v4, .inl (cI, 624, .inl (upd tab (12 * (n + 1) + cn) (nI tn)))), (v5, .inl (cI, 624, .inl (upd key (12 * (n + 1) + cn) (nI kn)))), (v6, .inl (cI, 624, .inl (upd frs (12 * (n + 1) + cn) (((mRow a bb cx))))))]) (wr := []) (x_runV (n := 3) ⟨hx, hb, hml, hown, hts⟩ (zX5_enters l D cI cP cS cL v0 v1 v2 v3 v4 v5 v6 v7 v8 v9 v10 v11 v12 v13 v14 v15 v16 v17 n lim (nI 0) cn tn kn (mRow a bb cx) row chg tab key frs hn9 hcn0 (by omega) ht2 hk2) gX5_put_X5_enters rfl rfl rfl (by decide +kernel) ⟨by decide, by decide⟩ hN hK hP hD [0, 1, 2, 3, 4, 5] rfl rfl (ci := 5) (q0 := 0) rfl rfl rfl rfl hl.1 (rest := []) (As := [.int (nI tn), .int (nI kn), .int (mRow a bb cx)]) rfl (Nat.le_of_ble_eq_true rfl) dX5_put_111 ⟨by decide, by decide⟩) hP hD hS hA [0, 1, 2, 3, 4, 5] [] [0, 1, 2, 3, 4, 5] rfl rfl rfl (by decide) rfl (fun _ => rfl) (fun u H locs hw hP hD hS => ?_)
              refine lv_iload hx hb dX5_put_114 (lv_at hl 0 rfl) ?_
              exact x_ret_z hx hb hrt (by first | exact Or.inl rfl | exact Or.inr rfl) hlk hP hD hS dX5_put_116 ⟨by decide, by decide⟩ ((nI 0), upd row (12 * tn + kn) ((mRow a bb cx)), upd chg (n + 1) (nI (cn + 1)), upd tab (12 * (n + 1) + cn) (nI tn), upd key (12 * (n + 1) + cn) (nI kn), upd frs (12 * (n + 1) + cn) (((mRow a bb cx)))) (Or.inr (Or.inr (Or.inr ⟨tn, kn, rfl, ht2, rfl, hk2, ⟨qIn_y c4, qIn_y c12, qIn_y c20⟩, hcl, rfl, (bI_d c84).symm, rfl, rfl, rfl, rfl, rfl⟩))) rfl
          · refine lv_iconst (v := nI 3) hx hb dX5_put_59 (by decide) ?_
            refine lv_goto (tgt := 64) hx hb dX5_put_60 (by decide) ?_
            refine x_calli (w2 := fun (u : Unit) => [(v0, .inr (5, [.ref v1, .ref v2, .int (nI n), .int (nI lim), .ref v3, .ref v4, .ref v5, .ref v6, .ref v7, .ref v8, .ref v9, .ref v10, .ref v11, .ref v12, .ref v13, .ref v14, .ref v15, .ref v16, .ref v17, .int (nI 3)])), (v1, .inl (cI, 24, .inl row)), (v3, .inl (cI, 52, .inl chg)), (v4, .inl (cI, 624, .inl tab)), (v5, .inl (cI, 624, .inl key)), (v6, .inl (cI, 624, .inl frs))]) (wr := [(v1, .inl (cI, 24, .inl row)), (v3, .inl (cI, 52, .inl chg)), (v4, .inl (cI, 624, .inl tab)), (v5, .inl (cI, 624, .inl key)), (v6, .inl (cI, 624, .inl frs))]) (x_runV (n := 1) ⟨hx, hb, hml, hown, hts⟩ (zX5_fails l D cI cP cS cL v0 v1 v2 v3 v4 v5 v6 v7 v8 v9 v10 v11 v12 v13 v14 v15 v16 v17 n lim (th) 3 (by decide)) gX5_put_X5_fails rfl rfl rfl (by decide +kernel) ⟨by decide, by decide⟩ hN hK hP hD [0] rfl rfl (ci := 5) (q0 := 0) rfl rfl rfl rfl hl.1 (rest := []) (As := [.int (nI 3)]) rfl (Nat.le_of_ble_eq_true rfl) dX5_put_64 ⟨by decide, by decide⟩) hP hD hS hA [0] [1, 2, 3, 4, 5] [5, 0, 1, 2, 3, 4] rfl rfl rfl (by decide) rfl (fun _ => rfl) (fun r64 u H locs hw hP hD hS => ?_)
            replace hw : r64 = nI 1 := hw.trans (by decide)
            subst hw
            refine x_if_eq (tgt := 72) hx hb (nI_z (by omega)) dX5_put_67 (by decide) (fun c67 => ?_) (fun c67 => ?_)
            · exact absurd c67 (by omega)
            refine lv_iconst (v := nI 0) hx hb dX5_put_70 (by decide) ?_
            exact x_ret_z hx hb hrt (by first | exact Or.inl rfl | exact Or.inr rfl) hlk hP hD hS dX5_put_71 ⟨by decide, by decide⟩ ((nI 3), row, chg, tab, key, frs) (Or.inr (Or.inr (Or.inl ⟨hin, ⟨qIn_y c4, qIn_y c12, qIn_y c20⟩, (by cases h : decide (cn = 12) with | true => exact of_decide_eq_true h | false => exact absurd h c56), rfl, rfl, rfl, rfl, rfl, rfl⟩))) rfl
        · refine lv_iconst (v := nI 1) hx hb dX5_put_39 (by decide) ?_
          refine lv_goto (tgt := 64) hx hb dX5_put_40 (by decide) ?_
          refine x_calli (w2 := fun (u : Unit) => [(v0, .inr (5, [.ref v1, .ref v2, .int (nI n), .int (nI lim), .ref v3, .ref v4, .ref v5, .ref v6, .ref v7, .ref v8, .ref v9, .ref v10, .ref v11, .ref v12, .ref v13, .ref v14, .ref v15, .ref v16, .ref v17, .int (nI 1)])), (v1, .inl (cI, 24, .inl row)), (v3, .inl (cI, 52, .inl chg)), (v4, .inl (cI, 624, .inl tab)), (v5, .inl (cI, 624, .inl key)), (v6, .inl (cI, 624, .inl frs))]) (wr := [(v1, .inl (cI, 24, .inl row)), (v3, .inl (cI, 52, .inl chg)), (v4, .inl (cI, 624, .inl tab)), (v5, .inl (cI, 624, .inl key)), (v6, .inl (cI, 624, .inl frs))]) (x_runV (n := 1) ⟨hx, hb, hml, hown, hts⟩ (zX5_fails l D cI cP cS cL v0 v1 v2 v3 v4 v5 v6 v7 v8 v9 v10 v11 v12 v13 v14 v15 v16 v17 n lim (th) 1 (by decide)) gX5_put_X5_fails rfl rfl rfl (by decide +kernel) ⟨by decide, by decide⟩ hN hK hP hD [0] rfl rfl (ci := 5) (q0 := 0) rfl rfl rfl rfl hl.1 (rest := []) (As := [.int (nI 1)]) rfl (Nat.le_of_ble_eq_true rfl) dX5_put_64 ⟨by decide, by decide⟩) hP hD hS hA [0] [1, 2, 3, 4, 5] [5, 0, 1, 2, 3, 4] rfl rfl rfl (by decide) rfl (fun _ => rfl) (fun r64 u H locs hw hP hD hS => ?_)
          replace hw : r64 = nI 1 := hw.trans (by decide)
          subst hw
          refine x_if_eq (tgt := 72) hx hb (nI_z (by omega)) dX5_put_67 (by decide) (fun c67 => ?_) (fun c67 => ?_)
          · exact absurd c67 (by omega)
          refine lv_iconst (v := nI 0) hx hb dX5_put_70 (by decide) ?_
          exact x_ret_z hx hb hrt (by first | exact Or.inl rfl | exact Or.inr rfl) hlk hP hD hS dX5_put_71 ⟨by decide, by decide⟩ ((nI 1), row, chg, tab, key, frs) (Or.inl ⟨qI2_n c36, rfl, rfl, rfl, rfl, rfl, rfl⟩) rfl

set_option maxRecDepth 20000 in
theorem kX5_take_f7 : Cond.fieldLink RX5 7 "RowReplicatorModel" "row" "[I" ∈ wsX5_take := by decide +kernel
set_option maxRecDepth 20000 in
theorem kX5_take_X5 : ∀ w ∈ wsX50, w ∈ wsX5_take := by decide +kernel
set_option maxHeartbeats 4000000 in
set_option maxRecDepth 100000 in
theorem zX5_take (l : Launch) (D : va_G) (cI cP cS cL : ClassId) (v0 v1 v2 v3 v4 v5 v6 v7 v8 v9 v10 v11 v12 v13 v14 v15 v16 v17 : Nat) (n lim : Nat) (th : Int32) (cn : Nat) (row chg tab key frs : Nat → Int32) (tx kx : Int32) (hn9 : n ≤ 50) (hcn0 : chg (n + 1) = nI cn) (hcn : cn ≤ 12) : xMv l yX5_take wsX5_take (rmD 3 0 0) D [(cI, .int), (cP, .object RX0), (cS, .object RX2), (cL, .long)] [.ref v0, .int tx, .int kx] [(v0, .inr (5, [.ref v1, .ref v2, .int (nI n), .int (nI lim), .ref v3, .ref v4, .ref v5, .ref v6, .ref v7, .ref v8, .ref v9, .ref v10, .ref v11, .ref v12, .ref v13, .ref v14, .ref v15, .ref v16, .ref v17, .int th])), (v1, .inl (cI, 24, .inl row)), (v3, .inl (cI, 52, .inl chg)), (v4, .inl (cI, 624, .inl tab)), (v5, .inl (cI, 624, .inl key)), (v6, .inl (cI, 624, .inl frs))] (fun (u : Int32 × (Nat → Int32) × (Nat → Int32) × (Nat → Int32) × (Nat → Int32) × (Nat → Int32)) => match u with | (h, a1, a2, a3, a4, a5) => ((¬ (vp_in tx 2 ∧ vp_in kx 12) ∧ h = nI 1 ∧ a1 = row ∧ a2 = chg ∧ a3 = tab ∧ a4 = key ∧ a5 = frs) ∨ (∃ tn kn, tx = nI tn ∧ tn < 2 ∧ kx = nI kn ∧ kn < 12 ∧ (cn = 12 ∨ row (12 * tn + kn) = -1) ∧ h = nI 2 ∧ a1 = row ∧ a2 = chg ∧ a3 = tab ∧ a4 = key ∧ a5 = frs) ∨ (∃ tn kn, tx = nI tn ∧ tn < 2 ∧ kx = nI kn ∧ kn < 12 ∧ cn < 12 ∧ ¬ row (12 * tn + kn) = -1 ∧ h = nI 0 ∧ a1 = upd row (12 * tn + kn) (-1) ∧ a2 = upd chg (n + 1) (nI (cn + 1)) ∧ a3 = upd tab (12 * (n + 1) + cn) (nI tn) ∧ a4 = upd key (12 * (n + 1) + cn) (nI kn) ∧ a5 = upd frs (12 * (n + 1) + cn) (-1)))) (fun (u : Int32 × (Nat → Int32) × (Nat → Int32) × (Nat → Int32) × (Nat → Int32) × (Nat → Int32)) => match u with | (h, a1, a2, a3, a4, a5) => [(v0, .inr (5, [.ref v1, .ref v2, .int (nI n), .int (nI lim), .ref v3, .ref v4, .ref v5, .ref v6, .ref v7, .ref v8, .ref v9, .ref v10, .ref v11, .ref v12, .ref v13, .ref v14, .ref v15, .ref v16, .ref v17, .int h])), (v1, .inl (cI, 24, .inl a1)), (v3, .inl (cI, 52, .inl a2)), (v4, .inl (cI, 624, .inl a3)), (v5, .inl (cI, 624, .inl a4)), (v6, .inl (cI, 624, .inl a5))]) 0 0 := by
  refine xe_v (cc := cX5_take) (maxL := 4) (ret := none) (by decide) rfl (Nat.le_of_ble_eq_true rfl) ?_
  intro zp ze s zm below meth zc A ls B
  obtain ⟨hx, hb, hml, hrt, hts, hown, hnm, hlk, hK, hP, hD, hA, hS, hN, hl⟩ := B
  have hown : s.vm.findClass RX5 = some zm.cls := hown
  have hl : lv_has ls 4 [(0, .ref v0), (1, .int tx), (2, .int kx)] := hl
  have hA : ∀ q, s.heap.size ≤ q → A q := hA
  refine lv_iload_n hx hb dX5_take_0 rfl (lv_at hl 1 rfl) ?_
  refine lv_iload_n hx hb dX5_take_1 rfl (lv_at hl 2 rfl) ?_
  refine x_calli (w2 := fun (u : Unit) => [(v0, .inr (5, [.ref v1, .ref v2, .int (nI n), .int (nI lim), .ref v3, .ref v4, .ref v5, .ref v6, .ref v7, .ref v8, .ref v9, .ref v10, .ref v11, .ref v12, .ref v13, .ref v14, .ref v15, .ref v16, .ref v17, .int th])), (v1, .inl (cI, 24, .inl row)), (v3, .inl (cI, 52, .inl chg)), (v4, .inl (cI, 624, .inl tab)), (v5, .inl (cI, 624, .inl key)), (v6, .inl (cI, 624, .inl frs))]) (wr := [(v0, .inr (5, [.ref v1, .ref v2, .int (nI n), .int (nI lim), .ref v3, .ref v4, .ref v5, .ref v6, .ref v7, .ref v8, .ref v9, .ref v10, .ref v11, .ref v12, .ref v13, .ref v14, .ref v15, .ref v16, .ref v17, .int th])), (v1, .inl (cI, 24, .inl row)), (v3, .inl (cI, 52, .inl chg)), (v4, .inl (cI, 624, .inl tab)), (v5, .inl (cI, 624, .inl key)), (v6, .inl (cI, 624, .inl frs))]) (x_runS (n := 2) ⟨hx, hb, hml, hown, hts⟩ (zX5_isRow l D cI cP cS cL tx kx) gX5_take_X5_isRow rfl rfl rfl (by decide +kernel) ⟨by decide, by decide⟩ hN hK hP hD [] rfl rfl rfl hl.1 (rest := []) (As := [.int tx, .int kx]) rfl (Nat.le_of_ble_eq_true rfl) dX5_take_2 ⟨by decide, by decide⟩) hP hD hS hA [] [0, 1, 2, 3, 4, 5] [0, 1, 2, 3, 4, 5] rfl rfl rfl (by decide) rfl (fun _ => rfl) (fun r2 u H locs hw hP hD hS => ?_)
  subst hw
  refine lv_istore_n (lv' := [(3, .int (bI (qIn tx 2 && qIn kx 12))), (0, .ref v0), (1, .int tx), (2, .int kx)]) hx hb dX5_take_5 rfl hl (by decide) rfl (fun ls hl => ?_)
  refine lv_aload_n hx hb dX5_take_6 rfl (lv_at hl 1 rfl) ?_
  refine lv_iload_n hx hb dX5_take_7 rfl (lv_at hl 0 rfl) ?_
  refine x_if_ne (tgt := 15) hx hb (bI_0 _) dX5_take_8 (by decide) (fun c8 => ?_) (fun c8 => ?_)
  · have hin := qI2_y c8
    obtain ⟨tn, ht2, etn⟩ := vp_in_of hin.1 (by decide)
    obtain ⟨kn, hk2, ekn⟩ := vp_in_of hin.2 (by decide)
    subst etn
    subst ekn
    refine lv_aload_n hx hb dX5_take_15 rfl (lv_at hl 1 rfl) ?_
    refine va_get (D := D) (ci := 5) (v := .ref v1) (C := RX5) (T := TX5) (N := 20) hx hb hts kX5_take_X5 hown hK hP 0 rfl rfl 0 (by decide) (hts _ kX5_take_f7) (fun _ h9 => h9) rfl dX5_take_16 ?_
    refine lv_bipush (v := nI 12) hx hb dX5_take_19 (by decide) ?_
    refine lv_iload_n hx hb dX5_take_21 rfl (lv_at hl 2 rfl) ?_
    refine x_mul (k := 12 * tn) hx hb dX5_take_22 rfl ?_
    refine lv_iload_n hx hb dX5_take_23 rfl (lv_at hl 3 rfl) ?_
    refine x_add (k := (12 * tn) + kn) hx hb dX5_take_24 rfl ?_
    refine x_ald (v := row ((12 * tn) + kn)) hx hb hK hP 1 0 rfl rfl (by omega) (by omega) rfl dX5_take_25 ?_
    refine lv_iconst (v := -1) hx hb dX5_take_26 (by decide) ?_
    refine x_cmp_eq (tgt := 37) hx hb (Iff.rfl) dX5_take_27 (by decide) (fun c27 => ?_) (fun c27 => ?_)
    · refine lv_iconst (v := nI 2) hx hb dX5_take_37 (by decide) ?_
      refine lv_goto (tgt := 42) hx hb dX5_take_38 (by decide) ?_
      refine x_calli (w2 := fun (u : Unit) => [(v0, .inr (5, [.ref v1, .ref v2, .int (nI n), .int (nI lim), .ref v3, .ref v4, .ref v5, .ref v6, .ref v7, .ref v8, .ref v9, .ref v10, .ref v11, .ref v12, .ref v13, .ref v14, .ref v15, .ref v16, .ref v17, .int (nI 2)])), (v1, .inl (cI, 24, .inl row)), (v3, .inl (cI, 52, .inl chg)), (v4, .inl (cI, 624, .inl tab)), (v5, .inl (cI, 624, .inl key)), (v6, .inl (cI, 624, .inl frs))]) (wr := [(v1, .inl (cI, 24, .inl row)), (v3, .inl (cI, 52, .inl chg)), (v4, .inl (cI, 624, .inl tab)), (v5, .inl (cI, 624, .inl key)), (v6, .inl (cI, 624, .inl frs))]) (x_runV (n := 1) ⟨hx, hb, hml, hown, hts⟩ (zX5_fails l D cI cP cS cL v0 v1 v2 v3 v4 v5 v6 v7 v8 v9 v10 v11 v12 v13 v14 v15 v16 v17 n lim (th) 2 (by decide)) gX5_take_X5_fails rfl rfl rfl (by decide +kernel) ⟨by decide, by decide⟩ hN hK hP hD [0] rfl rfl (ci := 5) (q0 := 0) rfl rfl rfl rfl hl.1 (rest := []) (As := [.int (nI 2)]) rfl (Nat.le_of_ble_eq_true rfl) dX5_take_42 ⟨by decide, by decide⟩) hP hD hS hA [0] [1, 2, 3, 4, 5] [5, 0, 1, 2, 3, 4] rfl rfl rfl (by decide) rfl (fun _ => rfl) (fun r42 u H locs hw hP hD hS => ?_)
      replace hw : r42 = nI 1 := hw.trans (by decide)
      subst hw
      refine x_if_ne (tgt := 55) hx hb (nI_z (by omega)) dX5_take_45 (by decide) (fun c45 => ?_) (fun c45 => ?_)
      rotate_left
      · exact absurd c45 (by omega)
      exact x_ret_v hx hb hrt hlk hP hD hS dX5_take_55 ⟨by decide, by decide⟩ ((nI 2), row, chg, tab, key, frs) (Or.inr (Or.inl ⟨tn, kn, rfl, ht2, rfl, hk2, Or.inr c27, rfl, rfl, rfl, rfl, rfl, rfl⟩)) rfl
    · refine lv_aload_n hx hb dX5_take_30 rfl (lv_at hl 1 rfl) ?_
      refine x_calli (w2 := fun (u : Unit) => [(v0, .inr (5, [.ref v1, .ref v2, .int (nI n), .int (nI lim), .ref v3, .ref v4, .ref v5, .ref v6, .ref v7, .ref v8, .ref v9, .ref v10, .ref v11, .ref v12, .ref v13, .ref v14, .ref v15, .ref v16, .ref v17, .int th])), (v1, .inl (cI, 24, .inl row)), (v3, .inl (cI, 52, .inl chg)), (v4, .inl (cI, 624, .inl tab)), (v5, .inl (cI, 624, .inl key)), (v6, .inl (cI, 624, .inl frs))]) (wr := [(v1, .inl (cI, 24, .inl row)), (v4, .inl (cI, 624, .inl tab)), (v5, .inl (cI, 624, .inl key)), (v6, .inl (cI, 624, .inl frs))]) (x_runV (n := 0) ⟨hx, hb, hml, hown, hts⟩ (zX5_isFull l D cI cP cS cL v0 v1 v2 v3 v4 v5 v6 v7 v8 v9 v10 v11 v12 v13 v14 v15 v16 v17 n lim (th) cn chg hn9 hcn0 hcn) gX5_take_X5_isFull rfl rfl rfl (by decide +kernel) ⟨by decide, by decide⟩ hN hK hP hD [0, 2] rfl rfl (ci := 5) (q0 := 0) rfl rfl rfl rfl hl.1 (rest := [.ref v0]) (As := []) rfl (Nat.le_of_ble_eq_true rfl) dX5_take_31 ⟨by decide, by decide⟩) hP hD hS hA [0, 2] [1, 3, 4, 5] [4, 0, 5, 1, 2, 3] rfl rfl rfl (by decide) rfl (fun _ => rfl) (fun r31 u H locs hw hP hD hS => ?_)
      subst hw
      refine x_if_eq (tgt := 41) hx hb (bI_0 _) dX5_take_34 (by decide) (fun c34 => ?_) (fun c34 => ?_)
      · have hcl : cn < 12 := by have := of_decide_eq_false c34; omega
        refine lv_iconst (v := nI 0) hx hb dX5_take_41 (by decide) ?_
        refine x_calli (w2 := fun (u : Unit) => [(v0, .inr (5, [.ref v1, .ref v2, .int (nI n), .int (nI lim), .ref v3, .ref v4, .ref v5, .ref v6, .ref v7, .ref v8, .ref v9, .ref v10, .ref v11, .ref v12, .ref v13, .ref v14, .ref v15, .ref v16, .ref v17, .int (nI 0)])), (v1, .inl (cI, 24, .inl row)), (v3, .inl (cI, 52, .inl chg)), (v4, .inl (cI, 624, .inl tab)), (v5, .inl (cI, 624, .inl key)), (v6, .inl (cI, 624, .inl frs))]) (wr := [(v1, .inl (cI, 24, .inl row)), (v3, .inl (cI, 52, .inl chg)), (v4, .inl (cI, 624, .inl tab)), (v5, .inl (cI, 624, .inl key)), (v6, .inl (cI, 624, .inl frs))]) (x_runV (n := 1) ⟨hx, hb, hml, hown, hts⟩ (zX5_fails l D cI cP cS cL v0 v1 v2 v3 v4 v5 v6 v7 v8 v9 v10 v11 v12 v13 v14 v15 v16 v17 n lim (th) 0 (by decide)) gX5_take_X5_fails rfl rfl rfl (by decide +kernel) ⟨by decide, by decide⟩ hN hK hP hD [0] rfl rfl (ci := 5) (q0 := 0) rfl rfl rfl rfl hl.1 (rest := []) (As := [.int (nI 0)]) rfl (Nat.le_of_ble_eq_true rfl) dX5_take_42 ⟨by decide, by decide⟩) hP hD hS hA [0] [1, 2, 3, 4, 5] [5, 0, 1, 2, 3, 4] rfl rfl rfl (by decide) rfl (fun _ => rfl) (fun r42 u H locs hw hP hD hS => ?_)
        replace hw : r42 = nI 0 := hw.trans (by decide)
        subst hw
        refine x_if_ne (tgt := 55) hx hb (nI_z (by omega)) dX5_take_45 (by decide) (fun c45 => ?_) (fun c45 => ?_)
        · exact absurd c45 (by omega)
        refine lv_aload_n hx hb dX5_take_48 rfl (lv_at hl 1 rfl) ?_
        refine lv_iload_n hx hb dX5_take_49 rfl (lv_at hl 2 rfl) ?_
        refine lv_iload_n hx hb dX5_take_50 rfl (lv_at hl 3 rfl) ?_
        refine lv_iconst (v := -1) hx hb dX5_take_51 (by decide) ?_
        refine x_callv (w2 := fun (u : Unit) => [(v0, .inr (5, [.ref v1, .ref v2, .int (nI n), .int (nI lim), .ref v3, .ref v4, .ref v5, .ref v6, .ref v7, .ref v8, .ref v9, .ref v10, .ref v11, .ref v12, .ref v13, .ref v14, .ref v15, .ref v16, .ref v17, .int (nI 0)])), (v1, .inl (cI, 24, .inl (upd row (12 * tn + kn) ((-1))))), (v3, .inl (cI, 52, .inl (upd chg (n + 1) (nI (cn + 1))))), (v4, .inl (cI, 624, .inl (upd tab (12 * (n + 1) + cn) (nI tn)))), (v5, .inl (cI, 624, .inl (upd key (12 * (n + 1) + cn) (nI kn)))), (v6, .inl (cI, 624, .inl (upd frs (12 * (n + 1) + cn) (((-1))))))]) (wr := []) (x_runV (n := 3) ⟨hx, hb, hml, hown, hts⟩ (zX5_enters l D cI cP cS cL v0 v1 v2 v3 v4 v5 v6 v7 v8 v9 v10 v11 v12 v13 v14 v15 v16 v17 n lim (nI 0) cn tn kn (-1) row chg tab key frs hn9 hcn0 (by omega) ht2 hk2) gX5_take_X5_enters rfl rfl rfl (by decide +kernel) ⟨by decide, by decide⟩ hN hK hP hD [0, 1, 2, 3, 4, 5] rfl rfl (ci := 5) (q0 := 0) rfl rfl rfl rfl hl.1 (rest := []) (As := [.int (nI tn), .int (nI kn), .int (-1)]) rfl (Nat.le_of_ble_eq_true rfl) dX5_take_52 ⟨by decide, by decide⟩) hP hD hS hA [0, 1, 2, 3, 4, 5] [] [0, 1, 2, 3, 4, 5] rfl rfl rfl (by decide) rfl (fun _ => rfl) (fun u H locs hw hP hD hS => ?_)
        exact x_ret_v hx hb hrt hlk hP hD hS dX5_take_55 ⟨by decide, by decide⟩ ((nI 0), upd row (12 * tn + kn) ((-1)), upd chg (n + 1) (nI (cn + 1)), upd tab (12 * (n + 1) + cn) (nI tn), upd key (12 * (n + 1) + cn) (nI kn), upd frs (12 * (n + 1) + cn) (((-1)))) (Or.inr (Or.inr ⟨tn, kn, rfl, ht2, rfl, hk2, hcl, c27, rfl, rfl, rfl, rfl, rfl, rfl⟩)) rfl
      · refine lv_iconst (v := nI 2) hx hb dX5_take_37 (by decide) ?_
        refine lv_goto (tgt := 42) hx hb dX5_take_38 (by decide) ?_
        refine x_calli (w2 := fun (u : Unit) => [(v0, .inr (5, [.ref v1, .ref v2, .int (nI n), .int (nI lim), .ref v3, .ref v4, .ref v5, .ref v6, .ref v7, .ref v8, .ref v9, .ref v10, .ref v11, .ref v12, .ref v13, .ref v14, .ref v15, .ref v16, .ref v17, .int (nI 2)])), (v1, .inl (cI, 24, .inl row)), (v3, .inl (cI, 52, .inl chg)), (v4, .inl (cI, 624, .inl tab)), (v5, .inl (cI, 624, .inl key)), (v6, .inl (cI, 624, .inl frs))]) (wr := [(v1, .inl (cI, 24, .inl row)), (v3, .inl (cI, 52, .inl chg)), (v4, .inl (cI, 624, .inl tab)), (v5, .inl (cI, 624, .inl key)), (v6, .inl (cI, 624, .inl frs))]) (x_runV (n := 1) ⟨hx, hb, hml, hown, hts⟩ (zX5_fails l D cI cP cS cL v0 v1 v2 v3 v4 v5 v6 v7 v8 v9 v10 v11 v12 v13 v14 v15 v16 v17 n lim (th) 2 (by decide)) gX5_take_X5_fails rfl rfl rfl (by decide +kernel) ⟨by decide, by decide⟩ hN hK hP hD [0] rfl rfl (ci := 5) (q0 := 0) rfl rfl rfl rfl hl.1 (rest := []) (As := [.int (nI 2)]) rfl (Nat.le_of_ble_eq_true rfl) dX5_take_42 ⟨by decide, by decide⟩) hP hD hS hA [0] [1, 2, 3, 4, 5] [5, 0, 1, 2, 3, 4] rfl rfl rfl (by decide) rfl (fun _ => rfl) (fun r42 u H locs hw hP hD hS => ?_)
        replace hw : r42 = nI 1 := hw.trans (by decide)
        subst hw
        refine x_if_ne (tgt := 55) hx hb (nI_z (by omega)) dX5_take_45 (by decide) (fun c45 => ?_) (fun c45 => ?_)
        rotate_left
        · exact absurd c45 (by omega)
        exact x_ret_v hx hb hrt hlk hP hD hS dX5_take_55 ⟨by decide, by decide⟩ ((nI 2), row, chg, tab, key, frs) (Or.inr (Or.inl ⟨tn, kn, rfl, ht2, rfl, hk2, Or.inl (by cases h : decide (cn = 12) with | true => exact of_decide_eq_true h | false => exact absurd h c34), rfl, rfl, rfl, rfl, rfl, rfl⟩)) rfl
  · refine lv_iconst (v := nI 1) hx hb dX5_take_11 (by decide) ?_
    refine lv_goto (tgt := 42) hx hb dX5_take_12 (by decide) ?_
    refine x_calli (w2 := fun (u : Unit) => [(v0, .inr (5, [.ref v1, .ref v2, .int (nI n), .int (nI lim), .ref v3, .ref v4, .ref v5, .ref v6, .ref v7, .ref v8, .ref v9, .ref v10, .ref v11, .ref v12, .ref v13, .ref v14, .ref v15, .ref v16, .ref v17, .int (nI 1)])), (v1, .inl (cI, 24, .inl row)), (v3, .inl (cI, 52, .inl chg)), (v4, .inl (cI, 624, .inl tab)), (v5, .inl (cI, 624, .inl key)), (v6, .inl (cI, 624, .inl frs))]) (wr := [(v1, .inl (cI, 24, .inl row)), (v3, .inl (cI, 52, .inl chg)), (v4, .inl (cI, 624, .inl tab)), (v5, .inl (cI, 624, .inl key)), (v6, .inl (cI, 624, .inl frs))]) (x_runV (n := 1) ⟨hx, hb, hml, hown, hts⟩ (zX5_fails l D cI cP cS cL v0 v1 v2 v3 v4 v5 v6 v7 v8 v9 v10 v11 v12 v13 v14 v15 v16 v17 n lim (th) 1 (by decide)) gX5_take_X5_fails rfl rfl rfl (by decide +kernel) ⟨by decide, by decide⟩ hN hK hP hD [0] rfl rfl (ci := 5) (q0 := 0) rfl rfl rfl rfl hl.1 (rest := []) (As := [.int (nI 1)]) rfl (Nat.le_of_ble_eq_true rfl) dX5_take_42 ⟨by decide, by decide⟩) hP hD hS hA [0] [1, 2, 3, 4, 5] [5, 0, 1, 2, 3, 4] rfl rfl rfl (by decide) rfl (fun _ => rfl) (fun r42 u H locs hw hP hD hS => ?_)
    replace hw : r42 = nI 1 := hw.trans (by decide)
    subst hw
    refine x_if_ne (tgt := 55) hx hb (nI_z (by omega)) dX5_take_45 (by decide) (fun c45 => ?_) (fun c45 => ?_)
    rotate_left
    · exact absurd c45 (by omega)
    exact x_ret_v hx hb hrt hlk hP hD hS dX5_take_55 ⟨by decide, by decide⟩ ((nI 1), row, chg, tab, key, frs) (Or.inl ⟨qI2_n c8, rfl, rfl, rfl, rfl, rfl, rfl⟩) rfl

set_option maxRecDepth 20000 in
theorem kX5_truncate_f7 : Cond.fieldLink RX5 7 "RowReplicatorModel" "row" "[I" ∈ wsX5_truncate := by decide +kernel
set_option maxRecDepth 20000 in
theorem kX5_truncate_X5 : ∀ w ∈ wsX50, w ∈ wsX5_truncate := by decide +kernel
set_option maxHeartbeats 4000000 in
set_option maxRecDepth 100000 in
theorem zX5_truncate (l : Launch) (D : va_G) (cI cP cS cL : ClassId) (v0 v1 v2 v3 v4 v5 v6 v7 v8 v9 v10 v11 v12 v13 v14 v15 v16 v17 : Nat) (n lim : Nat) (th : Int32) (cn : Nat) (row chg tab key frs : Nat → Int32) (tx : Int32) (hn9 : n ≤ 50) (hcn0 : chg (n + 1) = nI cn) (hcn : cn ≤ 12) : xMi l yX5_truncate wsX5_truncate (rmD 3 0 0) D [(cI, .int), (cP, .object RX0), (cS, .object RX2), (cL, .long)] [.ref v0, .int tx] [(v0, .inr (5, [.ref v1, .ref v2, .int (nI n), .int (nI lim), .ref v3, .ref v4, .ref v5, .ref v6, .ref v7, .ref v8, .ref v9, .ref v10, .ref v11, .ref v12, .ref v13, .ref v14, .ref v15, .ref v16, .ref v17, .int th])), (v1, .inl (cI, 24, .inl row)), (v3, .inl (cI, 52, .inl chg)), (v4, .inl (cI, 624, .inl tab)), (v5, .inl (cI, 624, .inl key)), (v6, .inl (cI, 624, .inl frs))] (fun (r : Int32) (u : Int32 × (Nat → Int32) × (Nat → Int32) × (Nat → Int32) × (Nat → Int32) × (Nat → Int32)) => match u with | (h, a1, a2, a3, a4, a5) => ((¬ vp_in tx 2 ∧ h = nI 1 ∧ a1 = row ∧ a2 = chg ∧ a3 = tab ∧ a4 = key ∧ a5 = frs) ∨ (vp_in tx 2 ∧ cn = 12 ∧ h = nI 2 ∧ a1 = row ∧ a2 = chg ∧ a3 = tab ∧ a4 = key ∧ a5 = frs) ∨ (∃ tn, tx = nI tn ∧ tn < 2 ∧ cn < 12 ∧ h = nI 0 ∧ r = nI (qCnt row (12 * tn) 12) ∧ a1 = qFill row (12 * tn) 12 (-1) ∧ a2 = upd chg (n + 1) (nI (cn + 1)) ∧ a3 = upd tab (12 * (n + 1) + cn) (nI tn) ∧ a4 = upd key (12 * (n + 1) + cn) (-1) ∧ a5 = upd frs (12 * (n + 1) + cn) (-1)))) (fun (u : Int32 × (Nat → Int32) × (Nat → Int32) × (Nat → Int32) × (Nat → Int32) × (Nat → Int32)) => match u with | (h, a1, a2, a3, a4, a5) => [(v0, .inr (5, [.ref v1, .ref v2, .int (nI n), .int (nI lim), .ref v3, .ref v4, .ref v5, .ref v6, .ref v7, .ref v8, .ref v9, .ref v10, .ref v11, .ref v12, .ref v13, .ref v14, .ref v15, .ref v16, .ref v17, .int h])), (v1, .inl (cI, 24, .inl a1)), (v3, .inl (cI, 52, .inl a2)), (v4, .inl (cI, 624, .inl a3)), (v5, .inl (cI, 624, .inl a4)), (v6, .inl (cI, 624, .inl a5))]) 0 0 := by
  refine xe_i (cc := cX5_truncate) (maxL := 4) (ret := (some .int)) (by decide) rfl (Nat.le_of_ble_eq_true rfl) ?_
  intro zp ze s zm below meth zc A ls B
  obtain ⟨hx, hb, hml, hrt, hts, hown, hnm, hlk, hK, hP, hD, hA, hS, hN, hl⟩ := B
  have hown : s.vm.findClass RX5 = some zm.cls := hown
  have hl : lv_has ls 4 [(0, .ref v0), (1, .int tx)] := hl
  have hA : ∀ q, s.heap.size ≤ q → A q := hA
  refine lv_aload_n hx hb dX5_truncate_0 rfl (lv_at hl 0 rfl) ?_
  refine lv_iload_n hx hb dX5_truncate_1 rfl (lv_at hl 1 rfl) ?_
  refine x_calli (w2 := fun (u : Unit) => [(v0, .inr (5, [.ref v1, .ref v2, .int (nI n), .int (nI lim), .ref v3, .ref v4, .ref v5, .ref v6, .ref v7, .ref v8, .ref v9, .ref v10, .ref v11, .ref v12, .ref v13, .ref v14, .ref v15, .ref v16, .ref v17, .int th])), (v1, .inl (cI, 24, .inl row)), (v3, .inl (cI, 52, .inl chg)), (v4, .inl (cI, 624, .inl tab)), (v5, .inl (cI, 624, .inl key)), (v6, .inl (cI, 624, .inl frs))]) (wr := [(v0, .inr (5, [.ref v1, .ref v2, .int (nI n), .int (nI lim), .ref v3, .ref v4, .ref v5, .ref v6, .ref v7, .ref v8, .ref v9, .ref v10, .ref v11, .ref v12, .ref v13, .ref v14, .ref v15, .ref v16, .ref v17, .int th])), (v1, .inl (cI, 24, .inl row)), (v3, .inl (cI, 52, .inl chg)), (v4, .inl (cI, 624, .inl tab)), (v5, .inl (cI, 624, .inl key)), (v6, .inl (cI, 624, .inl frs))]) (x_runS (n := 1) ⟨hx, hb, hml, hown, hts⟩ (zX5_isTable l D cI cP cS cL tx) gX5_truncate_X5_isTable rfl rfl rfl (by decide +kernel) ⟨by decide, by decide⟩ hN hK hP hD [] rfl rfl rfl hl.1 (rest := [.ref v0]) (As := [.int tx]) rfl (Nat.le_of_ble_eq_true rfl) dX5_truncate_2 ⟨by decide, by decide⟩) hP hD hS hA [] [0, 1, 2, 3, 4, 5] [0, 1, 2, 3, 4, 5] rfl rfl rfl (by decide) rfl (fun _ => rfl) (fun r2 u H locs hw hP hD hS => ?_)
  subst hw
  refine x_if_ne (tgt := 12) hx hb (bI_0 _) dX5_truncate_5 (by decide) (fun c5 => ?_) (fun c5 => ?_)
  · have hin := qIn_y c5
    obtain ⟨tn, ht2, etn⟩ := vp_in_of hin (by decide)
    subst etn
    refine lv_aload_n hx hb dX5_truncate_12 rfl (lv_at hl 0 rfl) ?_
    refine x_calli (w2 := fun (u : Unit) => [(v0, .inr (5, [.ref v1, .ref v2, .int (nI n), .int (nI lim), .ref v3, .ref v4, .ref v5, .ref v6, .ref v7, .ref v8, .ref v9, .ref v10, .ref v11, .ref v12, .ref v13, .ref v14, .ref v15, .ref v16, .ref v17, .int th])), (v1, .inl (cI, 24, .inl row)), (v3, .inl (cI, 52, .inl chg)), (v4, .inl (cI, 624, .inl tab)), (v5, .inl (cI, 624, .inl key)), (v6, .inl (cI, 624, .inl frs))]) (wr := [(v1, .inl (cI, 24, .inl row)), (v4, .inl (cI, 624, .inl tab)), (v5, .inl (cI, 624, .inl key)), (v6, .inl (cI, 624, .inl frs))]) (x_runV (n := 0) ⟨hx, hb, hml, hown, hts⟩ (zX5_isFull l D cI cP cS cL v0 v1 v2 v3 v4 v5 v6 v7 v8 v9 v10 v11 v12 v13 v14 v15 v16 v17 n lim (th) cn chg hn9 hcn0 hcn) gX5_truncate_X5_isFull rfl rfl rfl (by decide +kernel) ⟨by decide, by decide⟩ hN hK hP hD [0, 2] rfl rfl (ci := 5) (q0 := 0) rfl rfl rfl rfl hl.1 (rest := [.ref v0]) (As := []) rfl (Nat.le_of_ble_eq_true rfl) dX5_truncate_13 ⟨by decide, by decide⟩) hP hD hS hA [0, 2] [1, 3, 4, 5] [4, 0, 5, 1, 2, 3] rfl rfl rfl (by decide) rfl (fun _ => rfl) (fun r13 u H locs hw hP hD hS => ?_)
    subst hw
    refine x_if_eq (tgt := 23) hx hb (bI_0 _) dX5_truncate_16 (by decide) (fun c16 => ?_) (fun c16 => ?_)
    · have hcl : cn < 12 := by have := of_decide_eq_false c16; omega
      refine lv_iconst (v := nI 0) hx hb dX5_truncate_23 (by decide) ?_
      refine x_calli (w2 := fun (u : Unit) => [(v0, .inr (5, [.ref v1, .ref v2, .int (nI n), .int (nI lim), .ref v3, .ref v4, .ref v5, .ref v6, .ref v7, .ref v8, .ref v9, .ref v10, .ref v11, .ref v12, .ref v13, .ref v14, .ref v15, .ref v16, .ref v17, .int (nI 0)])), (v1, .inl (cI, 24, .inl row)), (v3, .inl (cI, 52, .inl chg)), (v4, .inl (cI, 624, .inl tab)), (v5, .inl (cI, 624, .inl key)), (v6, .inl (cI, 624, .inl frs))]) (wr := [(v1, .inl (cI, 24, .inl row)), (v3, .inl (cI, 52, .inl chg)), (v4, .inl (cI, 624, .inl tab)), (v5, .inl (cI, 624, .inl key)), (v6, .inl (cI, 624, .inl frs))]) (x_runV (n := 1) ⟨hx, hb, hml, hown, hts⟩ (zX5_fails l D cI cP cS cL v0 v1 v2 v3 v4 v5 v6 v7 v8 v9 v10 v11 v12 v13 v14 v15 v16 v17 n lim (th) 0 (by decide)) gX5_truncate_X5_fails rfl rfl rfl (by decide +kernel) ⟨by decide, by decide⟩ hN hK hP hD [0] rfl rfl (ci := 5) (q0 := 0) rfl rfl rfl rfl hl.1 (rest := []) (As := [.int (nI 0)]) rfl (Nat.le_of_ble_eq_true rfl) dX5_truncate_24 ⟨by decide, by decide⟩) hP hD hS hA [0] [1, 2, 3, 4, 5] [5, 0, 1, 2, 3, 4] rfl rfl rfl (by decide) rfl (fun _ => rfl) (fun r24 u H locs hw hP hD hS => ?_)
      replace hw : r24 = nI 0 := hw.trans (by decide)
      subst hw
      refine x_if_eq (tgt := 32) hx hb (nI_z (by omega)) dX5_truncate_27 (by decide) (fun c27 => ?_) (fun c27 => ?_)
      rotate_left
      · exact absurd c27 (by omega)
      refine lv_iconst (v := nI 0) hx hb dX5_truncate_32 (by decide) ?_
      refine lv_istore_n (lv' := [(2, .int (nI 0)), (0, .ref v0), (1, .int (nI tn))]) hx hb dX5_truncate_33 rfl hl (by decide) rfl (fun ls hl => ?_)
      refine lv_bipush (v := nI 12) hx hb dX5_truncate_34 (by decide) ?_
      refine lv_iload_n hx hb dX5_truncate_36 rfl (lv_at hl 2 rfl) ?_
      refine x_mul (k := 12 * tn) hx hb dX5_truncate_37 rfl ?_
      refine lv_istore_n (lv' := [(3, .int (nI (12 * tn))), (2, .int (nI 0)), (0, .ref v0), (1, .int (nI tn))]) hx hb dX5_truncate_38 rfl hl (by decide) rfl (fun ls hl => ?_)
      refine x_loop (nL := 4) (fun (x : Nat × Nat) => match x with | (j, cq) => j ≤ 12 ∧ cq = qCnt row (12 * tn) j) (fun (x : Nat × Nat) => match x with | (j, cq) => 12 - j) (fun (x : Nat × Nat) => match x with | (j, cq) => [(v0, .inr (5, [.ref v1, .ref v2, .int (nI n), .int (nI lim), .ref v3, .ref v4, .ref v5, .ref v6, .ref v7, .ref v8, .ref v9, .ref v10, .ref v11, .ref v12, .ref v13, .ref v14, .ref v15, .ref v16, .ref v17, .int (nI 0)])), (v1, .inl (cI, 24, .inl row)), (v3, .inl (cI, 52, .inl chg)), (v4, .inl (cI, 624, .inl tab)), (v5, .inl (cI, 624, .inl key)), (v6, .inl (cI, 624, .inl frs))]) (fun (x : Nat × Nat) => match x with | (j, cq) => [(0, .ref v0), (1, .int (nI tn)), (2, .int (nI cq)), (3, .int (nI (12 * tn + j)))]) (fun (x : Nat × Nat) => match x with | (j, cq) => []) ?_ (0, 0) ⟨by omega, rfl⟩ hP hD hS (lv_sub hl [2, 3, 1, 0] rfl)
      intro x9 hI39 ih39 H locs ls hP hD hS hl
      obtain ⟨j, cq⟩ := x9
      have hP : va_P D vwCl [(v0, .inr (5, [.ref v1, .ref v2, .int (nI n), .int (nI lim), .ref v3, .ref v4, .ref v5, .ref v6, .ref v7, .ref v8, .ref v9, .ref v10, .ref v11, .ref v12, .ref v13, .ref v14, .ref v15, .ref v16, .ref v17, .int (nI 0)])), (v1, .inl (cI, 24, .inl row)), (v3, .inl (cI, 52, .inl chg)), (v4, .inl (cI, 624, .inl tab)), (v5, .inl (cI, 624, .inl key)), (v6, .inl (cI, 624, .inl frs))] H := hP
      have hD : va_D A [(v0, .inr (5, [.ref v1, .ref v2, .int (nI n), .int (nI lim), .ref v3, .ref v4, .ref v5, .ref v6, .ref v7, .ref v8, .ref v9, .ref v10, .ref v11, .ref v12, .ref v13, .ref v14, .ref v15, .ref v16, .ref v17, .int (nI 0)])), (v1, .inl (cI, 24, .inl row)), (v3, .inl (cI, 52, .inl chg)), (v4, .inl (cI, 624, .inl tab)), (v5, .inl (cI, 624, .inl key)), (v6, .inl (cI, 624, .inl frs))] := hD
      have hl : lv_has ls 4 [(0, .ref v0), (1, .int (nI tn)), (2, .int (nI cq)), (3, .int (nI (12 * tn + j)))] := hl
      obtain ⟨hj, hq⟩ := hI39
      refine lv_iload_n hx hb dX5_truncate_39 rfl (lv_at hl 3 rfl) ?_
      refine lv_bipush (v := nI 12) hx hb dX5_truncate_40 (by decide) ?_
      refine lv_iload_n hx hb dX5_truncate_42 rfl (lv_at hl 1 rfl) ?_
      refine x_mul (k := 12 * tn) hx hb dX5_truncate_43 rfl ?_
      refine lv_bipush (v := nI 12) hx hb dX5_truncate_44 (by decide) ?_
      refine x_add (k := (12 * tn) + 12) hx hb dX5_truncate_46 rfl ?_
      refine x_cmp_ge (tgt := 74) hx hb (nI_leI (a := ((12 * tn) + 12)) (b := (12 * tn + j)) (by omega) (by omega)) dX5_truncate_47 (by decide) (fun c47 => ?_) (fun c47 => ?_)
      · obtain rfl : j = 12 := by omega
        refine lv_aload_n hx hb dX5_truncate_74 rfl (lv_at hl 0 rfl) ?_
        refine lv_iload_n hx hb dX5_truncate_75 rfl (lv_at hl 1 rfl) ?_
        refine lv_iconst (v := -1) hx hb dX5_truncate_76 (by decide) ?_
        refine lv_iconst (v := -1) hx hb dX5_truncate_77 (by decide) ?_
        refine x_callv (w2 := fun (u : Unit) => [(v0, .inr (5, [.ref v1, .ref v2, .int (nI n), .int (nI lim), .ref v3, .ref v4, .ref v5, .ref v6, .ref v7, .ref v8, .ref v9, .ref v10, .ref v11, .ref v12, .ref v13, .ref v14, .ref v15, .ref v16, .ref v17, .int (nI 0)])), (v1, .inl (cI, 24, .inl (qFill row (12 * tn) 12 ((-1))))), (v3, .inl (cI, 52, .inl (upd chg (n + 1) (nI (cn + 1))))), (v4, .inl (cI, 624, .inl (upd tab (12 * (n + 1) + cn) (nI tn)))), (v5, .inl (cI, 624, .inl (upd key (12 * (n + 1) + cn) (-1)))), (v6, .inl (cI, 624, .inl (upd frs (12 * (n + 1) + cn) (((-1))))))]) (wr := []) (x_runV (n := 3) ⟨hx, hb, hml, hown, hts⟩ (zX5_entersAll l D cI cP cS cL v0 v1 v2 v3 v4 v5 v6 v7 v8 v9 v10 v11 v12 v13 v14 v15 v16 v17 n lim (nI 0) cn tn (-1) row chg tab key frs hn9 hcn0 (by omega) ht2) gX5_truncate_X5_enters rfl rfl rfl (by decide +kernel) ⟨by decide, by decide⟩ hN hK hP hD [0, 1, 2, 3, 4, 5] rfl rfl (ci := 5) (q0 := 0) rfl rfl rfl rfl hl.1 (rest := []) (As := [.int (nI tn), .int (-1), .int (-1)]) rfl (Nat.le_of_ble_eq_true rfl) dX5_truncate_78 ⟨by decide, by decide⟩) hP hD hS hA [0, 1, 2, 3, 4, 5] [] [0, 1, 2, 3, 4, 5] rfl rfl rfl (by decide) rfl (fun _ => rfl) (fun u H locs hw hP hD hS => ?_)
        refine lv_iload_n hx hb dX5_truncate_81 rfl (lv_at hl 2 rfl) ?_
        exact x_ret_i hx hb hrt hlk hP hD hS dX5_truncate_82 ⟨by decide, by decide⟩ ((nI 0), qFill row (12 * tn) 12 ((-1)), upd chg (n + 1) (nI (cn + 1)), upd tab (12 * (n + 1) + cn) (nI tn), upd key (12 * (n + 1) + cn) (-1), upd frs (12 * (n + 1) + cn) (((-1)))) (Or.inr (Or.inr ⟨tn, rfl, ht2, hcl, rfl, (by rw [hq]), rfl, rfl, rfl, rfl, rfl⟩)) rfl
      · refine lv_iload_n hx hb dX5_truncate_50 rfl (lv_at hl 2 rfl) ?_
        refine lv_aload_n hx hb dX5_truncate_51 rfl (lv_at hl 0 rfl) ?_
        refine va_get (D := D) (ci := 5) (v := .ref v1) (C := RX5) (T := TX5) (N := 20) hx hb hts kX5_truncate_X5 hown hK hP 0 rfl rfl 0 (by decide) (hts _ kX5_truncate_f7) (fun _ h9 => h9) rfl dX5_truncate_52 ?_
        refine lv_iload_n hx hb dX5_truncate_55 rfl (lv_at hl 3 rfl) ?_
        refine x_ald (v := row (12 * tn + j)) hx hb hK hP 1 0 rfl rfl (by omega) (by omega) rfl dX5_truncate_56 ?_
        refine lv_iconst (v := -1) hx hb dX5_truncate_57 (by decide) ?_
        refine x_cmp_ne (tgt := 65) hx hb (Iff.rfl) dX5_truncate_58 (by decide) (fun c58 => ?_) (fun c58 => ?_)
        · refine lv_iconst (v := nI 1) hx hb dX5_truncate_65 (by decide) ?_
          refine x_add (k := cq + 1) hx hb dX5_truncate_66 rfl ?_
          refine lv_istore_n (lv' := [(2, .int (nI (cq + 1))), (0, .ref v0), (1, .int (nI tn)), (3, .int (nI (12 * tn + j)))]) hx hb dX5_truncate_67 rfl hl (by decide) rfl (fun ls hl => ?_)
          refine x_iinc (k := 3) (o := 1) (v := (12 * tn + j) + 1) (lv' := [(3, .int (nI ((12 * tn + j) + 1))), (2, .int (nI (cq + 1))), (0, .ref v0), (1, .int (nI tn))]) hx hb dX5_truncate_68 hl rfl rfl rfl (by decide) rfl (fun ls hl => ?_)
          refine lv_goto (tgt := 39) hx hb dX5_truncate_71 (by decide) ?_
          exact ih39 (j + 1, cq + 1) ⟨by omega, (by rw [hq]; exact (qCnt_n c58).symm)⟩ (by show 12 - (j + 1) < 12 - j; omega) _ _ _ hP hD hS (lv_sub hl [2, 3, 1, 0] rfl)
        · refine lv_iconst (v := nI 0) hx hb dX5_truncate_61 (by decide) ?_
          refine lv_goto (tgt := 66) hx hb dX5_truncate_62 (by decide) ?_
          refine x_add (k := cq + 0) hx hb dX5_truncate_66 rfl ?_
          refine lv_istore_n (lv' := [(2, .int (nI (cq + 0))), (0, .ref v0), (1, .int (nI tn)), (3, .int (nI (12 * tn + j)))]) hx hb dX5_truncate_67 rfl hl (by decide) rfl (fun ls hl => ?_)
          refine x_iinc (k := 3) (o := 1) (v := (12 * tn + j) + 1) (lv' := [(3, .int (nI ((12 * tn + j) + 1))), (2, .int (nI (cq + 0))), (0, .ref v0), (1, .int (nI tn))]) hx hb dX5_truncate_68 hl rfl rfl rfl (by decide) rfl (fun ls hl => ?_)
          refine lv_goto (tgt := 39) hx hb dX5_truncate_71 (by decide) ?_
          exact ih39 (j + 1, cq + 0) ⟨by omega, (by rw [hq]; exact (qCnt_y c58).symm)⟩ (by show 12 - (j + 1) < 12 - j; omega) _ _ _ hP hD hS (lv_sub hl [2, 3, 1, 0] rfl)
    · refine lv_iconst (v := nI 2) hx hb dX5_truncate_19 (by decide) ?_
      refine lv_goto (tgt := 24) hx hb dX5_truncate_20 (by decide) ?_
      refine x_calli (w2 := fun (u : Unit) => [(v0, .inr (5, [.ref v1, .ref v2, .int (nI n), .int (nI lim), .ref v3, .ref v4, .ref v5, .ref v6, .ref v7, .ref v8, .ref v9, .ref v10, .ref v11, .ref v12, .ref v13, .ref v14, .ref v15, .ref v16, .ref v17, .int (nI 2)])), (v1, .inl (cI, 24, .inl row)), (v3, .inl (cI, 52, .inl chg)), (v4, .inl (cI, 624, .inl tab)), (v5, .inl (cI, 624, .inl key)), (v6, .inl (cI, 624, .inl frs))]) (wr := [(v1, .inl (cI, 24, .inl row)), (v3, .inl (cI, 52, .inl chg)), (v4, .inl (cI, 624, .inl tab)), (v5, .inl (cI, 624, .inl key)), (v6, .inl (cI, 624, .inl frs))]) (x_runV (n := 1) ⟨hx, hb, hml, hown, hts⟩ (zX5_fails l D cI cP cS cL v0 v1 v2 v3 v4 v5 v6 v7 v8 v9 v10 v11 v12 v13 v14 v15 v16 v17 n lim (th) 2 (by decide)) gX5_truncate_X5_fails rfl rfl rfl (by decide +kernel) ⟨by decide, by decide⟩ hN hK hP hD [0] rfl rfl (ci := 5) (q0 := 0) rfl rfl rfl rfl hl.1 (rest := []) (As := [.int (nI 2)]) rfl (Nat.le_of_ble_eq_true rfl) dX5_truncate_24 ⟨by decide, by decide⟩) hP hD hS hA [0] [1, 2, 3, 4, 5] [5, 0, 1, 2, 3, 4] rfl rfl rfl (by decide) rfl (fun _ => rfl) (fun r24 u H locs hw hP hD hS => ?_)
      replace hw : r24 = nI 1 := hw.trans (by decide)
      subst hw
      refine x_if_eq (tgt := 32) hx hb (nI_z (by omega)) dX5_truncate_27 (by decide) (fun c27 => ?_) (fun c27 => ?_)
      · exact absurd c27 (by omega)
      refine lv_iconst (v := nI 0) hx hb dX5_truncate_30 (by decide) ?_
      exact x_ret_i hx hb hrt hlk hP hD hS dX5_truncate_31 ⟨by decide, by decide⟩ ((nI 2), row, chg, tab, key, frs) (Or.inr (Or.inl ⟨hin, (by cases h : decide (cn = 12) with | true => exact of_decide_eq_true h | false => exact absurd h c16), rfl, rfl, rfl, rfl, rfl, rfl⟩)) rfl
  · refine lv_iconst (v := nI 1) hx hb dX5_truncate_8 (by decide) ?_
    refine lv_goto (tgt := 24) hx hb dX5_truncate_9 (by decide) ?_
    refine x_calli (w2 := fun (u : Unit) => [(v0, .inr (5, [.ref v1, .ref v2, .int (nI n), .int (nI lim), .ref v3, .ref v4, .ref v5, .ref v6, .ref v7, .ref v8, .ref v9, .ref v10, .ref v11, .ref v12, .ref v13, .ref v14, .ref v15, .ref v16, .ref v17, .int (nI 1)])), (v1, .inl (cI, 24, .inl row)), (v3, .inl (cI, 52, .inl chg)), (v4, .inl (cI, 624, .inl tab)), (v5, .inl (cI, 624, .inl key)), (v6, .inl (cI, 624, .inl frs))]) (wr := [(v1, .inl (cI, 24, .inl row)), (v3, .inl (cI, 52, .inl chg)), (v4, .inl (cI, 624, .inl tab)), (v5, .inl (cI, 624, .inl key)), (v6, .inl (cI, 624, .inl frs))]) (x_runV (n := 1) ⟨hx, hb, hml, hown, hts⟩ (zX5_fails l D cI cP cS cL v0 v1 v2 v3 v4 v5 v6 v7 v8 v9 v10 v11 v12 v13 v14 v15 v16 v17 n lim (th) 1 (by decide)) gX5_truncate_X5_fails rfl rfl rfl (by decide +kernel) ⟨by decide, by decide⟩ hN hK hP hD [0] rfl rfl (ci := 5) (q0 := 0) rfl rfl rfl rfl hl.1 (rest := []) (As := [.int (nI 1)]) rfl (Nat.le_of_ble_eq_true rfl) dX5_truncate_24 ⟨by decide, by decide⟩) hP hD hS hA [0] [1, 2, 3, 4, 5] [5, 0, 1, 2, 3, 4] rfl rfl rfl (by decide) rfl (fun _ => rfl) (fun r24 u H locs hw hP hD hS => ?_)
    replace hw : r24 = nI 1 := hw.trans (by decide)
    subst hw
    refine x_if_eq (tgt := 32) hx hb (nI_z (by omega)) dX5_truncate_27 (by decide) (fun c27 => ?_) (fun c27 => ?_)
    · exact absurd c27 (by omega)
    refine lv_iconst (v := nI 0) hx hb dX5_truncate_30 (by decide) ?_
    exact x_ret_i hx hb hrt hlk hP hD hS dX5_truncate_31 ⟨by decide, by decide⟩ ((nI 1), row, chg, tab, key, frs) (Or.inl ⟨qIn_n c5, rfl, rfl, rfl, rfl, rfl, rfl⟩) rfl

set_option maxRecDepth 20000 in
theorem kX5_at_f7 : Cond.fieldLink RX5 7 "RowReplicatorModel" "row" "[I" ∈ wsX5_at := by decide +kernel
set_option maxRecDepth 20000 in
theorem kX5_at_X5 : ∀ w ∈ wsX50, w ∈ wsX5_at := by decide +kernel
set_option maxHeartbeats 4000000 in
set_option maxRecDepth 100000 in
theorem zX5_at (l : Launch) (D : va_G) (cI cP cS cL : ClassId) (v0 v1 v2 v3 v4 v5 v6 v7 v8 v9 v10 v11 v12 v13 v14 v15 v16 v17 : Nat) (n lim : Nat) (th : Int32) (row : Nat → Int32) (tx kx cx : Int32)  : xMi l yX5_at wsX5_at (rmD 3 0 0) D [(cI, .int), (cP, .object RX0), (cS, .object RX2), (cL, .long)] [.ref v0, .int tx, .int kx, .int cx] [(v0, .inr (5, [.ref v1, .ref v2, .int (nI n), .int (nI lim), .ref v3, .ref v4, .ref v5, .ref v6, .ref v7, .ref v8, .ref v9, .ref v10, .ref v11, .ref v12, .ref v13, .ref v14, .ref v15, .ref v16, .ref v17, .int th])), (v1, .inl (cI, 24, .inl row))] (fun (r : Int32) (u : Int32) => match u with | h => ((¬ ((vp_in tx 2 ∧ vp_in kx 12) ∧ vp_in cx 3) ∧ h = nI 1) ∨ (∃ tn kn, tx = nI tn ∧ tn < 2 ∧ kx = nI kn ∧ kn < 12 ∧ vp_in cx 3 ∧ h = nI 0 ∧ r = mNum (row (12 * tn + kn)) cx))) (fun (u : Int32) => match u with | h => [(v0, .inr (5, [.ref v1, .ref v2, .int (nI n), .int (nI lim), .ref v3, .ref v4, .ref v5, .ref v6, .ref v7, .ref v8, .ref v9, .ref v10, .ref v11, .ref v12, .ref v13, .ref v14, .ref v15, .ref v16, .ref v17, .int h])), (v1, .inl (cI, 24, .inl row))]) 0 0 := by
  refine xe_i (cc := cX5_at) (maxL := 4) (ret := (some .int)) (by decide) rfl (Nat.le_of_ble_eq_true rfl) ?_
  intro zp ze s zm below meth zc A ls B
  obtain ⟨hx, hb, hml, hrt, hts, hown, hnm, hlk, hK, hP, hD, hA, hS, hN, hl⟩ := B
  have hown : s.vm.findClass RX5 = some zm.cls := hown
  have hl : lv_has ls 4 [(0, .ref v0), (1, .int tx), (2, .int kx), (3, .int cx)] := hl
  have hA : ∀ q, s.heap.size ≤ q → A q := hA
  refine lv_aload_n hx hb dX5_at_0 rfl (lv_at hl 0 rfl) ?_
  refine lv_iload_n hx hb dX5_at_1 rfl (lv_at hl 1 rfl) ?_
  refine lv_iload_n hx hb dX5_at_2 rfl (lv_at hl 2 rfl) ?_
  refine x_calli (w2 := fun (u : Unit) => [(v0, .inr (5, [.ref v1, .ref v2, .int (nI n), .int (nI lim), .ref v3, .ref v4, .ref v5, .ref v6, .ref v7, .ref v8, .ref v9, .ref v10, .ref v11, .ref v12, .ref v13, .ref v14, .ref v15, .ref v16, .ref v17, .int th])), (v1, .inl (cI, 24, .inl row))]) (wr := [(v0, .inr (5, [.ref v1, .ref v2, .int (nI n), .int (nI lim), .ref v3, .ref v4, .ref v5, .ref v6, .ref v7, .ref v8, .ref v9, .ref v10, .ref v11, .ref v12, .ref v13, .ref v14, .ref v15, .ref v16, .ref v17, .int th])), (v1, .inl (cI, 24, .inl row))]) (x_runS (n := 2) ⟨hx, hb, hml, hown, hts⟩ (zX5_isRow l D cI cP cS cL tx kx) gX5_at_X5_isRow rfl rfl rfl (by decide +kernel) ⟨by decide, by decide⟩ hN hK hP hD [] rfl rfl rfl hl.1 (rest := [.ref v0]) (As := [.int tx, .int kx]) rfl (Nat.le_of_ble_eq_true rfl) dX5_at_3 ⟨by decide, by decide⟩) hP hD hS hA [] [0, 1] [0, 1] rfl rfl rfl (by decide) rfl (fun _ => rfl) (fun r3 u H locs hw hP hD hS => ?_)
  subst hw
  refine x_if_eq (tgt := 20) hx hb (bI_0 _) dX5_at_6 (by decide) (fun c6 => ?_) (fun c6 => ?_)
  · refine lv_iconst (v := nI 1) hx hb dX5_at_20 (by decide) ?_
    refine x_calli (w2 := fun (u : Unit) => [(v0, .inr (5, [.ref v1, .ref v2, .int (nI n), .int (nI lim), .ref v3, .ref v4, .ref v5, .ref v6, .ref v7, .ref v8, .ref v9, .ref v10, .ref v11, .ref v12, .ref v13, .ref v14, .ref v15, .ref v16, .ref v17, .int (nI 1)])), (v1, .inl (cI, 24, .inl row))]) (wr := [(v1, .inl (cI, 24, .inl row))]) (x_runV (n := 1) ⟨hx, hb, hml, hown, hts⟩ (zX5_fails l D cI cP cS cL v0 v1 v2 v3 v4 v5 v6 v7 v8 v9 v10 v11 v12 v13 v14 v15 v16 v17 n lim (th) 1 (by decide)) gX5_at_X5_fails rfl rfl rfl (by decide +kernel) ⟨by decide, by decide⟩ hN hK hP hD [0] rfl rfl (ci := 5) (q0 := 0) rfl rfl rfl rfl hl.1 (rest := []) (As := [.int (nI 1)]) rfl (Nat.le_of_ble_eq_true rfl) dX5_at_21 ⟨by decide, by decide⟩) hP hD hS hA [0] [1] [1, 0] rfl rfl rfl (by decide) rfl (fun _ => rfl) (fun r21 u H locs hw hP hD hS => ?_)
    replace hw : r21 = nI 1 := hw.trans (by decide)
    subst hw
    refine x_if_eq (tgt := 31) hx hb (nI_z (by omega)) dX5_at_24 (by decide) (fun c24 => ?_) (fun c24 => ?_)
    · exact absurd c24 (by omega)
    refine lv_iconst (v := nI 0) hx hb dX5_at_27 (by decide) ?_
    refine lv_goto (tgt := 46) hx hb dX5_at_28 (by decide) ?_
    exact x_ret_i hx hb hrt hlk hP hD hS dX5_at_46 ⟨by decide, by decide⟩ (nI 1) (Or.inl ⟨fun q => qI2_n c6 q.1, rfl⟩) rfl
  · refine lv_iload_n hx hb dX5_at_9 rfl (lv_at hl 3 rfl) ?_
    refine x_calli (w2 := fun (u : Unit) => [(v0, .inr (5, [.ref v1, .ref v2, .int (nI n), .int (nI lim), .ref v3, .ref v4, .ref v5, .ref v6, .ref v7, .ref v8, .ref v9, .ref v10, .ref v11, .ref v12, .ref v13, .ref v14, .ref v15, .ref v16, .ref v17, .int th])), (v1, .inl (cI, 24, .inl row))]) (wr := [(v0, .inr (5, [.ref v1, .ref v2, .int (nI n), .int (nI lim), .ref v3, .ref v4, .ref v5, .ref v6, .ref v7, .ref v8, .ref v9, .ref v10, .ref v11, .ref v12, .ref v13, .ref v14, .ref v15, .ref v16, .ref v17, .int th])), (v1, .inl (cI, 24, .inl row))]) (x_runS (n := 1) ⟨hx, hb, hml, hown, hts⟩ (zX5_isThird l D cI cP cS cL cx) gX5_at_X5_isThird rfl rfl rfl (by decide +kernel) ⟨by decide, by decide⟩ hN hK hP hD [] rfl rfl rfl hl.1 (rest := [.ref v0]) (As := [.int cx]) rfl (Nat.le_of_ble_eq_true rfl) dX5_at_10 ⟨by decide, by decide⟩) hP hD hS hA [] [0, 1] [0, 1] rfl rfl rfl (by decide) rfl (fun _ => rfl) (fun r10 u H locs hw hP hD hS => ?_)
    subst hw
    refine x_if_eq (tgt := 20) hx hb (bI_0 _) dX5_at_13 (by decide) (fun c13 => ?_) (fun c13 => ?_)
    · refine lv_iconst (v := nI 1) hx hb dX5_at_20 (by decide) ?_
      refine x_calli (w2 := fun (u : Unit) => [(v0, .inr (5, [.ref v1, .ref v2, .int (nI n), .int (nI lim), .ref v3, .ref v4, .ref v5, .ref v6, .ref v7, .ref v8, .ref v9, .ref v10, .ref v11, .ref v12, .ref v13, .ref v14, .ref v15, .ref v16, .ref v17, .int (nI 1)])), (v1, .inl (cI, 24, .inl row))]) (wr := [(v1, .inl (cI, 24, .inl row))]) (x_runV (n := 1) ⟨hx, hb, hml, hown, hts⟩ (zX5_fails l D cI cP cS cL v0 v1 v2 v3 v4 v5 v6 v7 v8 v9 v10 v11 v12 v13 v14 v15 v16 v17 n lim (th) 1 (by decide)) gX5_at_X5_fails rfl rfl rfl (by decide +kernel) ⟨by decide, by decide⟩ hN hK hP hD [0] rfl rfl (ci := 5) (q0 := 0) rfl rfl rfl rfl hl.1 (rest := []) (As := [.int (nI 1)]) rfl (Nat.le_of_ble_eq_true rfl) dX5_at_21 ⟨by decide, by decide⟩) hP hD hS hA [0] [1] [1, 0] rfl rfl rfl (by decide) rfl (fun _ => rfl) (fun r21 u H locs hw hP hD hS => ?_)
      replace hw : r21 = nI 1 := hw.trans (by decide)
      subst hw
      refine x_if_eq (tgt := 31) hx hb (nI_z (by omega)) dX5_at_24 (by decide) (fun c24 => ?_) (fun c24 => ?_)
      · exact absurd c24 (by omega)
      refine lv_iconst (v := nI 0) hx hb dX5_at_27 (by decide) ?_
      refine lv_goto (tgt := 46) hx hb dX5_at_28 (by decide) ?_
      exact x_ret_i hx hb hrt hlk hP hD hS dX5_at_46 ⟨by decide, by decide⟩ (nI 1) (Or.inl ⟨fun q => qIn_n c13 q.2, rfl⟩) rfl
    · have hin := qI2_y c6
      obtain ⟨tn, ht2, etn⟩ := vp_in_of hin.1 (by decide)
      obtain ⟨kn, hk2, ekn⟩ := vp_in_of hin.2 (by decide)
      subst etn
      subst ekn
      refine lv_iconst (v := nI 0) hx hb dX5_at_16 (by decide) ?_
      refine lv_goto (tgt := 21) hx hb dX5_at_17 (by decide) ?_
      refine x_calli (w2 := fun (u : Unit) => [(v0, .inr (5, [.ref v1, .ref v2, .int (nI n), .int (nI lim), .ref v3, .ref v4, .ref v5, .ref v6, .ref v7, .ref v8, .ref v9, .ref v10, .ref v11, .ref v12, .ref v13, .ref v14, .ref v15, .ref v16, .ref v17, .int (nI 0)])), (v1, .inl (cI, 24, .inl row))]) (wr := [(v1, .inl (cI, 24, .inl row))]) (x_runV (n := 1) ⟨hx, hb, hml, hown, hts⟩ (zX5_fails l D cI cP cS cL v0 v1 v2 v3 v4 v5 v6 v7 v8 v9 v10 v11 v12 v13 v14 v15 v16 v17 n lim (th) 0 (by decide)) gX5_at_X5_fails rfl rfl rfl (by decide +kernel) ⟨by decide, by decide⟩ hN hK hP hD [0] rfl rfl (ci := 5) (q0 := 0) rfl rfl rfl rfl hl.1 (rest := []) (As := [.int (nI 0)]) rfl (Nat.le_of_ble_eq_true rfl) dX5_at_21 ⟨by decide, by decide⟩) hP hD hS hA [0] [1] [1, 0] rfl rfl rfl (by decide) rfl (fun _ => rfl) (fun r21 u H locs hw hP hD hS => ?_)
      replace hw : r21 = nI 0 := hw.trans (by decide)
      subst hw
      refine x_if_eq (tgt := 31) hx hb (nI_z (by omega)) dX5_at_24 (by decide) (fun c24 => ?_) (fun c24 => ?_)
      rotate_left
      · exact absurd c24 (by omega)
      refine lv_aload_n hx hb dX5_at_31 rfl (lv_at hl 0 rfl) ?_
      refine va_get (D := D) (ci := 5) (v := .ref v1) (C := RX5) (T := TX5) (N := 20) hx hb hts kX5_at_X5 hown hK hP 0 rfl rfl 0 (by decide) (hts _ kX5_at_f7) (fun _ h9 => h9) rfl dX5_at_32 ?_
      refine lv_bipush (v := nI 12) hx hb dX5_at_35 (by decide) ?_
      refine lv_iload_n hx hb dX5_at_37 rfl (lv_at hl 1 rfl) ?_
      refine x_mul (k := 12 * tn) hx hb dX5_at_38 rfl ?_
      refine lv_iload_n hx hb dX5_at_39 rfl (lv_at hl 2 rfl) ?_
      refine x_add (k := (12 * tn) + kn) hx hb dX5_at_40 rfl ?_
      refine x_ald (v := row ((12 * tn) + kn)) hx hb hK hP 1 0 rfl rfl (by omega) (by omega) rfl dX5_at_41 ?_
      refine lv_iload_n hx hb dX5_at_42 rfl (lv_at hl 3 rfl) ?_
      refine x_calli (w2 := fun (u : Unit) => [(v0, .inr (5, [.ref v1, .ref v2, .int (nI n), .int (nI lim), .ref v3, .ref v4, .ref v5, .ref v6, .ref v7, .ref v8, .ref v9, .ref v10, .ref v11, .ref v12, .ref v13, .ref v14, .ref v15, .ref v16, .ref v17, .int (nI 0)])), (v1, .inl (cI, 24, .inl row))]) (wr := [(v0, .inr (5, [.ref v1, .ref v2, .int (nI n), .int (nI lim), .ref v3, .ref v4, .ref v5, .ref v6, .ref v7, .ref v8, .ref v9, .ref v10, .ref v11, .ref v12, .ref v13, .ref v14, .ref v15, .ref v16, .ref v17, .int (nI 0)])), (v1, .inl (cI, 24, .inl row))]) (x_runS (n := 2) ⟨hx, hb, hml, hown, hts⟩ (zX5_numberOf l D cI cP cS cL (row ((12 * tn) + kn)) cx) gX5_at_X5_numberOf rfl rfl rfl (by decide +kernel) ⟨by decide, by decide⟩ hN hK hP hD [] rfl rfl rfl hl.1 (rest := []) (As := [.int (row ((12 * tn) + kn)), .int cx]) rfl (Nat.le_of_ble_eq_true rfl) dX5_at_43 ⟨by decide, by decide⟩) hP hD hS hA [] [0, 1] [0, 1] rfl rfl rfl (by decide) rfl (fun _ => rfl) (fun r43 u H locs hw hP hD hS => ?_)
      subst hw
      exact x_ret_i hx hb hrt hlk hP hD hS dX5_at_46 ⟨by decide, by decide⟩ (nI 0) (Or.inr ⟨tn, kn, rfl, ht2, rfl, hk2, qIn_y c13, rfl, rfl⟩) rfl

set_option maxRecDepth 20000 in
theorem kX5_commits_f65 : Cond.fieldLink RX5 65 "RowReplicatorModel" "thrown" "I" ∈ wsX5_commits := by decide +kernel
set_option maxRecDepth 20000 in
theorem kX5_commits_X5 : ∀ w ∈ wsX50, w ∈ wsX5_commits := by decide +kernel
set_option maxRecDepth 20000 in
theorem kX5_commits_f76 : Cond.fieldLink RX5 76 "RowReplicatorModel" "commits" "I" ∈ wsX5_commits := by decide +kernel
set_option maxHeartbeats 4000000 in
set_option maxRecDepth 100000 in
theorem zX5_commits (l : Launch) (D : va_G) (cI cP cS cL : ClassId) (v0 v1 v2 v3 v4 v5 v6 v7 v8 v9 v10 v11 v12 v13 v14 v15 v16 v17 : Nat) (n lim : Nat) (th : Int32)  : xMi l yX5_commits wsX5_commits (rmD 0 0 0) D [(cI, .int), (cP, .object RX0), (cS, .object RX2), (cL, .long)] [.ref v0] [(v0, .inr (5, [.ref v1, .ref v2, .int (nI n), .int (nI lim), .ref v3, .ref v4, .ref v5, .ref v6, .ref v7, .ref v8, .ref v9, .ref v10, .ref v11, .ref v12, .ref v13, .ref v14, .ref v15, .ref v16, .ref v17, .int th]))] (fun (r : Int32) (u : Unit) => r = nI n) (fun (u : Unit) => [(v0, .inr (5, [.ref v1, .ref v2, .int (nI n), .int (nI lim), .ref v3, .ref v4, .ref v5, .ref v6, .ref v7, .ref v8, .ref v9, .ref v10, .ref v11, .ref v12, .ref v13, .ref v14, .ref v15, .ref v16, .ref v17, .int (nI 0)]))]) 0 0 := by
  refine xe_i (cc := cX5_commits) (maxL := 1) (ret := (some .int)) (by decide) rfl (Nat.le_of_ble_eq_true rfl) ?_
  intro zp ze s zm below meth zc A ls B
  obtain ⟨hx, hb, hml, hrt, hts, hown, hnm, hlk, hK, hP, hD, hA, hS, hN, hl⟩ := B
  have hown : s.vm.findClass RX5 = some zm.cls := hown
  have hl : lv_has ls 1 [(0, .ref v0)] := hl
  have hA : ∀ q, s.heap.size ≤ q → A q := hA
  refine lv_aload_n hx hb dX5_commits_0 rfl (lv_at hl 0 rfl) ?_
  refine lv_iconst (v := nI 0) hx hb dX5_commits_1 (by decide) ?_
  refine x_put (fs' := [.ref v1, .ref v2, .int (nI n), .int (nI lim), .ref v3, .ref v4, .ref v5, .ref v6, .ref v7, .ref v8, .ref v9, .ref v10, .ref v11, .ref v12, .ref v13, .ref v14, .ref v15, .ref v16, .ref v17, .int (nI 0)]) (ws' := [(v0, .inr (5, [.ref v1, .ref v2, .int (nI n), .int (nI lim), .ref v3, .ref v4, .ref v5, .ref v6, .ref v7, .ref v8, .ref v9, .ref v10, .ref v11, .ref v12, .ref v13, .ref v14, .ref v15, .ref v16, .ref v17, .int (nI 0)]))]) (v := .int (nI 0)) (ty := .int) (C := RX5) (T := TX5) (N := 20) (ci := 5) hx hb hts kX5_commits_X5 tyX5 tyX5_ok nmX5 hown hK hP hD hS 0 rfl rfl 19 (by decide) (hts _ kX5_commits_f65) (fun _ h9 => h9) rfl (by decide +kernel) rfl rfl (Nat.le_of_ble_eq_true rfl) rfl rfl dX5_commits_2 (fun H locs hP hD hS => ?_)
  refine lv_aload_n hx hb dX5_commits_5 rfl (lv_at hl 0 rfl) ?_
  refine va_get (D := D) (ci := 5) (v := .int (nI n)) (C := RX5) (T := TX5) (N := 20) hx hb hts kX5_commits_X5 hown hK hP 0 rfl rfl 2 (by decide) (hts _ kX5_commits_f76) (fun _ h9 => h9) rfl dX5_commits_6 ?_
  exact x_ret_i hx hb hrt hlk hP hD hS dX5_commits_9 ⟨by decide, by decide⟩ () rfl rfl

set_option maxRecDepth 20000 in
theorem kX5_thrown_f65 : Cond.fieldLink RX5 65 "RowReplicatorModel" "thrown" "I" ∈ wsX5_thrown := by decide +kernel
set_option maxRecDepth 20000 in
theorem kX5_thrown_X5 : ∀ w ∈ wsX50, w ∈ wsX5_thrown := by decide +kernel
set_option maxHeartbeats 4000000 in
set_option maxRecDepth 100000 in
theorem zX5_thrown (l : Launch) (D : va_G) (cI cP cS cL : ClassId) (v0 v1 v2 v3 v4 v5 v6 v7 v8 v9 v10 v11 v12 v13 v14 v15 v16 v17 : Nat) (n lim : Nat) (th : Int32)  : xMi l yX5_thrown wsX5_thrown (rmD 0 0 0) D [(cI, .int), (cP, .object RX0), (cS, .object RX2), (cL, .long)] [.ref v0] [(v0, .inr (5, [.ref v1, .ref v2, .int (nI n), .int (nI lim), .ref v3, .ref v4, .ref v5, .ref v6, .ref v7, .ref v8, .ref v9, .ref v10, .ref v11, .ref v12, .ref v13, .ref v14, .ref v15, .ref v16, .ref v17, .int th]))] (fun (r : Int32) (u : Unit) => r = th) (fun (u : Unit) => [(v0, .inr (5, [.ref v1, .ref v2, .int (nI n), .int (nI lim), .ref v3, .ref v4, .ref v5, .ref v6, .ref v7, .ref v8, .ref v9, .ref v10, .ref v11, .ref v12, .ref v13, .ref v14, .ref v15, .ref v16, .ref v17, .int th]))]) 0 0 := by
  refine xe_i (cc := cX5_thrown) (maxL := 1) (ret := (some .int)) (by decide) rfl (Nat.le_of_ble_eq_true rfl) ?_
  intro zp ze s zm below meth zc A ls B
  obtain ⟨hx, hb, hml, hrt, hts, hown, hnm, hlk, hK, hP, hD, hA, hS, hN, hl⟩ := B
  have hown : s.vm.findClass RX5 = some zm.cls := hown
  have hl : lv_has ls 1 [(0, .ref v0)] := hl
  have hA : ∀ q, s.heap.size ≤ q → A q := hA
  refine lv_aload_n hx hb dX5_thrown_0 rfl (lv_at hl 0 rfl) ?_
  refine va_get (D := D) (ci := 5) (v := .int th) (C := RX5) (T := TX5) (N := 20) hx hb hts kX5_thrown_X5 hown hK hP 0 rfl rfl 19 (by decide) (hts _ kX5_thrown_f65) (fun _ h9 => h9) rfl dX5_thrown_1 ?_
  exact x_ret_i hx hb hrt hlk hP hD hS dX5_thrown_4 ⟨by decide, by decide⟩ () rfl rfl
