set_option maxRecDepth 20000 in
theorem kL_asks_c64 : Cond.classLink RL 64 "java/lang/IndexOutOfBoundsException" ∈ wsL_asks := by decide +kernel
set_option maxHeartbeats 4000000 in
set_option maxRecDepth 100000 in
theorem zA_at (l : Launch) (D : va_G) (cI cP cS cL : ClassId) (hfl : l.stackTraces = false) (x0 pb pa sa g0 lim : Nat) (b1 b2 b3 b4 b5 b6 n : Nat) (rows : Nat → Int32) (tx kx cx : Int32) (y0 : Int32)  : xWi l yL_asks wsL_asks (rmD 9 3 18) D [(cI, .int), (cP, .object RX0), (cS, .object RX2)] [.ref x0, .int (nI 0), .int tx, .int kx, .int cx, .int y0] [(x0, .inr (4, [.ref pb, .ref pa, .ref sa, .ref g0, .int (nI lim)])), (pb, .inr (1, [.ref b1, .int (nI n), .ref b2, .ref b3, .ref b4, .ref b5, .ref b6])), (b1, .inl (cI, 24, .inl rows))] (fun (r : Int32) (u : Option ((Nat × Nat) × Int32)) => match u with | some ((tn, kn), r0) => r = r0 ∧ (tx = nI tn ∧ tn < 2 ∧ kx = nI kn ∧ kn < 12 ∧ vp_in cx 3 ∧ r0 = qNum (rows (tn * 12 + kn)) cx) | none => (r = (-30) ∧ (¬ (vp_in tx 2 ∧ vp_in kx 12 ∧ vp_in cx 3)))) (fun (u : Option ((Nat × Nat) × Int32)) => match u with | some ((tn, kn), r0) => [(x0, .inr (4, [.ref pb, .ref pa, .ref sa, .ref g0, .int (nI lim)])), (pb, .inr (1, [.ref b1, .int (nI n), .ref b2, .ref b3, .ref b4, .ref b5, .ref b6])), (b1, .inl (cI, 24, .inl rows))] | none => [(x0, .inr (4, [.ref pb, .ref pa, .ref sa, .ref g0, .int (nI lim)])), (pb, .inr (1, [.ref b1, .int (nI n), .ref b2, .ref b3, .ref b4, .ref b5, .ref b6])), (b1, .inl (cI, 24, .inl rows))]) 3 18 := by
  refine xe_W (cc := cL_asks) (maxL := 7) (ret := some .int) (hh := [(0, 87, 88, 64), (0, 87, 93, 68)]) (by decide) rfl (Nat.le_of_ble_eq_true rfl) ?_
  intro zp ze s zm below meth zc A ls B hT hE
  obtain ⟨hx, hb, hml, hrt, hts, hown, hnm, hlk, hK, hP, hD, hA, hS, hN, hl⟩ := B
  have hown : s.vm.findClass RL = some zm.cls := hown
  have hl : lv_has ls 7 [(0, .ref x0), (1, .int (nI 0)), (2, .int tx), (3, .int kx), (4, .int cx), (5, .int y0)] := hl
  have hA : ∀ q, s.heap.size ≤ q → A q := hA
  refine lv_iload_n hx hb dL_asks_0 rfl (lv_at hl 1 rfl) ?_
  refine x_if_ne (tgt := 15) hx hb (nI_z (by omega)) dL_asks_1 (by decide) (fun c1 => ?_) (fun c1 => ?_)
  · exact absurd c1 (by omega)
  refine lv_aload_n hx hb dL_asks_4 rfl (lv_at hl 0 rfl) ?_
  refine lv_iload_n hx hb dL_asks_5 rfl (lv_at hl 2 rfl) ?_
  refine lv_iload_n hx hb dL_asks_6 rfl (lv_at hl 3 rfl) ?_
  refine lv_iload hx hb dL_asks_7 (lv_at hl 4 rfl) ?_
  refine x_callCi (w2 := fun (u : Nat × Nat) => match u with | (tn, kn) => [(x0, .inr (4, [.ref pb, .ref pa, .ref sa, .ref g0, .int (nI lim)])), (pb, .inr (1, [.ref b1, .int (nI n), .ref b2, .ref b3, .ref b4, .ref b5, .ref b6])), (b1, .inl (cI, 24, .inl rows))]) (wr := []) (x_runXV (n := 3) ⟨hx, hb, hml, hown, hts⟩ (zX4_at l D cI cP cS cL hfl x0 pb pa sa g0 lim b1 b2 b3 b4 b5 b6 n rows tx kx cx) gL_asks_X4_at rfl rfl rfl (by decide +kernel) ⟨by decide, by decide⟩ hN hK hP hD hS hA hE [0, 1, 2] rfl rfl (ci := 4) (q0 := 0) rfl rfl rfl rfl hl.1 (rest := []) (As := [.int tx, .int kx, .int cx]) rfl (Nat.le_of_ble_eq_true rfl) dL_asks_9 ⟨by decide, by decide⟩) hP hD hS hA [0, 1, 2] [] [0, 1, 2] [0, 1, 2] rfl rfl rfl (by decide) rfl rfl rfl (fun _ => rfl) (fun E ce q9 H locs hEX hP hD hS hce hcv hcl => ?_) (fun r0 u H locs hw hP hD hS => ?_)
  · have hEX : E = nIO ∧ ¬ (vp_in tx 2 ∧ vp_in kx 12 ∧ vp_in cx 3) := hEX
    obtain ⟨rfl, h9⟩ := hEX
    refine x_catch hown hts hE [] ⟨0, 87, 88, 64⟩ [⟨0, 87, 93, 68⟩] (hT.trans rfl) (by decide) (fun z hz => by cases hz) (by decide) (by decide) kL_asks_c64 hce hcv hcl ?_
    refine lv_astore (lv' := [(6, .ref q9), (0, .ref x0), (1, .int (nI 0)), (2, .int tx), (3, .int kx), (4, .int cx), (5, .int y0)]) hx hb dL_asks_88 hl (by decide) rfl (fun ls hl => ?_)
    refine lv_bipush (v := (-30 : Int32)) hx hb dL_asks_90 (by decide) ?_
    exact vx_ret (x_ret_i hx hb hrt hlk hP hD hS dL_asks_92 ⟨by decide, by decide⟩ none (⟨rfl, h9⟩) rfl)
  obtain ⟨tn, kn⟩ := u
  have hP : va_P D vwCl [(x0, .inr (4, [.ref pb, .ref pa, .ref sa, .ref g0, .int (nI lim)])), (pb, .inr (1, [.ref b1, .int (nI n), .ref b2, .ref b3, .ref b4, .ref b5, .ref b6])), (b1, .inl (cI, 24, .inl rows))] H := hP
  have hD : va_D A [(x0, .inr (4, [.ref pb, .ref pa, .ref sa, .ref g0, .int (nI lim)])), (pb, .inr (1, [.ref b1, .int (nI n), .ref b2, .ref b3, .ref b4, .ref b5, .ref b6])), (b1, .inl (cI, 24, .inl rows))] := hD
  refine lv_goto (tgt := 87) hx hb dL_asks_12 (by decide) ?_
  exact vx_ret (x_ret_i hx hb hrt hlk hP hD hS dL_asks_87 ⟨by decide, by decide⟩ (some ((tn, kn), r0)) (⟨rfl, hw⟩) rfl)

set_option maxHeartbeats 4000000 in
set_option maxRecDepth 100000 in
theorem zA_state (l : Launch) (D : va_G) (cI cP cS cL : ClassId) (hfl : l.stackTraces = false) (x0 pb pa sa g0 lim : Nat) (aS : Nat → Nat) (si s1 s2 st sl : Nat) (pu : Option Nat) (sx : Int32) (y0 y1 y2 : Int32) (hsx : ∀ j, j < 3 → sx = nI j → j = si) : xWi l yL_asks wsL_asks (rmD 8 1 6) D [(cI, .int), (cP, .object RX0), (cS, .object RX2)] [.ref x0, .int (nI 1), .int sx, .int y0, .int y1, .int y2] [(x0, .inr (4, [.ref pb, .ref pa, .ref sa, .ref g0, .int (nI lim)])), (sa, .inl (cS, 3, .inr (.inr (.inr (.inr (fun j => some (aS j))))))), (aS si, .inr (2, [.ref s1, .ref s2, va_rf pu, .int (nI st), .int (nI sl)]))] (fun (r : Int32) (u : Option ((Unit) × Int32)) => match u with | some (_, r0) => r = r0 ∧ (sx = nI si ∧ si < 3 ∧ r0 = nI st) | none => (r = (-30) ∧ (¬ vp_in sx 3))) (fun (u : Option ((Unit) × Int32)) => match u with | some (_, r0) => [(x0, .inr (4, [.ref pb, .ref pa, .ref sa, .ref g0, .int (nI lim)])), (sa, .inl (cS, 3, .inr (.inr (.inr (.inr (fun j => some (aS j))))))), (aS si, .inr (2, [.ref s1, .ref s2, va_rf pu, .int (nI st), .int (nI sl)]))] | none => [(x0, .inr (4, [.ref pb, .ref pa, .ref sa, .ref g0, .int (nI lim)])), (sa, .inl (cS, 3, .inr (.inr (.inr (.inr (fun j => some (aS j))))))), (aS si, .inr (2, [.ref s1, .ref s2, va_rf pu, .int (nI st), .int (nI sl)]))]) 1 6 := by
  refine xe_W (cc := cL_asks) (maxL := 7) (ret := some .int) (hh := [(0, 87, 88, 64), (0, 87, 93, 68)]) (by decide) rfl (Nat.le_of_ble_eq_true rfl) ?_
  intro zp ze s zm below meth zc A ls B hT hE
  obtain ⟨hx, hb, hml, hrt, hts, hown, hnm, hlk, hK, hP, hD, hA, hS, hN, hl⟩ := B
  have hown : s.vm.findClass RL = some zm.cls := hown
  have hl : lv_has ls 7 [(0, .ref x0), (1, .int (nI 1)), (2, .int sx), (3, .int y0), (4, .int y1), (5, .int y2)] := hl
  have hA : ∀ q, s.heap.size ≤ q → A q := hA
  refine lv_iload_n hx hb dL_asks_0 rfl (lv_at hl 1 rfl) ?_
  refine x_if_ne (tgt := 15) hx hb (nI_z (by omega)) dL_asks_1 (by decide) (fun c1 => ?_) (fun c1 => ?_)
  rotate_left
  · exact absurd c1 (by omega)
  refine lv_iload_n hx hb dL_asks_15 rfl (lv_at hl 1 rfl) ?_
  refine lv_iconst (v := nI 1) hx hb dL_asks_16 (by decide) ?_
  refine x_cmp_ne (tgt := 28) hx hb (nI_eq (a := 1) (b := 1) (by omega) (by omega)) dL_asks_17 (by decide) (fun c17 => ?_) (fun c17 => ?_)
  · exfalso; omega
  · refine lv_aload_n hx hb dL_asks_20 rfl (lv_at hl 0 rfl) ?_
    refine lv_iload_n hx hb dL_asks_21 rfl (lv_at hl 2 rfl) ?_
    refine x_callCi (w2 := fun (u : Unit) => [(x0, .inr (4, [.ref pb, .ref pa, .ref sa, .ref g0, .int (nI lim)])), (sa, .inl (cS, 3, .inr (.inr (.inr (.inr (fun j => some (aS j))))))), (aS si, .inr (2, [.ref s1, .ref s2, va_rf pu, .int (nI st), .int (nI sl)]))]) (wr := []) (x_runXV (n := 1) ⟨hx, hb, hml, hown, hts⟩ (zX4_state l D cI cP cS cL hfl x0 pb pa sa g0 lim aS si s1 s2 st sl pu sx hsx) gL_asks_X4_state rfl rfl rfl (by decide +kernel) ⟨by decide, by decide⟩ hN hK hP hD hS hA hE [0, 1, 2] rfl rfl (ci := 4) (q0 := 0) rfl rfl rfl rfl hl.1 (rest := []) (As := [.int sx]) rfl (Nat.le_of_ble_eq_true rfl) dL_asks_22 ⟨by decide, by decide⟩) hP hD hS hA [0, 1, 2] [] [0, 1, 2] [0, 1, 2] rfl rfl rfl (by decide) rfl rfl rfl (fun _ => rfl) (fun E ce q9 H locs hEX hP hD hS hce hcv hcl => ?_) (fun r0 u H locs hw hP hD hS => ?_)
    · have hEX : E = nIO ∧ ¬ vp_in sx 3 := hEX
      obtain ⟨rfl, h9⟩ := hEX
      refine x_catch hown hts hE [] ⟨0, 87, 88, 64⟩ [⟨0, 87, 93, 68⟩] (hT.trans rfl) (by decide) (fun z hz => by cases hz) (by decide) (by decide) kL_asks_c64 hce hcv hcl ?_
      refine lv_astore (lv' := [(6, .ref q9), (0, .ref x0), (1, .int (nI 1)), (2, .int sx), (3, .int y0), (4, .int y1), (5, .int y2)]) hx hb dL_asks_88 hl (by decide) rfl (fun ls hl => ?_)
      refine lv_bipush (v := (-30 : Int32)) hx hb dL_asks_90 (by decide) ?_
      exact vx_ret (x_ret_i hx hb hrt hlk hP hD hS dL_asks_92 ⟨by decide, by decide⟩ none (⟨rfl, h9⟩) rfl)
    obtain ⟨⟩ := u
    refine lv_goto (tgt := 87) hx hb dL_asks_25 (by decide) ?_
    exact vx_ret (x_ret_i hx hb hrt hlk hP hD hS dL_asks_87 ⟨by decide, by decide⟩ (some ((), r0)) (⟨rfl, hw⟩) rfl)

set_option maxHeartbeats 4000000 in
set_option maxRecDepth 100000 in
theorem zA_lag (l : Launch) (D : va_G) (cI cP cS cL : ClassId) (hfl : l.stackTraces = false) (x0 pb pa sa g0 lim : Nat) (b1 b2 b3 b4 b5 b6 n : Nat) (aS : Nat → Nat) (si s1 s2 st sl : Nat) (pu : Option Nat) (sx : Int32) (y0 y1 y2 : Int32) (hsx : ∀ j, j < 3 → sx = nI j → j = si) (hst : st ≤ 3) (hsl : sl ≤ n) (hn9 : n ≤ 50) : xWi l yL_asks wsL_asks (rmD 8 1 6) D [(cI, .int), (cP, .object RX0), (cS, .object RX2)] [.ref x0, .int (nI 2), .int sx, .int y0, .int y1, .int y2] [(x0, .inr (4, [.ref pb, .ref pa, .ref sa, .ref g0, .int (nI lim)])), (pb, .inr (1, [.ref b1, .int (nI n), .ref b2, .ref b3, .ref b4, .ref b5, .ref b6])), (sa, .inl (cS, 3, .inr (.inr (.inr (.inr (fun j => some (aS j))))))), (aS si, .inr (2, [.ref s1, .ref s2, va_rf pu, .int (nI st), .int (nI sl)]))] (fun (r : Int32) (u : Option ((Unit) × Int32)) => match u with | some (_, r0) => r = r0 ∧ (sx = nI si ∧ si < 3 ∧ r0 = nI (qLag st sl n)) | none => (r = (-30) ∧ (¬ vp_in sx 3))) (fun (u : Option ((Unit) × Int32)) => match u with | some (_, r0) => [(x0, .inr (4, [.ref pb, .ref pa, .ref sa, .ref g0, .int (nI lim)])), (pb, .inr (1, [.ref b1, .int (nI n), .ref b2, .ref b3, .ref b4, .ref b5, .ref b6])), (sa, .inl (cS, 3, .inr (.inr (.inr (.inr (fun j => some (aS j))))))), (aS si, .inr (2, [.ref s1, .ref s2, va_rf pu, .int (nI st), .int (nI sl)]))] | none => [(x0, .inr (4, [.ref pb, .ref pa, .ref sa, .ref g0, .int (nI lim)])), (pb, .inr (1, [.ref b1, .int (nI n), .ref b2, .ref b3, .ref b4, .ref b5, .ref b6])), (sa, .inl (cS, 3, .inr (.inr (.inr (.inr (fun j => some (aS j))))))), (aS si, .inr (2, [.ref s1, .ref s2, va_rf pu, .int (nI st), .int (nI sl)]))]) 1 6 := by
  refine xe_W (cc := cL_asks) (maxL := 7) (ret := some .int) (hh := [(0, 87, 88, 64), (0, 87, 93, 68)]) (by decide) rfl (Nat.le_of_ble_eq_true rfl) ?_
  intro zp ze s zm below meth zc A ls B hT hE
  obtain ⟨hx, hb, hml, hrt, hts, hown, hnm, hlk, hK, hP, hD, hA, hS, hN, hl⟩ := B
  have hown : s.vm.findClass RL = some zm.cls := hown
  have hl : lv_has ls 7 [(0, .ref x0), (1, .int (nI 2)), (2, .int sx), (3, .int y0), (4, .int y1), (5, .int y2)] := hl
  have hA : ∀ q, s.heap.size ≤ q → A q := hA
  refine lv_iload_n hx hb dL_asks_0 rfl (lv_at hl 1 rfl) ?_
  refine x_if_ne (tgt := 15) hx hb (nI_z (by omega)) dL_asks_1 (by decide) (fun c1 => ?_) (fun c1 => ?_)
  rotate_left
  · exact absurd c1 (by omega)
  refine lv_iload_n hx hb dL_asks_15 rfl (lv_at hl 1 rfl) ?_
  refine lv_iconst (v := nI 1) hx hb dL_asks_16 (by decide) ?_
  refine x_cmp_ne (tgt := 28) hx hb (nI_eq (a := 2) (b := 1) (by omega) (by omega)) dL_asks_17 (by decide) (fun c17 => ?_) (fun c17 => ?_)
  · refine lv_iload_n hx hb dL_asks_28 rfl (lv_at hl 1 rfl) ?_
    refine lv_iconst (v := nI 2) hx hb dL_asks_29 (by decide) ?_
    refine x_cmp_ne (tgt := 41) hx hb (nI_eq (a := 2) (b := 2) (by omega) (by omega)) dL_asks_30 (by decide) (fun c30 => ?_) (fun c30 => ?_)
    · exfalso; omega
    · refine lv_aload_n hx hb dL_asks_33 rfl (lv_at hl 0 rfl) ?_
      refine lv_iload_n hx hb dL_asks_34 rfl (lv_at hl 2 rfl) ?_
      refine x_callCi (w2 := fun (u : Unit) => [(x0, .inr (4, [.ref pb, .ref pa, .ref sa, .ref g0, .int (nI lim)])), (pb, .inr (1, [.ref b1, .int (nI n), .ref b2, .ref b3, .ref b4, .ref b5, .ref b6])), (sa, .inl (cS, 3, .inr (.inr (.inr (.inr (fun j => some (aS j))))))), (aS si, .inr (2, [.ref s1, .ref s2, va_rf pu, .int (nI st), .int (nI sl)]))]) (wr := []) (x_runXV (n := 1) ⟨hx, hb, hml, hown, hts⟩ (zX4_lag l D cI cP cS cL hfl x0 pb pa sa g0 lim b1 b2 b3 b4 b5 b6 n aS si s1 s2 st sl pu sx hsx hst hsl hn9) gL_asks_X4_lag rfl rfl rfl (by decide +kernel) ⟨by decide, by decide⟩ hN hK hP hD hS hA hE [0, 1, 2, 3] rfl rfl (ci := 4) (q0 := 0) rfl rfl rfl rfl hl.1 (rest := []) (As := [.int sx]) rfl (Nat.le_of_ble_eq_true rfl) dL_asks_35 ⟨by decide, by decide⟩) hP hD hS hA [0, 1, 2, 3] [] [0, 1, 2, 3] [0, 1, 2, 3] rfl rfl rfl (by decide) rfl rfl rfl (fun _ => rfl) (fun E ce q9 H locs hEX hP hD hS hce hcv hcl => ?_) (fun r0 u H locs hw hP hD hS => ?_)
      · have hEX : E = nIO ∧ ¬ vp_in sx 3 := hEX
        obtain ⟨rfl, h9⟩ := hEX
        refine x_catch hown hts hE [] ⟨0, 87, 88, 64⟩ [⟨0, 87, 93, 68⟩] (hT.trans rfl) (by decide) (fun z hz => by cases hz) (by decide) (by decide) kL_asks_c64 hce hcv hcl ?_
        refine lv_astore (lv' := [(6, .ref q9), (0, .ref x0), (1, .int (nI 2)), (2, .int sx), (3, .int y0), (4, .int y1), (5, .int y2)]) hx hb dL_asks_88 hl (by decide) rfl (fun ls hl => ?_)
        refine lv_bipush (v := (-30 : Int32)) hx hb dL_asks_90 (by decide) ?_
        exact vx_ret (x_ret_i hx hb hrt hlk hP hD hS dL_asks_92 ⟨by decide, by decide⟩ none (⟨rfl, h9⟩) rfl)
      obtain ⟨⟩ := u
      refine lv_goto (tgt := 87) hx hb dL_asks_38 (by decide) ?_
      exact vx_ret (x_ret_i hx hb hrt hlk hP hD hS dL_asks_87 ⟨by decide, by decide⟩ (some ((), r0)) (⟨rfl, hw⟩) rfl)
  · exfalso; omega

set_option maxHeartbeats 4000000 in
set_option maxRecDepth 100000 in
theorem zA_copiedAt (l : Launch) (D : va_G) (cI cP cS cL : ClassId) (hfl : l.stackTraces = false) (x0 pb pa sa g0 lim : Nat) (aS : Nat → Nat) (si s1 s2 st sl : Nat) (pu : Option Nat) (cp : Nat → Int32) (sx tx : Int32) (y0 y1 : Int32) (hsx : ∀ j, j < 3 → sx = nI j → j = si) : xWi l yL_asks wsL_asks (rmD 8 2 12) D [(cI, .int), (cP, .object RX0), (cS, .object RX2)] [.ref x0, .int (nI 3), .int sx, .int tx, .int y0, .int y1] [(x0, .inr (4, [.ref pb, .ref pa, .ref sa, .ref g0, .int (nI lim)])), (sa, .inl (cS, 3, .inr (.inr (.inr (.inr (fun j => some (aS j))))))), (aS si, .inr (2, [.ref s1, .ref s2, va_rf pu, .int (nI st), .int (nI sl)])), (s2, .inl (cI, 2, .inl cp))] (fun (r : Int32) (u : Option ((Nat) × Int32)) => match u with | some (tn, r0) => r = r0 ∧ (sx = nI si ∧ si < 3 ∧ tx = nI tn ∧ tn < 2 ∧ r0 = cp tn) | none => (r = (-30) ∧ (¬ (vp_in sx 3 ∧ vp_in tx 2)))) (fun (u : Option ((Nat) × Int32)) => match u with | some (tn, r0) => [(x0, .inr (4, [.ref pb, .ref pa, .ref sa, .ref g0, .int (nI lim)])), (sa, .inl (cS, 3, .inr (.inr (.inr (.inr (fun j => some (aS j))))))), (aS si, .inr (2, [.ref s1, .ref s2, va_rf pu, .int (nI st), .int (nI sl)])), (s2, .inl (cI, 2, .inl cp))] | none => [(x0, .inr (4, [.ref pb, .ref pa, .ref sa, .ref g0, .int (nI lim)])), (sa, .inl (cS, 3, .inr (.inr (.inr (.inr (fun j => some (aS j))))))), (aS si, .inr (2, [.ref s1, .ref s2, va_rf pu, .int (nI st), .int (nI sl)])), (s2, .inl (cI, 2, .inl cp))]) 2 12 := by
  refine xe_W (cc := cL_asks) (maxL := 7) (ret := some .int) (hh := [(0, 87, 88, 64), (0, 87, 93, 68)]) (by decide) rfl (Nat.le_of_ble_eq_true rfl) ?_
  intro zp ze s zm below meth zc A ls B hT hE
  obtain ⟨hx, hb, hml, hrt, hts, hown, hnm, hlk, hK, hP, hD, hA, hS, hN, hl⟩ := B
  have hown : s.vm.findClass RL = some zm.cls := hown
  have hl : lv_has ls 7 [(0, .ref x0), (1, .int (nI 3)), (2, .int sx), (3, .int tx), (4, .int y0), (5, .int y1)] := hl
  have hA : ∀ q, s.heap.size ≤ q → A q := hA
  refine lv_iload_n hx hb dL_asks_0 rfl (lv_at hl 1 rfl) ?_
  refine x_if_ne (tgt := 15) hx hb (nI_z (by omega)) dL_asks_1 (by decide) (fun c1 => ?_) (fun c1 => ?_)
  rotate_left
  · exact absurd c1 (by omega)
  refine lv_iload_n hx hb dL_asks_15 rfl (lv_at hl 1 rfl) ?_
  refine lv_iconst (v := nI 1) hx hb dL_asks_16 (by decide) ?_
  refine x_cmp_ne (tgt := 28) hx hb (nI_eq (a := 3) (b := 1) (by omega) (by omega)) dL_asks_17 (by decide) (fun c17 => ?_) (fun c17 => ?_)
  · refine lv_iload_n hx hb dL_asks_28 rfl (lv_at hl 1 rfl) ?_
    refine lv_iconst (v := nI 2) hx hb dL_asks_29 (by decide) ?_
    refine x_cmp_ne (tgt := 41) hx hb (nI_eq (a := 3) (b := 2) (by omega) (by omega)) dL_asks_30 (by decide) (fun c30 => ?_) (fun c30 => ?_)
    · refine lv_iload_n hx hb dL_asks_41 rfl (lv_at hl 1 rfl) ?_
      refine lv_iconst (v := nI 3) hx hb dL_asks_42 (by decide) ?_
      refine x_cmp_ne (tgt := 55) hx hb (nI_eq (a := 3) (b := 3) (by omega) (by omega)) dL_asks_43 (by decide) (fun c43 => ?_) (fun c43 => ?_)
      · exfalso; omega
      · refine lv_aload_n hx hb dL_asks_46 rfl (lv_at hl 0 rfl) ?_
        refine lv_iload_n hx hb dL_asks_47 rfl (lv_at hl 2 rfl) ?_
        refine lv_iload_n hx hb dL_asks_48 rfl (lv_at hl 3 rfl) ?_
        refine x_callCi (w2 := fun (u : Nat) => match u with | tn => [(x0, .inr (4, [.ref pb, .ref pa, .ref sa, .ref g0, .int (nI lim)])), (sa, .inl (cS, 3, .inr (.inr (.inr (.inr (fun j => some (aS j))))))), (aS si, .inr (2, [.ref s1, .ref s2, va_rf pu, .int (nI st), .int (nI sl)])), (s2, .inl (cI, 2, .inl cp))]) (wr := []) (x_runXV (n := 2) ⟨hx, hb, hml, hown, hts⟩ (zX4_copiedAt l D cI cP cS cL hfl x0 pb pa sa g0 lim aS si s1 s2 st sl pu cp sx tx hsx) gL_asks_X4_copiedAt rfl rfl rfl (by decide +kernel) ⟨by decide, by decide⟩ hN hK hP hD hS hA hE [0, 1, 2, 3] rfl rfl (ci := 4) (q0 := 0) rfl rfl rfl rfl hl.1 (rest := []) (As := [.int sx, .int tx]) rfl (Nat.le_of_ble_eq_true rfl) dL_asks_49 ⟨by decide, by decide⟩) hP hD hS hA [0, 1, 2, 3] [] [0, 1, 2, 3] [0, 1, 2, 3] rfl rfl rfl (by decide) rfl rfl rfl (fun _ => rfl) (fun E ce q9 H locs hEX hP hD hS hce hcv hcl => ?_) (fun r0 u H locs hw hP hD hS => ?_)
        · have hEX : E = nIO ∧ ¬ (vp_in sx 3 ∧ vp_in tx 2) := hEX
          obtain ⟨rfl, h9⟩ := hEX
          refine x_catch hown hts hE [] ⟨0, 87, 88, 64⟩ [⟨0, 87, 93, 68⟩] (hT.trans rfl) (by decide) (fun z hz => by cases hz) (by decide) (by decide) kL_asks_c64 hce hcv hcl ?_
          refine lv_astore (lv' := [(6, .ref q9), (0, .ref x0), (1, .int (nI 3)), (2, .int sx), (3, .int tx), (4, .int y0), (5, .int y1)]) hx hb dL_asks_88 hl (by decide) rfl (fun ls hl => ?_)
          refine lv_bipush (v := (-30 : Int32)) hx hb dL_asks_90 (by decide) ?_
          exact vx_ret (x_ret_i hx hb hrt hlk hP hD hS dL_asks_92 ⟨by decide, by decide⟩ none (⟨rfl, h9⟩) rfl)
        obtain ⟨tn, h9⟩ : ∃ z, z = u := ⟨u, rfl⟩
        subst h9
        have hP : va_P D vwCl [(x0, .inr (4, [.ref pb, .ref pa, .ref sa, .ref g0, .int (nI lim)])), (sa, .inl (cS, 3, .inr (.inr (.inr (.inr (fun j => some (aS j))))))), (aS si, .inr (2, [.ref s1, .ref s2, va_rf pu, .int (nI st), .int (nI sl)])), (s2, .inl (cI, 2, .inl cp))] H := hP
        have hD : va_D A [(x0, .inr (4, [.ref pb, .ref pa, .ref sa, .ref g0, .int (nI lim)])), (sa, .inl (cS, 3, .inr (.inr (.inr (.inr (fun j => some (aS j))))))), (aS si, .inr (2, [.ref s1, .ref s2, va_rf pu, .int (nI st), .int (nI sl)])), (s2, .inl (cI, 2, .inl cp))] := hD
        refine lv_goto (tgt := 87) hx hb dL_asks_52 (by decide) ?_
        exact vx_ret (x_ret_i hx hb hrt hlk hP hD hS dL_asks_87 ⟨by decide, by decide⟩ (some (tn, r0)) (⟨rfl, hw⟩) rfl)
    · exfalso; omega
  · exfalso; omega

set_option maxHeartbeats 4000000 in
set_option maxRecDepth 100000 in
theorem zA_seen (l : Launch) (D : va_G) (cI cP cS cL : ClassId) (hfl : l.stackTraces = false) (x0 pb pa sa g0 lim : Nat) (aS : Nat → Nat) (si s1 s2 st sl : Nat) (pu : Option Nat) (sr : Nat → Int32) (sx tx kx cx : Int32) (hsx : ∀ j, j < 3 → sx = nI j → j = si) : xWi l yL_asks wsL_asks (rmD 9 4 24) D [(cI, .int), (cP, .object RX0), (cS, .object RX2)] [.ref x0, .int (nI 4), .int sx, .int tx, .int kx, .int cx] [(x0, .inr (4, [.ref pb, .ref pa, .ref sa, .ref g0, .int (nI lim)])), (sa, .inl (cS, 3, .inr (.inr (.inr (.inr (fun j => some (aS j))))))), (aS si, .inr (2, [.ref s1, .ref s2, va_rf pu, .int (nI st), .int (nI sl)])), (s1, .inl (cI, 24, .inl sr))] (fun (r : Int32) (u : Option ((Nat × Nat) × Int32)) => match u with | some ((tn, kn), r0) => r = r0 ∧ (sx = nI si ∧ si < 3 ∧ tx = nI tn ∧ tn < 2 ∧ kx = nI kn ∧ kn < 12 ∧ vp_in cx 3 ∧ r0 = qNum (sr (tn * 12 + kn)) cx) | none => (r = (-30) ∧ (¬ (vp_in sx 3 ∧ (vp_in tx 2 ∧ vp_in kx 12) ∧ vp_in cx 3)))) (fun (u : Option ((Nat × Nat) × Int32)) => match u with | some ((tn, kn), r0) => [(x0, .inr (4, [.ref pb, .ref pa, .ref sa, .ref g0, .int (nI lim)])), (sa, .inl (cS, 3, .inr (.inr (.inr (.inr (fun j => some (aS j))))))), (aS si, .inr (2, [.ref s1, .ref s2, va_rf pu, .int (nI st), .int (nI sl)])), (s1, .inl (cI, 24, .inl sr))] | none => [(x0, .inr (4, [.ref pb, .ref pa, .ref sa, .ref g0, .int (nI lim)])), (sa, .inl (cS, 3, .inr (.inr (.inr (.inr (fun j => some (aS j))))))), (aS si, .inr (2, [.ref s1, .ref s2, va_rf pu, .int (nI st), .int (nI sl)])), (s1, .inl (cI, 24, .inl sr))]) 4 24 := by
  refine xe_W (cc := cL_asks) (maxL := 7) (ret := some .int) (hh := [(0, 87, 88, 64), (0, 87, 93, 68)]) (by decide) rfl (Nat.le_of_ble_eq_true rfl) ?_
  intro zp ze s zm below meth zc A ls B hT hE
  obtain ⟨hx, hb, hml, hrt, hts, hown, hnm, hlk, hK, hP, hD, hA, hS, hN, hl⟩ := B
  have hown : s.vm.findClass RL = some zm.cls := hown
  have hl : lv_has ls 7 [(0, .ref x0), (1, .int (nI 4)), (2, .int sx), (3, .int tx), (4, .int kx), (5, .int cx)] := hl
  have hA : ∀ q, s.heap.size ≤ q → A q := hA
  refine lv_iload_n hx hb dL_asks_0 rfl (lv_at hl 1 rfl) ?_
  refine x_if_ne (tgt := 15) hx hb (nI_z (by omega)) dL_asks_1 (by decide) (fun c1 => ?_) (fun c1 => ?_)
  rotate_left
  · exact absurd c1 (by omega)
  refine lv_iload_n hx hb dL_asks_15 rfl (lv_at hl 1 rfl) ?_
  refine lv_iconst (v := nI 1) hx hb dL_asks_16 (by decide) ?_
  refine x_cmp_ne (tgt := 28) hx hb (nI_eq (a := 4) (b := 1) (by omega) (by omega)) dL_asks_17 (by decide) (fun c17 => ?_) (fun c17 => ?_)
  · refine lv_iload_n hx hb dL_asks_28 rfl (lv_at hl 1 rfl) ?_
    refine lv_iconst (v := nI 2) hx hb dL_asks_29 (by decide) ?_
    refine x_cmp_ne (tgt := 41) hx hb (nI_eq (a := 4) (b := 2) (by omega) (by omega)) dL_asks_30 (by decide) (fun c30 => ?_) (fun c30 => ?_)
    · refine lv_iload_n hx hb dL_asks_41 rfl (lv_at hl 1 rfl) ?_
      refine lv_iconst (v := nI 3) hx hb dL_asks_42 (by decide) ?_
      refine x_cmp_ne (tgt := 55) hx hb (nI_eq (a := 4) (b := 3) (by omega) (by omega)) dL_asks_43 (by decide) (fun c43 => ?_) (fun c43 => ?_)
      · refine lv_iload_n hx hb dL_asks_55 rfl (lv_at hl 1 rfl) ?_
        refine lv_iconst (v := nI 4) hx hb dL_asks_56 (by decide) ?_
        refine x_cmp_ne (tgt := 73) hx hb (nI_eq (a := 4) (b := 4) (by omega) (by omega)) dL_asks_57 (by decide) (fun c57 => ?_) (fun c57 => ?_)
        · exfalso; omega
        · refine lv_aload_n hx hb dL_asks_60 rfl (lv_at hl 0 rfl) ?_
          refine lv_iload_n hx hb dL_asks_61 rfl (lv_at hl 2 rfl) ?_
          refine lv_iload_n hx hb dL_asks_62 rfl (lv_at hl 3 rfl) ?_
          refine lv_iload hx hb dL_asks_63 (lv_at hl 4 rfl) ?_
          refine lv_iload hx hb dL_asks_65 (lv_at hl 5 rfl) ?_
          refine x_callCi (w2 := fun (u : Nat × Nat) => match u with | (tn, kn) => [(x0, .inr (4, [.ref pb, .ref pa, .ref sa, .ref g0, .int (nI lim)])), (sa, .inl (cS, 3, .inr (.inr (.inr (.inr (fun j => some (aS j))))))), (aS si, .inr (2, [.ref s1, .ref s2, va_rf pu, .int (nI st), .int (nI sl)])), (s1, .inl (cI, 24, .inl sr))]) (wr := []) (x_runXV (n := 4) ⟨hx, hb, hml, hown, hts⟩ (zX4_seen l D cI cP cS cL hfl x0 pb pa sa g0 lim aS si s1 s2 st sl pu sr sx tx kx cx hsx) gL_asks_X4_seen rfl rfl rfl (by decide +kernel) ⟨by decide, by decide⟩ hN hK hP hD hS hA hE [0, 1, 2, 3] rfl rfl (ci := 4) (q0 := 0) rfl rfl rfl rfl hl.1 (rest := []) (As := [.int sx, .int tx, .int kx, .int cx]) rfl (Nat.le_of_ble_eq_true rfl) dL_asks_67 ⟨by decide, by decide⟩) hP hD hS hA [0, 1, 2, 3] [] [0, 1, 2, 3] [0, 1, 2, 3] rfl rfl rfl (by decide) rfl rfl rfl (fun _ => rfl) (fun E ce q9 H locs hEX hP hD hS hce hcv hcl => ?_) (fun r0 u H locs hw hP hD hS => ?_)
          · have hEX : E = nIO ∧ ¬ (vp_in sx 3 ∧ (vp_in tx 2 ∧ vp_in kx 12) ∧ vp_in cx 3) := hEX
            obtain ⟨rfl, h9⟩ := hEX
            refine x_catch hown hts hE [] ⟨0, 87, 88, 64⟩ [⟨0, 87, 93, 68⟩] (hT.trans rfl) (by decide) (fun z hz => by cases hz) (by decide) (by decide) kL_asks_c64 hce hcv hcl ?_
            refine lv_astore (lv' := [(6, .ref q9), (0, .ref x0), (1, .int (nI 4)), (2, .int sx), (3, .int tx), (4, .int kx), (5, .int cx)]) hx hb dL_asks_88 hl (by decide) rfl (fun ls hl => ?_)
            refine lv_bipush (v := (-30 : Int32)) hx hb dL_asks_90 (by decide) ?_
            exact vx_ret (x_ret_i hx hb hrt hlk hP hD hS dL_asks_92 ⟨by decide, by decide⟩ none (⟨rfl, h9⟩) rfl)
          obtain ⟨tn, kn⟩ := u
          have hP : va_P D vwCl [(x0, .inr (4, [.ref pb, .ref pa, .ref sa, .ref g0, .int (nI lim)])), (sa, .inl (cS, 3, .inr (.inr (.inr (.inr (fun j => some (aS j))))))), (aS si, .inr (2, [.ref s1, .ref s2, va_rf pu, .int (nI st), .int (nI sl)])), (s1, .inl (cI, 24, .inl sr))] H := hP
          have hD : va_D A [(x0, .inr (4, [.ref pb, .ref pa, .ref sa, .ref g0, .int (nI lim)])), (sa, .inl (cS, 3, .inr (.inr (.inr (.inr (fun j => some (aS j))))))), (aS si, .inr (2, [.ref s1, .ref s2, va_rf pu, .int (nI st), .int (nI sl)])), (s1, .inl (cI, 24, .inl sr))] := hD
          refine lv_goto (tgt := 87) hx hb dL_asks_70 (by decide) ?_
          exact vx_ret (x_ret_i hx hb hrt hlk hP hD hS dL_asks_87 ⟨by decide, by decide⟩ (some ((tn, kn), r0)) (⟨rfl, hw⟩) rfl)
      · exfalso; omega
    · exfalso; omega
  · exfalso; omega

set_option maxRecDepth 20000 in
theorem kL_asks_c68 : Cond.classLink RL 68 "java/lang/IllegalStateException" ∈ wsL_asks := by decide +kernel
set_option maxHeartbeats 4000000 in
set_option maxRecDepth 100000 in
theorem zA_isFaithful (l : Launch) (D : va_G) (cI cP cS cL : ClassId) (hfl : l.stackTraces = false) (x0 pb pa sa g0 lim : Nat) (b1 b2 b3 b4 b5 b6 n : Nat) (aS : Nat → Nat) (si s1 s2 st sl : Nat) (pu : Option Nat) (p0 p1 p2 p3 p4 : Nat) (co re nu ma : Nat → Int32) (cr sr cp : Nat → Int32) (sx tx : Int32) (y0 y1 : Int32) (hsx : ∀ j, j < 3 → sx = nI j → j = si) (hst : st ≤ 3) (hsl : sl ≤ 50) (hpu : (st = 0 ∧ pu = none) ∨ (0 < st ∧ pu = some p0)) (hcp : ∀ t, t < 2 → cp t = -1 ∨ ∃ c, c ≤ 50 ∧ cp t = nI c) : xWi l yL_asks wsL_asks (rmD 8 4 24) D [(cI, .int), (cP, .object RX0), (cS, .object RX2)] [.ref x0, .int (nI 5), .int sx, .int tx, .int y0, .int y1] [(x0, .inr (4, [.ref pb, .ref pa, .ref sa, .ref g0, .int (nI lim)])), (pb, .inr (1, [.ref b1, .int (nI n), .ref b2, .ref b3, .ref b4, .ref b5, .ref b6])), (b6, .inl (cI, 1224, .inl cr)), (sa, .inl (cS, 3, .inr (.inr (.inr (.inr (fun j => some (aS j))))))), (aS si, .inr (2, [.ref s1, .ref s2, va_rf pu, .int (nI st), .int (nI sl)])), (s1, .inl (cI, 24, .inl sr)), (s2, .inl (cI, 2, .inl cp)), (p0, .inr (0, [.ref p1, .ref p2, .ref p3, .ref p4])), (p1, .inl (cI, 2, .inl co)), (p2, .inl (cI, 2, .inl re)), (p3, .inl (cI, 2, .inl nu)), (p4, .inl (cI, 2, .inl ma))] (fun (r : Int32) (u : Option ((Nat × Nat) × Int32)) => match u with | some ((tn, ca), r0) => r = cZ r0 ∧ ((sx = nI si ∧ si < 3 ∧ tx = nI tn ∧ tn < 2) ∧ (st = 1 ∨ st = 2) ∧ (cp tn = nI ca ∧ ca ≤ 50) ∧ ((r0 = nI 1 ∧ (∀ i, i < 12 → sr (tn * 12 + i) = qCho (co tn) (re tn) (nu tn) (ma tn) (cr ((if sl < ca then ca else sl) * 24 + (tn * 12 + i))))) ∨ (r0 = nI 0 ∧ ¬ (∀ i, i < 12 → sr (tn * 12 + i) = qCho (co tn) (re tn) (nu tn) (ma tn) (cr ((if sl < ca then ca else sl) * 24 + (tn * 12 + i))))))) | none => (r = (-30) ∧ (¬ (vp_in sx 3 ∧ vp_in tx 2))) ∨ (r = (-10) ∧ ((vp_in sx 3 ∧ ∃ tn, tx = nI tn ∧ tn < 2 ∧ (¬ (st = 1 ∨ st = 2) ∨ cp tn = -1))))) (fun (u : Option ((Nat × Nat) × Int32)) => match u with | some ((tn, ca), r0) => [(x0, .inr (4, [.ref pb, .ref pa, .ref sa, .ref g0, .int (nI lim)])), (pb, .inr (1, [.ref b1, .int (nI n), .ref b2, .ref b3, .ref b4, .ref b5, .ref b6])), (b6, .inl (cI, 1224, .inl cr)), (sa, .inl (cS, 3, .inr (.inr (.inr (.inr (fun j => some (aS j))))))), (aS si, .inr (2, [.ref s1, .ref s2, va_rf pu, .int (nI st), .int (nI sl)])), (s1, .inl (cI, 24, .inl sr)), (s2, .inl (cI, 2, .inl cp)), (p0, .inr (0, [.ref p1, .ref p2, .ref p3, .ref p4])), (p1, .inl (cI, 2, .inl co)), (p2, .inl (cI, 2, .inl re)), (p3, .inl (cI, 2, .inl nu)), (p4, .inl (cI, 2, .inl ma))] | none => [(x0, .inr (4, [.ref pb, .ref pa, .ref sa, .ref g0, .int (nI lim)])), (pb, .inr (1, [.ref b1, .int (nI n), .ref b2, .ref b3, .ref b4, .ref b5, .ref b6])), (b6, .inl (cI, 1224, .inl cr)), (sa, .inl (cS, 3, .inr (.inr (.inr (.inr (fun j => some (aS j))))))), (aS si, .inr (2, [.ref s1, .ref s2, va_rf pu, .int (nI st), .int (nI sl)])), (s1, .inl (cI, 24, .inl sr)), (s2, .inl (cI, 2, .inl cp)), (p0, .inr (0, [.ref p1, .ref p2, .ref p3, .ref p4])), (p1, .inl (cI, 2, .inl co)), (p2, .inl (cI, 2, .inl re)), (p3, .inl (cI, 2, .inl nu)), (p4, .inl (cI, 2, .inl ma))]) 4 24 := by
  refine xe_W (cc := cL_asks) (maxL := 7) (ret := some .int) (hh := [(0, 87, 88, 64), (0, 87, 93, 68)]) (by decide) rfl (Nat.le_of_ble_eq_true rfl) ?_
  intro zp ze s zm below meth zc A ls B hT hE
  obtain ⟨hx, hb, hml, hrt, hts, hown, hnm, hlk, hK, hP, hD, hA, hS, hN, hl⟩ := B
  have hown : s.vm.findClass RL = some zm.cls := hown
  have hl : lv_has ls 7 [(0, .ref x0), (1, .int (nI 5)), (2, .int sx), (3, .int tx), (4, .int y0), (5, .int y1)] := hl
  have hA : ∀ q, s.heap.size ≤ q → A q := hA
  refine lv_iload_n hx hb dL_asks_0 rfl (lv_at hl 1 rfl) ?_
  refine x_if_ne (tgt := 15) hx hb (nI_z (by omega)) dL_asks_1 (by decide) (fun c1 => ?_) (fun c1 => ?_)
  rotate_left
  · exact absurd c1 (by omega)
  refine lv_iload_n hx hb dL_asks_15 rfl (lv_at hl 1 rfl) ?_
  refine lv_iconst (v := nI 1) hx hb dL_asks_16 (by decide) ?_
  refine x_cmp_ne (tgt := 28) hx hb (nI_eq (a := 5) (b := 1) (by omega) (by omega)) dL_asks_17 (by decide) (fun c17 => ?_) (fun c17 => ?_)
  · refine lv_iload_n hx hb dL_asks_28 rfl (lv_at hl 1 rfl) ?_
    refine lv_iconst (v := nI 2) hx hb dL_asks_29 (by decide) ?_
    refine x_cmp_ne (tgt := 41) hx hb (nI_eq (a := 5) (b := 2) (by omega) (by omega)) dL_asks_30 (by decide) (fun c30 => ?_) (fun c30 => ?_)
    · refine lv_iload_n hx hb dL_asks_41 rfl (lv_at hl 1 rfl) ?_
      refine lv_iconst (v := nI 3) hx hb dL_asks_42 (by decide) ?_
      refine x_cmp_ne (tgt := 55) hx hb (nI_eq (a := 5) (b := 3) (by omega) (by omega)) dL_asks_43 (by decide) (fun c43 => ?_) (fun c43 => ?_)
      · refine lv_iload_n hx hb dL_asks_55 rfl (lv_at hl 1 rfl) ?_
        refine lv_iconst (v := nI 4) hx hb dL_asks_56 (by decide) ?_
        refine x_cmp_ne (tgt := 73) hx hb (nI_eq (a := 5) (b := 4) (by omega) (by omega)) dL_asks_57 (by decide) (fun c57 => ?_) (fun c57 => ?_)
        · refine lv_aload_n hx hb dL_asks_73 rfl (lv_at hl 0 rfl) ?_
          refine lv_iload_n hx hb dL_asks_74 rfl (lv_at hl 2 rfl) ?_
          refine lv_iload_n hx hb dL_asks_75 rfl (lv_at hl 3 rfl) ?_
          refine x_callCi (w2 := fun (u : Nat × Nat) => match u with | (tn, ca) => [(x0, .inr (4, [.ref pb, .ref pa, .ref sa, .ref g0, .int (nI lim)])), (pb, .inr (1, [.ref b1, .int (nI n), .ref b2, .ref b3, .ref b4, .ref b5, .ref b6])), (b6, .inl (cI, 1224, .inl cr)), (sa, .inl (cS, 3, .inr (.inr (.inr (.inr (fun j => some (aS j))))))), (aS si, .inr (2, [.ref s1, .ref s2, va_rf pu, .int (nI st), .int (nI sl)])), (s1, .inl (cI, 24, .inl sr)), (s2, .inl (cI, 2, .inl cp)), (p0, .inr (0, [.ref p1, .ref p2, .ref p3, .ref p4])), (p1, .inl (cI, 2, .inl co)), (p2, .inl (cI, 2, .inl re)), (p3, .inl (cI, 2, .inl nu)), (p4, .inl (cI, 2, .inl ma))]) (wr := []) (x_runXV (n := 2) ⟨hx, hb, hml, hown, hts⟩ (zX4_isFaithful l D cI cP cS cL hfl x0 pb pa sa g0 lim b1 b2 b3 b4 b5 b6 n aS si s1 s2 st sl pu p0 p1 p2 p3 p4 co re nu ma cr sr cp sx tx hsx hst hsl hpu hcp) gL_asks_X4_isFaithful rfl rfl rfl (by decide +kernel) ⟨by decide, by decide⟩ hN hK hP hD hS hA hE [0, 1, 2, 3, 4, 5, 6, 7, 8, 9, 10, 11] rfl rfl (ci := 4) (q0 := 0) rfl rfl rfl rfl hl.1 (rest := []) (As := [.int sx, .int tx]) rfl (Nat.le_of_ble_eq_true rfl) dL_asks_76 ⟨by decide, by decide⟩) hP hD hS hA [0, 1, 2, 3, 4, 5, 6, 7, 8, 9, 10, 11] [] [0, 1, 2, 3, 4, 5, 6, 7, 8, 9, 10, 11] [0, 1, 2, 3, 4, 5, 6, 7, 8, 9, 10, 11] rfl rfl rfl (by decide) rfl rfl rfl (fun _ => rfl) (fun E ce q9 H locs hEX hP hD hS hce hcv hcl => ?_) (fun r0 u H locs hw hP hD hS => ?_)
          · have hEX : (E = nIO ∧ ¬ (vp_in sx 3 ∧ vp_in tx 2)) ∨ (E = nIS ∧ (vp_in sx 3 ∧ ∃ tn, tx = nI tn ∧ tn < 2 ∧ (¬ (st = 1 ∨ st = 2) ∨ cp tn = -1))) := hEX
            rcases hEX with ⟨rfl, h9⟩ | ⟨rfl, h9⟩
            · refine x_catch hown hts hE [] ⟨0, 87, 88, 64⟩ [⟨0, 87, 93, 68⟩] (hT.trans rfl) (by decide) (fun z hz => by cases hz) (by decide) (by decide) kL_asks_c64 hce hcv hcl ?_
              refine lv_astore (lv' := [(6, .ref q9), (0, .ref x0), (1, .int (nI 5)), (2, .int sx), (3, .int tx), (4, .int y0), (5, .int y1)]) hx hb dL_asks_88 hl (by decide) rfl (fun ls hl => ?_)
              refine lv_bipush (v := (-30 : Int32)) hx hb dL_asks_90 (by decide) ?_
              exact vx_ret (x_ret_i hx hb hrt hlk hP hD hS dL_asks_92 ⟨by decide, by decide⟩ none (Or.inl ⟨rfl, h9⟩) rfl)
            · refine x_catch hown hts hE [⟨0, 87, 88, 64⟩] ⟨0, 87, 93, 68⟩ [] (hT.trans rfl) (by decide) (fun z hz => by simp only [List.mem_cons, List.not_mem_nil, or_false] at hz; subst hz <;> first | exact ⟨by decide, _, kL_asks_c64, by decide, by decide⟩) (by decide) (by decide) kL_asks_c68 hce hcv hcl ?_
              refine lv_astore (lv' := [(6, .ref q9), (0, .ref x0), (1, .int (nI 5)), (2, .int sx), (3, .int tx), (4, .int y0), (5, .int y1)]) hx hb dL_asks_93 hl (by decide) rfl (fun ls hl => ?_)
              refine lv_bipush (v := (-10 : Int32)) hx hb dL_asks_95 (by decide) ?_
              exact vx_ret (x_ret_i hx hb hrt hlk hP hD hS dL_asks_97 ⟨by decide, by decide⟩ none (Or.inr (⟨rfl, h9⟩)) rfl)
          obtain ⟨tn, ca⟩ := u
          have hP : va_P D vwCl [(x0, .inr (4, [.ref pb, .ref pa, .ref sa, .ref g0, .int (nI lim)])), (pb, .inr (1, [.ref b1, .int (nI n), .ref b2, .ref b3, .ref b4, .ref b5, .ref b6])), (b6, .inl (cI, 1224, .inl cr)), (sa, .inl (cS, 3, .inr (.inr (.inr (.inr (fun j => some (aS j))))))), (aS si, .inr (2, [.ref s1, .ref s2, va_rf pu, .int (nI st), .int (nI sl)])), (s1, .inl (cI, 24, .inl sr)), (s2, .inl (cI, 2, .inl cp)), (p0, .inr (0, [.ref p1, .ref p2, .ref p3, .ref p4])), (p1, .inl (cI, 2, .inl co)), (p2, .inl (cI, 2, .inl re)), (p3, .inl (cI, 2, .inl nu)), (p4, .inl (cI, 2, .inl ma))] H := hP
          have hD : va_D A [(x0, .inr (4, [.ref pb, .ref pa, .ref sa, .ref g0, .int (nI lim)])), (pb, .inr (1, [.ref b1, .int (nI n), .ref b2, .ref b3, .ref b4, .ref b5, .ref b6])), (b6, .inl (cI, 1224, .inl cr)), (sa, .inl (cS, 3, .inr (.inr (.inr (.inr (fun j => some (aS j))))))), (aS si, .inr (2, [.ref s1, .ref s2, va_rf pu, .int (nI st), .int (nI sl)])), (s1, .inl (cI, 24, .inl sr)), (s2, .inl (cI, 2, .inl cp)), (p0, .inr (0, [.ref p1, .ref p2, .ref p3, .ref p4])), (p1, .inl (cI, 2, .inl co)), (p2, .inl (cI, 2, .inl re)), (p3, .inl (cI, 2, .inl nu)), (p4, .inl (cI, 2, .inl ma))] := hD
          refine x_if_eq (tgt := 86) hx hb (Iff.rfl) dL_asks_79 (by decide) (fun c79 => ?_) (fun c79 => ?_)
          · refine lv_iconst (v := nI 0) hx hb dL_asks_86 (by decide) ?_
            exact vx_ret (x_ret_i hx hb hrt hlk hP hD hS dL_asks_87 ⟨by decide, by decide⟩ (some ((tn, ca), r0)) (⟨(cZ_y c79).symm, hw⟩) rfl)
          · refine lv_iconst (v := nI 1) hx hb dL_asks_82 (by decide) ?_
            refine lv_goto (tgt := 87) hx hb dL_asks_83 (by decide) ?_
            exact vx_ret (x_ret_i hx hb hrt hlk hP hD hS dL_asks_87 ⟨by decide, by decide⟩ (some ((tn, ca), r0)) (⟨(cZ_n c79).symm, hw⟩) rfl)
        · exfalso; omega
      · exfalso; omega
    · exfalso; omega
  · exfalso; omega
