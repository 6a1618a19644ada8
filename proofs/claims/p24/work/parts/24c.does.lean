set_option maxHeartbeats 4000000 in
set_option maxRecDepth 100000 in
theorem zD_subscribe (l : Launch) (D : va_G) (cI cP cS cL : ClassId) (hfl : l.stackTraces = false) (x0 pb pa sa g0 lim : Nat) (b1 b2 b3 b4 b5 b6 n : Nat) (aS : Nat → Nat) (si s1 s2 st sl : Nat) (pu : Option Nat) (aP : Nat → Nat) (cp : Nat → Int32) (sx px : Int32) (y0 y1 y2 : Int32) (hsx : ∀ j, j < 3 → sx = nI j → j = si) : xWi l yL_does wsL_does (rmD 8 2 12) D [(cI, .int), (cP, .object RX0), (cS, .object RX2)] [.ref x0, .int (nI 7), .int sx, .int px, .int y0, .int y1, .int y2] [(x0, .inr (4, [.ref pb, .ref pa, .ref sa, .ref g0, .int (nI lim)])), (pb, .inr (1, [.ref b1, .int (nI n), .ref b2, .ref b3, .ref b4, .ref b5, .ref b6])), (pa, .inl (cP, 3, .inr (.inr (.inr (.inr (fun j => some (aP j))))))), (sa, .inl (cS, 3, .inr (.inr (.inr (.inr (fun j => some (aS j))))))), (aS si, .inr (2, [.ref s1, .ref s2, va_rf pu, .int (nI st), .int (nI sl)])), (s2, .inl (cI, 2, .inl cp))] (fun (r : Int32) (u : Option ((Nat) × Int32)) => match u with | some (pn, r0) => r = r0 ∧ (sx = nI si ∧ si < 3 ∧ px = nI pn ∧ pn < 3 ∧ r0 = nI st) | none => (r = (-30) ∧ (¬ (vp_in sx 3 ∧ vp_in px 3)))) (fun (u : Option ((Nat) × Int32)) => match u with | some (pn, r0) => [(x0, .inr (4, [.ref pb, .ref pa, .ref sa, .ref g0, .int (nI lim)])), (pb, .inr (1, [.ref b1, .int (nI n), .ref b2, .ref b3, .ref b4, .ref b5, .ref b6])), (pa, .inl (cP, 3, .inr (.inr (.inr (.inr (fun j => some (aP j))))))), (sa, .inl (cS, 3, .inr (.inr (.inr (.inr (fun j => some (aS j))))))), (aS si, .inr (2, [.ref s1, .ref s2, va_rf (some (aP pn)), .int (nI 1), .int (nI n)])), (s2, .inl (cI, 2, .inl (upd (upd cp 0 (-1)) 1 (-1))))] | none => [(x0, .inr (4, [.ref pb, .ref pa, .ref sa, .ref g0, .int (nI lim)])), (pb, .inr (1, [.ref b1, .int (nI n), .ref b2, .ref b3, .ref b4, .ref b5, .ref b6])), (pa, .inl (cP, 3, .inr (.inr (.inr (.inr (fun j => some (aP j))))))), (sa, .inl (cS, 3, .inr (.inr (.inr (.inr (fun j => some (aS j))))))), (aS si, .inr (2, [.ref s1, .ref s2, va_rf pu, .int (nI st), .int (nI sl)])), (s2, .inl (cI, 2, .inl cp))]) 2 12 := by
  refine xe_W (cc := cL_does) (maxL := 8) (ret := some .int) (hh := [(0, 217, 218, 64), (0, 217, 223, 66), (0, 217, 228, 68)]) (by decide) rfl (Nat.le_of_ble_eq_true rfl) ?_
  intro zp ze s zm below meth zc A ls B hT hE
  obtain ⟨hx, hb, hml, hrt, hts, hown, hnm, hlk, hK, hP, hD, hA, hS, hN, hl⟩ := B
  have hown : s.vm.findClass RL = some zm.cls := hown
  have hl : lv_has ls 8 [(0, .ref x0), (1, .int (nI 7)), (2, .int sx), (3, .int px), (4, .int y0), (5, .int y1), (6, .int y2)] := hl
  have hA : ∀ q, s.heap.size ≤ q → A q := hA
  refine lv_iload_n hx hb dL_does_0 rfl (lv_at hl 1 rfl) ?_
  refine x_if_ne (tgt := 27) hx hb (nI_z (by omega)) dL_does_1 (by decide) (fun c1 => ?_) (fun c1 => ?_)
  rotate_left
  · exact absurd c1 (by omega)
  refine lv_iload_n hx hb dL_does_27 rfl (lv_at hl 1 rfl) ?_
  refine lv_iconst (v := nI 1) hx hb dL_does_28 (by decide) ?_
  refine x_cmp_ne (tgt := 41) hx hb (nI_eq (a := 7) (b := 1) (by omega) (by omega)) dL_does_29 (by decide) (fun c29 => ?_) (fun c29 => ?_)
  · refine lv_iload_n hx hb dL_does_41 rfl (lv_at hl 1 rfl) ?_
    refine lv_iconst (v := nI 2) hx hb dL_does_42 (by decide) ?_
    refine x_cmp_ne (tgt := 54) hx hb (nI_eq (a := 7) (b := 2) (by omega) (by omega)) dL_does_43 (by decide) (fun c43 => ?_) (fun c43 => ?_)
    · refine lv_iload_n hx hb dL_does_54 rfl (lv_at hl 1 rfl) ?_
      refine lv_iconst (v := nI 3) hx hb dL_does_55 (by decide) ?_
      refine x_cmp_ne (tgt := 66) hx hb (nI_eq (a := 7) (b := 3) (by omega) (by omega)) dL_does_56 (by decide) (fun c56 => ?_) (fun c56 => ?_)
      · refine lv_iload_n hx hb dL_does_66 rfl (lv_at hl 1 rfl) ?_
        refine lv_iconst (v := nI 4) hx hb dL_does_67 (by decide) ?_
        refine x_cmp_ne (tgt := 79) hx hb (nI_eq (a := 7) (b := 4) (by omega) (by omega)) dL_does_68 (by decide) (fun c68 => ?_) (fun c68 => ?_)
        · refine lv_iload_n hx hb dL_does_79 rfl (lv_at hl 1 rfl) ?_
          refine lv_iconst (v := nI 5) hx hb dL_does_80 (by decide) ?_
          refine x_cmp_ne (tgt := 99) hx hb (nI_eq (a := 7) (b := 5) (by omega) (by omega)) dL_does_81 (by decide) (fun c81 => ?_) (fun c81 => ?_)
          · refine lv_iload_n hx hb dL_does_99 rfl (lv_at hl 1 rfl) ?_
            refine lv_bipush (v := nI 6) hx hb dL_does_100 (by decide) ?_
            refine x_cmp_ne (tgt := 116) hx hb (nI_eq (a := 7) (b := 6) (by omega) (by omega)) dL_does_102 (by decide) (fun c102 => ?_) (fun c102 => ?_)
            · refine lv_iload_n hx hb dL_does_116 rfl (lv_at hl 1 rfl) ?_
              refine lv_bipush (v := nI 7) hx hb dL_does_117 (by decide) ?_
              refine x_cmp_ne (tgt := 131) hx hb (nI_eq (a := 7) (b := 7) (by omega) (by omega)) dL_does_119 (by decide) (fun c119 => ?_) (fun c119 => ?_)
              · exfalso; omega
              · refine lv_aload_n hx hb dL_does_122 rfl (lv_at hl 0 rfl) ?_
                refine lv_iload_n hx hb dL_does_123 rfl (lv_at hl 2 rfl) ?_
                refine lv_iload_n hx hb dL_does_124 rfl (lv_at hl 3 rfl) ?_
                refine x_callCi (w2 := fun (u : Nat) => match u with | pn => [(x0, .inr (4, [.ref pb, .ref pa, .ref sa, .ref g0, .int (nI lim)])), (pb, .inr (1, [.ref b1, .int (nI n), .ref b2, .ref b3, .ref b4, .ref b5, .ref b6])), (pa, .inl (cP, 3, .inr (.inr (.inr (.inr (fun j => some (aP j))))))), (sa, .inl (cS, 3, .inr (.inr (.inr (.inr (fun j => some (aS j))))))), (aS si, .inr (2, [.ref s1, .ref s2, va_rf (some (aP pn)), .int (nI 1), .int (nI n)])), (s2, .inl (cI, 2, .inl (upd (upd cp 0 (-1)) 1 (-1))))]) (wr := []) (x_runXV (n := 2) ⟨hx, hb, hml, hown, hts⟩ (zX4_subscribe l D cI cP cS cL hfl x0 pb pa sa g0 lim b1 b2 b3 b4 b5 b6 n aS si s1 s2 st sl pu aP cp sx px hsx) gL_does_X4_subscribe rfl rfl rfl (by decide +kernel) ⟨by decide, by decide⟩ hN hK hP hD hS hA hE [0, 1, 2, 3, 4, 5] rfl rfl (ci := 4) (q0 := 0) rfl rfl rfl rfl hl.1 (rest := []) (As := [.int sx, .int px]) rfl (Nat.le_of_ble_eq_true rfl) dL_does_125 ⟨by decide, by decide⟩) hP hD hS hA [0, 1, 2, 3, 4, 5] [] [0, 1, 2, 3, 4, 5] [0, 1, 2, 3, 4, 5] rfl rfl rfl (by decide) rfl rfl rfl (fun _ => rfl) (fun E ce q9 H locs hEX hP hD hS hce hcv hcl => ?_) (fun r0 u H locs hw hP hD hS => ?_)
                · have hEX : E = nIO ∧ ¬ (vp_in sx 3 ∧ vp_in px 3) := hEX
                  obtain ⟨rfl, h9⟩ := hEX
                  refine x_catch hown hts hE [] ⟨0, 217, 218, 64⟩ [⟨0, 217, 223, 66⟩, ⟨0, 217, 228, 68⟩] (hT.trans rfl) (by decide) (fun z hz => by cases hz) (by decide) (by decide) kL_does_c64 hce hcv hcl ?_
                  refine lv_astore (lv' := [(7, .ref q9), (0, .ref x0), (1, .int (nI 7)), (2, .int sx), (3, .int px), (4, .int y0), (5, .int y1), (6, .int y2)]) hx hb dL_does_218 hl (by decide) rfl (fun ls hl => ?_)
                  refine lv_bipush (v := (-30 : Int32)) hx hb dL_does_220 (by decide) ?_
                  exact vx_ret (x_ret_i hx hb hrt hlk hP hD hS dL_does_222 ⟨by decide, by decide⟩ none (⟨rfl, h9⟩) rfl)
                obtain ⟨pn, h9⟩ : ∃ z, z = u := ⟨u, rfl⟩
                subst h9
                have hP : va_P D vwCl [(x0, .inr (4, [.ref pb, .ref pa, .ref sa, .ref g0, .int (nI lim)])), (pb, .inr (1, [.ref b1, .int (nI n), .ref b2, .ref b3, .ref b4, .ref b5, .ref b6])), (pa, .inl (cP, 3, .inr (.inr (.inr (.inr (fun j => some (aP j))))))), (sa, .inl (cS, 3, .inr (.inr (.inr (.inr (fun j => some (aS j))))))), (aS si, .inr (2, [.ref s1, .ref s2, va_rf (some (aP pn)), .int (nI 1), .int (nI n)])), (s2, .inl (cI, 2, .inl (upd (upd cp 0 (-1)) 1 (-1))))] H := hP
                have hD : va_D A [(x0, .inr (4, [.ref pb, .ref pa, .ref sa, .ref g0, .int (nI lim)])), (pb, .inr (1, [.ref b1, .int (nI n), .ref b2, .ref b3, .ref b4, .ref b5, .ref b6])), (pa, .inl (cP, 3, .inr (.inr (.inr (.inr (fun j => some (aP j))))))), (sa, .inl (cS, 3, .inr (.inr (.inr (.inr (fun j => some (aS j))))))), (aS si, .inr (2, [.ref s1, .ref s2, va_rf (some (aP pn)), .int (nI 1), .int (nI n)])), (s2, .inl (cI, 2, .inl (upd (upd cp 0 (-1)) 1 (-1))))] := hD
                refine lv_goto (tgt := 217) hx hb dL_does_128 (by decide) ?_
                exact vx_ret (x_ret_i hx hb hrt hlk hP hD hS dL_does_217 ⟨by decide, by decide⟩ (some (pn, r0)) (⟨rfl, hw⟩) rfl)
            · exfalso; omega
          · exfalso; omega
        · exfalso; omega
      · exfalso; omega
    · exfalso; omega
  · exfalso; omega

set_option maxHeartbeats 4000000 in
set_option maxRecDepth 100000 in
theorem zD_drop (l : Launch) (D : va_G) (cI cP cS cL : ClassId) (hfl : l.stackTraces = false) (x0 pb pa sa g0 lim : Nat) (aS : Nat → Nat) (si s1 s2 st sl : Nat) (pu : Option Nat) (cp : Nat → Int32) (sx : Int32) (y0 y1 y2 y3 : Int32) (hsx : ∀ j, j < 3 → sx = nI j → j = si) : xWi l yL_does wsL_does (rmD 8 1 6) D [(cI, .int), (cP, .object RX0), (cS, .object RX2)] [.ref x0, .int (nI 8), .int sx, .int y0, .int y1, .int y2, .int y3] [(x0, .inr (4, [.ref pb, .ref pa, .ref sa, .ref g0, .int (nI lim)])), (sa, .inl (cS, 3, .inr (.inr (.inr (.inr (fun j => some (aS j))))))), (aS si, .inr (2, [.ref s1, .ref s2, va_rf pu, .int (nI st), .int (nI sl)])), (s2, .inl (cI, 2, .inl cp))] (fun (r : Int32) (u : Option ((Unit) × Int32)) => match u with | some (_, r0) => r = r0 ∧ (sx = nI si ∧ si < 3 ∧ r0 = nI st) | none => (r = (-30) ∧ (¬ vp_in sx 3))) (fun (u : Option ((Unit) × Int32)) => match u with | some (_, r0) => [(x0, .inr (4, [.ref pb, .ref pa, .ref sa, .ref g0, .int (nI lim)])), (sa, .inl (cS, 3, .inr (.inr (.inr (.inr (fun j => some (aS j))))))), (aS si, .inr (2, [.ref s1, .ref s2, va_rf none, .int (nI 0), .int (nI sl)])), (s2, .inl (cI, 2, .inl (upd (upd cp 0 (-1)) 1 (-1))))] | none => [(x0, .inr (4, [.ref pb, .ref pa, .ref sa, .ref g0, .int (nI lim)])), (sa, .inl (cS, 3, .inr (.inr (.inr (.inr (fun j => some (aS j))))))), (aS si, .inr (2, [.ref s1, .ref s2, va_rf pu, .int (nI st), .int (nI sl)])), (s2, .inl (cI, 2, .inl cp))]) 1 6 := by
  refine xe_W (cc := cL_does) (maxL := 8) (ret := some .int) (hh := [(0, 217, 218, 64), (0, 217, 223, 66), (0, 217, 228, 68)]) (by decide) rfl (Nat.le_of_ble_eq_true rfl) ?_
  intro zp ze s zm below meth zc A ls B hT hE
  obtain ⟨hx, hb, hml, hrt, hts, hown, hnm, hlk, hK, hP, hD, hA, hS, hN, hl⟩ := B
  have hown : s.vm.findClass RL = some zm.cls := hown
  have hl : lv_has ls 8 [(0, .ref x0), (1, .int (nI 8)), (2, .int sx), (3, .int y0), (4, .int y1), (5, .int y2), (6, .int y3)] := hl
  have hA : ∀ q, s.heap.size ≤ q → A q := hA
  refine lv_iload_n hx hb dL_does_0 rfl (lv_at hl 1 rfl) ?_
  refine x_if_ne (tgt := 27) hx hb (nI_z (by omega)) dL_does_1 (by decide) (fun c1 => ?_) (fun c1 => ?_)
  rotate_left
  · exact absurd c1 (by omega)
  refine lv_iload_n hx hb dL_does_27 rfl (lv_at hl 1 rfl) ?_
  refine lv_iconst (v := nI 1) hx hb dL_does_28 (by decide) ?_
  refine x_cmp_ne (tgt := 41) hx hb (nI_eq (a := 8) (b := 1) (by omega) (by omega)) dL_does_29 (by decide) (fun c29 => ?_) (fun c29 => ?_)
  · refine lv_iload_n hx hb dL_does_41 rfl (lv_at hl 1 rfl) ?_
    refine lv_iconst (v := nI 2) hx hb dL_does_42 (by decide) ?_
    refine x_cmp_ne (tgt := 54) hx hb (nI_eq (a := 8) (b := 2) (by omega) (by omega)) dL_does_43 (by decide) (fun c43 => ?_) (fun c43 => ?_)
    · refine lv_iload_n hx hb dL_does_54 rfl (lv_at hl 1 rfl) ?_
      refine lv_iconst (v := nI 3) hx hb dL_does_55 (by decide) ?_
      refine x_cmp_ne (tgt := 66) hx hb (nI_eq (a := 8) (b := 3) (by omega) (by omega)) dL_does_56 (by decide) (fun c56 => ?_) (fun c56 => ?_)
      · refine lv_iload_n hx hb dL_does_66 rfl (lv_at hl 1 rfl) ?_
        refine lv_iconst (v := nI 4) hx hb dL_does_67 (by decide) ?_
        refine x_cmp_ne (tgt := 79) hx hb (nI_eq (a := 8) (b := 4) (by omega) (by omega)) dL_does_68 (by decide) (fun c68 => ?_) (fun c68 => ?_)
        · refine lv_iload_n hx hb dL_does_79 rfl (lv_at hl 1 rfl) ?_
          refine lv_iconst (v := nI 5) hx hb dL_does_80 (by decide) ?_
          refine x_cmp_ne (tgt := 99) hx hb (nI_eq (a := 8) (b := 5) (by omega) (by omega)) dL_does_81 (by decide) (fun c81 => ?_) (fun c81 => ?_)
          · refine lv_iload_n hx hb dL_does_99 rfl (lv_at hl 1 rfl) ?_
            refine lv_bipush (v := nI 6) hx hb dL_does_100 (by decide) ?_
            refine x_cmp_ne (tgt := 116) hx hb (nI_eq (a := 8) (b := 6) (by omega) (by omega)) dL_does_102 (by decide) (fun c102 => ?_) (fun c102 => ?_)
            · refine lv_iload_n hx hb dL_does_116 rfl (lv_at hl 1 rfl) ?_
              refine lv_bipush (v := nI 7) hx hb dL_does_117 (by decide) ?_
              refine x_cmp_ne (tgt := 131) hx hb (nI_eq (a := 8) (b := 7) (by omega) (by omega)) dL_does_119 (by decide) (fun c119 => ?_) (fun c119 => ?_)
              · refine lv_iload_n hx hb dL_does_131 rfl (lv_at hl 1 rfl) ?_
                refine lv_bipush (v := nI 8) hx hb dL_does_132 (by decide) ?_
                refine x_cmp_ne (tgt := 145) hx hb (nI_eq (a := 8) (b := 8) (by omega) (by omega)) dL_does_134 (by decide) (fun c134 => ?_) (fun c134 => ?_)
                · exfalso; omega
                · refine lv_aload_n hx hb dL_does_137 rfl (lv_at hl 0 rfl) ?_
                  refine lv_iload_n hx hb dL_does_138 rfl (lv_at hl 2 rfl) ?_
                  refine x_callCi (w2 := fun (u : Unit) => [(x0, .inr (4, [.ref pb, .ref pa, .ref sa, .ref g0, .int (nI lim)])), (sa, .inl (cS, 3, .inr (.inr (.inr (.inr (fun j => some (aS j))))))), (aS si, .inr (2, [.ref s1, .ref s2, va_rf none, .int (nI 0), .int (nI sl)])), (s2, .inl (cI, 2, .inl (upd (upd cp 0 (-1)) 1 (-1))))]) (wr := []) (x_runXV (n := 1) ⟨hx, hb, hml, hown, hts⟩ (zX4_drop l D cI cP cS cL hfl x0 pb pa sa g0 lim aS si s1 s2 st sl pu cp sx hsx) gL_does_X4_drop rfl rfl rfl (by decide +kernel) ⟨by decide, by decide⟩ hN hK hP hD hS hA hE [0, 1, 2, 3] rfl rfl (ci := 4) (q0 := 0) rfl rfl rfl rfl hl.1 (rest := []) (As := [.int sx]) rfl (Nat.le_of_ble_eq_true rfl) dL_does_139 ⟨by decide, by decide⟩) hP hD hS hA [0, 1, 2, 3] [] [0, 1, 2, 3] [0, 1, 2, 3] rfl rfl rfl (by decide) rfl rfl rfl (fun _ => rfl) (fun E ce q9 H locs hEX hP hD hS hce hcv hcl => ?_) (fun r0 u H locs hw hP hD hS => ?_)
                  · have hEX : E = nIO ∧ ¬ vp_in sx 3 := hEX
                    obtain ⟨rfl, h9⟩ := hEX
                    refine x_catch hown hts hE [] ⟨0, 217, 218, 64⟩ [⟨0, 217, 223, 66⟩, ⟨0, 217, 228, 68⟩] (hT.trans rfl) (by decide) (fun z hz => by cases hz) (by decide) (by decide) kL_does_c64 hce hcv hcl ?_
                    refine lv_astore (lv' := [(7, .ref q9), (0, .ref x0), (1, .int (nI 8)), (2, .int sx), (3, .int y0), (4, .int y1), (5, .int y2), (6, .int y3)]) hx hb dL_does_218 hl (by decide) rfl (fun ls hl => ?_)
                    refine lv_bipush (v := (-30 : Int32)) hx hb dL_does_220 (by decide) ?_
                    exact vx_ret (x_ret_i hx hb hrt hlk hP hD hS dL_does_222 ⟨by decide, by decide⟩ none (⟨rfl, h9⟩) rfl)
                  obtain ⟨⟩ := u
                  refine lv_goto (tgt := 217) hx hb dL_does_142 (by decide) ?_
                  exact vx_ret (x_ret_i hx hb hrt hlk hP hD hS dL_does_217 ⟨by decide, by decide⟩ (some ((), r0)) (⟨rfl, hw⟩) rfl)
              · exfalso; omega
            · exfalso; omega
          · exfalso; omega
        · exfalso; omega
      · exfalso; omega
    · exfalso; omega
  · exfalso; omega

set_option maxHeartbeats 4000000 in
set_option maxRecDepth 100000 in
theorem zD_copy (l : Launch) (D : va_G) (cI cP cS cL : ClassId) (hfl : l.stackTraces = false) (x0 pb pa sa g0 lim : Nat) (b1 b2 b3 b4 b5 b6 n cn : Nat) (aS : Nat → Nat) (si s1 s2 st sl : Nat) (pu : Option Nat) (p0 p1 p2 p3 p4 : Nat) (co re nu ma : Nat → Int32) (rows cc sr cp : Nat → Int32) (sx tx : Int32) (y0 y1 y2 : Int32) (hn9 : n ≤ 50) (hcc : cc n = nI cn) (hcn : cn ≤ 12) (hsx : ∀ j, j < 3 → sx = nI j → j = si) (hst : st ≤ 3) (hpu : (st = 0 ∧ pu = none) ∨ (0 < st ∧ pu = some p0)) : xWi l yL_does wsL_does (rmD 8 3 18) D [(cI, .int), (cP, .object RX0), (cS, .object RX2)] [.ref x0, .int (nI 9), .int sx, .int tx, .int y0, .int y1, .int y2] [(x0, .inr (4, [.ref pb, .ref pa, .ref sa, .ref g0, .int (nI lim)])), (pb, .inr (1, [.ref b1, .int (nI n), .ref b2, .ref b3, .ref b4, .ref b5, .ref b6])), (b1, .inl (cI, 24, .inl rows)), (b2, .inl (cI, 51, .inl cc)), (sa, .inl (cS, 3, .inr (.inr (.inr (.inr (fun j => some (aS j))))))), (aS si, .inr (2, [.ref s1, .ref s2, va_rf pu, .int (nI st), .int (nI sl)])), (s1, .inl (cI, 24, .inl sr)), (s2, .inl (cI, 2, .inl cp)), (p0, .inr (0, [.ref p1, .ref p2, .ref p3, .ref p4])), (p1, .inl (cI, 2, .inl co)), (p2, .inl (cI, 2, .inl re)), (p3, .inl (cI, 2, .inl nu)), (p4, .inl (cI, 2, .inl ma))] (fun (r : Int32) (u : Option ((Nat) × Int32)) => match u with | some (tn, r0) => r = r0 ∧ ((sx = nI si ∧ si < 3 ∧ tx = nI tn ∧ tn < 2) ∧ (st = 1 ∧ cn = 0) ∧ r0 = nI (qCnt (fun i => qCho (co tn) (re tn) (nu tn) (ma tn) (rows i)) (tn * 12) 12)) | none => (r = (-30) ∧ (¬ (vp_in sx 3 ∧ vp_in tx 2))) ∨ (r = (-10) ∧ ((vp_in sx 3 ∧ vp_in tx 2) ∧ ¬ (st = 1 ∧ cn = 0)))) (fun (u : Option ((Nat) × Int32)) => match u with | some (tn, r0) => [(x0, .inr (4, [.ref pb, .ref pa, .ref sa, .ref g0, .int (nI lim)])), (pb, .inr (1, [.ref b1, .int (nI n), .ref b2, .ref b3, .ref b4, .ref b5, .ref b6])), (b1, .inl (cI, 24, .inl rows)), (b2, .inl (cI, 51, .inl cc)), (sa, .inl (cS, 3, .inr (.inr (.inr (.inr (fun j => some (aS j))))))), (aS si, .inr (2, [.ref s1, .ref s2, va_rf pu, .int (nI st), .int (nI sl)])), (s1, .inl (cI, 24, .inl (qMap (fun x => qCho (co tn) (re tn) (nu tn) (ma tn) x) rows sr (tn * 12) 12))), (s2, .inl (cI, 2, .inl (upd cp tn (nI n)))), (p0, .inr (0, [.ref p1, .ref p2, .ref p3, .ref p4])), (p1, .inl (cI, 2, .inl co)), (p2, .inl (cI, 2, .inl re)), (p3, .inl (cI, 2, .inl nu)), (p4, .inl (cI, 2, .inl ma))] | none => [(x0, .inr (4, [.ref pb, .ref pa, .ref sa, .ref g0, .int (nI lim)])), (pb, .inr (1, [.ref b1, .int (nI n), .ref b2, .ref b3, .ref b4, .ref b5, .ref b6])), (b1, .inl (cI, 24, .inl rows)), (b2, .inl (cI, 51, .inl cc)), (sa, .inl (cS, 3, .inr (.inr (.inr (.inr (fun j => some (aS j))))))), (aS si, .inr (2, [.ref s1, .ref s2, va_rf pu, .int (nI st), .int (nI sl)])), (s1, .inl (cI, 24, .inl sr)), (s2, .inl (cI, 2, .inl cp)), (p0, .inr (0, [.ref p1, .ref p2, .ref p3, .ref p4])), (p1, .inl (cI, 2, .inl co)), (p2, .inl (cI, 2, .inl re)), (p3, .inl (cI, 2, .inl nu)), (p4, .inl (cI, 2, .inl ma))]) 3 18 := by
  refine xe_W (cc := cL_does) (maxL := 8) (ret := some .int) (hh := [(0, 217, 218, 64), (0, 217, 223, 66), (0, 217, 228, 68)]) (by decide) rfl (Nat.le_of_ble_eq_true rfl) ?_
  intro zp ze s zm below meth zc A ls B hT hE
  obtain ⟨hx, hb, hml, hrt, hts, hown, hnm, hlk, hK, hP, hD, hA, hS, hN, hl⟩ := B
  have hown : s.vm.findClass RL = some zm.cls := hown
  have hl : lv_has ls 8 [(0, .ref x0), (1, .int (nI 9)), (2, .int sx), (3, .int tx), (4, .int y0), (5, .int y1), (6, .int y2)] := hl
  have hA : ∀ q, s.heap.size ≤ q → A q := hA
  refine lv_iload_n hx hb dL_does_0 rfl (lv_at hl 1 rfl) ?_
  refine x_if_ne (tgt := 27) hx hb (nI_z (by omega)) dL_does_1 (by decide) (fun c1 => ?_) (fun c1 => ?_)
  rotate_left
  · exact absurd c1 (by omega)
  refine lv_iload_n hx hb dL_does_27 rfl (lv_at hl 1 rfl) ?_
  refine lv_iconst (v := nI 1) hx hb dL_does_28 (by decide) ?_
  refine x_cmp_ne (tgt := 41) hx hb (nI_eq (a := 9) (b := 1) (by omega) (by omega)) dL_does_29 (by decide) (fun c29 => ?_) (fun c29 => ?_)
  · refine lv_iload_n hx hb dL_does_41 rfl (lv_at hl 1 rfl) ?_
    refine lv_iconst (v := nI 2) hx hb dL_does_42 (by decide) ?_
    refine x_cmp_ne (tgt := 54) hx hb (nI_eq (a := 9) (b := 2) (by omega) (by omega)) dL_does_43 (by decide) (fun c43 => ?_) (fun c43 => ?_)
    · refine lv_iload_n hx hb dL_does_54 rfl (lv_at hl 1 rfl) ?_
      refine lv_iconst (v := nI 3) hx hb dL_does_55 (by decide) ?_
      refine x_cmp_ne (tgt := 66) hx hb (nI_eq (a := 9) (b := 3) (by omega) (by omega)) dL_does_56 (by decide) (fun c56 => ?_) (fun c56 => ?_)
      · refine lv_iload_n hx hb dL_does_66 rfl (lv_at hl 1 rfl) ?_
        refine lv_iconst (v := nI 4) hx hb dL_does_67 (by decide) ?_
        refine x_cmp_ne (tgt := 79) hx hb (nI_eq (a := 9) (b := 4) (by omega) (by omega)) dL_does_68 (by decide) (fun c68 => ?_) (fun c68 => ?_)
        · refine lv_iload_n hx hb dL_does_79 rfl (lv_at hl 1 rfl) ?_
          refine lv_iconst (v := nI 5) hx hb dL_does_80 (by decide) ?_
          refine x_cmp_ne (tgt := 99) hx hb (nI_eq (a := 9) (b := 5) (by omega) (by omega)) dL_does_81 (by decide) (fun c81 => ?_) (fun c81 => ?_)
          · refine lv_iload_n hx hb dL_does_99 rfl (lv_at hl 1 rfl) ?_
            refine lv_bipush (v := nI 6) hx hb dL_does_100 (by decide) ?_
            refine x_cmp_ne (tgt := 116) hx hb (nI_eq (a := 9) (b := 6) (by omega) (by omega)) dL_does_102 (by decide) (fun c102 => ?_) (fun c102 => ?_)
            · refine lv_iload_n hx hb dL_does_116 rfl (lv_at hl 1 rfl) ?_
              refine lv_bipush (v := nI 7) hx hb dL_does_117 (by decide) ?_
              refine x_cmp_ne (tgt := 131) hx hb (nI_eq (a := 9) (b := 7) (by omega) (by omega)) dL_does_119 (by decide) (fun c119 => ?_) (fun c119 => ?_)
              · refine lv_iload_n hx hb dL_does_131 rfl (lv_at hl 1 rfl) ?_
                refine lv_bipush (v := nI 8) hx hb dL_does_132 (by decide) ?_
                refine x_cmp_ne (tgt := 145) hx hb (nI_eq (a := 9) (b := 8) (by omega) (by omega)) dL_does_134 (by decide) (fun c134 => ?_) (fun c134 => ?_)
                · refine lv_iload_n hx hb dL_does_145 rfl (lv_at hl 1 rfl) ?_
                  refine lv_bipush (v := nI 9) hx hb dL_does_146 (by decide) ?_
                  refine x_cmp_ne (tgt := 160) hx hb (nI_eq (a := 9) (b := 9) (by omega) (by omega)) dL_does_148 (by decide) (fun c148 => ?_) (fun c148 => ?_)
                  · exfalso; omega
                  · refine lv_aload_n hx hb dL_does_151 rfl (lv_at hl 0 rfl) ?_
                    refine lv_iload_n hx hb dL_does_152 rfl (lv_at hl 2 rfl) ?_
                    refine lv_iload_n hx hb dL_does_153 rfl (lv_at hl 3 rfl) ?_
                    refine x_callCi (w2 := fun (u : Nat) => match u with | tn => [(x0, .inr (4, [.ref pb, .ref pa, .ref sa, .ref g0, .int (nI lim)])), (pb, .inr (1, [.ref b1, .int (nI n), .ref b2, .ref b3, .ref b4, .ref b5, .ref b6])), (b1, .inl (cI, 24, .inl rows)), (b2, .inl (cI, 51, .inl cc)), (sa, .inl (cS, 3, .inr (.inr (.inr (.inr (fun j => some (aS j))))))), (aS si, .inr (2, [.ref s1, .ref s2, va_rf pu, .int (nI st), .int (nI sl)])), (s1, .inl (cI, 24, .inl (qMap (fun x => qCho (co tn) (re tn) (nu tn) (ma tn) x) rows sr (tn * 12) 12))), (s2, .inl (cI, 2, .inl (upd cp tn (nI n)))), (p0, .inr (0, [.ref p1, .ref p2, .ref p3, .ref p4])), (p1, .inl (cI, 2, .inl co)), (p2, .inl (cI, 2, .inl re)), (p3, .inl (cI, 2, .inl nu)), (p4, .inl (cI, 2, .inl ma))]) (wr := []) (x_runXV (n := 2) ⟨hx, hb, hml, hown, hts⟩ (zX4_copy l D cI cP cS cL hfl x0 pb pa sa g0 lim b1 b2 b3 b4 b5 b6 n cn aS si s1 s2 st sl pu p0 p1 p2 p3 p4 co re nu ma rows cc sr cp sx tx hn9 hcc hcn hsx hst hpu) gL_does_X4_copy rfl rfl rfl (by decide +kernel) ⟨by decide, by decide⟩ hN hK hP hD hS hA hE [0, 1, 2, 3, 4, 5, 6, 7, 8, 9, 10, 11, 12] rfl rfl (ci := 4) (q0 := 0) rfl rfl rfl rfl hl.1 (rest := []) (As := [.int sx, .int tx]) rfl (Nat.le_of_ble_eq_true rfl) dL_does_154 ⟨by decide, by decide⟩) hP hD hS hA [0, 1, 2, 3, 4, 5, 6, 7, 8, 9, 10, 11, 12] [] [0, 1, 2, 3, 4, 5, 6, 7, 8, 9, 10, 11, 12] [0, 1, 2, 3, 4, 5, 6, 7, 8, 9, 10, 11, 12] rfl rfl rfl (by decide) rfl rfl rfl (fun _ => rfl) (fun E ce q9 H locs hEX hP hD hS hce hcv hcl => ?_) (fun r0 u H locs hw hP hD hS => ?_)
                    · have hEX : (E = nIO ∧ ¬ (vp_in sx 3 ∧ vp_in tx 2)) ∨ (E = nIS ∧ (vp_in sx 3 ∧ vp_in tx 2) ∧ ¬ (st = 1 ∧ cn = 0)) := hEX
                      rcases hEX with ⟨rfl, h9⟩ | ⟨rfl, h9⟩
                      · refine x_catch hown hts hE [] ⟨0, 217, 218, 64⟩ [⟨0, 217, 223, 66⟩, ⟨0, 217, 228, 68⟩] (hT.trans rfl) (by decide) (fun z hz => by cases hz) (by decide) (by decide) kL_does_c64 hce hcv hcl ?_
                        refine lv_astore (lv' := [(7, .ref q9), (0, .ref x0), (1, .int (nI 9)), (2, .int sx), (3, .int tx), (4, .int y0), (5, .int y1), (6, .int y2)]) hx hb dL_does_218 hl (by decide) rfl (fun ls hl => ?_)
                        refine lv_bipush (v := (-30 : Int32)) hx hb dL_does_220 (by decide) ?_
                        exact vx_ret (x_ret_i hx hb hrt hlk hP hD hS dL_does_222 ⟨by decide, by decide⟩ none (Or.inl ⟨rfl, h9⟩) rfl)
                      · refine x_catch hown hts hE [⟨0, 217, 218, 64⟩, ⟨0, 217, 223, 66⟩] ⟨0, 217, 228, 68⟩ [] (hT.trans rfl) (by decide) (fun z hz => by simp only [List.mem_cons, List.not_mem_nil, or_false] at hz; rcases hz with rfl | rfl <;> first | exact ⟨by decide, _, kL_does_c64, by decide, by decide⟩ | exact ⟨by decide, _, kL_does_c66, by decide, by decide⟩) (by decide) (by decide) kL_does_c68 hce hcv hcl ?_
                        refine lv_astore (lv' := [(7, .ref q9), (0, .ref x0), (1, .int (nI 9)), (2, .int sx), (3, .int tx), (4, .int y0), (5, .int y1), (6, .int y2)]) hx hb dL_does_228 hl (by decide) rfl (fun ls hl => ?_)
                        refine lv_bipush (v := (-10 : Int32)) hx hb dL_does_230 (by decide) ?_
                        exact vx_ret (x_ret_i hx hb hrt hlk hP hD hS dL_does_232 ⟨by decide, by decide⟩ none (Or.inr (⟨rfl, h9⟩)) rfl)
                    obtain ⟨tn, h9⟩ : ∃ z, z = u := ⟨u, rfl⟩
                    subst h9
                    have hP : va_P D vwCl [(x0, .inr (4, [.ref pb, .ref pa, .ref sa, .ref g0, .int (nI lim)])), (pb, .inr (1, [.ref b1, .int (nI n), .ref b2, .ref b3, .ref b4, .ref b5, .ref b6])), (b1, .inl (cI, 24, .inl rows)), (b2, .inl (cI, 51, .inl cc)), (sa, .inl (cS, 3, .inr (.inr (.inr (.inr (fun j => some (aS j))))))), (aS si, .inr (2, [.ref s1, .ref s2, va_rf pu, .int (nI st), .int (nI sl)])), (s1, .inl (cI, 24, .inl (qMap (fun x => qCho (co tn) (re tn) (nu tn) (ma tn) x) rows sr (tn * 12) 12))), (s2, .inl (cI, 2, .inl (upd cp tn (nI n)))), (p0, .inr (0, [.ref p1, .ref p2, .ref p3, .ref p4])), (p1, .inl (cI, 2, .inl co)), (p2, .inl (cI, 2, .inl re)), (p3, .inl (cI, 2, .inl nu)), (p4, .inl (cI, 2, .inl ma))] H := hP
                    have hD : va_D A [(x0, .inr (4, [.ref pb, .ref pa, .ref sa, .ref g0, .int (nI lim)])), (pb, .inr (1, [.ref b1, .int (nI n), .ref b2, .ref b3, .ref b4, .ref b5, .ref b6])), (b1, .inl (cI, 24, .inl rows)), (b2, .inl (cI, 51, .inl cc)), (sa, .inl (cS, 3, .inr (.inr (.inr (.inr (fun j => some (aS j))))))), (aS si, .inr (2, [.ref s1, .ref s2, va_rf pu, .int (nI st), .int (nI sl)])), (s1, .inl (cI, 24, .inl (qMap (fun x => qCho (co tn) (re tn) (nu tn) (ma tn) x) rows sr (tn * 12) 12))), (s2, .inl (cI, 2, .inl (upd cp tn (nI n)))), (p0, .inr (0, [.ref p1, .ref p2, .ref p3, .ref p4])), (p1, .inl (cI, 2, .inl co)), (p2, .inl (cI, 2, .inl re)), (p3, .inl (cI, 2, .inl nu)), (p4, .inl (cI, 2, .inl ma))] := hD
                    refine lv_goto (tgt := 217) hx hb dL_does_157 (by decide) ?_
                    exact vx_ret (x_ret_i hx hb hrt hlk hP hD hS dL_does_217 ⟨by decide, by decide⟩ (some (tn, r0)) (⟨rfl, hw⟩) rfl)
                · exfalso; omega
              · exfalso; omega
            · exfalso; omega
          · exfalso; omega
        · exfalso; omega
      · exfalso; omega
    · exfalso; omega
  · exfalso; omega

set_option maxHeartbeats 4000000 in
set_option maxRecDepth 100000 in
theorem zD_receive (l : Launch) (D : va_G) (cI cP cS cL : ClassId) (hfl : l.stackTraces = false) (x0 pb pa sa g0 lim : Nat) (b1 b2 b3 b4 b5 b6 n : Nat) (aS : Nat → Nat) (si s1 s2 st sl : Nat) (pu : Option Nat) (p0 p1 p2 p3 p4 : Nat) (co re nu ma : Nat → Int32) (g1 g2 : Nat) (cc ct ck nr cr sr cp old rw : Nat → Int32) (sx mx : Int32) (y0 y1 y2 : Int32) (hsx : ∀ j, j < 3 → sx = nI j → j = si) (hn9 : n ≤ 50) (hst : st ≤ 3) (hsl : sl ≤ n) (hpu : (st = 0 ∧ pu = none) ∨ (0 < st ∧ pu = some p0)) (hcc : ∀ c, c < n → ∃ m, m ≤ 12 ∧ cc c = nI m ∧ (∀ i, i < m → ∃ t, t < 2 ∧ ct (c * 12 + i) = nI t) ∧ (∀ i, i < m → ck (c * 12 + i) = -1 ∨ ∃ k, k < 12 ∧ ck (c * 12 + i) = nI k)) : xWi l yL_does wsL_does (rmD 8 3 18) D [(cI, .int), (cP, .object RX0), (cS, .object RX2)] [.ref x0, .int (nI 10), .int sx, .int mx, .int y0, .int y1, .int y2] [(x0, .inr (4, [.ref pb, .ref pa, .ref sa, .ref g0, .int (nI lim)])), (pb, .inr (1, [.ref b1, .int (nI n), .ref b2, .ref b3, .ref b4, .ref b5, .ref b6])), (b2, .inl (cI, 51, .inl cc)), (b3, .inl (cI, 612, .inl ct)), (b4, .inl (cI, 612, .inl ck)), (b5, .inl (cI, 612, .inl nr)), (b6, .inl (cI, 1224, .inl cr)), (sa, .inl (cS, 3, .inr (.inr (.inr (.inr (fun j => some (aS j))))))), (aS si, .inr (2, [.ref s1, .ref s2, va_rf pu, .int (nI st), .int (nI sl)])), (s1, .inl (cI, 24, .inl sr)), (s2, .inl (cI, 2, .inl cp)), (g0, .inr (3, [.ref g1, .ref g2])), (g1, .inl (cI, 24, .inl old)), (g2, .inl (cI, 24, .inl rw)), (p0, .inr (0, [.ref p1, .ref p2, .ref p3, .ref p4])), (p1, .inl (cI, 2, .inl co)), (p2, .inl (cI, 2, .inl re)), (p3, .inl (cI, 2, .inl nu)), (p4, .inl (cI, 2, .inl ma))] (fun (r : Int32) (u : Option ((Nat × (Nat → Int32) × Nat × (Nat → Int32) × (Nat → Int32)) × Int32)) => match u with | some ((k, f, sq, o, w), r0) => r = r0 ∧ ((sx = nI si ∧ si < 3) ∧ st = 1 ∧ ∃ mn, mx = nI mn ∧ 1 ≤ mn ∧ mn < 51 ∧ r0 = nI k ∧ k ≤ mn ∧ sl + k ≤ n ∧ qRel co re nu ma cp cc ct ck nr cr sl sr k f ∧ ((sq = 1 ∧ (k = mn ∨ sl + k = n)) ∨ (sq = 2 ∧ k < mn ∧ sl + k < n ∧ qStop co re nu ma cp cc ct ck nr cr (sl + k) f))) | none => (r = (-30) ∧ (¬ vp_in sx 3)) ∨ (r = (-20) ∧ (vp_in sx 3 ∧ ¬ (nI 1 ≤ mx ∧ mx ≤ nI 50))) ∨ (r = (-10) ∧ (vp_in sx 3 ∧ (nI 1 ≤ mx ∧ mx ≤ nI 50) ∧ ¬ st = 1))) (fun (u : Option ((Nat × (Nat → Int32) × Nat × (Nat → Int32) × (Nat → Int32)) × Int32)) => match u with | some ((k, f, sq, o, w), r0) => [(x0, .inr (4, [.ref pb, .ref pa, .ref sa, .ref g0, .int (nI lim)])), (pb, .inr (1, [.ref b1, .int (nI n), .ref b2, .ref b3, .ref b4, .ref b5, .ref b6])), (b2, .inl (cI, 51, .inl cc)), (b3, .inl (cI, 612, .inl ct)), (b4, .inl (cI, 612, .inl ck)), (b5, .inl (cI, 612, .inl nr)), (b6, .inl (cI, 1224, .inl cr)), (sa, .inl (cS, 3, .inr (.inr (.inr (.inr (fun j => some (aS j))))))), (aS si, .inr (2, [.ref s1, .ref s2, va_rf pu, .int (nI sq), .int (nI (sl + k))])), (s1, .inl (cI, 24, .inl f)), (s2, .inl (cI, 2, .inl cp)), (g0, .inr (3, [.ref g1, .ref g2])), (g1, .inl (cI, 24, .inl o)), (g2, .inl (cI, 24, .inl w)), (p0, .inr (0, [.ref p1, .ref p2, .ref p3, .ref p4])), (p1, .inl (cI, 2, .inl co)), (p2, .inl (cI, 2, .inl re)), (p3, .inl (cI, 2, .inl nu)), (p4, .inl (cI, 2, .inl ma))] | none => [(x0, .inr (4, [.ref pb, .ref pa, .ref sa, .ref g0, .int (nI lim)])), (pb, .inr (1, [.ref b1, .int (nI n), .ref b2, .ref b3, .ref b4, .ref b5, .ref b6])), (b2, .inl (cI, 51, .inl cc)), (b3, .inl (cI, 612, .inl ct)), (b4, .inl (cI, 612, .inl ck)), (b5, .inl (cI, 612, .inl nr)), (b6, .inl (cI, 1224, .inl cr)), (sa, .inl (cS, 3, .inr (.inr (.inr (.inr (fun j => some (aS j))))))), (aS si, .inr (2, [.ref s1, .ref s2, va_rf pu, .int (nI st), .int (nI sl)])), (s1, .inl (cI, 24, .inl sr)), (s2, .inl (cI, 2, .inl cp)), (g0, .inr (3, [.ref g1, .ref g2])), (g1, .inl (cI, 24, .inl old)), (g2, .inl (cI, 24, .inl rw)), (p0, .inr (0, [.ref p1, .ref p2, .ref p3, .ref p4])), (p1, .inl (cI, 2, .inl co)), (p2, .inl (cI, 2, .inl re)), (p3, .inl (cI, 2, .inl nu)), (p4, .inl (cI, 2, .inl ma))]) 3 18 := by
  refine xe_W (cc := cL_does) (maxL := 8) (ret := some .int) (hh := [(0, 217, 218, 64), (0, 217, 223, 66), (0, 217, 228, 68)]) (by decide) rfl (Nat.le_of_ble_eq_true rfl) ?_
  intro zp ze s zm below meth zc A ls B hT hE
  obtain ⟨hx, hb, hml, hrt, hts, hown, hnm, hlk, hK, hP, hD, hA, hS, hN, hl⟩ := B
  have hown : s.vm.findClass RL = some zm.cls := hown
  have hl : lv_has ls 8 [(0, .ref x0), (1, .int (nI 10)), (2, .int sx), (3, .int mx), (4, .int y0), (5, .int y1), (6, .int y2)] := hl
  have hA : ∀ q, s.heap.size ≤ q → A q := hA
  refine lv_iload_n hx hb dL_does_0 rfl (lv_at hl 1 rfl) ?_
  refine x_if_ne (tgt := 27) hx hb (nI_z (by omega)) dL_does_1 (by decide) (fun c1 => ?_) (fun c1 => ?_)
  rotate_left
  · exact absurd c1 (by omega)
  refine lv_iload_n hx hb dL_does_27 rfl (lv_at hl 1 rfl) ?_
  refine lv_iconst (v := nI 1) hx hb dL_does_28 (by decide) ?_
  refine x_cmp_ne (tgt := 41) hx hb (nI_eq (a := 10) (b := 1) (by omega) (by omega)) dL_does_29 (by decide) (fun c29 => ?_) (fun c29 => ?_)
  · refine lv_iload_n hx hb dL_does_41 rfl (lv_at hl 1 rfl) ?_
    refine lv_iconst (v := nI 2) hx hb dL_does_42 (by decide) ?_
    refine x_cmp_ne (tgt := 54) hx hb (nI_eq (a := 10) (b := 2) (by omega) (by omega)) dL_does_43 (by decide) (fun c43 => ?_) (fun c43 => ?_)
    · refine lv_iload_n hx hb dL_does_54 rfl (lv_at hl 1 rfl) ?_
      refine lv_iconst (v := nI 3) hx hb dL_does_55 (by decide) ?_
      refine x_cmp_ne (tgt := 66) hx hb (nI_eq (a := 10) (b := 3) (by omega) (by omega)) dL_does_56 (by decide) (fun c56 => ?_) (fun c56 => ?_)
      · refine lv_iload_n hx hb dL_does_66 rfl (lv_at hl 1 rfl) ?_
        refine lv_iconst (v := nI 4) hx hb dL_does_67 (by decide) ?_
        refine x_cmp_ne (tgt := 79) hx hb (nI_eq (a := 10) (b := 4) (by omega) (by omega)) dL_does_68 (by decide) (fun c68 => ?_) (fun c68 => ?_)
        · refine lv_iload_n hx hb dL_does_79 rfl (lv_at hl 1 rfl) ?_
          refine lv_iconst (v := nI 5) hx hb dL_does_80 (by decide) ?_
          refine x_cmp_ne (tgt := 99) hx hb (nI_eq (a := 10) (b := 5) (by omega) (by omega)) dL_does_81 (by decide) (fun c81 => ?_) (fun c81 => ?_)
          · refine lv_iload_n hx hb dL_does_99 rfl (lv_at hl 1 rfl) ?_
            refine lv_bipush (v := nI 6) hx hb dL_does_100 (by decide) ?_
            refine x_cmp_ne (tgt := 116) hx hb (nI_eq (a := 10) (b := 6) (by omega) (by omega)) dL_does_102 (by decide) (fun c102 => ?_) (fun c102 => ?_)
            · refine lv_iload_n hx hb dL_does_116 rfl (lv_at hl 1 rfl) ?_
              refine lv_bipush (v := nI 7) hx hb dL_does_117 (by decide) ?_
              refine x_cmp_ne (tgt := 131) hx hb (nI_eq (a := 10) (b := 7) (by omega) (by omega)) dL_does_119 (by decide) (fun c119 => ?_) (fun c119 => ?_)
              · refine lv_iload_n hx hb dL_does_131 rfl (lv_at hl 1 rfl) ?_
                refine lv_bipush (v := nI 8) hx hb dL_does_132 (by decide) ?_
                refine x_cmp_ne (tgt := 145) hx hb (nI_eq (a := 10) (b := 8) (by omega) (by omega)) dL_does_134 (by decide) (fun c134 => ?_) (fun c134 => ?_)
                · refine lv_iload_n hx hb dL_does_145 rfl (lv_at hl 1 rfl) ?_
                  refine lv_bipush (v := nI 9) hx hb dL_does_146 (by decide) ?_
                  refine x_cmp_ne (tgt := 160) hx hb (nI_eq (a := 10) (b := 9) (by omega) (by omega)) dL_does_148 (by decide) (fun c148 => ?_) (fun c148 => ?_)
                  · refine lv_iload_n hx hb dL_does_160 rfl (lv_at hl 1 rfl) ?_
                    refine lv_bipush (v := nI 10) hx hb dL_does_161 (by decide) ?_
                    refine x_cmp_ne (tgt := 175) hx hb (nI_eq (a := 10) (b := 10) (by omega) (by omega)) dL_does_163 (by decide) (fun c163 => ?_) (fun c163 => ?_)
                    · exfalso; omega
                    · refine lv_aload_n hx hb dL_does_166 rfl (lv_at hl 0 rfl) ?_
                      refine lv_iload_n hx hb dL_does_167 rfl (lv_at hl 2 rfl) ?_
                      refine lv_iload_n hx hb dL_does_168 rfl (lv_at hl 3 rfl) ?_
                      refine x_callCi (w2 := fun (u : Nat × (Nat → Int32) × Nat × (Nat → Int32) × (Nat → Int32)) => match u with | (k, f, sq, o, w) => [(x0, .inr (4, [.ref pb, .ref pa, .ref sa, .ref g0, .int (nI lim)])), (pb, .inr (1, [.ref b1, .int (nI n), .ref b2, .ref b3, .ref b4, .ref b5, .ref b6])), (b2, .inl (cI, 51, .inl cc)), (b3, .inl (cI, 612, .inl ct)), (b4, .inl (cI, 612, .inl ck)), (b5, .inl (cI, 612, .inl nr)), (b6, .inl (cI, 1224, .inl cr)), (sa, .inl (cS, 3, .inr (.inr (.inr (.inr (fun j => some (aS j))))))), (aS si, .inr (2, [.ref s1, .ref s2, va_rf pu, .int (nI sq), .int (nI (sl + k))])), (s1, .inl (cI, 24, .inl f)), (s2, .inl (cI, 2, .inl cp)), (g0, .inr (3, [.ref g1, .ref g2])), (g1, .inl (cI, 24, .inl o)), (g2, .inl (cI, 24, .inl w)), (p0, .inr (0, [.ref p1, .ref p2, .ref p3, .ref p4])), (p1, .inl (cI, 2, .inl co)), (p2, .inl (cI, 2, .inl re)), (p3, .inl (cI, 2, .inl nu)), (p4, .inl (cI, 2, .inl ma))]) (wr := []) (x_runXV (n := 2) ⟨hx, hb, hml, hown, hts⟩ (zX4_receive l D cI cP cS cL hfl x0 pb pa sa g0 lim b1 b2 b3 b4 b5 b6 n aS si s1 s2 st sl pu p0 p1 p2 p3 p4 co re nu ma g1 g2 cc ct ck nr cr sr cp old rw sx mx hsx hn9 hst hsl hpu hcc) gL_does_X4_receive rfl rfl rfl (by decide +kernel) ⟨by decide, by decide⟩ hN hK hP hD hS hA hE [0, 1, 2, 3, 4, 5, 6, 7, 8, 9, 10, 11, 12, 13, 14, 15, 16, 17, 18] rfl rfl (ci := 4) (q0 := 0) rfl rfl rfl rfl hl.1 (rest := []) (As := [.int sx, .int mx]) rfl (Nat.le_of_ble_eq_true rfl) dL_does_169 ⟨by decide, by decide⟩) hP hD hS hA [0, 1, 2, 3, 4, 5, 6, 7, 8, 9, 10, 11, 12, 13, 14, 15, 16, 17, 18] [] [0, 1, 2, 3, 4, 5, 6, 7, 8, 9, 10, 11, 12, 13, 14, 15, 16, 17, 18] [0, 1, 2, 3, 4, 5, 6, 7, 8, 9, 10, 11, 12, 13, 14, 15, 16, 17, 18] rfl rfl rfl (by decide) rfl rfl rfl (fun _ => rfl) (fun E ce q9 H locs hEX hP hD hS hce hcv hcl => ?_) (fun r0 u H locs hw hP hD hS => ?_)
                      · have hEX : (E = nIO ∧ ¬ vp_in sx 3) ∨ (E = nIA ∧ vp_in sx 3 ∧ ¬ (nI 1 ≤ mx ∧ mx ≤ nI 50)) ∨ (E = nIS ∧ vp_in sx 3 ∧ (nI 1 ≤ mx ∧ mx ≤ nI 50) ∧ ¬ st = 1) := hEX
                        rcases hEX with ⟨rfl, h9⟩ | ⟨rfl, h9⟩ | ⟨rfl, h9⟩
                        · refine x_catch hown hts hE [] ⟨0, 217, 218, 64⟩ [⟨0, 217, 223, 66⟩, ⟨0, 217, 228, 68⟩] (hT.trans rfl) (by decide) (fun z hz => by cases hz) (by decide) (by decide) kL_does_c64 hce hcv hcl ?_
                          refine lv_astore (lv' := [(7, .ref q9), (0, .ref x0), (1, .int (nI 10)), (2, .int sx), (3, .int mx), (4, .int y0), (5, .int y1), (6, .int y2)]) hx hb dL_does_218 hl (by decide) rfl (fun ls hl => ?_)
                          refine lv_bipush (v := (-30 : Int32)) hx hb dL_does_220 (by decide) ?_
                          exact vx_ret (x_ret_i hx hb hrt hlk hP hD hS dL_does_222 ⟨by decide, by decide⟩ none (Or.inl ⟨rfl, h9⟩) rfl)
                        · refine x_catch hown hts hE [⟨0, 217, 218, 64⟩] ⟨0, 217, 223, 66⟩ [⟨0, 217, 228, 68⟩] (hT.trans rfl) (by decide) (fun z hz => by simp only [List.mem_cons, List.not_mem_nil, or_false] at hz; subst hz <;> first | exact ⟨by decide, _, kL_does_c64, by decide, by decide⟩) (by decide) (by decide) kL_does_c66 hce hcv hcl ?_
                          refine lv_astore (lv' := [(7, .ref q9), (0, .ref x0), (1, .int (nI 10)), (2, .int sx), (3, .int mx), (4, .int y0), (5, .int y1), (6, .int y2)]) hx hb dL_does_223 hl (by decide) rfl (fun ls hl => ?_)
                          refine lv_bipush (v := (-20 : Int32)) hx hb dL_does_225 (by decide) ?_
                          exact vx_ret (x_ret_i hx hb hrt hlk hP hD hS dL_does_227 ⟨by decide, by decide⟩ none (Or.inr (Or.inl ⟨rfl, h9⟩)) rfl)
                        · refine x_catch hown hts hE [⟨0, 217, 218, 64⟩, ⟨0, 217, 223, 66⟩] ⟨0, 217, 228, 68⟩ [] (hT.trans rfl) (by decide) (fun z hz => by simp only [List.mem_cons, List.not_mem_nil, or_false] at hz; rcases hz with rfl | rfl <;> first | exact ⟨by decide, _, kL_does_c64, by decide, by decide⟩ | exact ⟨by decide, _, kL_does_c66, by decide, by decide⟩) (by decide) (by decide) kL_does_c68 hce hcv hcl ?_
                          refine lv_astore (lv' := [(7, .ref q9), (0, .ref x0), (1, .int (nI 10)), (2, .int sx), (3, .int mx), (4, .int y0), (5, .int y1), (6, .int y2)]) hx hb dL_does_228 hl (by decide) rfl (fun ls hl => ?_)
                          refine lv_bipush (v := (-10 : Int32)) hx hb dL_does_230 (by decide) ?_
                          exact vx_ret (x_ret_i hx hb hrt hlk hP hD hS dL_does_232 ⟨by decide, by decide⟩ none (Or.inr (Or.inr (⟨rfl, h9⟩))) rfl)
                      obtain ⟨k, f, sq, o, w⟩ := u
                      have hP : va_P D vwCl [(x0, .inr (4, [.ref pb, .ref pa, .ref sa, .ref g0, .int (nI lim)])), (pb, .inr (1, [.ref b1, .int (nI n), .ref b2, .ref b3, .ref b4, .ref b5, .ref b6])), (b2, .inl (cI, 51, .inl cc)), (b3, .inl (cI, 612, .inl ct)), (b4, .inl (cI, 612, .inl ck)), (b5, .inl (cI, 612, .inl nr)), (b6, .inl (cI, 1224, .inl cr)), (sa, .inl (cS, 3, .inr (.inr (.inr (.inr (fun j => some (aS j))))))), (aS si, .inr (2, [.ref s1, .ref s2, va_rf pu, .int (nI sq), .int (nI (sl + k))])), (s1, .inl (cI, 24, .inl f)), (s2, .inl (cI, 2, .inl cp)), (g0, .inr (3, [.ref g1, .ref g2])), (g1, .inl (cI, 24, .inl o)), (g2, .inl (cI, 24, .inl w)), (p0, .inr (0, [.ref p1, .ref p2, .ref p3, .ref p4])), (p1, .inl (cI, 2, .inl co)), (p2, .inl (cI, 2, .inl re)), (p3, .inl (cI, 2, .inl nu)), (p4, .inl (cI, 2, .inl ma))] H := hP
                      have hD : va_D A [(x0, .inr (4, [.ref pb, .ref pa, .ref sa, .ref g0, .int (nI lim)])), (pb, .inr (1, [.ref b1, .int (nI n), .ref b2, .ref b3, .ref b4, .ref b5, .ref b6])), (b2, .inl (cI, 51, .inl cc)), (b3, .inl (cI, 612, .inl ct)), (b4, .inl (cI, 612, .inl ck)), (b5, .inl (cI, 612, .inl nr)), (b6, .inl (cI, 1224, .inl cr)), (sa, .inl (cS, 3, .inr (.inr (.inr (.inr (fun j => some (aS j))))))), (aS si, .inr (2, [.ref s1, .ref s2, va_rf pu, .int (nI sq), .int (nI (sl + k))])), (s1, .inl (cI, 24, .inl f)), (s2, .inl (cI, 2, .inl cp)), (g0, .inr (3, [.ref g1, .ref g2])), (g1, .inl (cI, 24, .inl o)), (g2, .inl (cI, 24, .inl w)), (p0, .inr (0, [.ref p1, .ref p2, .ref p3, .ref p4])), (p1, .inl (cI, 2, .inl co)), (p2, .inl (cI, 2, .inl re)), (p3, .inl (cI, 2, .inl nu)), (p4, .inl (cI, 2, .inl ma))] := hD
                      refine lv_goto (tgt := 217) hx hb dL_does_172 (by decide) ?_
                      exact vx_ret (x_ret_i hx hb hrt hlk hP hD hS dL_does_217 ⟨by decide, by decide⟩ (some ((k, f, sq, o, w), r0)) (⟨rfl, hw⟩) rfl)
                  · exfalso; omega
                · exfalso; omega
              · exfalso; omega
            · exfalso; omega
          · exfalso; omega
        · exfalso; omega
      · exfalso; omega
    · exfalso; omega
  · exfalso; omega

set_option maxHeartbeats 4000000 in
set_option maxRecDepth 100000 in
theorem zD_goOn0 (l : Launch) (D : va_G) (cI cP cS cL : ClassId) (hfl : l.stackTraces = false) (x0 pb pa sa g0 lim : Nat) (b1 b2 b3 b4 b5 b6 n : Nat) (aS : Nat → Nat) (si s1 s2 st sl : Nat) (pu : Option Nat) (sx  : Int32) (y0 y1 y2 : Int32) (hsx : ∀ j, j < 3 → sx = nI j → j = si) (hst : st ≤ 3) (hsl : sl ≤ n) (hn9 : n ≤ 50) (hs2 : st = 2 → sl < n) : xWi l yL_does wsL_does (rmD 8 2 12) D [(cI, .int), (cP, .object RX0), (cS, .object RX2)] [.ref x0, .int (nI 11), .int sx, .int (nI 0), .int y0, .int y1, .int y2] [(x0, .inr (4, [.ref pb, .ref pa, .ref sa, .ref g0, .int (nI lim)])), (pb, .inr (1, [.ref b1, .int (nI n), .ref b2, .ref b3, .ref b4, .ref b5, .ref b6])), (sa, .inl (cS, 3, .inr (.inr (.inr (.inr (fun j => some (aS j))))))), (aS si, .inr (2, [.ref s1, .ref s2, va_rf pu, .int (nI st), .int (nI sl)]))] (fun (r : Int32) (u : Option ((Unit) × Int32)) => match u with | some (_, r0) => r = r0 ∧ ((sx = nI si ∧ si < 3) ∧ st = 2 ∧ r0 = nI (if (nI 0) = 0 then sl else sl + 1)) | none => (r = (-30) ∧ (¬ vp_in sx 3)) ∨ (r = (-10) ∧ (vp_in sx 3 ∧ ¬ st = 2))) (fun (u : Option ((Unit) × Int32)) => match u with | some (_, r0) => [(x0, .inr (4, [.ref pb, .ref pa, .ref sa, .ref g0, .int (nI lim)])), (pb, .inr (1, [.ref b1, .int (nI n), .ref b2, .ref b3, .ref b4, .ref b5, .ref b6])), (sa, .inl (cS, 3, .inr (.inr (.inr (.inr (fun j => some (aS j))))))), (aS si, .inr (2, [.ref s1, .ref s2, va_rf pu, .int (nI 1), .int (nI (if (nI 0) = 0 then sl else sl + 1))]))] | none => [(x0, .inr (4, [.ref pb, .ref pa, .ref sa, .ref g0, .int (nI lim)])), (pb, .inr (1, [.ref b1, .int (nI n), .ref b2, .ref b3, .ref b4, .ref b5, .ref b6])), (sa, .inl (cS, 3, .inr (.inr (.inr (.inr (fun j => some (aS j))))))), (aS si, .inr (2, [.ref s1, .ref s2, va_rf pu, .int (nI st), .int (nI sl)]))]) 2 12 := by
  refine xe_W (cc := cL_does) (maxL := 8) (ret := some .int) (hh := [(0, 217, 218, 64), (0, 217, 223, 66), (0, 217, 228, 68)]) (by decide) rfl (Nat.le_of_ble_eq_true rfl) ?_
  intro zp ze s zm below meth zc A ls B hT hE
  obtain ⟨hx, hb, hml, hrt, hts, hown, hnm, hlk, hK, hP, hD, hA, hS, hN, hl⟩ := B
  have hown : s.vm.findClass RL = some zm.cls := hown
  have hl : lv_has ls 8 [(0, .ref x0), (1, .int (nI 11)), (2, .int sx), (3, .int (nI 0)), (4, .int y0), (5, .int y1), (6, .int y2)] := hl
  have hA : ∀ q, s.heap.size ≤ q → A q := hA
  refine lv_iload_n hx hb dL_does_0 rfl (lv_at hl 1 rfl) ?_
  refine x_if_ne (tgt := 27) hx hb (nI_z (by omega)) dL_does_1 (by decide) (fun c1 => ?_) (fun c1 => ?_)
  rotate_left
  · exact absurd c1 (by omega)
  refine lv_iload_n hx hb dL_does_27 rfl (lv_at hl 1 rfl) ?_
  refine lv_iconst (v := nI 1) hx hb dL_does_28 (by decide) ?_
  refine x_cmp_ne (tgt := 41) hx hb (nI_eq (a := 11) (b := 1) (by omega) (by omega)) dL_does_29 (by decide) (fun c29 => ?_) (fun c29 => ?_)
  · refine lv_iload_n hx hb dL_does_41 rfl (lv_at hl 1 rfl) ?_
    refine lv_iconst (v := nI 2) hx hb dL_does_42 (by decide) ?_
    refine x_cmp_ne (tgt := 54) hx hb (nI_eq (a := 11) (b := 2) (by omega) (by omega)) dL_does_43 (by decide) (fun c43 => ?_) (fun c43 => ?_)
    · refine lv_iload_n hx hb dL_does_54 rfl (lv_at hl 1 rfl) ?_
      refine lv_iconst (v := nI 3) hx hb dL_does_55 (by decide) ?_
      refine x_cmp_ne (tgt := 66) hx hb (nI_eq (a := 11) (b := 3) (by omega) (by omega)) dL_does_56 (by decide) (fun c56 => ?_) (fun c56 => ?_)
      · refine lv_iload_n hx hb dL_does_66 rfl (lv_at hl 1 rfl) ?_
        refine lv_iconst (v := nI 4) hx hb dL_does_67 (by decide) ?_
        refine x_cmp_ne (tgt := 79) hx hb (nI_eq (a := 11) (b := 4) (by omega) (by omega)) dL_does_68 (by decide) (fun c68 => ?_) (fun c68 => ?_)
        · refine lv_iload_n hx hb dL_does_79 rfl (lv_at hl 1 rfl) ?_
          refine lv_iconst (v := nI 5) hx hb dL_does_80 (by decide) ?_
          refine x_cmp_ne (tgt := 99) hx hb (nI_eq (a := 11) (b := 5) (by omega) (by omega)) dL_does_81 (by decide) (fun c81 => ?_) (fun c81 => ?_)
          · refine lv_iload_n hx hb dL_does_99 rfl (lv_at hl 1 rfl) ?_
            refine lv_bipush (v := nI 6) hx hb dL_does_100 (by decide) ?_
            refine x_cmp_ne (tgt := 116) hx hb (nI_eq (a := 11) (b := 6) (by omega) (by omega)) dL_does_102 (by decide) (fun c102 => ?_) (fun c102 => ?_)
            · refine lv_iload_n hx hb dL_does_116 rfl (lv_at hl 1 rfl) ?_
              refine lv_bipush (v := nI 7) hx hb dL_does_117 (by decide) ?_
              refine x_cmp_ne (tgt := 131) hx hb (nI_eq (a := 11) (b := 7) (by omega) (by omega)) dL_does_119 (by decide) (fun c119 => ?_) (fun c119 => ?_)
              · refine lv_iload_n hx hb dL_does_131 rfl (lv_at hl 1 rfl) ?_
                refine lv_bipush (v := nI 8) hx hb dL_does_132 (by decide) ?_
                refine x_cmp_ne (tgt := 145) hx hb (nI_eq (a := 11) (b := 8) (by omega) (by omega)) dL_does_134 (by decide) (fun c134 => ?_) (fun c134 => ?_)
                · refine lv_iload_n hx hb dL_does_145 rfl (lv_at hl 1 rfl) ?_
                  refine lv_bipush (v := nI 9) hx hb dL_does_146 (by decide) ?_
                  refine x_cmp_ne (tgt := 160) hx hb (nI_eq (a := 11) (b := 9) (by omega) (by omega)) dL_does_148 (by decide) (fun c148 => ?_) (fun c148 => ?_)
                  · refine lv_iload_n hx hb dL_does_160 rfl (lv_at hl 1 rfl) ?_
                    refine lv_bipush (v := nI 10) hx hb dL_does_161 (by decide) ?_
                    refine x_cmp_ne (tgt := 175) hx hb (nI_eq (a := 11) (b := 10) (by omega) (by omega)) dL_does_163 (by decide) (fun c163 => ?_) (fun c163 => ?_)
                    · refine lv_iload_n hx hb dL_does_175 rfl (lv_at hl 1 rfl) ?_
                      refine lv_bipush (v := nI 11) hx hb dL_does_176 (by decide) ?_
                      refine x_cmp_ne (tgt := 199) hx hb (nI_eq (a := 11) (b := 11) (by omega) (by omega)) dL_does_178 (by decide) (fun c178 => ?_) (fun c178 => ?_)
                      · exfalso; omega
                      · refine lv_aload_n hx hb dL_does_181 rfl (lv_at hl 0 rfl) ?_
                        refine lv_iload_n hx hb dL_does_182 rfl (lv_at hl 2 rfl) ?_
                        refine lv_iload_n hx hb dL_does_183 rfl (lv_at hl 3 rfl) ?_
                        refine lv_iconst (v := nI 1) hx hb dL_does_184 (by decide) ?_
                        refine x_cmp_ne (tgt := 192) hx hb (nI_eq (a := 0) (b := 1) (by omega) (by omega)) dL_does_185 (by decide) (fun c185 => ?_) (fun c185 => ?_)
                        · refine lv_iconst (v := nI 0) hx hb dL_does_192 (by decide) ?_
                          refine x_callCi (w2 := fun (u : Unit) => [(x0, .inr (4, [.ref pb, .ref pa, .ref sa, .ref g0, .int (nI lim)])), (pb, .inr (1, [.ref b1, .int (nI n), .ref b2, .ref b3, .ref b4, .ref b5, .ref b6])), (sa, .inl (cS, 3, .inr (.inr (.inr (.inr (fun j => some (aS j))))))), (aS si, .inr (2, [.ref s1, .ref s2, va_rf pu, .int (nI 1), .int (nI (if (nI 0) = 0 then sl else sl + 1))]))]) (wr := []) (x_runXV (n := 2) ⟨hx, hb, hml, hown, hts⟩ (zX4_goOn l D cI cP cS cL hfl x0 pb pa sa g0 lim b1 b2 b3 b4 b5 b6 n aS si s1 s2 st sl pu sx (nI 0) hsx hst hsl hn9 hs2) gL_does_X4_goOn rfl rfl rfl (by decide +kernel) ⟨by decide, by decide⟩ hN hK hP hD hS hA hE [0, 1, 2, 3] rfl rfl (ci := 4) (q0 := 0) rfl rfl rfl rfl hl.1 (rest := []) (As := [.int sx, .int (nI 0)]) rfl (Nat.le_of_ble_eq_true rfl) dL_does_193 ⟨by decide, by decide⟩) hP hD hS hA [0, 1, 2, 3] [] [0, 1, 2, 3] [0, 1, 2, 3] rfl rfl rfl (by decide) rfl rfl rfl (fun _ => rfl) (fun E ce q9 H locs hEX hP hD hS hce hcv hcl => ?_) (fun r0 u H locs hw hP hD hS => ?_)
                          · have hEX : (E = nIO ∧ ¬ vp_in sx 3) ∨ (E = nIS ∧ vp_in sx 3 ∧ ¬ st = 2) := hEX
                            rcases hEX with ⟨rfl, h9⟩ | ⟨rfl, h9⟩
                            · refine x_catch hown hts hE [] ⟨0, 217, 218, 64⟩ [⟨0, 217, 223, 66⟩, ⟨0, 217, 228, 68⟩] (hT.trans rfl) (by decide) (fun z hz => by cases hz) (by decide) (by decide) kL_does_c64 hce hcv hcl ?_
                              refine lv_astore (lv' := [(7, .ref q9), (0, .ref x0), (1, .int (nI 11)), (2, .int sx), (3, .int (nI 0)), (4, .int y0), (5, .int y1), (6, .int y2)]) hx hb dL_does_218 hl (by decide) rfl (fun ls hl => ?_)
                              refine lv_bipush (v := (-30 : Int32)) hx hb dL_does_220 (by decide) ?_
                              exact vx_ret (x_ret_i hx hb hrt hlk hP hD hS dL_does_222 ⟨by decide, by decide⟩ none (Or.inl ⟨rfl, h9⟩) rfl)
                            · refine x_catch hown hts hE [⟨0, 217, 218, 64⟩, ⟨0, 217, 223, 66⟩] ⟨0, 217, 228, 68⟩ [] (hT.trans rfl) (by decide) (fun z hz => by simp only [List.mem_cons, List.not_mem_nil, or_false] at hz; rcases hz with rfl | rfl <;> first | exact ⟨by decide, _, kL_does_c64, by decide, by decide⟩ | exact ⟨by decide, _, kL_does_c66, by decide, by decide⟩) (by decide) (by decide) kL_does_c68 hce hcv hcl ?_
                              refine lv_astore (lv' := [(7, .ref q9), (0, .ref x0), (1, .int (nI 11)), (2, .int sx), (3, .int (nI 0)), (4, .int y0), (5, .int y1), (6, .int y2)]) hx hb dL_does_228 hl (by decide) rfl (fun ls hl => ?_)
                              refine lv_bipush (v := (-10 : Int32)) hx hb dL_does_230 (by decide) ?_
                              exact vx_ret (x_ret_i hx hb hrt hlk hP hD hS dL_does_232 ⟨by decide, by decide⟩ none (Or.inr (⟨rfl, h9⟩)) rfl)
                          obtain ⟨⟩ := u
                          refine lv_goto (tgt := 217) hx hb dL_does_196 (by decide) ?_
                          exact vx_ret (x_ret_i hx hb hrt hlk hP hD hS dL_does_217 ⟨by decide, by decide⟩ (some ((), r0)) (⟨rfl, hw⟩) rfl)
                        · exfalso; omega
                    · exfalso; omega
                  · exfalso; omega
                · exfalso; omega
              · exfalso; omega
            · exfalso; omega
          · exfalso; omega
        · exfalso; omega
      · exfalso; omega
    · exfalso; omega
  · exfalso; omega

set_option maxHeartbeats 4000000 in
set_option maxRecDepth 100000 in
theorem zD_goOn1 (l : Launch) (D : va_G) (cI cP cS cL : ClassId) (hfl : l.stackTraces = false) (x0 pb pa sa g0 lim : Nat) (b1 b2 b3 b4 b5 b6 n : Nat) (aS : Nat → Nat) (si s1 s2 st sl : Nat) (pu : Option Nat) (sx  : Int32) (y0 y1 y2 : Int32) (hsx : ∀ j, j < 3 → sx = nI j → j = si) (hst : st ≤ 3) (hsl : sl ≤ n) (hn9 : n ≤ 50) (hs2 : st = 2 → sl < n) : xWi l yL_does wsL_does (rmD 8 2 12) D [(cI, .int), (cP, .object RX0), (cS, .object RX2)] [.ref x0, .int (nI 11), .int sx, .int (nI 1), .int y0, .int y1, .int y2] [(x0, .inr (4, [.ref pb, .ref pa, .ref sa, .ref g0, .int (nI lim)])), (pb, .inr (1, [.ref b1, .int (nI n), .ref b2, .ref b3, .ref b4, .ref b5, .ref b6])), (sa, .inl (cS, 3, .inr (.inr (.inr (.inr (fun j => some (aS j))))))), (aS si, .inr (2, [.ref s1, .ref s2, va_rf pu, .int (nI st), .int (nI sl)]))] (fun (r : Int32) (u : Option ((Unit) × Int32)) => match u with | some (_, r0) => r = r0 ∧ ((sx = nI si ∧ si < 3) ∧ st = 2 ∧ r0 = nI (if (nI 1) = 0 then sl else sl + 1)) | none => (r = (-30) ∧ (¬ vp_in sx 3)) ∨ (r = (-10) ∧ (vp_in sx 3 ∧ ¬ st = 2))) (fun (u : Option ((Unit) × Int32)) => match u with | some (_, r0) => [(x0, .inr (4, [.ref pb, .ref pa, .ref sa, .ref g0, .int (nI lim)])), (pb, .inr (1, [.ref b1, .int (nI n), .ref b2, .ref b3, .ref b4, .ref b5, .ref b6])), (sa, .inl (cS, 3, .inr (.inr (.inr (.inr (fun j => some (aS j))))))), (aS si, .inr (2, [.ref s1, .ref s2, va_rf pu, .int (nI 1), .int (nI (if (nI 1) = 0 then sl else sl + 1))]))] | none => [(x0, .inr (4, [.ref pb, .ref pa, .ref sa, .ref g0, .int (nI lim)])), (pb, .inr (1, [.ref b1, .int (nI n), .ref b2, .ref b3, .ref b4, .ref b5, .ref b6])), (sa, .inl (cS, 3, .inr (.inr (.inr (.inr (fun j => some (aS j))))))), (aS si, .inr (2, [.ref s1, .ref s2, va_rf pu, .int (nI st), .int (nI sl)]))]) 2 12 := by
  refine xe_W (cc := cL_does) (maxL := 8) (ret := some .int) (hh := [(0, 217, 218, 64), (0, 217, 223, 66), (0, 217, 228, 68)]) (by decide) rfl (Nat.le_of_ble_eq_true rfl) ?_
  intro zp ze s zm below meth zc A ls B hT hE
  obtain ⟨hx, hb, hml, hrt, hts, hown, hnm, hlk, hK, hP, hD, hA, hS, hN, hl⟩ := B
  have hown : s.vm.findClass RL = some zm.cls := hown
  have hl : lv_has ls 8 [(0, .ref x0), (1, .int (nI 11)), (2, .int sx), (3, .int (nI 1)), (4, .int y0), (5, .int y1), (6, .int y2)] := hl
  have hA : ∀ q, s.heap.size ≤ q → A q := hA
  refine lv_iload_n hx hb dL_does_0 rfl (lv_at hl 1 rfl) ?_
  refine x_if_ne (tgt := 27) hx hb (nI_z (by omega)) dL_does_1 (by decide) (fun c1 => ?_) (fun c1 => ?_)
  rotate_left
  · exact absurd c1 (by omega)
  refine lv_iload_n hx hb dL_does_27 rfl (lv_at hl 1 rfl) ?_
  refine lv_iconst (v := nI 1) hx hb dL_does_28 (by decide) ?_
  refine x_cmp_ne (tgt := 41) hx hb (nI_eq (a := 11) (b := 1) (by omega) (by omega)) dL_does_29 (by decide) (fun c29 => ?_) (fun c29 => ?_)
  · refine lv_iload_n hx hb dL_does_41 rfl (lv_at hl 1 rfl) ?_
    refine lv_iconst (v := nI 2) hx hb dL_does_42 (by decide) ?_
    refine x_cmp_ne (tgt := 54) hx hb (nI_eq (a := 11) (b := 2) (by omega) (by omega)) dL_does_43 (by decide) (fun c43 => ?_) (fun c43 => ?_)
    · refine lv_iload_n hx hb dL_does_54 rfl (lv_at hl 1 rfl) ?_
      refine lv_iconst (v := nI 3) hx hb dL_does_55 (by decide) ?_
      refine x_cmp_ne (tgt := 66) hx hb (nI_eq (a := 11) (b := 3) (by omega) (by omega)) dL_does_56 (by decide) (fun c56 => ?_) (fun c56 => ?_)
      · refine lv_iload_n hx hb dL_does_66 rfl (lv_at hl 1 rfl) ?_
        refine lv_iconst (v := nI 4) hx hb dL_does_67 (by decide) ?_
        refine x_cmp_ne (tgt := 79) hx hb (nI_eq (a := 11) (b := 4) (by omega) (by omega)) dL_does_68 (by decide) (fun c68 => ?_) (fun c68 => ?_)
        · refine lv_iload_n hx hb dL_does_79 rfl (lv_at hl 1 rfl) ?_
          refine lv_iconst (v := nI 5) hx hb dL_does_80 (by decide) ?_
          refine x_cmp_ne (tgt := 99) hx hb (nI_eq (a := 11) (b := 5) (by omega) (by omega)) dL_does_81 (by decide) (fun c81 => ?_) (fun c81 => ?_)
          · refine lv_iload_n hx hb dL_does_99 rfl (lv_at hl 1 rfl) ?_
            refine lv_bipush (v := nI 6) hx hb dL_does_100 (by decide) ?_
            refine x_cmp_ne (tgt := 116) hx hb (nI_eq (a := 11) (b := 6) (by omega) (by omega)) dL_does_102 (by decide) (fun c102 => ?_) (fun c102 => ?_)
            · refine lv_iload_n hx hb dL_does_116 rfl (lv_at hl 1 rfl) ?_
              refine lv_bipush (v := nI 7) hx hb dL_does_117 (by decide) ?_
              refine x_cmp_ne (tgt := 131) hx hb (nI_eq (a := 11) (b := 7) (by omega) (by omega)) dL_does_119 (by decide) (fun c119 => ?_) (fun c119 => ?_)
              · refine lv_iload_n hx hb dL_does_131 rfl (lv_at hl 1 rfl) ?_
                refine lv_bipush (v := nI 8) hx hb dL_does_132 (by decide) ?_
                refine x_cmp_ne (tgt := 145) hx hb (nI_eq (a := 11) (b := 8) (by omega) (by omega)) dL_does_134 (by decide) (fun c134 => ?_) (fun c134 => ?_)
                · refine lv_iload_n hx hb dL_does_145 rfl (lv_at hl 1 rfl) ?_
                  refine lv_bipush (v := nI 9) hx hb dL_does_146 (by decide) ?_
                  refine x_cmp_ne (tgt := 160) hx hb (nI_eq (a := 11) (b := 9) (by omega) (by omega)) dL_does_148 (by decide) (fun c148 => ?_) (fun c148 => ?_)
                  · refine lv_iload_n hx hb dL_does_160 rfl (lv_at hl 1 rfl) ?_
                    refine lv_bipush (v := nI 10) hx hb dL_does_161 (by decide) ?_
                    refine x_cmp_ne (tgt := 175) hx hb (nI_eq (a := 11) (b := 10) (by omega) (by omega)) dL_does_163 (by decide) (fun c163 => ?_) (fun c163 => ?_)
                    · refine lv_iload_n hx hb dL_does_175 rfl (lv_at hl 1 rfl) ?_
                      refine lv_bipush (v := nI 11) hx hb dL_does_176 (by decide) ?_
                      refine x_cmp_ne (tgt := 199) hx hb (nI_eq (a := 11) (b := 11) (by omega) (by omega)) dL_does_178 (by decide) (fun c178 => ?_) (fun c178 => ?_)
                      · exfalso; omega
                      · refine lv_aload_n hx hb dL_does_181 rfl (lv_at hl 0 rfl) ?_
                        refine lv_iload_n hx hb dL_does_182 rfl (lv_at hl 2 rfl) ?_
                        refine lv_iload_n hx hb dL_does_183 rfl (lv_at hl 3 rfl) ?_
                        refine lv_iconst (v := nI 1) hx hb dL_does_184 (by decide) ?_
                        refine x_cmp_ne (tgt := 192) hx hb (nI_eq (a := 1) (b := 1) (by omega) (by omega)) dL_does_185 (by decide) (fun c185 => ?_) (fun c185 => ?_)
                        · exfalso; omega
                        · refine lv_iconst (v := nI 1) hx hb dL_does_188 (by decide) ?_
                          refine lv_goto (tgt := 193) hx hb dL_does_189 (by decide) ?_
                          refine x_callCi (w2 := fun (u : Unit) => [(x0, .inr (4, [.ref pb, .ref pa, .ref sa, .ref g0, .int (nI lim)])), (pb, .inr (1, [.ref b1, .int (nI n), .ref b2, .ref b3, .ref b4, .ref b5, .ref b6])), (sa, .inl (cS, 3, .inr (.inr (.inr (.inr (fun j => some (aS j))))))), (aS si, .inr (2, [.ref s1, .ref s2, va_rf pu, .int (nI 1), .int (nI (if (nI 1) = 0 then sl else sl + 1))]))]) (wr := []) (x_runXV (n := 2) ⟨hx, hb, hml, hown, hts⟩ (zX4_goOn l D cI cP cS cL hfl x0 pb pa sa g0 lim b1 b2 b3 b4 b5 b6 n aS si s1 s2 st sl pu sx (nI 1) hsx hst hsl hn9 hs2) gL_does_X4_goOn rfl rfl rfl (by decide +kernel) ⟨by decide, by decide⟩ hN hK hP hD hS hA hE [0, 1, 2, 3] rfl rfl (ci := 4) (q0 := 0) rfl rfl rfl rfl hl.1 (rest := []) (As := [.int sx, .int (nI 1)]) rfl (Nat.le_of_ble_eq_true rfl) dL_does_193 ⟨by decide, by decide⟩) hP hD hS hA [0, 1, 2, 3] [] [0, 1, 2, 3] [0, 1, 2, 3] rfl rfl rfl (by decide) rfl rfl rfl (fun _ => rfl) (fun E ce q9 H locs hEX hP hD hS hce hcv hcl => ?_) (fun r0 u H locs hw hP hD hS => ?_)
                          · have hEX : (E = nIO ∧ ¬ vp_in sx 3) ∨ (E = nIS ∧ vp_in sx 3 ∧ ¬ st = 2) := hEX
                            rcases hEX with ⟨rfl, h9⟩ | ⟨rfl, h9⟩
                            · refine x_catch hown hts hE [] ⟨0, 217, 218, 64⟩ [⟨0, 217, 223, 66⟩, ⟨0, 217, 228, 68⟩] (hT.trans rfl) (by decide) (fun z hz => by cases hz) (by decide) (by decide) kL_does_c64 hce hcv hcl ?_
                              refine lv_astore (lv' := [(7, .ref q9), (0, .ref x0), (1, .int (nI 11)), (2, .int sx), (3, .int (nI 1)), (4, .int y0), (5, .int y1), (6, .int y2)]) hx hb dL_does_218 hl (by decide) rfl (fun ls hl => ?_)
                              refine lv_bipush (v := (-30 : Int32)) hx hb dL_does_220 (by decide) ?_
                              exact vx_ret (x_ret_i hx hb hrt hlk hP hD hS dL_does_222 ⟨by decide, by decide⟩ none (Or.inl ⟨rfl, h9⟩) rfl)
                            · refine x_catch hown hts hE [⟨0, 217, 218, 64⟩, ⟨0, 217, 223, 66⟩] ⟨0, 217, 228, 68⟩ [] (hT.trans rfl) (by decide) (fun z hz => by simp only [List.mem_cons, List.not_mem_nil, or_false] at hz; rcases hz with rfl | rfl <;> first | exact ⟨by decide, _, kL_does_c64, by decide, by decide⟩ | exact ⟨by decide, _, kL_does_c66, by decide, by decide⟩) (by decide) (by decide) kL_does_c68 hce hcv hcl ?_
                              refine lv_astore (lv' := [(7, .ref q9), (0, .ref x0), (1, .int (nI 11)), (2, .int sx), (3, .int (nI 1)), (4, .int y0), (5, .int y1), (6, .int y2)]) hx hb dL_does_228 hl (by decide) rfl (fun ls hl => ?_)
                              refine lv_bipush (v := (-10 : Int32)) hx hb dL_does_230 (by decide) ?_
                              exact vx_ret (x_ret_i hx hb hrt hlk hP hD hS dL_does_232 ⟨by decide, by decide⟩ none (Or.inr (⟨rfl, h9⟩)) rfl)
                          obtain ⟨⟩ := u
                          refine lv_goto (tgt := 217) hx hb dL_does_196 (by decide) ?_
                          exact vx_ret (x_ret_i hx hb hrt hlk hP hD hS dL_does_217 ⟨by decide, by decide⟩ (some ((), r0)) (⟨rfl, hw⟩) rfl)
                    · exfalso; omega
                  · exfalso; omega
                · exfalso; omega
              · exfalso; omega
            · exfalso; omega
          · exfalso; omega
        · exfalso; omega
      · exfalso; omega
    · exfalso; omega
  · exfalso; omega

set_option maxHeartbeats 4000000 in
set_option maxRecDepth 100000 in
theorem zD_own (l : Launch) (D : va_G) (cI cP cS cL : ClassId) (hfl : l.stackTraces = false) (x0 pb pa sa g0 lim : Nat) (aS : Nat → Nat) (si s1 s2 st sl : Nat) (pu : Option Nat) (sr : Nat → Int32) (sx tx kx nx : Int32) (y0 : Int32) (hsx : ∀ j, j < 3 → sx = nI j → j = si) : xWi l yL_does wsL_does (rmD 9 4 24) D [(cI, .int), (cP, .object RX0), (cS, .object RX2)] [.ref x0, .int (nI 12), .int sx, .int tx, .int kx, .int nx, .int y0] [(x0, .inr (4, [.ref pb, .ref pa, .ref sa, .ref g0, .int (nI lim)])), (sa, .inl (cS, 3, .inr (.inr (.inr (.inr (fun j => some (aS j))))))), (aS si, .inr (2, [.ref s1, .ref s2, va_rf pu, .int (nI st), .int (nI sl)])), (s1, .inl (cI, 24, .inl sr))] (fun (r : Int32) (u : Option ((Nat × Nat) × Int32)) => match u with | some ((tn, kn), r0) => r = cZ r0 ∧ ((sx = nI si ∧ si < 3 ∧ tx = nI tn ∧ tn < 2 ∧ kx = nI kn ∧ kn < 12) ∧ (nx = -1 ∨ vp_in nx 100) ∧ r0 = bI (decide (¬ sr (tn * 12 + kn) = -1))) | none => (r = (-30) ∧ (¬ (vp_in sx 3 ∧ vp_in tx 2 ∧ vp_in kx 12))) ∨ (r = (-20) ∧ ((vp_in sx 3 ∧ vp_in tx 2 ∧ vp_in kx 12) ∧ ¬ (nx = -1 ∨ vp_in nx 100)))) (fun (u : Option ((Nat × Nat) × Int32)) => match u with | some ((tn, kn), r0) => [(x0, .inr (4, [.ref pb, .ref pa, .ref sa, .ref g0, .int (nI lim)])), (sa, .inl (cS, 3, .inr (.inr (.inr (.inr (fun j => some (aS j))))))), (aS si, .inr (2, [.ref s1, .ref s2, va_rf pu, .int (nI st), .int (nI sl)])), (s1, .inl (cI, 24, .inl (upd sr (tn * 12 + kn) (if nx = -1 then -1 else qRow nx nx nx))))] | none => [(x0, .inr (4, [.ref pb, .ref pa, .ref sa, .ref g0, .int (nI lim)])), (sa, .inl (cS, 3, .inr (.inr (.inr (.inr (fun j => some (aS j))))))), (aS si, .inr (2, [.ref s1, .ref s2, va_rf pu, .int (nI st), .int (nI sl)])), (s1, .inl (cI, 24, .inl sr))]) 4 24 := by
  refine xe_W (cc := cL_does) (maxL := 8) (ret := some .int) (hh := [(0, 217, 218, 64), (0, 217, 223, 66), (0, 217, 228, 68)]) (by decide) rfl (Nat.le_of_ble_eq_true rfl) ?_
  intro zp ze s zm below meth zc A ls B hT hE
  obtain ⟨hx, hb, hml, hrt, hts, hown, hnm, hlk, hK, hP, hD, hA, hS, hN, hl⟩ := B
  have hown : s.vm.findClass RL = some zm.cls := hown
  have hl : lv_has ls 8 [(0, .ref x0), (1, .int (nI 12)), (2, .int sx), (3, .int tx), (4, .int kx), (5, .int nx), (6, .int y0)] := hl
  have hA : ∀ q, s.heap.size ≤ q → A q := hA
  refine lv_iload_n hx hb dL_does_0 rfl (lv_at hl 1 rfl) ?_
  refine x_if_ne (tgt := 27) hx hb (nI_z (by omega)) dL_does_1 (by decide) (fun c1 => ?_) (fun c1 => ?_)
  rotate_left
  · exact absurd c1 (by omega)
  refine lv_iload_n hx hb dL_does_27 rfl (lv_at hl 1 rfl) ?_
  refine lv_iconst (v := nI 1) hx hb dL_does_28 (by decide) ?_
  refine x_cmp_ne (tgt := 41) hx hb (nI_eq (a := 12) (b := 1) (by omega) (by omega)) dL_does_29 (by decide) (fun c29 => ?_) (fun c29 => ?_)
  · refine lv_iload_n hx hb dL_does_41 rfl (lv_at hl 1 rfl) ?_
    refine lv_iconst (v := nI 2) hx hb dL_does_42 (by decide) ?_
    refine x_cmp_ne (tgt := 54) hx hb (nI_eq (a := 12) (b := 2) (by omega) (by omega)) dL_does_43 (by decide) (fun c43 => ?_) (fun c43 => ?_)
    · refine lv_iload_n hx hb dL_does_54 rfl (lv_at hl 1 rfl) ?_
      refine lv_iconst (v := nI 3) hx hb dL_does_55 (by decide) ?_
      refine x_cmp_ne (tgt := 66) hx hb (nI_eq (a := 12) (b := 3) (by omega) (by omega)) dL_does_56 (by decide) (fun c56 => ?_) (fun c56 => ?_)
      · refine lv_iload_n hx hb dL_does_66 rfl (lv_at hl 1 rfl) ?_
        refine lv_iconst (v := nI 4) hx hb dL_does_67 (by decide) ?_
        refine x_cmp_ne (tgt := 79) hx hb (nI_eq (a := 12) (b := 4) (by omega) (by omega)) dL_does_68 (by decide) (fun c68 => ?_) (fun c68 => ?_)
        · refine lv_iload_n hx hb dL_does_79 rfl (lv_at hl 1 rfl) ?_
          refine lv_iconst (v := nI 5) hx hb dL_does_80 (by decide) ?_
          refine x_cmp_ne (tgt := 99) hx hb (nI_eq (a := 12) (b := 5) (by omega) (by omega)) dL_does_81 (by decide) (fun c81 => ?_) (fun c81 => ?_)
          · refine lv_iload_n hx hb dL_does_99 rfl (lv_at hl 1 rfl) ?_
            refine lv_bipush (v := nI 6) hx hb dL_does_100 (by decide) ?_
            refine x_cmp_ne (tgt := 116) hx hb (nI_eq (a := 12) (b := 6) (by omega) (by omega)) dL_does_102 (by decide) (fun c102 => ?_) (fun c102 => ?_)
            · refine lv_iload_n hx hb dL_does_116 rfl (lv_at hl 1 rfl) ?_
              refine lv_bipush (v := nI 7) hx hb dL_does_117 (by decide) ?_
              refine x_cmp_ne (tgt := 131) hx hb (nI_eq (a := 12) (b := 7) (by omega) (by omega)) dL_does_119 (by decide) (fun c119 => ?_) (fun c119 => ?_)
              · refine lv_iload_n hx hb dL_does_131 rfl (lv_at hl 1 rfl) ?_
                refine lv_bipush (v := nI 8) hx hb dL_does_132 (by decide) ?_
                refine x_cmp_ne (tgt := 145) hx hb (nI_eq (a := 12) (b := 8) (by omega) (by omega)) dL_does_134 (by decide) (fun c134 => ?_) (fun c134 => ?_)
                · refine lv_iload_n hx hb dL_does_145 rfl (lv_at hl 1 rfl) ?_
                  refine lv_bipush (v := nI 9) hx hb dL_does_146 (by decide) ?_
                  refine x_cmp_ne (tgt := 160) hx hb (nI_eq (a := 12) (b := 9) (by omega) (by omega)) dL_does_148 (by decide) (fun c148 => ?_) (fun c148 => ?_)
                  · refine lv_iload_n hx hb dL_does_160 rfl (lv_at hl 1 rfl) ?_
                    refine lv_bipush (v := nI 10) hx hb dL_does_161 (by decide) ?_
                    refine x_cmp_ne (tgt := 175) hx hb (nI_eq (a := 12) (b := 10) (by omega) (by omega)) dL_does_163 (by decide) (fun c163 => ?_) (fun c163 => ?_)
                    · refine lv_iload_n hx hb dL_does_175 rfl (lv_at hl 1 rfl) ?_
                      refine lv_bipush (v := nI 11) hx hb dL_does_176 (by decide) ?_
                      refine x_cmp_ne (tgt := 199) hx hb (nI_eq (a := 12) (b := 11) (by omega) (by omega)) dL_does_178 (by decide) (fun c178 => ?_) (fun c178 => ?_)
                      · refine lv_aload_n hx hb dL_does_199 rfl (lv_at hl 0 rfl) ?_
                        refine lv_iload_n hx hb dL_does_200 rfl (lv_at hl 2 rfl) ?_
                        refine lv_iload_n hx hb dL_does_201 rfl (lv_at hl 3 rfl) ?_
                        refine lv_iload hx hb dL_does_202 (lv_at hl 4 rfl) ?_
                        refine lv_iload hx hb dL_does_204 (lv_at hl 5 rfl) ?_
                        refine x_callCi (w2 := fun (u : Nat × Nat) => match u with | (tn, kn) => [(x0, .inr (4, [.ref pb, .ref pa, .ref sa, .ref g0, .int (nI lim)])), (sa, .inl (cS, 3, .inr (.inr (.inr (.inr (fun j => some (aS j))))))), (aS si, .inr (2, [.ref s1, .ref s2, va_rf pu, .int (nI st), .int (nI sl)])), (s1, .inl (cI, 24, .inl (upd sr (tn * 12 + kn) (if nx = -1 then -1 else qRow nx nx nx))))]) (wr := []) (x_runXV (n := 4) ⟨hx, hb, hml, hown, hts⟩ (zX4_own l D cI cP cS cL hfl x0 pb pa sa g0 lim aS si s1 s2 st sl pu sr sx tx kx nx hsx) gL_does_X4_own rfl rfl rfl (by decide +kernel) ⟨by decide, by decide⟩ hN hK hP hD hS hA hE [0, 1, 2, 3] rfl rfl (ci := 4) (q0 := 0) rfl rfl rfl rfl hl.1 (rest := []) (As := [.int sx, .int tx, .int kx, .int nx]) rfl (Nat.le_of_ble_eq_true rfl) dL_does_206 ⟨by decide, by decide⟩) hP hD hS hA [0, 1, 2, 3] [] [0, 1, 2, 3] [0, 1, 2, 3] rfl rfl rfl (by decide) rfl rfl rfl (fun _ => rfl) (fun E ce q9 H locs hEX hP hD hS hce hcv hcl => ?_) (fun r0 u H locs hw hP hD hS => ?_)
                        · have hEX : (E = nIO ∧ ¬ (vp_in sx 3 ∧ vp_in tx 2 ∧ vp_in kx 12)) ∨ (E = nIA ∧ (vp_in sx 3 ∧ vp_in tx 2 ∧ vp_in kx 12) ∧ ¬ (nx = -1 ∨ vp_in nx 100)) := hEX
                          rcases hEX with ⟨rfl, h9⟩ | ⟨rfl, h9⟩
                          · refine x_catch hown hts hE [] ⟨0, 217, 218, 64⟩ [⟨0, 217, 223, 66⟩, ⟨0, 217, 228, 68⟩] (hT.trans rfl) (by decide) (fun z hz => by cases hz) (by decide) (by decide) kL_does_c64 hce hcv hcl ?_
                            refine lv_astore (lv' := [(7, .ref q9), (0, .ref x0), (1, .int (nI 12)), (2, .int sx), (3, .int tx), (4, .int kx), (5, .int nx), (6, .int y0)]) hx hb dL_does_218 hl (by decide) rfl (fun ls hl => ?_)
                            refine lv_bipush (v := (-30 : Int32)) hx hb dL_does_220 (by decide) ?_
                            exact vx_ret (x_ret_i hx hb hrt hlk hP hD hS dL_does_222 ⟨by decide, by decide⟩ none (Or.inl ⟨rfl, h9⟩) rfl)
                          · refine x_catch hown hts hE [⟨0, 217, 218, 64⟩] ⟨0, 217, 223, 66⟩ [⟨0, 217, 228, 68⟩] (hT.trans rfl) (by decide) (fun z hz => by simp only [List.mem_cons, List.not_mem_nil, or_false] at hz; subst hz <;> first | exact ⟨by decide, _, kL_does_c64, by decide, by decide⟩) (by decide) (by decide) kL_does_c66 hce hcv hcl ?_
                            refine lv_astore (lv' := [(7, .ref q9), (0, .ref x0), (1, .int (nI 12)), (2, .int sx), (3, .int tx), (4, .int kx), (5, .int nx), (6, .int y0)]) hx hb dL_does_223 hl (by decide) rfl (fun ls hl => ?_)
                            refine lv_bipush (v := (-20 : Int32)) hx hb dL_does_225 (by decide) ?_
                            exact vx_ret (x_ret_i hx hb hrt hlk hP hD hS dL_does_227 ⟨by decide, by decide⟩ none (Or.inr (⟨rfl, h9⟩)) rfl)
                        obtain ⟨tn, kn⟩ := u
                        have hP : va_P D vwCl [(x0, .inr (4, [.ref pb, .ref pa, .ref sa, .ref g0, .int (nI lim)])), (sa, .inl (cS, 3, .inr (.inr (.inr (.inr (fun j => some (aS j))))))), (aS si, .inr (2, [.ref s1, .ref s2, va_rf pu, .int (nI st), .int (nI sl)])), (s1, .inl (cI, 24, .inl (upd sr (tn * 12 + kn) (if nx = -1 then -1 else qRow nx nx nx))))] H := hP
                        have hD : va_D A [(x0, .inr (4, [.ref pb, .ref pa, .ref sa, .ref g0, .int (nI lim)])), (sa, .inl (cS, 3, .inr (.inr (.inr (.inr (fun j => some (aS j))))))), (aS si, .inr (2, [.ref s1, .ref s2, va_rf pu, .int (nI st), .int (nI sl)])), (s1, .inl (cI, 24, .inl (upd sr (tn * 12 + kn) (if nx = -1 then -1 else qRow nx nx nx))))] := hD
                        refine x_if_eq (tgt := 216) hx hb (Iff.rfl) dL_does_209 (by decide) (fun c209 => ?_) (fun c209 => ?_)
                        · refine lv_iconst (v := nI 0) hx hb dL_does_216 (by decide) ?_
                          exact vx_ret (x_ret_i hx hb hrt hlk hP hD hS dL_does_217 ⟨by decide, by decide⟩ (some ((tn, kn), r0)) (⟨(cZ_y c209).symm, hw⟩) rfl)
                        · refine lv_iconst (v := nI 1) hx hb dL_does_212 (by decide) ?_
                          refine lv_goto (tgt := 217) hx hb dL_does_213 (by decide) ?_
                          exact vx_ret (x_ret_i hx hb hrt hlk hP hD hS dL_does_217 ⟨by decide, by decide⟩ (some ((tn, kn), r0)) (⟨(cZ_n c209).symm, hw⟩) rfl)
                      · exfalso; omega
                    · exfalso; omega
                  · exfalso; omega
                · exfalso; omega
              · exfalso; omega
            · exfalso; omega
          · exfalso; omega
        · exfalso; omega
      · exfalso; omega
    · exfalso; omega
  · exfalso; omega
