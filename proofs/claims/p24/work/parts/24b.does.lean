/-! takes; does and asks for each written 'what': what comes back, caught throws as their numbers. -/
def cZ (r : Int32) : Int32 := if r = 0 then nI 0 else nI 1
theorem cZ_y {r : Int32} (h : r = 0) : cZ r = nI 0 := if_pos h
theorem cZ_n {r : Int32} (h : ¬ r = 0) : cZ r = nI 1 := if_neg h
theorem cZ_b (b : Bool) : cZ (bI b) = bI b := by cases b <;> rfl
set_option maxHeartbeats 4000000 in
set_option maxRecDepth 100000 in
theorem zL_takes (l : Launch) (D : va_G) (cI cP cS cL : ClassId) (hfl : l.stackTraces = false) (x0 pb pa sa g0 lim : Nat) (b1 b2 b3 b4 b5 b6 n cn : Nat) (rows cc ct ck nr : Nat → Int32) (tx kx : Int32) (hn9 : n ≤ 50) (hcc : cc n = nI cn) (hcn : cn ≤ 12) : xXi l yL_takes wsL_takes (rmD 9 4 24) D [(cI, .int), (cP, .object RX0), (cS, .object RX2)] [.ref x0, .int tx, .int kx] [(x0, .inr (4, [.ref pb, .ref pa, .ref sa, .ref g0, .int (nI lim)])), (pb, .inr (1, [.ref b1, .int (nI n), .ref b2, .ref b3, .ref b4, .ref b5, .ref b6])), (b1, .inl (cI, 24, .inl rows)), (b2, .inl (cI, 51, .inl cc)), (b3, .inl (cI, 612, .inl ct)), (b4, .inl (cI, 612, .inl ck)), (b5, .inl (cI, 612, .inl nr))] (fun (r : Int32) (u : Nat × Nat) => match u with | (tn, kn) => (r = nI 0 ∧ (tx = nI tn ∧ tn < 2 ∧ kx = nI kn ∧ kn < 12 ∧ cn < 12 ∧ ¬ rows (tn * 12 + kn) = -1))) (fun (u : Nat × Nat) => match u with | (tn, kn) => [(x0, .inr (4, [.ref pb, .ref pa, .ref sa, .ref g0, .int (nI lim)])), (pb, .inr (1, [.ref b1, .int (nI n), .ref b2, .ref b3, .ref b4, .ref b5, .ref b6])), (b1, .inl (cI, 24, .inl (upd rows (tn * 12 + kn) (-1)))), (b2, .inl (cI, 51, .inl (upd cc n (nI (cn + 1))))), (b3, .inl (cI, 612, .inl (upd ct (n * 12 + cn) (nI tn)))), (b4, .inl (cI, 612, .inl (upd ck (n * 12 + cn) (nI kn)))), (b5, .inl (cI, 612, .inl (upd nr (n * 12 + cn) (-1))))]) (fun E => (E = nIO ∧ ¬ (vp_in tx 2 ∧ vp_in kx 12)) ∨ (E = nIS ∧ ∃ tn kn, tx = nI tn ∧ tn < 2 ∧ kx = nI kn ∧ kn < 12 ∧ (cn = 12 ∨ rows (tn * 12 + kn) = -1))) 4 24 := by
  refine xe_Xi (cc := cL_takes) (maxL := 3) (ret := (some .int)) (by decide) rfl (Nat.le_of_ble_eq_true rfl) ?_
  intro zp ze s zm below meth zc A ls B htab hE
  obtain ⟨hx, hb, hml, hrt, hts, hown, hnm, hlk, hK, hP, hD, hA, hS, hN, hl⟩ := B
  have hown : s.vm.findClass RL = some zm.cls := hown
  have hl : lv_has ls 3 [(0, .ref x0), (1, .int tx), (2, .int kx)] := hl
  have hA : ∀ q, s.heap.size ≤ q → A q := hA
  refine lv_aload_n hx hb dL_takes_0 rfl (lv_at hl 0 rfl) ?_
  refine lv_iload_n hx hb dL_takes_1 rfl (lv_at hl 1 rfl) ?_
  refine lv_iload_n hx hb dL_takes_2 rfl (lv_at hl 2 rfl) ?_
  refine x_callXv (w2 := fun (u : Nat × Nat) => match u with | (tn, kn) => [(x0, .inr (4, [.ref pb, .ref pa, .ref sa, .ref g0, .int (nI lim)])), (pb, .inr (1, [.ref b1, .int (nI n), .ref b2, .ref b3, .ref b4, .ref b5, .ref b6])), (b1, .inl (cI, 24, .inl (upd rows (tn * 12 + kn) (-1)))), (b2, .inl (cI, 51, .inl (upd cc n (nI (cn + 1))))), (b3, .inl (cI, 612, .inl (upd ct (n * 12 + cn) (nI tn)))), (b4, .inl (cI, 612, .inl (upd ck (n * 12 + cn) (nI kn)))), (b5, .inl (cI, 612, .inl (upd nr (n * 12 + cn) (-1))))]) (wr := []) (x_runXV (n := 2) ⟨hx, hb, hml, hown, hts⟩ (zX4_take l D cI cP cS cL hfl x0 pb pa sa g0 lim b1 b2 b3 b4 b5 b6 n cn rows cc ct ck nr tx kx hn9 hcc hcn) gL_takes_X4_take rfl rfl rfl (by decide +kernel) ⟨by decide, by decide⟩ hN hK hP hD hS hA hE [0, 1, 2, 3, 4, 5, 6] rfl rfl (ci := 4) (q0 := 0) rfl rfl rfl rfl hl.1 (rest := []) (As := [.int tx, .int kx]) rfl (Nat.le_of_ble_eq_true rfl) dL_takes_3 ⟨by decide, by decide⟩) htab hlk (fun _ h => h) ⟨by decide, by decide⟩ hP hD hS hA [0, 1, 2, 3, 4, 5, 6] [] [0, 1, 2, 3, 4, 5, 6] [0, 1, 2, 3, 4, 5, 6] rfl rfl rfl (by decide) rfl rfl rfl (fun _ => rfl) (fun u H locs hw hP hD hS => ?_)
  obtain ⟨tn, kn⟩ := u
  have hP : va_P D vwCl [(x0, .inr (4, [.ref pb, .ref pa, .ref sa, .ref g0, .int (nI lim)])), (pb, .inr (1, [.ref b1, .int (nI n), .ref b2, .ref b3, .ref b4, .ref b5, .ref b6])), (b1, .inl (cI, 24, .inl (upd rows (tn * 12 + kn) (-1)))), (b2, .inl (cI, 51, .inl (upd cc n (nI (cn + 1))))), (b3, .inl (cI, 612, .inl (upd ct (n * 12 + cn) (nI tn)))), (b4, .inl (cI, 612, .inl (upd ck (n * 12 + cn) (nI kn)))), (b5, .inl (cI, 612, .inl (upd nr (n * 12 + cn) (-1))))] H := hP
  have hD : va_D A [(x0, .inr (4, [.ref pb, .ref pa, .ref sa, .ref g0, .int (nI lim)])), (pb, .inr (1, [.ref b1, .int (nI n), .ref b2, .ref b3, .ref b4, .ref b5, .ref b6])), (b1, .inl (cI, 24, .inl (upd rows (tn * 12 + kn) (-1)))), (b2, .inl (cI, 51, .inl (upd cc n (nI (cn + 1))))), (b3, .inl (cI, 612, .inl (upd ct (n * 12 + cn) (nI tn)))), (b4, .inl (cI, 612, .inl (upd ck (n * 12 + cn) (nI kn)))), (b5, .inl (cI, 612, .inl (upd nr (n * 12 + cn) (-1))))] := hD
  refine lv_iconst (v := nI 0) hx hb dL_takes_6 (by decide) ?_
  exact vx_ret (x_ret_i hx hb hrt hlk hP hD hS dL_takes_7 ⟨by decide, by decide⟩ (tn, kn) ⟨rfl, hw⟩ rfl)
set_option maxRecDepth 20000 in
theorem kL_does_c64 : Cond.classLink RL 64 "java/lang/IndexOutOfBoundsException" ∈ wsL_does := by decide +kernel
set_option maxRecDepth 20000 in
theorem kL_does_c66 : Cond.classLink RL 66 "java/lang/IllegalArgumentException" ∈ wsL_does := by decide +kernel
set_option maxRecDepth 20000 in
theorem kL_does_c68 : Cond.classLink RL 68 "java/lang/IllegalStateException" ∈ wsL_does := by decide +kernel
set_option maxHeartbeats 4000000 in
set_option maxRecDepth 100000 in
theorem zD_put (l : Launch) (D : va_G) (cI cP cS cL : ClassId) (hfl : l.stackTraces = false) (x0 pb pa sa g0 lim : Nat) (b1 b2 b3 b4 b5 b6 n cn : Nat) (rows cc ct ck nr : Nat → Int32) (tx kx a bb cx : Int32) (hn9 : n ≤ 50) (hcc : cc n = nI cn) (hcn : cn ≤ 12) : xWi l yL_does wsL_does (rmD 9 6 36) D [(cI, .int), (cP, .object RX0), (cS, .object RX2)] [.ref x0, .int (nI 0), .int tx, .int kx, .int a, .int bb, .int cx] [(x0, .inr (4, [.ref pb, .ref pa, .ref sa, .ref g0, .int (nI lim)])), (pb, .inr (1, [.ref b1, .int (nI n), .ref b2, .ref b3, .ref b4, .ref b5, .ref b6])), (b1, .inl (cI, 24, .inl rows)), (b2, .inl (cI, 51, .inl cc)), (b3, .inl (cI, 612, .inl ct)), (b4, .inl (cI, 612, .inl ck)), (b5, .inl (cI, 612, .inl nr))] (fun (r : Int32) (u : Option ((Nat × Nat) × Int32)) => match u with | some ((tn, kn), r0) => r = cZ r0 ∧ (tx = nI tn ∧ tn < 2 ∧ kx = nI kn ∧ kn < 12 ∧ (vp_in a 100 ∧ vp_in bb 100 ∧ vp_in cx 100) ∧ cn < 12 ∧ r0 = bI (decide (rows (tn * 12 + kn) = -1))) | none => (r = (-30) ∧ (¬ (vp_in tx 2 ∧ vp_in kx 12))) ∨ (r = (-20) ∧ ((vp_in tx 2 ∧ vp_in kx 12) ∧ ¬ (vp_in a 100 ∧ vp_in bb 100 ∧ vp_in cx 100))) ∨ (r = (-10) ∧ ((vp_in tx 2 ∧ vp_in kx 12) ∧ (vp_in a 100 ∧ vp_in bb 100 ∧ vp_in cx 100) ∧ cn = 12))) (fun (u : Option ((Nat × Nat) × Int32)) => match u with | some ((tn, kn), r0) => [(x0, .inr (4, [.ref pb, .ref pa, .ref sa, .ref g0, .int (nI lim)])), (pb, .inr (1, [.ref b1, .int (nI n), .ref b2, .ref b3, .ref b4, .ref b5, .ref b6])), (b1, .inl (cI, 24, .inl (upd rows (tn * 12 + kn) (qRow a bb cx)))), (b2, .inl (cI, 51, .inl (upd cc n (nI (cn + 1))))), (b3, .inl (cI, 612, .inl (upd ct (n * 12 + cn) (nI tn)))), (b4, .inl (cI, 612, .inl (upd ck (n * 12 + cn) (nI kn)))), (b5, .inl (cI, 612, .inl (upd nr (n * 12 + cn) (qRow a bb cx))))] | none => [(x0, .inr (4, [.ref pb, .ref pa, .ref sa, .ref g0, .int (nI lim)])), (pb, .inr (1, [.ref b1, .int (nI n), .ref b2, .ref b3, .ref b4, .ref b5, .ref b6])), (b1, .inl (cI, 24, .inl rows)), (b2, .inl (cI, 51, .inl cc)), (b3, .inl (cI, 612, .inl ct)), (b4, .inl (cI, 612, .inl ck)), (b5, .inl (cI, 612, .inl nr))]) 6 36 := by
  refine xe_W (cc := cL_does) (maxL := 8) (ret := some .int) (hh := [(0, 217, 218, 64), (0, 217, 223, 66), (0, 217, 228, 68)]) (by decide) rfl (Nat.le_of_ble_eq_true rfl) ?_
  intro zp ze s zm below meth zc A ls B hT hE
  obtain ⟨hx, hb, hml, hrt, hts, hown, hnm, hlk, hK, hP, hD, hA, hS, hN, hl⟩ := B
  have hown : s.vm.findClass RL = some zm.cls := hown
  have hl : lv_has ls 8 [(0, .ref x0), (1, .int (nI 0)), (2, .int tx), (3, .int kx), (4, .int a), (5, .int bb), (6, .int cx)] := hl
  have hA : ∀ q, s.heap.size ≤ q → A q := hA
  refine lv_iload_n hx hb dL_does_0 rfl (lv_at hl 1 rfl) ?_
  refine x_if_ne (tgt := 27) hx hb (nI_z (by omega)) dL_does_1 (by decide) (fun c1 => ?_) (fun c1 => ?_)
  · exact absurd c1 (by omega)
  refine lv_aload_n hx hb dL_does_4 rfl (lv_at hl 0 rfl) ?_
  refine lv_iload_n hx hb dL_does_5 rfl (lv_at hl 2 rfl) ?_
  refine lv_iload_n hx hb dL_does_6 rfl (lv_at hl 3 rfl) ?_
  refine lv_iload hx hb dL_does_7 (lv_at hl 4 rfl) ?_
  refine lv_iload hx hb dL_does_9 (lv_at hl 5 rfl) ?_
  refine lv_iload hx hb dL_does_11 (lv_at hl 6 rfl) ?_
  refine x_callCi (w2 := fun (u : Nat × Nat) => match u with | (tn, kn) => [(x0, .inr (4, [.ref pb, .ref pa, .ref sa, .ref g0, .int (nI lim)])), (pb, .inr (1, [.ref b1, .int (nI n), .ref b2, .ref b3, .ref b4, .ref b5, .ref b6])), (b1, .inl (cI, 24, .inl (upd rows (tn * 12 + kn) (qRow a bb cx)))), (b2, .inl (cI, 51, .inl (upd cc n (nI (cn + 1))))), (b3, .inl (cI, 612, .inl (upd ct (n * 12 + cn) (nI tn)))), (b4, .inl (cI, 612, .inl (upd ck (n * 12 + cn) (nI kn)))), (b5, .inl (cI, 612, .inl (upd nr (n * 12 + cn) (qRow a bb cx))))]) (wr := []) (x_runXV (n := 5) ⟨hx, hb, hml, hown, hts⟩ (zX4_put l D cI cP cS cL hfl x0 pb pa sa g0 lim b1 b2 b3 b4 b5 b6 n cn rows cc ct ck nr tx kx a bb cx hn9 hcc hcn) gL_does_X4_put rfl rfl rfl (by decide +kernel) ⟨by decide, by decide⟩ hN hK hP hD hS hA hE [0, 1, 2, 3, 4, 5, 6] rfl rfl (ci := 4) (q0 := 0) rfl rfl rfl rfl hl.1 (rest := []) (As := [.int tx, .int kx, .int a, .int bb, .int cx]) rfl (Nat.le_of_ble_eq_true rfl) dL_does_13 ⟨by decide, by decide⟩) hP hD hS hA [0, 1, 2, 3, 4, 5, 6] [] [0, 1, 2, 3, 4, 5, 6] [0, 1, 2, 3, 4, 5, 6] rfl rfl rfl (by decide) rfl rfl rfl (fun _ => rfl) (fun E ce q9 H locs hEX hP hD hS hce hcv hcl => ?_) (fun r0 u H locs hw hP hD hS => ?_)
  · have hEX : (E = nIO ∧ ¬ (vp_in tx 2 ∧ vp_in kx 12)) ∨ (E = nIA ∧ (vp_in tx 2 ∧ vp_in kx 12) ∧ ¬ (vp_in a 100 ∧ vp_in bb 100 ∧ vp_in cx 100)) ∨ (E = nIS ∧ (vp_in tx 2 ∧ vp_in kx 12) ∧ (vp_in a 100 ∧ vp_in bb 100 ∧ vp_in cx 100) ∧ cn = 12) := hEX
    rcases hEX with ⟨rfl, h9⟩ | ⟨rfl, h9⟩ | ⟨rfl, h9⟩
    · refine x_catch hown hts hE [] ⟨0, 217, 218, 64⟩ [⟨0, 217, 223, 66⟩, ⟨0, 217, 228, 68⟩] (hT.trans rfl) (by decide) (fun z hz => by cases hz) (by decide) (by decide) kL_does_c64 hce hcv hcl ?_
      refine lv_astore (lv' := [(7, .ref q9), (0, .ref x0), (1, .int (nI 0)), (2, .int tx), (3, .int kx), (4, .int a), (5, .int bb), (6, .int cx)]) hx hb dL_does_218 hl (by decide) rfl (fun ls hl => ?_)
      refine lv_bipush (v := (-30 : Int32)) hx hb dL_does_220 (by decide) ?_
      exact vx_ret (x_ret_i hx hb hrt hlk hP hD hS dL_does_222 ⟨by decide, by decide⟩ none (Or.inl ⟨rfl, h9⟩) rfl)
    · refine x_catch hown hts hE [⟨0, 217, 218, 64⟩] ⟨0, 217, 223, 66⟩ [⟨0, 217, 228, 68⟩] (hT.trans rfl) (by decide) (fun z hz => by simp only [List.mem_cons, List.not_mem_nil, or_false] at hz; subst hz <;> first | exact ⟨by decide, _, kL_does_c64, by decide, by decide⟩) (by decide) (by decide) kL_does_c66 hce hcv hcl ?_
      refine lv_astore (lv' := [(7, .ref q9), (0, .ref x0), (1, .int (nI 0)), (2, .int tx), (3, .int kx), (4, .int a), (5, .int bb), (6, .int cx)]) hx hb dL_does_223 hl (by decide) rfl (fun ls hl => ?_)
      refine lv_bipush (v := (-20 : Int32)) hx hb dL_does_225 (by decide) ?_
      exact vx_ret (x_ret_i hx hb hrt hlk hP hD hS dL_does_227 ⟨by decide, by decide⟩ none (Or.inr (Or.inl ⟨rfl, h9⟩)) rfl)
    · refine x_catch hown hts hE [⟨0, 217, 218, 64⟩, ⟨0, 217, 223, 66⟩] ⟨0, 217, 228, 68⟩ [] (hT.trans rfl) (by decide) (fun z hz => by simp only [List.mem_cons, List.not_mem_nil, or_false] at hz; rcases hz with rfl | rfl <;> first | exact ⟨by decide, _, kL_does_c64, by decide, by decide⟩ | exact ⟨by decide, _, kL_does_c66, by decide, by decide⟩) (by decide) (by decide) kL_does_c68 hce hcv hcl ?_
      refine lv_astore (lv' := [(7, .ref q9), (0, .ref x0), (1, .int (nI 0)), (2, .int tx), (3, .int kx), (4, .int a), (5, .int bb), (6, .int cx)]) hx hb dL_does_228 hl (by decide) rfl (fun ls hl => ?_)
      refine lv_bipush (v := (-10 : Int32)) hx hb dL_does_230 (by decide) ?_
      exact vx_ret (x_ret_i hx hb hrt hlk hP hD hS dL_does_232 ⟨by decide, by decide⟩ none (Or.inr (Or.inr (⟨rfl, h9⟩))) rfl)
  obtain ⟨tn, kn⟩ := u
  have hP : va_P D vwCl [(x0, .inr (4, [.ref pb, .ref pa, .ref sa, .ref g0, .int (nI lim)])), (pb, .inr (1, [.ref b1, .int (nI n), .ref b2, .ref b3, .ref b4, .ref b5, .ref b6])), (b1, .inl (cI, 24, .inl (upd rows (tn * 12 + kn) (qRow a bb cx)))), (b2, .inl (cI, 51, .inl (upd cc n (nI (cn + 1))))), (b3, .inl (cI, 612, .inl (upd ct (n * 12 + cn) (nI tn)))), (b4, .inl (cI, 612, .inl (upd ck (n * 12 + cn) (nI kn)))), (b5, .inl (cI, 612, .inl (upd nr (n * 12 + cn) (qRow a bb cx))))] H := hP
  have hD : va_D A [(x0, .inr (4, [.ref pb, .ref pa, .ref sa, .ref g0, .int (nI lim)])), (pb, .inr (1, [.ref b1, .int (nI n), .ref b2, .ref b3, .ref b4, .ref b5, .ref b6])), (b1, .inl (cI, 24, .inl (upd rows (tn * 12 + kn) (qRow a bb cx)))), (b2, .inl (cI, 51, .inl (upd cc n (nI (cn + 1))))), (b3, .inl (cI, 612, .inl (upd ct (n * 12 + cn) (nI tn)))), (b4, .inl (cI, 612, .inl (upd ck (n * 12 + cn) (nI kn)))), (b5, .inl (cI, 612, .inl (upd nr (n * 12 + cn) (qRow a bb cx))))] := hD
  refine x_if_eq (tgt := 23) hx hb (Iff.rfl) dL_does_16 (by decide) (fun c16 => ?_) (fun c16 => ?_)
  · refine lv_iconst (v := nI 0) hx hb dL_does_23 (by decide) ?_
    refine lv_goto (tgt := 217) hx hb dL_does_24 (by decide) ?_
    exact vx_ret (x_ret_i hx hb hrt hlk hP hD hS dL_does_217 ⟨by decide, by decide⟩ (some ((tn, kn), r0)) (⟨(cZ_y c16).symm, hw⟩) rfl)
  · refine lv_iconst (v := nI 1) hx hb dL_does_19 (by decide) ?_
    refine lv_goto (tgt := 217) hx hb dL_does_20 (by decide) ?_
    exact vx_ret (x_ret_i hx hb hrt hlk hP hD hS dL_does_217 ⟨by decide, by decide⟩ (some ((tn, kn), r0)) (⟨(cZ_n c16).symm, hw⟩) rfl)

set_option maxHeartbeats 4000000 in
set_option maxRecDepth 100000 in
theorem zD_take (l : Launch) (D : va_G) (cI cP cS cL : ClassId) (hfl : l.stackTraces = false) (x0 pb pa sa g0 lim : Nat) (b1 b2 b3 b4 b5 b6 n cn : Nat) (rows cc ct ck nr : Nat → Int32) (tx kx : Int32) (y0 y1 y2 : Int32) (hn9 : n ≤ 50) (hcc : cc n = nI cn) (hcn : cn ≤ 12) : xWi l yL_does wsL_does (rmD 10 4 24) D [(cI, .int), (cP, .object RX0), (cS, .object RX2)] [.ref x0, .int (nI 1), .int tx, .int kx, .int y0, .int y1, .int y2] [(x0, .inr (4, [.ref pb, .ref pa, .ref sa, .ref g0, .int (nI lim)])), (pb, .inr (1, [.ref b1, .int (nI n), .ref b2, .ref b3, .ref b4, .ref b5, .ref b6])), (b1, .inl (cI, 24, .inl rows)), (b2, .inl (cI, 51, .inl cc)), (b3, .inl (cI, 612, .inl ct)), (b4, .inl (cI, 612, .inl ck)), (b5, .inl (cI, 612, .inl nr))] (fun (r : Int32) (u : Option ((Nat × Nat) × Int32)) => match u with | some ((tn, kn), r0) => r = r0 ∧ (r0 = nI 0 ∧ (tx = nI tn ∧ tn < 2 ∧ kx = nI kn ∧ kn < 12 ∧ cn < 12 ∧ ¬ rows (tn * 12 + kn) = -1)) | none => (r = (-30) ∧ (¬ (vp_in tx 2 ∧ vp_in kx 12))) ∨ (r = (-10) ∧ (∃ tn kn, tx = nI tn ∧ tn < 2 ∧ kx = nI kn ∧ kn < 12 ∧ (cn = 12 ∨ rows (tn * 12 + kn) = -1)))) (fun (u : Option ((Nat × Nat) × Int32)) => match u with | some ((tn, kn), r0) => [(x0, .inr (4, [.ref pb, .ref pa, .ref sa, .ref g0, .int (nI lim)])), (pb, .inr (1, [.ref b1, .int (nI n), .ref b2, .ref b3, .ref b4, .ref b5, .ref b6])), (b1, .inl (cI, 24, .inl (upd rows (tn * 12 + kn) (-1)))), (b2, .inl (cI, 51, .inl (upd cc n (nI (cn + 1))))), (b3, .inl (cI, 612, .inl (upd ct (n * 12 + cn) (nI tn)))), (b4, .inl (cI, 612, .inl (upd ck (n * 12 + cn) (nI kn)))), (b5, .inl (cI, 612, .inl (upd nr (n * 12 + cn) (-1))))] | none => [(x0, .inr (4, [.ref pb, .ref pa, .ref sa, .ref g0, .int (nI lim)])), (pb, .inr (1, [.ref b1, .int (nI n), .ref b2, .ref b3, .ref b4, .ref b5, .ref b6])), (b1, .inl (cI, 24, .inl rows)), (b2, .inl (cI, 51, .inl cc)), (b3, .inl (cI, 612, .inl ct)), (b4, .inl (cI, 612, .inl ck)), (b5, .inl (cI, 612, .inl nr))]) 4 24 := by
  refine xe_W (cc := cL_does) (maxL := 8) (ret := some .int) (hh := [(0, 217, 218, 64), (0, 217, 223, 66), (0, 217, 228, 68)]) (by decide) rfl (Nat.le_of_ble_eq_true rfl) ?_
  intro zp ze s zm below meth zc A ls B hT hE
  obtain ⟨hx, hb, hml, hrt, hts, hown, hnm, hlk, hK, hP, hD, hA, hS, hN, hl⟩ := B
  have hown : s.vm.findClass RL = some zm.cls := hown
  have hl : lv_has ls 8 [(0, .ref x0), (1, .int (nI 1)), (2, .int tx), (3, .int kx), (4, .int y0), (5, .int y1), (6, .int y2)] := hl
  have hA : ∀ q, s.heap.size ≤ q → A q := hA
  refine lv_iload_n hx hb dL_does_0 rfl (lv_at hl 1 rfl) ?_
  refine x_if_ne (tgt := 27) hx hb (nI_z (by omega)) dL_does_1 (by decide) (fun c1 => ?_) (fun c1 => ?_)
  rotate_left
  · exact absurd c1 (by omega)
  refine lv_iload_n hx hb dL_does_27 rfl (lv_at hl 1 rfl) ?_
  refine lv_iconst (v := nI 1) hx hb dL_does_28 (by decide) ?_
  refine x_cmp_ne (tgt := 41) hx hb (nI_eq (a := 1) (b := 1) (by omega) (by omega)) dL_does_29 (by decide) (fun c29 => ?_) (fun c29 => ?_)
  · exfalso; omega
  · refine lv_aload_n hx hb dL_does_32 rfl (lv_at hl 0 rfl) ?_
    refine lv_iload_n hx hb dL_does_33 rfl (lv_at hl 2 rfl) ?_
    refine lv_iload_n hx hb dL_does_34 rfl (lv_at hl 3 rfl) ?_
    refine x_callCi (w2 := fun (u : Nat × Nat) => match u with | (tn, kn) => [(x0, .inr (4, [.ref pb, .ref pa, .ref sa, .ref g0, .int (nI lim)])), (pb, .inr (1, [.ref b1, .int (nI n), .ref b2, .ref b3, .ref b4, .ref b5, .ref b6])), (b1, .inl (cI, 24, .inl (upd rows (tn * 12 + kn) (-1)))), (b2, .inl (cI, 51, .inl (upd cc n (nI (cn + 1))))), (b3, .inl (cI, 612, .inl (upd ct (n * 12 + cn) (nI tn)))), (b4, .inl (cI, 612, .inl (upd ck (n * 12 + cn) (nI kn)))), (b5, .inl (cI, 612, .inl (upd nr (n * 12 + cn) (-1))))]) (wr := []) (x_runXS (n := 3) ⟨hx, hb, hml, hown, hts⟩ (zL_takes l D cI cP cS cL hfl x0 pb pa sa g0 lim b1 b2 b3 b4 b5 b6 n cn rows cc ct ck nr tx kx hn9 hcc hcn) gL_does_L_takes rfl rfl rfl (by decide +kernel) ⟨by decide, by decide⟩ hN hK hP hD hS hA hE [0, 1, 2, 3, 4, 5, 6] rfl rfl rfl hl.1 (rest := []) (As := [.ref x0, .int tx, .int kx]) rfl (Nat.le_of_ble_eq_true rfl) dL_does_35 ⟨by decide, by decide⟩) hP hD hS hA [0, 1, 2, 3, 4, 5, 6] [] [0, 1, 2, 3, 4, 5, 6] [0, 1, 2, 3, 4, 5, 6] rfl rfl rfl (by decide) rfl rfl rfl (fun _ => rfl) (fun E ce q9 H locs hEX hP hD hS hce hcv hcl => ?_) (fun r0 u H locs hw hP hD hS => ?_)
    · have hEX : (E = nIO ∧ ¬ (vp_in tx 2 ∧ vp_in kx 12)) ∨ (E = nIS ∧ ∃ tn kn, tx = nI tn ∧ tn < 2 ∧ kx = nI kn ∧ kn < 12 ∧ (cn = 12 ∨ rows (tn * 12 + kn) = -1)) := hEX
      rcases hEX with ⟨rfl, h9⟩ | ⟨rfl, h9⟩
      · refine x_catch hown hts hE [] ⟨0, 217, 218, 64⟩ [⟨0, 217, 223, 66⟩, ⟨0, 217, 228, 68⟩] (hT.trans rfl) (by decide) (fun z hz => by cases hz) (by decide) (by decide) kL_does_c64 hce hcv hcl ?_
        refine lv_astore (lv' := [(7, .ref q9), (0, .ref x0), (1, .int (nI 1)), (2, .int tx), (3, .int kx), (4, .int y0), (5, .int y1), (6, .int y2)]) hx hb dL_does_218 hl (by decide) rfl (fun ls hl => ?_)
        refine lv_bipush (v := (-30 : Int32)) hx hb dL_does_220 (by decide) ?_
        exact vx_ret (x_ret_i hx hb hrt hlk hP hD hS dL_does_222 ⟨by decide, by decide⟩ none (Or.inl ⟨rfl, h9⟩) rfl)
      · refine x_catch hown hts hE [⟨0, 217, 218, 64⟩, ⟨0, 217, 223, 66⟩] ⟨0, 217, 228, 68⟩ [] (hT.trans rfl) (by decide) (fun z hz => by simp only [List.mem_cons, List.not_mem_nil, or_false] at hz; rcases hz with rfl | rfl <;> first | exact ⟨by decide, _, kL_does_c64, by decide, by decide⟩ | exact ⟨by decide, _, kL_does_c66, by decide, by decide⟩) (by decide) (by decide) kL_does_c68 hce hcv hcl ?_
        refine lv_astore (lv' := [(7, .ref q9), (0, .ref x0), (1, .int (nI 1)), (2, .int tx), (3, .int kx), (4, .int y0), (5, .int y1), (6, .int y2)]) hx hb dL_does_228 hl (by decide) rfl (fun ls hl => ?_)
        refine lv_bipush (v := (-10 : Int32)) hx hb dL_does_230 (by decide) ?_
        exact vx_ret (x_ret_i hx hb hrt hlk hP hD hS dL_does_232 ⟨by decide, by decide⟩ none (Or.inr (⟨rfl, h9⟩)) rfl)
    obtain ⟨tn, kn⟩ := u
    have hP : va_P D vwCl [(x0, .inr (4, [.ref pb, .ref pa, .ref sa, .ref g0, .int (nI lim)])), (pb, .inr (1, [.ref b1, .int (nI n), .ref b2, .ref b3, .ref b4, .ref b5, .ref b6])), (b1, .inl (cI, 24, .inl (upd rows (tn * 12 + kn) (-1)))), (b2, .inl (cI, 51, .inl (upd cc n (nI (cn + 1))))), (b3, .inl (cI, 612, .inl (upd ct (n * 12 + cn) (nI tn)))), (b4, .inl (cI, 612, .inl (upd ck (n * 12 + cn) (nI kn)))), (b5, .inl (cI, 612, .inl (upd nr (n * 12 + cn) (-1))))] H := hP
    have hD : va_D A [(x0, .inr (4, [.ref pb, .ref pa, .ref sa, .ref g0, .int (nI lim)])), (pb, .inr (1, [.ref b1, .int (nI n), .ref b2, .ref b3, .ref b4, .ref b5, .ref b6])), (b1, .inl (cI, 24, .inl (upd rows (tn * 12 + kn) (-1)))), (b2, .inl (cI, 51, .inl (upd cc n (nI (cn + 1))))), (b3, .inl (cI, 612, .inl (upd ct (n * 12 + cn) (nI tn)))), (b4, .inl (cI, 612, .inl (upd ck (n * 12 + cn) (nI kn)))), (b5, .inl (cI, 612, .inl (upd nr (n * 12 + cn) (-1))))] := hD
    refine lv_goto (tgt := 217) hx hb dL_does_38 (by decide) ?_
    exact vx_ret (x_ret_i hx hb hrt hlk hP hD hS dL_does_217 ⟨by decide, by decide⟩ (some ((tn, kn), r0)) (⟨rfl, hw⟩) rfl)

set_option maxHeartbeats 4000000 in
set_option maxRecDepth 100000 in
theorem zD_truncate (l : Launch) (D : va_G) (cI cP cS cL : ClassId) (hfl : l.stackTraces = false) (x0 pb pa sa g0 lim : Nat) (b1 b2 b3 b4 b5 b6 n cn : Nat) (rows cc ct ck nr : Nat → Int32) (tx : Int32) (y0 y1 y2 y3 : Int32) (hn9 : n ≤ 50) (hcc : cc n = nI cn) (hcn : cn ≤ 12) : xWi l yL_does wsL_does (rmD 8 2 12) D [(cI, .int), (cP, .object RX0), (cS, .object RX2)] [.ref x0, .int (nI 2), .int tx, .int y0, .int y1, .int y2, .int y3] [(x0, .inr (4, [.ref pb, .ref pa, .ref sa, .ref g0, .int (nI lim)])), (pb, .inr (1, [.ref b1, .int (nI n), .ref b2, .ref b3, .ref b4, .ref b5, .ref b6])), (b1, .inl (cI, 24, .inl rows)), (b2, .inl (cI, 51, .inl cc)), (b3, .inl (cI, 612, .inl ct)), (b4, .inl (cI, 612, .inl ck)), (b5, .inl (cI, 612, .inl nr))] (fun (r : Int32) (u : Option ((Nat) × Int32)) => match u with | some (tn, r0) => r = r0 ∧ (tx = nI tn ∧ tn < 2 ∧ cn < 12 ∧ r0 = nI (qCnt rows (tn * 12) 12)) | none => (r = (-30) ∧ (¬ vp_in tx 2)) ∨ (r = (-10) ∧ (vp_in tx 2 ∧ cn = 12))) (fun (u : Option ((Nat) × Int32)) => match u with | some (tn, r0) => [(x0, .inr (4, [.ref pb, .ref pa, .ref sa, .ref g0, .int (nI lim)])), (pb, .inr (1, [.ref b1, .int (nI n), .ref b2, .ref b3, .ref b4, .ref b5, .ref b6])), (b1, .inl (cI, 24, .inl (qFill rows (tn * 12) 12 (-1)))), (b2, .inl (cI, 51, .inl (upd cc n (nI (cn + 1))))), (b3, .inl (cI, 612, .inl (upd ct (n * 12 + cn) (nI tn)))), (b4, .inl (cI, 612, .inl (upd ck (n * 12 + cn) (-1)))), (b5, .inl (cI, 612, .inl (upd nr (n * 12 + cn) (-1))))] | none => [(x0, .inr (4, [.ref pb, .ref pa, .ref sa, .ref g0, .int (nI lim)])), (pb, .inr (1, [.ref b1, .int (nI n), .ref b2, .ref b3, .ref b4, .ref b5, .ref b6])), (b1, .inl (cI, 24, .inl rows)), (b2, .inl (cI, 51, .inl cc)), (b3, .inl (cI, 612, .inl ct)), (b4, .inl (cI, 612, .inl ck)), (b5, .inl (cI, 612, .inl nr))]) 2 12 := by
  refine xe_W (cc := cL_does) (maxL := 8) (ret := some .int) (hh := [(0, 217, 218, 64), (0, 217, 223, 66), (0, 217, 228, 68)]) (by decide) rfl (Nat.le_of_ble_eq_true rfl) ?_
  intro zp ze s zm below meth zc A ls B hT hE
  obtain ⟨hx, hb, hml, hrt, hts, hown, hnm, hlk, hK, hP, hD, hA, hS, hN, hl⟩ := B
  have hown : s.vm.findClass RL = some zm.cls := hown
  have hl : lv_has ls 8 [(0, .ref x0), (1, .int (nI 2)), (2, .int tx), (3, .int y0), (4, .int y1), (5, .int y2), (6, .int y3)] := hl
  have hA : ∀ q, s.heap.size ≤ q → A q := hA
  refine lv_iload_n hx hb dL_does_0 rfl (lv_at hl 1 rfl) ?_
  refine x_if_ne (tgt := 27) hx hb (nI_z (by omega)) dL_does_1 (by decide) (fun c1 => ?_) (fun c1 => ?_)
  rotate_left
  · exact absurd c1 (by omega)
  refine lv_iload_n hx hb dL_does_27 rfl (lv_at hl 1 rfl) ?_
  refine lv_iconst (v := nI 1) hx hb dL_does_28 (by decide) ?_
  refine x_cmp_ne (tgt := 41) hx hb (nI_eq (a := 2) (b := 1) (by omega) (by omega)) dL_does_29 (by decide) (fun c29 => ?_) (fun c29 => ?_)
  · refine lv_iload_n hx hb dL_does_41 rfl (lv_at hl 1 rfl) ?_
    refine lv_iconst (v := nI 2) hx hb dL_does_42 (by decide) ?_
    refine x_cmp_ne (tgt := 54) hx hb (nI_eq (a := 2) (b := 2) (by omega) (by omega)) dL_does_43 (by decide) (fun c43 => ?_) (fun c43 => ?_)
    · exfalso; omega
    · refine lv_aload_n hx hb dL_does_46 rfl (lv_at hl 0 rfl) ?_
      refine lv_iload_n hx hb dL_does_47 rfl (lv_at hl 2 rfl) ?_
      refine x_callCi (w2 := fun (u : Nat) => match u with | tn => [(x0, .inr (4, [.ref pb, .ref pa, .ref sa, .ref g0, .int (nI lim)])), (pb, .inr (1, [.ref b1, .int (nI n), .ref b2, .ref b3, .ref b4, .ref b5, .ref b6])), (b1, .inl (cI, 24, .inl (qFill rows (tn * 12) 12 (-1)))), (b2, .inl (cI, 51, .inl (upd cc n (nI (cn + 1))))), (b3, .inl (cI, 612, .inl (upd ct (n * 12 + cn) (nI tn)))), (b4, .inl (cI, 612, .inl (upd ck (n * 12 + cn) (-1)))), (b5, .inl (cI, 612, .inl (upd nr (n * 12 + cn) (-1))))]) (wr := []) (x_runXV (n := 1) ⟨hx, hb, hml, hown, hts⟩ (zX4_truncate l D cI cP cS cL hfl x0 pb pa sa g0 lim b1 b2 b3 b4 b5 b6 n cn rows cc ct ck nr tx hn9 hcc hcn) gL_does_X4_truncate rfl rfl rfl (by decide +kernel) ⟨by decide, by decide⟩ hN hK hP hD hS hA hE [0, 1, 2, 3, 4, 5, 6] rfl rfl (ci := 4) (q0 := 0) rfl rfl rfl rfl hl.1 (rest := []) (As := [.int tx]) rfl (Nat.le_of_ble_eq_true rfl) dL_does_48 ⟨by decide, by decide⟩) hP hD hS hA [0, 1, 2, 3, 4, 5, 6] [] [0, 1, 2, 3, 4, 5, 6] [0, 1, 2, 3, 4, 5, 6] rfl rfl rfl (by decide) rfl rfl rfl (fun _ => rfl) (fun E ce q9 H locs hEX hP hD hS hce hcv hcl => ?_) (fun r0 u H locs hw hP hD hS => ?_)
      · have hEX : (E = nIO ∧ ¬ vp_in tx 2) ∨ (E = nIS ∧ vp_in tx 2 ∧ cn = 12) := hEX
        rcases hEX with ⟨rfl, h9⟩ | ⟨rfl, h9⟩
        · refine x_catch hown hts hE [] ⟨0, 217, 218, 64⟩ [⟨0, 217, 223, 66⟩, ⟨0, 217, 228, 68⟩] (hT.trans rfl) (by decide) (fun z hz => by cases hz) (by decide) (by decide) kL_does_c64 hce hcv hcl ?_
          refine lv_astore (lv' := [(7, .ref q9), (0, .ref x0), (1, .int (nI 2)), (2, .int tx), (3, .int y0), (4, .int y1), (5, .int y2), (6, .int y3)]) hx hb dL_does_218 hl (by decide) rfl (fun ls hl => ?_)
          refine lv_bipush (v := (-30 : Int32)) hx hb dL_does_220 (by decide) ?_
          exact vx_ret (x_ret_i hx hb hrt hlk hP hD hS dL_does_222 ⟨by decide, by decide⟩ none (Or.inl ⟨rfl, h9⟩) rfl)
        · refine x_catch hown hts hE [⟨0, 217, 218, 64⟩, ⟨0, 217, 223, 66⟩] ⟨0, 217, 228, 68⟩ [] (hT.trans rfl) (by decide) (fun z hz => by simp only [List.mem_cons, List.not_mem_nil, or_false] at hz; rcases hz with rfl | rfl <;> first | exact ⟨by decide, _, kL_does_c64, by decide, by decide⟩ | exact ⟨by decide, _, kL_does_c66, by decide, by decide⟩) (by decide) (by decide) kL_does_c68 hce hcv hcl ?_
          refine lv_astore (lv' := [(7, .ref q9), (0, .ref x0), (1, .int (nI 2)), (2, .int tx), (3, .int y0), (4, .int y1), (5, .int y2), (6, .int y3)]) hx hb dL_does_228 hl (by decide) rfl (fun ls hl => ?_)
          refine lv_bipush (v := (-10 : Int32)) hx hb dL_does_230 (by decide) ?_
          exact vx_ret (x_ret_i hx hb hrt hlk hP hD hS dL_does_232 ⟨by decide, by decide⟩ none (Or.inr (⟨rfl, h9⟩)) rfl)
      obtain ⟨tn, h9⟩ : ∃ z, z = u := ⟨u, rfl⟩
      subst h9
      have hP : va_P D vwCl [(x0, .inr (4, [.ref pb, .ref pa, .ref sa, .ref g0, .int (nI lim)])), (pb, .inr (1, [.ref b1, .int (nI n), .ref b2, .ref b3, .ref b4, .ref b5, .ref b6])), (b1, .inl (cI, 24, .inl (qFill rows (tn * 12) 12 (-1)))), (b2, .inl (cI, 51, .inl (upd cc n (nI (cn + 1))))), (b3, .inl (cI, 612, .inl (upd ct (n * 12 + cn) (nI tn)))), (b4, .inl (cI, 612, .inl (upd ck (n * 12 + cn) (-1)))), (b5, .inl (cI, 612, .inl (upd nr (n * 12 + cn) (-1))))] H := hP
      have hD : va_D A [(x0, .inr (4, [.ref pb, .ref pa, .ref sa, .ref g0, .int (nI lim)])), (pb, .inr (1, [.ref b1, .int (nI n), .ref b2, .ref b3, .ref b4, .ref b5, .ref b6])), (b1, .inl (cI, 24, .inl (qFill rows (tn * 12) 12 (-1)))), (b2, .inl (cI, 51, .inl (upd cc n (nI (cn + 1))))), (b3, .inl (cI, 612, .inl (upd ct (n * 12 + cn) (nI tn)))), (b4, .inl (cI, 612, .inl (upd ck (n * 12 + cn) (-1)))), (b5, .inl (cI, 612, .inl (upd nr (n * 12 + cn) (-1))))] := hD
      refine lv_goto (tgt := 217) hx hb dL_does_51 (by decide) ?_
      exact vx_ret (x_ret_i hx hb hrt hlk hP hD hS dL_does_217 ⟨by decide, by decide⟩ (some (tn, r0)) (⟨rfl, hw⟩) rfl)
  · exfalso; omega

set_option maxHeartbeats 4000000 in
set_option maxRecDepth 100000 in
theorem zD_commit (l : Launch) (D : va_G) (cI cP cS cL : ClassId) (hfl : l.stackTraces = false) (x0 pb pa sa g0 lim : Nat) (b1 b2 b3 b4 b5 b6 n : Nat) (rows cr : Nat → Int32) (aS aS1 aS2 : Nat → Nat) (pu : Nat → Option Nat) (st sl : Nat → Nat) (y0 y1 y2 y3 y4 : Int32) (hn9 : n ≤ 50) (hlim : lim ≤ 50) (hst : ∀ i, i < 3 → st i ≤ 3) (hsl : ∀ i, i < 3 → sl i ≤ n) : xWi l yL_does wsL_does (rmD 7 1 6) D [(cI, .int), (cP, .object RX0), (cS, .object RX2)] [.ref x0, .int (nI 3), .int y0, .int y1, .int y2, .int y3, .int y4] [(x0, .inr (4, [.ref pb, .ref pa, .ref sa, .ref g0, .int (nI lim)])), (pb, .inr (1, [.ref b1, .int (nI n), .ref b2, .ref b3, .ref b4, .ref b5, .ref b6])), (b1, .inl (cI, 24, .inl rows)), (b6, .inl (cI, 1224, .inl cr)), (sa, .inl (cS, 3, .inr (.inr (.inr (.inr (fun j => some (aS j))))))), (aS 0, .inr (2, [.ref (aS1 0), .ref (aS2 0), va_rf (pu 0), .int (nI (st 0)), .int (nI (sl 0))])), (aS 1, .inr (2, [.ref (aS1 1), .ref (aS2 1), va_rf (pu 1), .int (nI (st 1)), .int (nI (sl 1))])), (aS 2, .inr (2, [.ref (aS1 2), .ref (aS2 2), va_rf (pu 2), .int (nI (st 2)), .int (nI (sl 2))]))] (fun (r : Int32) (u : Option ((Unit) × Int32)) => match u with | some (_, r0) => r = r0 ∧ (n < 50 ∧ r0 = nI (n + 1)) | none => (r = (-10) ∧ (n = 50))) (fun (u : Option ((Unit) × Int32)) => match u with | some (_, r0) => [(x0, .inr (4, [.ref pb, .ref pa, .ref sa, .ref g0, .int (nI lim)])), (pb, .inr (1, [.ref b1, .int (nI (n + 1)), .ref b2, .ref b3, .ref b4, .ref b5, .ref b6])), (b1, .inl (cI, 24, .inl rows)), (b6, .inl (cI, 1224, .inl (va_cpy rows cr 0 ((n + 1) * 24) 24))), (sa, .inl (cS, 3, .inr (.inr (.inr (.inr (fun j => some (aS j))))))), (aS 0, .inr (2, [.ref (aS1 0), .ref (aS2 0), va_rf (pu 0), .int (nI (qCut lim (st 0) (sl 0) (n + 1))), .int (nI (sl 0))])), (aS 1, .inr (2, [.ref (aS1 1), .ref (aS2 1), va_rf (pu 1), .int (nI (qCut lim (st 1) (sl 1) (n + 1))), .int (nI (sl 1))])), (aS 2, .inr (2, [.ref (aS1 2), .ref (aS2 2), va_rf (pu 2), .int (nI (qCut lim (st 2) (sl 2) (n + 1))), .int (nI (sl 2))]))] | none => [(x0, .inr (4, [.ref pb, .ref pa, .ref sa, .ref g0, .int (nI lim)])), (pb, .inr (1, [.ref b1, .int (nI n), .ref b2, .ref b3, .ref b4, .ref b5, .ref b6])), (b1, .inl (cI, 24, .inl rows)), (b6, .inl (cI, 1224, .inl cr)), (sa, .inl (cS, 3, .inr (.inr (.inr (.inr (fun j => some (aS j))))))), (aS 0, .inr (2, [.ref (aS1 0), .ref (aS2 0), va_rf (pu 0), .int (nI (st 0)), .int (nI (sl 0))])), (aS 1, .inr (2, [.ref (aS1 1), .ref (aS2 1), va_rf (pu 1), .int (nI (st 1)), .int (nI (sl 1))])), (aS 2, .inr (2, [.ref (aS1 2), .ref (aS2 2), va_rf (pu 2), .int (nI (st 2)), .int (nI (sl 2))]))]) 1 6 := by
  refine xe_W (cc := cL_does) (maxL := 8) (ret := some .int) (hh := [(0, 217, 218, 64), (0, 217, 223, 66), (0, 217, 228, 68)]) (by decide) rfl (Nat.le_of_ble_eq_true rfl) ?_
  intro zp ze s zm below meth zc A ls B hT hE
  obtain ⟨hx, hb, hml, hrt, hts, hown, hnm, hlk, hK, hP, hD, hA, hS, hN, hl⟩ := B
  have hown : s.vm.findClass RL = some zm.cls := hown
  have hl : lv_has ls 8 [(0, .ref x0), (1, .int (nI 3)), (2, .int y0), (3, .int y1), (4, .int y2), (5, .int y3), (6, .int y4)] := hl
  have hA : ∀ q, s.heap.size ≤ q → A q := hA
  refine lv_iload_n hx hb dL_does_0 rfl (lv_at hl 1 rfl) ?_
  refine x_if_ne (tgt := 27) hx hb (nI_z (by omega)) dL_does_1 (by decide) (fun c1 => ?_) (fun c1 => ?_)
  rotate_left
  · exact absurd c1 (by omega)
  refine lv_iload_n hx hb dL_does_27 rfl (lv_at hl 1 rfl) ?_
  refine lv_iconst (v := nI 1) hx hb dL_does_28 (by decide) ?_
  refine x_cmp_ne (tgt := 41) hx hb (nI_eq (a := 3) (b := 1) (by omega) (by omega)) dL_does_29 (by decide) (fun c29 => ?_) (fun c29 => ?_)
  · refine lv_iload_n hx hb dL_does_41 rfl (lv_at hl 1 rfl) ?_
    refine lv_iconst (v := nI 2) hx hb dL_does_42 (by decide) ?_
    refine x_cmp_ne (tgt := 54) hx hb (nI_eq (a := 3) (b := 2) (by omega) (by omega)) dL_does_43 (by decide) (fun c43 => ?_) (fun c43 => ?_)
    · refine lv_iload_n hx hb dL_does_54 rfl (lv_at hl 1 rfl) ?_
      refine lv_iconst (v := nI 3) hx hb dL_does_55 (by decide) ?_
      refine x_cmp_ne (tgt := 66) hx hb (nI_eq (a := 3) (b := 3) (by omega) (by omega)) dL_does_56 (by decide) (fun c56 => ?_) (fun c56 => ?_)
      · exfalso; omega
      · refine lv_aload_n hx hb dL_does_59 rfl (lv_at hl 0 rfl) ?_
        refine x_callCi (w2 := fun (u : Unit) => [(x0, .inr (4, [.ref pb, .ref pa, .ref sa, .ref g0, .int (nI lim)])), (pb, .inr (1, [.ref b1, .int (nI (n + 1)), .ref b2, .ref b3, .ref b4, .ref b5, .ref b6])), (b1, .inl (cI, 24, .inl rows)), (b6, .inl (cI, 1224, .inl (va_cpy rows cr 0 ((n + 1) * 24) 24))), (sa, .inl (cS, 3, .inr (.inr (.inr (.inr (fun j => some (aS j))))))), (aS 0, .inr (2, [.ref (aS1 0), .ref (aS2 0), va_rf (pu 0), .int (nI (qCut lim (st 0) (sl 0) (n + 1))), .int (nI (sl 0))])), (aS 1, .inr (2, [.ref (aS1 1), .ref (aS2 1), va_rf (pu 1), .int (nI (qCut lim (st 1) (sl 1) (n + 1))), .int (nI (sl 1))])), (aS 2, .inr (2, [.ref (aS1 2), .ref (aS2 2), va_rf (pu 2), .int (nI (qCut lim (st 2) (sl 2) (n + 1))), .int (nI (sl 2))]))]) (wr := []) (x_runXV (n := 0) ⟨hx, hb, hml, hown, hts⟩ (zX4_commit l D cI cP cS cL hfl x0 pb pa sa g0 lim b1 b2 b3 b4 b5 b6 n rows cr aS aS1 aS2 pu st sl hn9 hlim hst hsl) gL_does_X4_commit rfl rfl rfl (by decide +kernel) ⟨by decide, by decide⟩ hN hK hP hD hS hA hE [0, 1, 2, 3, 4, 5, 6, 7] rfl rfl (ci := 4) (q0 := 0) rfl rfl rfl rfl hl.1 (rest := []) (As := []) rfl (Nat.le_of_ble_eq_true rfl) dL_does_60 ⟨by decide, by decide⟩) hP hD hS hA [0, 1, 2, 3, 4, 5, 6, 7] [] [0, 1, 2, 3, 4, 5, 6, 7] [0, 1, 2, 3, 4, 5, 6, 7] rfl rfl rfl (by decide) rfl rfl rfl (fun _ => rfl) (fun E ce q9 H locs hEX hP hD hS hce hcv hcl => ?_) (fun r0 u H locs hw hP hD hS => ?_)
        · have hEX : E = nIS ∧ n = 50 := hEX
          obtain ⟨rfl, h9⟩ := hEX
          refine x_catch hown hts hE [⟨0, 217, 218, 64⟩, ⟨0, 217, 223, 66⟩] ⟨0, 217, 228, 68⟩ [] (hT.trans rfl) (by decide) (fun z hz => by simp only [List.mem_cons, List.not_mem_nil, or_false] at hz; rcases hz with rfl | rfl <;> first | exact ⟨by decide, _, kL_does_c64, by decide, by decide⟩ | exact ⟨by decide, _, kL_does_c66, by decide, by decide⟩) (by decide) (by decide) kL_does_c68 hce hcv hcl ?_
          refine lv_astore (lv' := [(7, .ref q9), (0, .ref x0), (1, .int (nI 3)), (2, .int y0), (3, .int y1), (4, .int y2), (5, .int y3), (6, .int y4)]) hx hb dL_does_228 hl (by decide) rfl (fun ls hl => ?_)
          refine lv_bipush (v := (-10 : Int32)) hx hb dL_does_230 (by decide) ?_
          exact vx_ret (x_ret_i hx hb hrt hlk hP hD hS dL_does_232 ⟨by decide, by decide⟩ none (⟨rfl, h9⟩) rfl)
        obtain ⟨⟩ := u
        refine lv_goto (tgt := 217) hx hb dL_does_63 (by decide) ?_
        exact vx_ret (x_ret_i hx hb hrt hlk hP hD hS dL_does_217 ⟨by decide, by decide⟩ (some ((), r0)) (⟨rfl, hw⟩) rfl)
    · exfalso; omega
  · exfalso; omega

set_option maxHeartbeats 4000000 in
set_option maxRecDepth 100000 in
theorem zD_setLimit (l : Launch) (D : va_G) (cI cP cS cL : ClassId) (hfl : l.stackTraces = false) (x0 pb pa sa g0 lim : Nat) (b1 b2 b3 b4 b5 b6 n : Nat) (aS aS1 aS2 : Nat → Nat) (pu : Nat → Option Nat) (st sl : Nat → Nat) (vx : Int32) (y0 y1 y2 y3 : Int32) (hn9 : n ≤ 50) (hst : ∀ i, i < 3 → st i ≤ 3) (hsl : ∀ i, i < 3 → sl i ≤ n) : xWi l yL_does wsL_does (rmD 7 1 6) D [(cI, .int), (cP, .object RX0), (cS, .object RX2)] [.ref x0, .int (nI 4), .int vx, .int y0, .int y1, .int y2, .int y3] [(x0, .inr (4, [.ref pb, .ref pa, .ref sa, .ref g0, .int (nI lim)])), (pb, .inr (1, [.ref b1, .int (nI n), .ref b2, .ref b3, .ref b4, .ref b5, .ref b6])), (sa, .inl (cS, 3, .inr (.inr (.inr (.inr (fun j => some (aS j))))))), (aS 0, .inr (2, [.ref (aS1 0), .ref (aS2 0), va_rf (pu 0), .int (nI (st 0)), .int (nI (sl 0))])), (aS 1, .inr (2, [.ref (aS1 1), .ref (aS2 1), va_rf (pu 1), .int (nI (st 1)), .int (nI (sl 1))])), (aS 2, .inr (2, [.ref (aS1 2), .ref (aS2 2), va_rf (pu 2), .int (nI (st 2)), .int (nI (sl 2))]))] (fun (r : Int32) (u : Option ((Nat) × Int32)) => match u with | some (vn, r0) => r = r0 ∧ (vx = nI vn ∧ vn < 51 ∧ r0 = nI (qCutN vn (st 0) (sl 0) n + qCutN vn (st 1) (sl 1) n + qCutN vn (st 2) (sl 2) n)) | none => (r = (-20) ∧ (¬ vp_in vx 51))) (fun (u : Option ((Nat) × Int32)) => match u with | some (vn, r0) => [(x0, .inr (4, [.ref pb, .ref pa, .ref sa, .ref g0, .int (nI vn)])), (pb, .inr (1, [.ref b1, .int (nI n), .ref b2, .ref b3, .ref b4, .ref b5, .ref b6])), (sa, .inl (cS, 3, .inr (.inr (.inr (.inr (fun j => some (aS j))))))), (aS 0, .inr (2, [.ref (aS1 0), .ref (aS2 0), va_rf (pu 0), .int (nI (qCut vn (st 0) (sl 0) n)), .int (nI (sl 0))])), (aS 1, .inr (2, [.ref (aS1 1), .ref (aS2 1), va_rf (pu 1), .int (nI (qCut vn (st 1) (sl 1) n)), .int (nI (sl 1))])), (aS 2, .inr (2, [.ref (aS1 2), .ref (aS2 2), va_rf (pu 2), .int (nI (qCut vn (st 2) (sl 2) n)), .int (nI (sl 2))]))] | none => [(x0, .inr (4, [.ref pb, .ref pa, .ref sa, .ref g0, .int (nI lim)])), (pb, .inr (1, [.ref b1, .int (nI n), .ref b2, .ref b3, .ref b4, .ref b5, .ref b6])), (sa, .inl (cS, 3, .inr (.inr (.inr (.inr (fun j => some (aS j))))))), (aS 0, .inr (2, [.ref (aS1 0), .ref (aS2 0), va_rf (pu 0), .int (nI (st 0)), .int (nI (sl 0))])), (aS 1, .inr (2, [.ref (aS1 1), .ref (aS2 1), va_rf (pu 1), .int (nI (st 1)), .int (nI (sl 1))])), (aS 2, .inr (2, [.ref (aS1 2), .ref (aS2 2), va_rf (pu 2), .int (nI (st 2)), .int (nI (sl 2))]))]) 1 6 := by
  refine xe_W (cc := cL_does) (maxL := 8) (ret := some .int) (hh := [(0, 217, 218, 64), (0, 217, 223, 66), (0, 217, 228, 68)]) (by decide) rfl (Nat.le_of_ble_eq_true rfl) ?_
  intro zp ze s zm below meth zc A ls B hT hE
  obtain ⟨hx, hb, hml, hrt, hts, hown, hnm, hlk, hK, hP, hD, hA, hS, hN, hl⟩ := B
  have hown : s.vm.findClass RL = some zm.cls := hown
  have hl : lv_has ls 8 [(0, .ref x0), (1, .int (nI 4)), (2, .int vx), (3, .int y0), (4, .int y1), (5, .int y2), (6, .int y3)] := hl
  have hA : ∀ q, s.heap.size ≤ q → A q := hA
  refine lv_iload_n hx hb dL_does_0 rfl (lv_at hl 1 rfl) ?_
  refine x_if_ne (tgt := 27) hx hb (nI_z (by omega)) dL_does_1 (by decide) (fun c1 => ?_) (fun c1 => ?_)
  rotate_left
  · exact absurd c1 (by omega)
  refine lv_iload_n hx hb dL_does_27 rfl (lv_at hl 1 rfl) ?_
  refine lv_iconst (v := nI 1) hx hb dL_does_28 (by decide) ?_
  refine x_cmp_ne (tgt := 41) hx hb (nI_eq (a := 4) (b := 1) (by omega) (by omega)) dL_does_29 (by decide) (fun c29 => ?_) (fun c29 => ?_)
  · refine lv_iload_n hx hb dL_does_41 rfl (lv_at hl 1 rfl) ?_
    refine lv_iconst (v := nI 2) hx hb dL_does_42 (by decide) ?_
    refine x_cmp_ne (tgt := 54) hx hb (nI_eq (a := 4) (b := 2) (by omega) (by omega)) dL_does_43 (by decide) (fun c43 => ?_) (fun c43 => ?_)
    · refine lv_iload_n hx hb dL_does_54 rfl (lv_at hl 1 rfl) ?_
      refine lv_iconst (v := nI 3) hx hb dL_does_55 (by decide) ?_
      refine x_cmp_ne (tgt := 66) hx hb (nI_eq (a := 4) (b := 3) (by omega) (by omega)) dL_does_56 (by decide) (fun c56 => ?_) (fun c56 => ?_)
      · refine lv_iload_n hx hb dL_does_66 rfl (lv_at hl 1 rfl) ?_
        refine lv_iconst (v := nI 4) hx hb dL_does_67 (by decide) ?_
        refine x_cmp_ne (tgt := 79) hx hb (nI_eq (a := 4) (b := 4) (by omega) (by omega)) dL_does_68 (by decide) (fun c68 => ?_) (fun c68 => ?_)
        · exfalso; omega
        · refine lv_aload_n hx hb dL_does_71 rfl (lv_at hl 0 rfl) ?_
          refine lv_iload_n hx hb dL_does_72 rfl (lv_at hl 2 rfl) ?_
          refine x_callCi (w2 := fun (u : Nat) => match u with | vn => [(x0, .inr (4, [.ref pb, .ref pa, .ref sa, .ref g0, .int (nI vn)])), (pb, .inr (1, [.ref b1, .int (nI n), .ref b2, .ref b3, .ref b4, .ref b5, .ref b6])), (sa, .inl (cS, 3, .inr (.inr (.inr (.inr (fun j => some (aS j))))))), (aS 0, .inr (2, [.ref (aS1 0), .ref (aS2 0), va_rf (pu 0), .int (nI (qCut vn (st 0) (sl 0) n)), .int (nI (sl 0))])), (aS 1, .inr (2, [.ref (aS1 1), .ref (aS2 1), va_rf (pu 1), .int (nI (qCut vn (st 1) (sl 1) n)), .int (nI (sl 1))])), (aS 2, .inr (2, [.ref (aS1 2), .ref (aS2 2), va_rf (pu 2), .int (nI (qCut vn (st 2) (sl 2) n)), .int (nI (sl 2))]))]) (wr := []) (x_runXV (n := 1) ⟨hx, hb, hml, hown, hts⟩ (zX4_setLimit l D cI cP cS cL hfl x0 pb pa sa g0 lim b1 b2 b3 b4 b5 b6 n aS aS1 aS2 pu st sl vx hn9 hst hsl) gL_does_X4_setLimit rfl rfl rfl (by decide +kernel) ⟨by decide, by decide⟩ hN hK hP hD hS hA hE [0, 1, 2, 3, 4, 5] rfl rfl (ci := 4) (q0 := 0) rfl rfl rfl rfl hl.1 (rest := []) (As := [.int vx]) rfl (Nat.le_of_ble_eq_true rfl) dL_does_73 ⟨by decide, by decide⟩) hP hD hS hA [0, 1, 2, 3, 4, 5] [] [0, 1, 2, 3, 4, 5] [0, 1, 2, 3, 4, 5] rfl rfl rfl (by decide) rfl rfl rfl (fun _ => rfl) (fun E ce q9 H locs hEX hP hD hS hce hcv hcl => ?_) (fun r0 u H locs hw hP hD hS => ?_)
          · have hEX : E = nIA ∧ ¬ vp_in vx 51 := hEX
            obtain ⟨rfl, h9⟩ := hEX
            refine x_catch hown hts hE [⟨0, 217, 218, 64⟩] ⟨0, 217, 223, 66⟩ [⟨0, 217, 228, 68⟩] (hT.trans rfl) (by decide) (fun z hz => by simp only [List.mem_cons, List.not_mem_nil, or_false] at hz; subst hz <;> first | exact ⟨by decide, _, kL_does_c64, by decide, by decide⟩) (by decide) (by decide) kL_does_c66 hce hcv hcl ?_
            refine lv_astore (lv' := [(7, .ref q9), (0, .ref x0), (1, .int (nI 4)), (2, .int vx), (3, .int y0), (4, .int y1), (5, .int y2), (6, .int y3)]) hx hb dL_does_223 hl (by decide) rfl (fun ls hl => ?_)
            refine lv_bipush (v := (-20 : Int32)) hx hb dL_does_225 (by decide) ?_
            exact vx_ret (x_ret_i hx hb hrt hlk hP hD hS dL_does_227 ⟨by decide, by decide⟩ none (⟨rfl, h9⟩) rfl)
          obtain ⟨vn, h9⟩ : ∃ z, z = u := ⟨u, rfl⟩
          subst h9
          have hP : va_P D vwCl [(x0, .inr (4, [.ref pb, .ref pa, .ref sa, .ref g0, .int (nI vn)])), (pb, .inr (1, [.ref b1, .int (nI n), .ref b2, .ref b3, .ref b4, .ref b5, .ref b6])), (sa, .inl (cS, 3, .inr (.inr (.inr (.inr (fun j => some (aS j))))))), (aS 0, .inr (2, [.ref (aS1 0), .ref (aS2 0), va_rf (pu 0), .int (nI (qCut vn (st 0) (sl 0) n)), .int (nI (sl 0))])), (aS 1, .inr (2, [.ref (aS1 1), .ref (aS2 1), va_rf (pu 1), .int (nI (qCut vn (st 1) (sl 1) n)), .int (nI (sl 1))])), (aS 2, .inr (2, [.ref (aS1 2), .ref (aS2 2), va_rf (pu 2), .int (nI (qCut vn (st 2) (sl 2) n)), .int (nI (sl 2))]))] H := hP
          have hD : va_D A [(x0, .inr (4, [.ref pb, .ref pa, .ref sa, .ref g0, .int (nI vn)])), (pb, .inr (1, [.ref b1, .int (nI n), .ref b2, .ref b3, .ref b4, .ref b5, .ref b6])), (sa, .inl (cS, 3, .inr (.inr (.inr (.inr (fun j => some (aS j))))))), (aS 0, .inr (2, [.ref (aS1 0), .ref (aS2 0), va_rf (pu 0), .int (nI (qCut vn (st 0) (sl 0) n)), .int (nI (sl 0))])), (aS 1, .inr (2, [.ref (aS1 1), .ref (aS2 1), va_rf (pu 1), .int (nI (qCut vn (st 1) (sl 1) n)), .int (nI (sl 1))])), (aS 2, .inr (2, [.ref (aS1 2), .ref (aS2 2), va_rf (pu 2), .int (nI (qCut vn (st 2) (sl 2) n)), .int (nI (sl 2))]))] := hD
          refine lv_goto (tgt := 217) hx hb dL_does_76 (by decide) ?_
          exact vx_ret (x_ret_i hx hb hrt hlk hP hD hS dL_does_217 ⟨by decide, by decide⟩ (some (vn, r0)) (⟨rfl, hw⟩) rfl)
      · exfalso; omega
    · exfalso; omega
  · exfalso; omega

set_option maxHeartbeats 4000000 in
set_option maxRecDepth 100000 in
theorem zD_setCondition (l : Launch) (D : va_G) (cI cP cS cL : ClassId) (hfl : l.stackTraces = false) (x0 pb pa sa g0 lim : Nat) (aS aS1 aS2 : Nat → Nat) (pu : Nat → Option Nat) (st sl : Nat → Nat) (cp : Nat → Nat → Int32) (aP : Nat → Nat) (pi p1 p2 p3 p4 : Nat) (co re nu : Nat → Int32) (px tx cx rx nx : Int32) (hpx : ∀ j, j < 3 → px = nI j → j = pi) : xWi l yL_does wsL_does (rmD 8 5 30) D [(cI, .int), (cP, .object RX0), (cS, .object RX2)] [.ref x0, .int (nI 5), .int px, .int tx, .int cx, .int rx, .int nx] [(x0, .inr (4, [.ref pb, .ref pa, .ref sa, .ref g0, .int (nI lim)])), (pa, .inl (cP, 3, .inr (.inr (.inr (.inr (fun j => some (aP j))))))), (aP pi, .inr (0, [.ref p1, .ref p2, .ref p3, .ref p4])), (p1, .inl (cI, 2, .inl co)), (p2, .inl (cI, 2, .inl re)), (p3, .inl (cI, 2, .inl nu)), (sa, .inl (cS, 3, .inr (.inr (.inr (.inr (fun j => some (aS j))))))), (aS 0, .inr (2, [.ref (aS1 0), .ref (aS2 0), va_rf (pu 0), .int (nI (st 0)), .int (nI (sl 0))])), (aS 1, .inr (2, [.ref (aS1 1), .ref (aS2 1), va_rf (pu 1), .int (nI (st 1)), .int (nI (sl 1))])), (aS 2, .inr (2, [.ref (aS1 2), .ref (aS2 2), va_rf (pu 2), .int (nI (st 2)), .int (nI (sl 2))])), (aS2 0, .inl (cI, 2, .inl (cp 0))), (aS2 1, .inl (cI, 2, .inl (cp 1))), (aS2 2, .inl (cI, 2, .inl (cp 2)))] (fun (r : Int32) (u : Option ((Nat) × Int32)) => match u with | some (tn, r0) => r = r0 ∧ ((px = nI pi ∧ pi < 3 ∧ tx = nI tn ∧ tn < 2 ∧ vp_in cx 3) ∧ (vp_in rx 3 ∧ vp_in nx 100) ∧ r0 = nI (qFgN (decide (pu 0 = some (aP pi))) (cp 0) tn + qFgN (decide (pu 1 = some (aP pi))) (cp 1) tn + qFgN (decide (pu 2 = some (aP pi))) (cp 2) tn)) | none => (r = (-30) ∧ (¬ (vp_in px 3 ∧ vp_in tx 2 ∧ vp_in cx 3))) ∨ (r = (-20) ∧ ((vp_in px 3 ∧ vp_in tx 2 ∧ vp_in cx 3) ∧ ¬ (vp_in rx 3 ∧ vp_in nx 100)))) (fun (u : Option ((Nat) × Int32)) => match u with | some (tn, r0) => [(x0, .inr (4, [.ref pb, .ref pa, .ref sa, .ref g0, .int (nI lim)])), (pa, .inl (cP, 3, .inr (.inr (.inr (.inr (fun j => some (aP j))))))), (aP pi, .inr (0, [.ref p1, .ref p2, .ref p3, .ref p4])), (p1, .inl (cI, 2, .inl (upd co tn cx))), (p2, .inl (cI, 2, .inl (upd re tn rx))), (p3, .inl (cI, 2, .inl (upd nu tn nx))), (sa, .inl (cS, 3, .inr (.inr (.inr (.inr (fun j => some (aS j))))))), (aS 0, .inr (2, [.ref (aS1 0), .ref (aS2 0), va_rf (pu 0), .int (nI (st 0)), .int (nI (sl 0))])), (aS 1, .inr (2, [.ref (aS1 1), .ref (aS2 1), va_rf (pu 1), .int (nI (st 1)), .int (nI (sl 1))])), (aS 2, .inr (2, [.ref (aS1 2), .ref (aS2 2), va_rf (pu 2), .int (nI (st 2)), .int (nI (sl 2))])), (aS2 0, .inl (cI, 2, .inl (qFg (decide (pu 0 = some (aP pi))) (cp 0) tn))), (aS2 1, .inl (cI, 2, .inl (qFg (decide (pu 1 = some (aP pi))) (cp 1) tn))), (aS2 2, .inl (cI, 2, .inl (qFg (decide (pu 2 = some (aP pi))) (cp 2) tn)))] | none => [(x0, .inr (4, [.ref pb, .ref pa, .ref sa, .ref g0, .int (nI lim)])), (pa, .inl (cP, 3, .inr (.inr (.inr (.inr (fun j => some (aP j))))))), (aP pi, .inr (0, [.ref p1, .ref p2, .ref p3, .ref p4])), (p1, .inl (cI, 2, .inl co)), (p2, .inl (cI, 2, .inl re)), (p3, .inl (cI, 2, .inl nu)), (sa, .inl (cS, 3, .inr (.inr (.inr (.inr (fun j => some (aS j))))))), (aS 0, .inr (2, [.ref (aS1 0), .ref (aS2 0), va_rf (pu 0), .int (nI (st 0)), .int (nI (sl 0))])), (aS 1, .inr (2, [.ref (aS1 1), .ref (aS2 1), va_rf (pu 1), .int (nI (st 1)), .int (nI (sl 1))])), (aS 2, .inr (2, [.ref (aS1 2), .ref (aS2 2), va_rf (pu 2), .int (nI (st 2)), .int (nI (sl 2))])), (aS2 0, .inl (cI, 2, .inl (cp 0))), (aS2 1, .inl (cI, 2, .inl (cp 1))), (aS2 2, .inl (cI, 2, .inl (cp 2)))]) 5 30 := by
  refine xe_W (cc := cL_does) (maxL := 8) (ret := some .int) (hh := [(0, 217, 218, 64), (0, 217, 223, 66), (0, 217, 228, 68)]) (by decide) rfl (Nat.le_of_ble_eq_true rfl) ?_
  intro zp ze s zm below meth zc A ls B hT hE
  obtain ⟨hx, hb, hml, hrt, hts, hown, hnm, hlk, hK, hP, hD, hA, hS, hN, hl⟩ := B
  have hown : s.vm.findClass RL = some zm.cls := hown
  have hl : lv_has ls 8 [(0, .ref x0), (1, .int (nI 5)), (2, .int px), (3, .int tx), (4, .int cx), (5, .int rx), (6, .int nx)] := hl
  have hA : ∀ q, s.heap.size ≤ q → A q := hA
  refine lv_iload_n hx hb dL_does_0 rfl (lv_at hl 1 rfl) ?_
  refine x_if_ne (tgt := 27) hx hb (nI_z (by omega)) dL_does_1 (by decide) (fun c1 => ?_) (fun c1 => ?_)
  rotate_left
  · exact absurd c1 (by omega)
  refine lv_iload_n hx hb dL_does_27 rfl (lv_at hl 1 rfl) ?_
  refine lv_iconst (v := nI 1) hx hb dL_does_28 (by decide) ?_
  refine x_cmp_ne (tgt := 41) hx hb (nI_eq (a := 5) (b := 1) (by omega) (by omega)) dL_does_29 (by decide) (fun c29 => ?_) (fun c29 => ?_)
  · refine lv_iload_n hx hb dL_does_41 rfl (lv_at hl 1 rfl) ?_
    refine lv_iconst (v := nI 2) hx hb dL_does_42 (by decide) ?_
    refine x_cmp_ne (tgt := 54) hx hb (nI_eq (a := 5) (b := 2) (by omega) (by omega)) dL_does_43 (by decide) (fun c43 => ?_) (fun c43 => ?_)
    · refine lv_iload_n hx hb dL_does_54 rfl (lv_at hl 1 rfl) ?_
      refine lv_iconst (v := nI 3) hx hb dL_does_55 (by decide) ?_
      refine x_cmp_ne (tgt := 66) hx hb (nI_eq (a := 5) (b := 3) (by omega) (by omega)) dL_does_56 (by decide) (fun c56 => ?_) (fun c56 => ?_)
      · refine lv_iload_n hx hb dL_does_66 rfl (lv_at hl 1 rfl) ?_
        refine lv_iconst (v := nI 4) hx hb dL_does_67 (by decide) ?_
        refine x_cmp_ne (tgt := 79) hx hb (nI_eq (a := 5) (b := 4) (by omega) (by omega)) dL_does_68 (by decide) (fun c68 => ?_) (fun c68 => ?_)
        · refine lv_iload_n hx hb dL_does_79 rfl (lv_at hl 1 rfl) ?_
          refine lv_iconst (v := nI 5) hx hb dL_does_80 (by decide) ?_
          refine x_cmp_ne (tgt := 99) hx hb (nI_eq (a := 5) (b := 5) (by omega) (by omega)) dL_does_81 (by decide) (fun c81 => ?_) (fun c81 => ?_)
          · exfalso; omega
          · refine lv_aload_n hx hb dL_does_84 rfl (lv_at hl 0 rfl) ?_
            refine lv_iload_n hx hb dL_does_85 rfl (lv_at hl 2 rfl) ?_
            refine lv_iload_n hx hb dL_does_86 rfl (lv_at hl 3 rfl) ?_
            refine lv_iload hx hb dL_does_87 (lv_at hl 4 rfl) ?_
            refine lv_iload hx hb dL_does_89 (lv_at hl 5 rfl) ?_
            refine lv_iload hx hb dL_does_91 (lv_at hl 6 rfl) ?_
            refine x_callCi (w2 := fun (u : Nat) => match u with | tn => [(x0, .inr (4, [.ref pb, .ref pa, .ref sa, .ref g0, .int (nI lim)])), (pa, .inl (cP, 3, .inr (.inr (.inr (.inr (fun j => some (aP j))))))), (aP pi, .inr (0, [.ref p1, .ref p2, .ref p3, .ref p4])), (p1, .inl (cI, 2, .inl (upd co tn cx))), (p2, .inl (cI, 2, .inl (upd re tn rx))), (p3, .inl (cI, 2, .inl (upd nu tn nx))), (sa, .inl (cS, 3, .inr (.inr (.inr (.inr (fun j => some (aS j))))))), (aS 0, .inr (2, [.ref (aS1 0), .ref (aS2 0), va_rf (pu 0), .int (nI (st 0)), .int (nI (sl 0))])), (aS 1, .inr (2, [.ref (aS1 1), .ref (aS2 1), va_rf (pu 1), .int (nI (st 1)), .int (nI (sl 1))])), (aS 2, .inr (2, [.ref (aS1 2), .ref (aS2 2), va_rf (pu 2), .int (nI (st 2)), .int (nI (sl 2))])), (aS2 0, .inl (cI, 2, .inl (qFg (decide (pu 0 = some (aP pi))) (cp 0) tn))), (aS2 1, .inl (cI, 2, .inl (qFg (decide (pu 1 = some (aP pi))) (cp 1) tn))), (aS2 2, .inl (cI, 2, .inl (qFg (decide (pu 2 = some (aP pi))) (cp 2) tn)))]) (wr := []) (x_runXV (n := 5) ⟨hx, hb, hml, hown, hts⟩ (zX4_setCondition l D cI cP cS cL hfl x0 pb pa sa g0 lim aS aS1 aS2 pu st sl cp aP pi p1 p2 p3 p4 co re nu px tx cx rx nx hpx) gL_does_X4_setCondition rfl rfl rfl (by decide +kernel) ⟨by decide, by decide⟩ hN hK hP hD hS hA hE [0, 1, 2, 3, 4, 5, 6, 7, 8, 9, 10, 11, 12] rfl rfl (ci := 4) (q0 := 0) rfl rfl rfl rfl hl.1 (rest := []) (As := [.int px, .int tx, .int cx, .int rx, .int nx]) rfl (Nat.le_of_ble_eq_true rfl) dL_does_93 ⟨by decide, by decide⟩) hP hD hS hA [0, 1, 2, 3, 4, 5, 6, 7, 8, 9, 10, 11, 12] [] [0, 1, 2, 3, 4, 5, 6, 7, 8, 9, 10, 11, 12] [0, 1, 2, 3, 4, 5, 6, 7, 8, 9, 10, 11, 12] rfl rfl rfl (by decide) rfl rfl rfl (fun _ => rfl) (fun E ce q9 H locs hEX hP hD hS hce hcv hcl => ?_) (fun r0 u H locs hw hP hD hS => ?_)
            · have hEX : (E = nIO ∧ ¬ (vp_in px 3 ∧ vp_in tx 2 ∧ vp_in cx 3)) ∨ (E = nIA ∧ (vp_in px 3 ∧ vp_in tx 2 ∧ vp_in cx 3) ∧ ¬ (vp_in rx 3 ∧ vp_in nx 100)) := hEX
              rcases hEX with ⟨rfl, h9⟩ | ⟨rfl, h9⟩
              · refine x_catch hown hts hE [] ⟨0, 217, 218, 64⟩ [⟨0, 217, 223, 66⟩, ⟨0, 217, 228, 68⟩] (hT.trans rfl) (by decide) (fun z hz => by cases hz) (by decide) (by decide) kL_does_c64 hce hcv hcl ?_
                refine lv_astore (lv' := [(7, .ref q9), (0, .ref x0), (1, .int (nI 5)), (2, .int px), (3, .int tx), (4, .int cx), (5, .int rx), (6, .int nx)]) hx hb dL_does_218 hl (by decide) rfl (fun ls hl => ?_)
                refine lv_bipush (v := (-30 : Int32)) hx hb dL_does_220 (by decide) ?_
                exact vx_ret (x_ret_i hx hb hrt hlk hP hD hS dL_does_222 ⟨by decide, by decide⟩ none (Or.inl ⟨rfl, h9⟩) rfl)
              · refine x_catch hown hts hE [⟨0, 217, 218, 64⟩] ⟨0, 217, 223, 66⟩ [⟨0, 217, 228, 68⟩] (hT.trans rfl) (by decide) (fun z hz => by simp only [List.mem_cons, List.not_mem_nil, or_false] at hz; subst hz <;> first | exact ⟨by decide, _, kL_does_c64, by decide, by decide⟩) (by decide) (by decide) kL_does_c66 hce hcv hcl ?_
                refine lv_astore (lv' := [(7, .ref q9), (0, .ref x0), (1, .int (nI 5)), (2, .int px), (3, .int tx), (4, .int cx), (5, .int rx), (6, .int nx)]) hx hb dL_does_223 hl (by decide) rfl (fun ls hl => ?_)
                refine lv_bipush (v := (-20 : Int32)) hx hb dL_does_225 (by decide) ?_
                exact vx_ret (x_ret_i hx hb hrt hlk hP hD hS dL_does_227 ⟨by decide, by decide⟩ none (Or.inr (⟨rfl, h9⟩)) rfl)
            obtain ⟨tn, h9⟩ : ∃ z, z = u := ⟨u, rfl⟩
            subst h9
            have hP : va_P D vwCl [(x0, .inr (4, [.ref pb, .ref pa, .ref sa, .ref g0, .int (nI lim)])), (pa, .inl (cP, 3, .inr (.inr (.inr (.inr (fun j => some (aP j))))))), (aP pi, .inr (0, [.ref p1, .ref p2, .ref p3, .ref p4])), (p1, .inl (cI, 2, .inl (upd co tn cx))), (p2, .inl (cI, 2, .inl (upd re tn rx))), (p3, .inl (cI, 2, .inl (upd nu tn nx))), (sa, .inl (cS, 3, .inr (.inr (.inr (.inr (fun j => some (aS j))))))), (aS 0, .inr (2, [.ref (aS1 0), .ref (aS2 0), va_rf (pu 0), .int (nI (st 0)), .int (nI (sl 0))])), (aS 1, .inr (2, [.ref (aS1 1), .ref (aS2 1), va_rf (pu 1), .int (nI (st 1)), .int (nI (sl 1))])), (aS 2, .inr (2, [.ref (aS1 2), .ref (aS2 2), va_rf (pu 2), .int (nI (st 2)), .int (nI (sl 2))])), (aS2 0, .inl (cI, 2, .inl (qFg (decide (pu 0 = some (aP pi))) (cp 0) tn))), (aS2 1, .inl (cI, 2, .inl (qFg (decide (pu 1 = some (aP pi))) (cp 1) tn))), (aS2 2, .inl (cI, 2, .inl (qFg (decide (pu 2 = some (aP pi))) (cp 2) tn)))] H := hP
            have hD : va_D A [(x0, .inr (4, [.ref pb, .ref pa, .ref sa, .ref g0, .int (nI lim)])), (pa, .inl (cP, 3, .inr (.inr (.inr (.inr (fun j => some (aP j))))))), (aP pi, .inr (0, [.ref p1, .ref p2, .ref p3, .ref p4])), (p1, .inl (cI, 2, .inl (upd co tn cx))), (p2, .inl (cI, 2, .inl (upd re tn rx))), (p3, .inl (cI, 2, .inl (upd nu tn nx))), (sa, .inl (cS, 3, .inr (.inr (.inr (.inr (fun j => some (aS j))))))), (aS 0, .inr (2, [.ref (aS1 0), .ref (aS2 0), va_rf (pu 0), .int (nI (st 0)), .int (nI (sl 0))])), (aS 1, .inr (2, [.ref (aS1 1), .ref (aS2 1), va_rf (pu 1), .int (nI (st 1)), .int (nI (sl 1))])), (aS 2, .inr (2, [.ref (aS1 2), .ref (aS2 2), va_rf (pu 2), .int (nI (st 2)), .int (nI (sl 2))])), (aS2 0, .inl (cI, 2, .inl (qFg (decide (pu 0 = some (aP pi))) (cp 0) tn))), (aS2 1, .inl (cI, 2, .inl (qFg (decide (pu 1 = some (aP pi))) (cp 1) tn))), (aS2 2, .inl (cI, 2, .inl (qFg (decide (pu 2 = some (aP pi))) (cp 2) tn)))] := hD
            refine lv_goto (tgt := 217) hx hb dL_does_96 (by decide) ?_
            exact vx_ret (x_ret_i hx hb hrt hlk hP hD hS dL_does_217 ⟨by decide, by decide⟩ (some (tn, r0)) (⟨rfl, hw⟩) rfl)
        · exfalso; omega
      · exfalso; omega
    · exfalso; omega
  · exfalso; omega

set_option maxHeartbeats 4000000 in
set_option maxRecDepth 100000 in
theorem zD_setColumns (l : Launch) (D : va_G) (cI cP cS cL : ClassId) (hfl : l.stackTraces = false) (x0 pb pa sa g0 lim : Nat) (aS aS1 aS2 : Nat → Nat) (pu : Nat → Option Nat) (st sl : Nat → Nat) (cp : Nat → Nat → Int32) (aP : Nat → Nat) (pi p1 p2 p3 p4 : Nat) (ma : Nat → Int32) (px tx cx : Int32) (y0 y1 : Int32) (hpx : ∀ j, j < 3 → px = nI j → j = pi) : xWi l yL_does wsL_does (rmD 8 3 18) D [(cI, .int), (cP, .object RX0), (cS, .object RX2)] [.ref x0, .int (nI 6), .int px, .int tx, .int cx, .int y0, .int y1] [(x0, .inr (4, [.ref pb, .ref pa, .ref sa, .ref g0, .int (nI lim)])), (pa, .inl (cP, 3, .inr (.inr (.inr (.inr (fun j => some (aP j))))))), (aP pi, .inr (0, [.ref p1, .ref p2, .ref p3, .ref p4])), (p4, .inl (cI, 2, .inl ma)), (sa, .inl (cS, 3, .inr (.inr (.inr (.inr (fun j => some (aS j))))))), (aS 0, .inr (2, [.ref (aS1 0), .ref (aS2 0), va_rf (pu 0), .int (nI (st 0)), .int (nI (sl 0))])), (aS 1, .inr (2, [.ref (aS1 1), .ref (aS2 1), va_rf (pu 1), .int (nI (st 1)), .int (nI (sl 1))])), (aS 2, .inr (2, [.ref (aS1 2), .ref (aS2 2), va_rf (pu 2), .int (nI (st 2)), .int (nI (sl 2))])), (aS2 0, .inl (cI, 2, .inl (cp 0))), (aS2 1, .inl (cI, 2, .inl (cp 1))), (aS2 2, .inl (cI, 2, .inl (cp 2)))] (fun (r : Int32) (u : Option ((Nat) × Int32)) => match u with | some (tn, r0) => r = r0 ∧ ((px = nI pi ∧ pi < 3 ∧ tx = nI tn ∧ tn < 2) ∧ vp_in cx 8 ∧ r0 = nI (qFgN (decide (pu 0 = some (aP pi))) (cp 0) tn + qFgN (decide (pu 1 = some (aP pi))) (cp 1) tn + qFgN (decide (pu 2 = some (aP pi))) (cp 2) tn)) | none => (r = (-30) ∧ (¬ (vp_in px 3 ∧ vp_in tx 2))) ∨ (r = (-20) ∧ ((vp_in px 3 ∧ vp_in tx 2) ∧ ¬ vp_in cx 8))) (fun (u : Option ((Nat) × Int32)) => match u with | some (tn, r0) => [(x0, .inr (4, [.ref pb, .ref pa, .ref sa, .ref g0, .int (nI lim)])), (pa, .inl (cP, 3, .inr (.inr (.inr (.inr (fun j => some (aP j))))))), (aP pi, .inr (0, [.ref p1, .ref p2, .ref p3, .ref p4])), (p4, .inl (cI, 2, .inl (upd ma tn (qMaskN cx 3)))), (sa, .inl (cS, 3, .inr (.inr (.inr (.inr (fun j => some (aS j))))))), (aS 0, .inr (2, [.ref (aS1 0), .ref (aS2 0), va_rf (pu 0), .int (nI (st 0)), .int (nI (sl 0))])), (aS 1, .inr (2, [.ref (aS1 1), .ref (aS2 1), va_rf (pu 1), .int (nI (st 1)), .int (nI (sl 1))])), (aS 2, .inr (2, [.ref (aS1 2), .ref (aS2 2), va_rf (pu 2), .int (nI (st 2)), .int (nI (sl 2))])), (aS2 0, .inl (cI, 2, .inl (qFg (decide (pu 0 = some (aP pi))) (cp 0) tn))), (aS2 1, .inl (cI, 2, .inl (qFg (decide (pu 1 = some (aP pi))) (cp 1) tn))), (aS2 2, .inl (cI, 2, .inl (qFg (decide (pu 2 = some (aP pi))) (cp 2) tn)))] | none => [(x0, .inr (4, [.ref pb, .ref pa, .ref sa, .ref g0, .int (nI lim)])), (pa, .inl (cP, 3, .inr (.inr (.inr (.inr (fun j => some (aP j))))))), (aP pi, .inr (0, [.ref p1, .ref p2, .ref p3, .ref p4])), (p4, .inl (cI, 2, .inl ma)), (sa, .inl (cS, 3, .inr (.inr (.inr (.inr (fun j => some (aS j))))))), (aS 0, .inr (2, [.ref (aS1 0), .ref (aS2 0), va_rf (pu 0), .int (nI (st 0)), .int (nI (sl 0))])), (aS 1, .inr (2, [.ref (aS1 1), .ref (aS2 1), va_rf (pu 1), .int (nI (st 1)), .int (nI (sl 1))])), (aS 2, .inr (2, [.ref (aS1 2), .ref (aS2 2), va_rf (pu 2), .int (nI (st 2)), .int (nI (sl 2))])), (aS2 0, .inl (cI, 2, .inl (cp 0))), (aS2 1, .inl (cI, 2, .inl (cp 1))), (aS2 2, .inl (cI, 2, .inl (cp 2)))]) 3 18 := by
  refine xe_W (cc := cL_does) (maxL := 8) (ret := some .int) (hh := [(0, 217, 218, 64), (0, 217, 223, 66), (0, 217, 228, 68)]) (by decide) rfl (Nat.le_of_ble_eq_true rfl) ?_
  intro zp ze s zm below meth zc A ls B hT hE
  obtain ⟨hx, hb, hml, hrt, hts, hown, hnm, hlk, hK, hP, hD, hA, hS, hN, hl⟩ := B
  have hown : s.vm.findClass RL = some zm.cls := hown
  have hl : lv_has ls 8 [(0, .ref x0), (1, .int (nI 6)), (2, .int px), (3, .int tx), (4, .int cx), (5, .int y0), (6, .int y1)] := hl
  have hA : ∀ q, s.heap.size ≤ q → A q := hA
  refine lv_iload_n hx hb dL_does_0 rfl (lv_at hl 1 rfl) ?_
  refine x_if_ne (tgt := 27) hx hb (nI_z (by omega)) dL_does_1 (by decide) (fun c1 => ?_) (fun c1 => ?_)
  rotate_left
  · exact absurd c1 (by omega)
  refine lv_iload_n hx hb dL_does_27 rfl (lv_at hl 1 rfl) ?_
  refine lv_iconst (v := nI 1) hx hb dL_does_28 (by decide) ?_
  refine x_cmp_ne (tgt := 41) hx hb (nI_eq (a := 6) (b := 1) (by omega) (by omega)) dL_does_29 (by decide) (fun c29 => ?_) (fun c29 => ?_)
  · refine lv_iload_n hx hb dL_does_41 rfl (lv_at hl 1 rfl) ?_
    refine lv_iconst (v := nI 2) hx hb dL_does_42 (by decide) ?_
    refine x_cmp_ne (tgt := 54) hx hb (nI_eq (a := 6) (b := 2) (by omega) (by omega)) dL_does_43 (by decide) (fun c43 => ?_) (fun c43 => ?_)
    · refine lv_iload_n hx hb dL_does_54 rfl (lv_at hl 1 rfl) ?_
      refine lv_iconst (v := nI 3) hx hb dL_does_55 (by decide) ?_
      refine x_cmp_ne (tgt := 66) hx hb (nI_eq (a := 6) (b := 3) (by omega) (by omega)) dL_does_56 (by decide) (fun c56 => ?_) (fun c56 => ?_)
      · refine lv_iload_n hx hb dL_does_66 rfl (lv_at hl 1 rfl) ?_
        refine lv_iconst (v := nI 4) hx hb dL_does_67 (by decide) ?_
        refine x_cmp_ne (tgt := 79) hx hb (nI_eq (a := 6) (b := 4) (by omega) (by omega)) dL_does_68 (by decide) (fun c68 => ?_) (fun c68 => ?_)
        · refine lv_iload_n hx hb dL_does_79 rfl (lv_at hl 1 rfl) ?_
          refine lv_iconst (v := nI 5) hx hb dL_does_80 (by decide) ?_
          refine x_cmp_ne (tgt := 99) hx hb (nI_eq (a := 6) (b := 5) (by omega) (by omega)) dL_does_81 (by decide) (fun c81 => ?_) (fun c81 => ?_)
          · refine lv_iload_n hx hb dL_does_99 rfl (lv_at hl 1 rfl) ?_
            refine lv_bipush (v := nI 6) hx hb dL_does_100 (by decide) ?_
            refine x_cmp_ne (tgt := 116) hx hb (nI_eq (a := 6) (b := 6) (by omega) (by omega)) dL_does_102 (by decide) (fun c102 => ?_) (fun c102 => ?_)
            · exfalso; omega
            · refine lv_aload_n hx hb dL_does_105 rfl (lv_at hl 0 rfl) ?_
              refine lv_iload_n hx hb dL_does_106 rfl (lv_at hl 2 rfl) ?_
              refine lv_iload_n hx hb dL_does_107 rfl (lv_at hl 3 rfl) ?_
              refine lv_iload hx hb dL_does_108 (lv_at hl 4 rfl) ?_
              refine x_callCi (w2 := fun (u : Nat) => match u with | tn => [(x0, .inr (4, [.ref pb, .ref pa, .ref sa, .ref g0, .int (nI lim)])), (pa, .inl (cP, 3, .inr (.inr (.inr (.inr (fun j => some (aP j))))))), (aP pi, .inr (0, [.ref p1, .ref p2, .ref p3, .ref p4])), (p4, .inl (cI, 2, .inl (upd ma tn (qMaskN cx 3)))), (sa, .inl (cS, 3, .inr (.inr (.inr (.inr (fun j => some (aS j))))))), (aS 0, .inr (2, [.ref (aS1 0), .ref (aS2 0), va_rf (pu 0), .int (nI (st 0)), .int (nI (sl 0))])), (aS 1, .inr (2, [.ref (aS1 1), .ref (aS2 1), va_rf (pu 1), .int (nI (st 1)), .int (nI (sl 1))])), (aS 2, .inr (2, [.ref (aS1 2), .ref (aS2 2), va_rf (pu 2), .int (nI (st 2)), .int (nI (sl 2))])), (aS2 0, .inl (cI, 2, .inl (qFg (decide (pu 0 = some (aP pi))) (cp 0) tn))), (aS2 1, .inl (cI, 2, .inl (qFg (decide (pu 1 = some (aP pi))) (cp 1) tn))), (aS2 2, .inl (cI, 2, .inl (qFg (decide (pu 2 = some (aP pi))) (cp 2) tn)))]) (wr := []) (x_runXV (n := 3) ⟨hx, hb, hml, hown, hts⟩ (zX4_setColumns l D cI cP cS cL hfl x0 pb pa sa g0 lim aS aS1 aS2 pu st sl cp aP pi p1 p2 p3 p4 ma px tx cx hpx) gL_does_X4_setColumns rfl rfl rfl (by decide +kernel) ⟨by decide, by decide⟩ hN hK hP hD hS hA hE [0, 1, 2, 3, 4, 5, 6, 7, 8, 9, 10] rfl rfl (ci := 4) (q0 := 0) rfl rfl rfl rfl hl.1 (rest := []) (As := [.int px, .int tx, .int cx]) rfl (Nat.le_of_ble_eq_true rfl) dL_does_110 ⟨by decide, by decide⟩) hP hD hS hA [0, 1, 2, 3, 4, 5, 6, 7, 8, 9, 10] [] [0, 1, 2, 3, 4, 5, 6, 7, 8, 9, 10] [0, 1, 2, 3, 4, 5, 6, 7, 8, 9, 10] rfl rfl rfl (by decide) rfl rfl rfl (fun _ => rfl) (fun E ce q9 H locs hEX hP hD hS hce hcv hcl => ?_) (fun r0 u H locs hw hP hD hS => ?_)
              · have hEX : (E = nIO ∧ ¬ (vp_in px 3 ∧ vp_in tx 2)) ∨ (E = nIA ∧ (vp_in px 3 ∧ vp_in tx 2) ∧ ¬ vp_in cx 8) := hEX
                rcases hEX with ⟨rfl, h9⟩ | ⟨rfl, h9⟩
                · refine x_catch hown hts hE [] ⟨0, 217, 218, 64⟩ [⟨0, 217, 223, 66⟩, ⟨0, 217, 228, 68⟩] (hT.trans rfl) (by decide) (fun z hz => by cases hz) (by decide) (by decide) kL_does_c64 hce hcv hcl ?_
                  refine lv_astore (lv' := [(7, .ref q9), (0, .ref x0), (1, .int (nI 6)), (2, .int px), (3, .int tx), (4, .int cx), (5, .int y0), (6, .int y1)]) hx hb dL_does_218 hl (by decide) rfl (fun ls hl => ?_)
                  refine lv_bipush (v := (-30 : Int32)) hx hb dL_does_220 (by decide) ?_
                  exact vx_ret (x_ret_i hx hb hrt hlk hP hD hS dL_does_222 ⟨by decide, by decide⟩ none (Or.inl ⟨rfl, h9⟩) rfl)
                · refine x_catch hown hts hE [⟨0, 217, 218, 64⟩] ⟨0, 217, 223, 66⟩ [⟨0, 217, 228, 68⟩] (hT.trans rfl) (by decide) (fun z hz => by simp only [List.mem_cons, List.not_mem_nil, or_false] at hz; subst hz <;> first | exact ⟨by decide, _, kL_does_c64, by decide, by decide⟩) (by decide) (by decide) kL_does_c66 hce hcv hcl ?_
                  refine lv_astore (lv' := [(7, .ref q9), (0, .ref x0), (1, .int (nI 6)), (2, .int px), (3, .int tx), (4, .int cx), (5, .int y0), (6, .int y1)]) hx hb dL_does_223 hl (by decide) rfl (fun ls hl => ?_)
                  refine lv_bipush (v := (-20 : Int32)) hx hb dL_does_225 (by decide) ?_
                  exact vx_ret (x_ret_i hx hb hrt hlk hP hD hS dL_does_227 ⟨by decide, by decide⟩ none (Or.inr (⟨rfl, h9⟩)) rfl)
              obtain ⟨tn, h9⟩ : ∃ z, z = u := ⟨u, rfl⟩
              subst h9
              have hP : va_P D vwCl [(x0, .inr (4, [.ref pb, .ref pa, .ref sa, .ref g0, .int (nI lim)])), (pa, .inl (cP, 3, .inr (.inr (.inr (.inr (fun j => some (aP j))))))), (aP pi, .inr (0, [.ref p1, .ref p2, .ref p3, .ref p4])), (p4, .inl (cI, 2, .inl (upd ma tn (qMaskN cx 3)))), (sa, .inl (cS, 3, .inr (.inr (.inr (.inr (fun j => some (aS j))))))), (aS 0, .inr (2, [.ref (aS1 0), .ref (aS2 0), va_rf (pu 0), .int (nI (st 0)), .int (nI (sl 0))])), (aS 1, .inr (2, [.ref (aS1 1), .ref (aS2 1), va_rf (pu 1), .int (nI (st 1)), .int (nI (sl 1))])), (aS 2, .inr (2, [.ref (aS1 2), .ref (aS2 2), va_rf (pu 2), .int (nI (st 2)), .int (nI (sl 2))])), (aS2 0, .inl (cI, 2, .inl (qFg (decide (pu 0 = some (aP pi))) (cp 0) tn))), (aS2 1, .inl (cI, 2, .inl (qFg (decide (pu 1 = some (aP pi))) (cp 1) tn))), (aS2 2, .inl (cI, 2, .inl (qFg (decide (pu 2 = some (aP pi))) (cp 2) tn)))] H := hP
              have hD : va_D A [(x0, .inr (4, [.ref pb, .ref pa, .ref sa, .ref g0, .int (nI lim)])), (pa, .inl (cP, 3, .inr (.inr (.inr (.inr (fun j => some (aP j))))))), (aP pi, .inr (0, [.ref p1, .ref p2, .ref p3, .ref p4])), (p4, .inl (cI, 2, .inl (upd ma tn (qMaskN cx 3)))), (sa, .inl (cS, 3, .inr (.inr (.inr (.inr (fun j => some (aS j))))))), (aS 0, .inr (2, [.ref (aS1 0), .ref (aS2 0), va_rf (pu 0), .int (nI (st 0)), .int (nI (sl 0))])), (aS 1, .inr (2, [.ref (aS1 1), .ref (aS2 1), va_rf (pu 1), .int (nI (st 1)), .int (nI (sl 1))])), (aS 2, .inr (2, [.ref (aS1 2), .ref (aS2 2), va_rf (pu 2), .int (nI (st 2)), .int (nI (sl 2))])), (aS2 0, .inl (cI, 2, .inl (qFg (decide (pu 0 = some (aP pi))) (cp 0) tn))), (aS2 1, .inl (cI, 2, .inl (qFg (decide (pu 1 = some (aP pi))) (cp 1) tn))), (aS2 2, .inl (cI, 2, .inl (qFg (decide (pu 2 = some (aP pi))) (cp 2) tn)))] := hD
              refine lv_goto (tgt := 217) hx hb dL_does_113 (by decide) ?_
              exact vx_ret (x_ret_i hx hb hrt hlk hP hD hS dL_does_217 ⟨by decide, by decide⟩ (some (tn, r0)) (⟨rfl, hw⟩) rfl)
          · exfalso; omega
        · exfalso; omega
      · exfalso; omega
    · exfalso; omega
  · exfalso; omega
