set_option maxHeartbeats 8000000 in
set_option maxRecDepth 100000 in
theorem zL_isBook6 (l : Launch) (D : va_G) (cI cP cS cL : ClassId) (hfl : l.stackTraces = false) (ad la : Nat → Nat) (hinj : ∀ x y, x < 3 → y < 3 → ad (13 + 5 * x) = ad (13 + 5 * y) → x = y) (S : S4) (lp lo lq lb lg : qF) (one two three : Nat) (h1 : one < 6000) (h2 : two < 7000) (h3 : three < 8000) (hI0 : INE ad S lp lo lq lb lg) : xWi l yL_isBook wsL_isBook (rmD 11 20 120) D [(cI, .int), (cP, .object RX0), (cS, .object RX2)] [.ref (ad 0), .ref (la 2), .ref (la 3), .int (nI 6), .int (nI one), .int (nI two), .int (nI three)] (LW cI cP cS ad la S lp lo lq lb lg) (fun (r : Int32) (T : LT) => r = nI 1 ∧ INT ad T) (fun (T : LT) => LWt cI cP cS ad la T) 20 120 := by
  refine xe_N (cc := cL_isBook) (maxL := 13) (ret := (some .boolean)) (by decide) rfl (Nat.le_of_ble_eq_true rfl) ?_
  intro zp ze s zm below meth zc A ls B hE
  obtain ⟨hx, hb, hml, hrt, hts, hown, hnm, hlk, hK, hP, hD, hA, hS, hN, hl⟩ := B
  have hown : s.vm.findClass RL = some zm.cls := hown
  have hl : lv_has ls 13 [(0, .ref (ad 0)), (1, .ref (la 2)), (2, .ref (la 3)), (3, .int (nI 6)), (4, .int (nI one)), (5, .int (nI two)), (6, .int (nI three))] := hl
  have hA : ∀ q, s.heap.size ≤ q → A q := hA
  obtain ⟨bk, kc, mi, cn, hI⟩ := hI0
  have hn50 := IN_n hI
  have hlim50 := IN_lim hI
  have hcn12 := IN_cn hI
  refine x_join (nL := 13) (D := D) (A := A) (H0 := s.heap) (fun (bo : Nat) => bo ≤ 3) 16 (fun (bo : Nat) => 0) (fun (bo : Nat) => 0) (fun (bo : Nat) => LW cI cP cS ad la S lp lo lq lb lg) (fun (bo : Nat) => [(0, .ref (ad 0)), (1, .ref (la 2)), (2, .ref (la 3)), (3, .int (nI 6)), (4, .int (nI one)), (5, .int (nI two)), (6, .int (nI three))]) (fun (bo : Nat) => [.int (nI bo)]) ?_ ?_
  · intro x9 hj9 H locs ls hP hD hS hl
    obtain ⟨bo, h9⟩ : ∃ z, z = x9 := ⟨x9, rfl⟩
    subst h9
    have hP : va_P D vwCl (LW cI cP cS ad la S lp lo lq lb lg) H := hP
    have hD : va_D A (LW cI cP cS ad la S lp lo lq lb lg) := hD
    have hl : lv_has ls 13 [(0, .ref (ad 0)), (1, .ref (la 2)), (2, .ref (la 3)), (3, .int (nI 6)), (4, .int (nI one)), (5, .int (nI two)), (6, .int (nI three))] := hl
    show W _ _ _ _ _ _ _ _ _ _ _ _ (0) (0) _ _
    have hbo9 := hj9
    refine lv_istore (lv' := [(7, .int (nI bo)), (0, .ref (ad 0)), (1, .ref (la 2)), (2, .ref (la 3)), (3, .int (nI 6)), (4, .int (nI one)), (5, .int (nI two)), (6, .int (nI three))]) hx hb dL_isBook_16 hl (by decide) rfl (fun ls hl => ?_)
    refine x_join (nL := 13) (D := D) (A := A) (H0 := s.heap) (fun (t : Nat) => t ≤ 2) 34 (fun (t : Nat) => 0) (fun (t : Nat) => 0) (fun (t : Nat) => LW cI cP cS ad la S lp lo lq lb lg) (fun (t : Nat) => [(0, .ref (ad 0)), (1, .ref (la 2)), (2, .ref (la 3)), (3, .int (nI 6)), (4, .int (nI one)), (5, .int (nI two)), (6, .int (nI three)), (7, .int (nI bo))]) (fun (t : Nat) => [.int (nI t)]) ?_ ?_
    · intro x9 hj9 H locs ls hP hD hS hl
      obtain ⟨t, h9⟩ : ∃ z, z = x9 := ⟨x9, rfl⟩
      subst h9
      have hP : va_P D vwCl (LW cI cP cS ad la S lp lo lq lb lg) H := hP
      have hD : va_D A (LW cI cP cS ad la S lp lo lq lb lg) := hD
      have hl : lv_has ls 13 [(0, .ref (ad 0)), (1, .ref (la 2)), (2, .ref (la 3)), (3, .int (nI 6)), (4, .int (nI one)), (5, .int (nI two)), (6, .int (nI three)), (7, .int (nI bo))] := hl
      show W _ _ _ _ _ _ _ _ _ _ _ _ (0) (0) _ _
      have ht9 := hj9
      refine lv_istore (lv' := [(8, .int (nI t)), (0, .ref (ad 0)), (1, .ref (la 2)), (2, .ref (la 3)), (3, .int (nI 6)), (4, .int (nI one)), (5, .int (nI two)), (6, .int (nI three)), (7, .int (nI bo))]) hx hb dL_isBook_34 hl (by decide) rfl (fun ls hl => ?_)
      refine lv_iconst (v := nI 0) hx hb dL_isBook_36 (by decide) ?_
      refine lv_istore (lv' := [(9, .int (nI 0)), (8, .int (nI t)), (0, .ref (ad 0)), (1, .ref (la 2)), (2, .ref (la 3)), (3, .int (nI 6)), (4, .int (nI one)), (5, .int (nI two)), (6, .int (nI three)), (7, .int (nI bo))]) hx hb dL_isBook_37 hl (by decide) rfl (fun ls hl => ?_)
      refine x_join (nL := 13) (D := D) (A := A) (H0 := s.heap) (fun (ri : Nat) => (ri = 1 ∧ (three % 9 < 8)) ∨ (ri = 0 ∧ ¬ (three % 9 < 8))) 88 (fun (ri : Nat) => 0) (fun (ri : Nat) => 0) (fun (ri : Nat) => LW cI cP cS ad la S lp lo lq lb lg) (fun (ri : Nat) => [(0, .ref (ad 0)), (1, .ref (la 2)), (2, .ref (la 3)), (3, .int (nI 6)), (4, .int (nI one)), (5, .int (nI two)), (6, .int (nI three)), (7, .int (nI bo)), (8, .int (nI t)), (9, .int (nI 0))]) (fun (ri : Nat) => [.int (nI ri)]) ?_ ?_
      · intro x9 hj9 H locs ls hP hD hS hl
        obtain ⟨ri, h9⟩ : ∃ z, z = x9 := ⟨x9, rfl⟩
        subst h9
        have hP : va_P D vwCl (LW cI cP cS ad la S lp lo lq lb lg) H := hP
        have hD : va_D A (LW cI cP cS ad la S lp lo lq lb lg) := hD
        have hl : lv_has ls 13 [(0, .ref (ad 0)), (1, .ref (la 2)), (2, .ref (la 3)), (3, .int (nI 6)), (4, .int (nI one)), (5, .int (nI two)), (6, .int (nI three)), (7, .int (nI bo)), (8, .int (nI t)), (9, .int (nI 0))] := hl
        show W _ _ _ _ _ _ _ _ _ _ _ _ (0) (0) _ _
        have hri := hj9
        rcases hri with ⟨rfl, hri⟩ | ⟨rfl, hri⟩
        · refine lv_istore (lv' := [(10, .int (nI 1)), (0, .ref (ad 0)), (1, .ref (la 2)), (2, .ref (la 3)), (3, .int (nI 6)), (4, .int (nI one)), (5, .int (nI two)), (6, .int (nI three)), (7, .int (nI bo)), (8, .int (nI t)), (9, .int (nI 0))]) hx hb dL_isBook_88 hl (by decide) rfl (fun ls hl => ?_)
          rcases Classical.em (bo < 3 ∧ t < 2) with hth | hth
          · refine lv_iconst (v := nI 0) hx hb dL_isBook_90 (by decide) ?_
            refine lv_istore (lv' := [(11, .int (nI 0)), (10, .int (nI 1)), (0, .ref (ad 0)), (1, .ref (la 2)), (2, .ref (la 3)), (3, .int (nI 6)), (4, .int (nI one)), (5, .int (nI two)), (6, .int (nI three)), (7, .int (nI bo)), (8, .int (nI t)), (9, .int (nI 0))]) hx hb dL_isBook_91 hl (by decide) rfl (fun ls hl => ?_)
            refine x_loopc (nL := 13) (fun (x : Nat × qF × Nat) => match x with | (j, f, cq) => j ≤ 3 ∧ f = bFg lb (s_st S) bk bo t j ∧ cq = bN (s_st S) bk kc bo t j) (fun (x : Nat × qF × Nat) => match x with | (j, f, cq) => 3 - j) (fun (x : Nat × qF × Nat) => match x with | (j, f, cq) => 0) (fun (x : Nat × qF × Nat) => match x with | (j, f, cq) => 0) (fun (x : Nat × qF × Nat) => match x with | (j, f, cq) => LW cI cP cS ad la S lp lo lq f lg) (fun (x : Nat × qF × Nat) => match x with | (j, f, cq) => [(0, .ref (ad 0)), (1, .ref (la 2)), (2, .ref (la 3)), (3, .int (nI 6)), (4, .int (nI one)), (5, .int (nI two)), (6, .int (nI three)), (7, .int (nI bo)), (8, .int (nI t)), (9, .int (nI cq)), (10, .int (nI 1)), (11, .int (nI j))]) (fun (x : Nat × qF × Nat) => match x with | (j, f, cq) => []) ?_ (0, lb, 0) ⟨Nat.zero_le 3, (bFg_0 _ _ _ _ _).symm, rfl⟩ (by show _ ≤ 0; omega) (by show _ ≤ 0; omega) hP hD hS (lv_sub hl [2, 3, 4, 5, 6, 7, 8, 9, 10, 11, 1, 0] rfl)
            intro x9 hI93 ih93 H locs ls hP hD hS hl
            obtain ⟨j, f, cq⟩ := x9
            have hP : va_P D vwCl (LW cI cP cS ad la S lp lo lq f lg) H := hP
            have hD : va_D A (LW cI cP cS ad la S lp lo lq f lg) := hD
            have hl : lv_has ls 13 [(0, .ref (ad 0)), (1, .ref (la 2)), (2, .ref (la 3)), (3, .int (nI 6)), (4, .int (nI one)), (5, .int (nI two)), (6, .int (nI three)), (7, .int (nI bo)), (8, .int (nI t)), (9, .int (nI cq)), (10, .int (nI 1)), (11, .int (nI j))] := hl
            show W _ _ _ _ _ _ _ _ _ _ _ _ (0) (0) _ _
            obtain ⟨hj9, hf, hq⟩ := hI93
            have hqi := bN_le (s_st S) bk kc bo t j
            refine lv_iload hx hb dL_isBook_93 (lv_at hl 11 rfl) ?_
            refine lv_iconst (v := nI 3) hx hb dL_isBook_95 (by decide) ?_
            refine x_cmp_ge (tgt := 216) hx hb (nI_leI (a := 3) (b := j) (by omega) (by omega)) dL_isBook_96 (by decide) (fun c96 => ?_) (fun c96 => ?_)
            · obtain rfl : j = 3 := by omega
              subst hf
              subst hq
              have hqi := bN_le (s_st S) bk kc bo t 3
              have hP : va_P D vwCl (LW cI cP cS ad la S lp lo lq (bFg lb (s_st S) bk bo t 3) lg) H := hP
              have hD : va_D A (LW cI cP cS ad la S lp lo lq (bFg lb (s_st S) bk bo t 3) lg) := hD
              have hl : lv_has ls 13 [(0, .ref (ad 0)), (1, .ref (la 2)), (2, .ref (la 3)), (3, .int (nI 6)), (4, .int (nI one)), (5, .int (nI two)), (6, .int (nI three)), (7, .int (nI bo)), (8, .int (nI t)), (9, .int (nI (bN (s_st S) bk kc bo t 3))), (10, .int (nI 1)), (11, .int (nI 3))] := hl
              refine lv_iload hx hb dL_isBook_216 (lv_at hl 7 rfl) ?_
              refine lv_iconst (v := nI 3) hx hb dL_isBook_218 (by decide) ?_
              refine x_cmp_eq (tgt := 228) hx hb (nI_eq (a := bo) (b := 3) (by omega) (by omega)) dL_isBook_219 (by decide) (fun c219 => ?_) (fun c219 => ?_)
              · exfalso; omega
              · refine lv_iload hx hb dL_isBook_222 (lv_at hl 8 rfl) ?_
                refine lv_iconst (v := nI 2) hx hb dL_isBook_224 (by decide) ?_
                refine x_cmp_ne (tgt := 233) hx hb (nI_eq (a := t) (b := 2) (by omega) (by omega)) dL_isBook_225 (by decide) (fun c225 => ?_) (fun c225 => ?_)
                · refine lv_iload hx hb dL_isBook_233 (lv_at hl 10 rfl) ?_
                  refine x_if_eq (tgt := 243) hx hb (nI_z (by omega)) dL_isBook_235 (by decide) (fun c235 => ?_) (fun c235 => ?_)
                  · exfalso; omega
                  · refine lv_iload hx hb dL_isBook_238 (lv_at hl 9 rfl) ?_
                    refine lv_goto (tgt := 245) hx hb dL_isBook_240 (by decide) ?_
                    refine lv_istore (lv' := [(11, .int (nI (bN (s_st S) bk kc bo t 3))), (0, .ref (ad 0)), (1, .ref (la 2)), (2, .ref (la 3)), (3, .int (nI 6)), (4, .int (nI one)), (5, .int (nI two)), (6, .int (nI three)), (7, .int (nI bo)), (8, .int (nI t)), (9, .int (nI (bN (s_st S) bk kc bo t 3))), (10, .int (nI 1))]) hx hb dL_isBook_245 hl (by decide) rfl (fun ls hl => ?_)
                    refine lv_iload_n hx hb dL_isBook_247 rfl (lv_at hl 4 rfl) ?_
                    refine lv_bipush (v := nI 6) hx hb dL_isBook_248 (by decide) ?_
                    refine x_cmp_ne (tgt := 272) hx hb (Iff.rfl) dL_isBook_250 (by decide) (fun c250 => ?_) (fun c250 => ?_)
                    · exact absurd rfl c250
                    · refine lv_iload hx hb dL_isBook_253 (lv_at hl 0 rfl) ?_
                      refine x_if_lt (tgt := 272) hx hb (nI_ng (by omega)) dL_isBook_255 (by decide) (fun c255 => ?_) (fun c255 => ?_)
                      · exact c255.elim
                      · refine lv_aload_n hx hb dL_isBook_258 rfl (lv_at hl 2 rfl) ?_
                        refine lv_iconst (v := nI 2) hx hb dL_isBook_259 (by decide) ?_
                        refine lv_iload hx hb dL_isBook_260 (lv_at hl 8 rfl) ?_
                        refine x_mul (k := 2 * bo) hx hb dL_isBook_262 rfl ?_
                        refine lv_iload hx hb dL_isBook_263 (lv_at hl 9 rfl) ?_
                        refine x_add (k := (2 * bo) + t) hx hb dL_isBook_265 rfl ?_
                        refine lv_iload hx hb dL_isBook_266 (lv_at hl 7 rfl) ?_
                        refine lv_bipush (v := nI 9) hx hb dL_isBook_268 (by decide) ?_
                        refine x_rem (k := three % 9) hx hb dL_isBook_270 (by omega) (by omega) (by omega) rfl ?_
                        refine x_ast (g := upd lq ((2 * bo) + t) (nI (three % 9))) (ws' := LW cI cP cS ad la S lp lo (upd lq ((2 * bo) + t) (nI (three % 9))) (bFg lb (s_st S) bk bo t 3) lg) hx hb hK hP hD hS 39 0 rfl rfl (by omega) (by omega) (rfl) rfl dL_isBook_271 (fun H locs hP hD hS => ?_)
                        refine lv_iload_n hx hb dL_isBook_272 rfl (lv_at hl 4 rfl) ?_
                        refine lv_iconst (v := nI 5) hx hb dL_isBook_273 (by decide) ?_
                        refine x_cmp_ne (tgt := 318) hx hb (nI_eq (a := 6) (b := 5) (by omega) (by omega)) dL_isBook_274 (by decide) (fun c274 => ?_) (fun c274 => ?_)
                        · refine lv_aload_n hx hb dL_isBook_318 rfl (lv_at hl 1 rfl) ?_
                          refine lv_bipush (v := nI 6) hx hb dL_isBook_319 (by decide) ?_
                          refine lv_iload hx hb dL_isBook_321 (lv_at hl 8 rfl) ?_
                          refine lv_iload hx hb dL_isBook_323 (lv_at hl 9 rfl) ?_
                          refine lv_iload hx hb dL_isBook_325 (lv_at hl 7 rfl) ?_
                          refine lv_bipush (v := nI 9) hx hb dL_isBook_327 (by decide) ?_
                          refine x_rem (k := three % 9) hx hb dL_isBook_329 (by omega) (by omega) (by omega) rfl ?_
                          refine lv_iconst (v := nI 0) hx hb dL_isBook_330 (by decide) ?_
                          refine lv_iconst (v := nI 0) hx hb dL_isBook_331 (by decide) ?_
                          refine x_calli (w2 := fun (S332 : S4) => LW cI cP cS ad la S332 lp lo (upd lq ((2 * bo) + t) (nI (three % 9))) (bFg lb (s_st S) bk bo t 3) lg) (wr := []) (x_runL (n := 7) ⟨hx, hb, hml, hown, hts⟩ (fD_setColumns l D cI cP cS cL hfl ad la lp lo (upd lq ((2 * bo) + t) (nI (three % 9))) (bFg lb (s_st S) bk bo t 3) lg (s_lim S) (s_n S) (s_rows S) (s_cc S) (s_ct S) (s_ck S) (s_nr S) (s_cr S) (s_old S) (s_rw S) (s_co S) (s_re S) (s_nu S) (s_ma S) (s_sr S) (s_cp S) (s_pu S) (s_st S) (s_sl S) (cl bo) (nI bo) (nI t) (nI (three % 9)) (nI 0) (nI 0) (cl_lt bo) (hsx_cl (by omega))) gL_isBook_L_does rfl rfl rfl (by decide +kernel) ⟨by decide, by decide⟩ hN hK hP hD hS hA hE iLW rfl rfl rfl hl.1 (rest := []) (As := [.ref (ad 0), .int (nI 6), .int (nI bo), .int (nI t), .int (nI (three % 9)), .int (nI 0), .int (nI 0)]) rfl (Nat.le_of_ble_eq_true rfl) dL_isBook_332 ⟨by show _ ≤ 20; omega, by show _ ≤ 120; omega⟩) hP hD hS hA iLW [] iLW rfl rfl rfl (by decide) rfl (fun _ => rfl) (fun r332 S332 H locs hw hP hD hS => ?_)
                          obtain ⟨hr9, hI1⟩ := (O_setColumns (IN_of hI) hinj (by omega) (by omega) (by omega) hw).2.2 hth.1 hth.2 hri
                          have hI1 := hI1 (bFg lb (s_st S) bk bo t 3) (bFg_end (by omega))
                          subst hr9
                          have hP : va_P D vwCl (LW cI cP cS ad la S332 lp lo (upd lq ((2 * bo) + t) (nI (three % 9))) (bFg lb (s_st S) bk bo t 3) lg) H := hP
                          have hD : va_D A (LW cI cP cS ad la S332 lp lo (upd lq ((2 * bo) + t) (nI (three % 9))) (bFg lb (s_st S) bk bo t 3) lg) := hD
                          refine lv_iload hx hb dL_isBook_335 (lv_at hl 0 rfl) ?_
                          refine x_cmp_ne (tgt := 344) hx hb (Iff.rfl) dL_isBook_337 (by decide) (fun c337 => ?_) (fun c337 => ?_)
                          · exact absurd rfl c337
                          · refine lv_iconst (v := nI 1) hx hb dL_isBook_340 (by decide) ?_
                            refine lv_goto (tgt := 345) hx hb dL_isBook_341 (by decide) ?_
                            exact x_ret_z hx hb hrt (by first | exact Or.inl rfl | exact Or.inr rfl) hlk hP hD hS dL_isBook_345 ⟨by omega, by omega⟩ ((S332, lp, lo, upd lq ((2 * bo) + t) (nI (three % 9)), bFg lb (s_st S) bk bo t 3, lg)) ⟨rfl, ⟨_, _, _, _, hI1⟩⟩ rfl
                        · exfalso; omega
                · exfalso; omega
            · refine lv_iload hx hb dL_isBook_99 (lv_at hl 7 rfl) ?_
              refine lv_iconst (v := nI 3) hx hb dL_isBook_101 (by decide) ?_
              refine x_cmp_ge (tgt := 216) hx hb (nI_leI (a := 3) (b := bo) (by omega) (by omega)) dL_isBook_102 (by decide) (fun c102 => ?_) (fun c102 => ?_)
              · exfalso; omega
              · refine lv_iload hx hb dL_isBook_105 (lv_at hl 8 rfl) ?_
                refine lv_iconst (v := nI 2) hx hb dL_isBook_107 (by decide) ?_
                refine x_cmp_ge (tgt := 216) hx hb (nI_leI (a := 2) (b := t) (by omega) (by omega)) dL_isBook_108 (by decide) (fun c108 => ?_) (fun c108 => ?_)
                · exfalso; omega
                · refine lv_iload hx hb dL_isBook_111 (lv_at hl 10 rfl) ?_
                  refine x_if_eq (tgt := 216) hx hb (nI_z (by omega)) dL_isBook_113 (by decide) (fun c113 => ?_) (fun c113 => ?_)
                  · exfalso; omega
                  · refine x_join (nL := 13) (D := D) (A := A) (H0 := s.heap) (fun (z : Nat) => (z = 1 ∧ (0 < s_st S j ∧ bk j = bo) ∧ 0 < kc j t) ∨ (z = 0 ∧ ¬ ((0 < s_st S j ∧ bk j = bo) ∧ 0 < kc j t))) 160 (fun (z : Nat) => 0) (fun (z : Nat) => 0) (fun (z : Nat) => LW cI cP cS ad la S lp lo lq f lg) (fun (z : Nat) => [(0, .ref (ad 0)), (1, .ref (la 2)), (2, .ref (la 3)), (3, .int (nI 6)), (4, .int (nI one)), (5, .int (nI two)), (6, .int (nI three)), (7, .int (nI bo)), (8, .int (nI t)), (9, .int (nI cq)), (10, .int (nI 1)), (11, .int (nI j))]) (fun (z : Nat) => [.int (nI z)]) ?_ ?_
                    · intro x9 hj9 H locs ls hP hD hS hl
                      obtain ⟨z, h9⟩ : ∃ z, z = x9 := ⟨x9, rfl⟩
                      subst h9
                      have hP : va_P D vwCl (LW cI cP cS ad la S lp lo lq f lg) H := hP
                      have hD : va_D A (LW cI cP cS ad la S lp lo lq f lg) := hD
                      have hl : lv_has ls 13 [(0, .ref (ad 0)), (1, .ref (la 2)), (2, .ref (la 3)), (3, .int (nI 6)), (4, .int (nI one)), (5, .int (nI two)), (6, .int (nI three)), (7, .int (nI bo)), (8, .int (nI t)), (9, .int (nI cq)), (10, .int (nI 1)), (11, .int (nI j))] := hl
                      show W _ _ _ _ _ _ _ _ _ _ _ _ (0) (0) _ _
                      have hz := hj9
                      rcases hz with ⟨rfl, hz⟩ | ⟨rfl, hz⟩
                      · refine lv_istore (lv' := [(12, .int (nI 1)), (0, .ref (ad 0)), (1, .ref (la 2)), (2, .ref (la 3)), (3, .int (nI 6)), (4, .int (nI one)), (5, .int (nI two)), (6, .int (nI three)), (7, .int (nI bo)), (8, .int (nI t)), (9, .int (nI cq)), (10, .int (nI 1)), (11, .int (nI j))]) hx hb dL_isBook_160 hl (by decide) rfl (fun ls hl => ?_)
                        refine lv_iload hx hb dL_isBook_162 (lv_at hl 10 rfl) ?_
                        refine lv_iload hx hb dL_isBook_164 (lv_at hl 0 rfl) ?_
                        refine x_if_eq (tgt := 173) hx hb (nI_z (by omega)) dL_isBook_166 (by decide) (fun c166 => ?_) (fun c166 => ?_)
                        · exfalso; omega
                        · refine lv_iconst (v := nI 1) hx hb dL_isBook_169 (by decide) ?_
                          refine lv_goto (tgt := 174) hx hb dL_isBook_170 (by decide) ?_
                          refine x_add (k := cq + 1) hx hb dL_isBook_174 rfl ?_
                          refine lv_istore (lv' := [(9, .int (nI (cq + 1))), (12, .int (nI 1)), (0, .ref (ad 0)), (1, .ref (la 2)), (2, .ref (la 3)), (3, .int (nI 6)), (4, .int (nI one)), (5, .int (nI two)), (6, .int (nI three)), (7, .int (nI bo)), (8, .int (nI t)), (10, .int (nI 1)), (11, .int (nI j))]) hx hb dL_isBook_175 hl (by decide) rfl (fun ls hl => ?_)
                          refine lv_aload_n hx hb dL_isBook_177 rfl (lv_at hl 4 rfl) ?_
                          refine lv_bipush (v := nI 7) hx hb dL_isBook_178 (by decide) ?_
                          refine lv_iload hx hb dL_isBook_180 (lv_at hl 12 rfl) ?_
                          refine x_mul (k := 7 * j) hx hb dL_isBook_182 rfl ?_
                          refine lv_iconst (v := nI 3) hx hb dL_isBook_183 (by decide) ?_
                          refine x_add (k := (7 * j) + 3) hx hb dL_isBook_184 rfl ?_
                          refine lv_iload hx hb dL_isBook_185 (lv_at hl 10 rfl) ?_
                          refine x_add (k := ((7 * j) + 3) + t) hx hb dL_isBook_187 rfl ?_
                          refine lv_iload hx hb dL_isBook_188 (lv_at hl 1 rfl) ?_
                          refine x_if_eq (tgt := 197) hx hb (nI_z (by omega)) dL_isBook_190 (by decide) (fun c190 => ?_) (fun c190 => ?_)
                          · exfalso; omega
                          · refine lv_iconst (v := -1) hx hb dL_isBook_193 (by decide) ?_
                            refine lv_goto (tgt := 209) hx hb dL_isBook_194 (by decide) ?_
                            refine x_ast (g := upd f (((7 * j) + 3) + t) (-1)) (ws' := LW cI cP cS ad la S lp lo lq (upd f (((7 * j) + 3) + t) (-1)) lg) hx hb hK hP hD hS 40 0 rfl rfl (by omega) (by omega) (rfl) rfl dL_isBook_209 (fun H locs hP hD hS => ?_)
                            refine x_iinc (k := 12) (o := 1) (v := j + 1) (lv' := [(11, .int (nI (j + 1))), (9, .int (nI (cq + 1))), (12, .int (nI 1)), (0, .ref (ad 0)), (1, .ref (la 2)), (2, .ref (la 3)), (3, .int (nI 6)), (4, .int (nI one)), (5, .int (nI two)), (6, .int (nI three)), (7, .int (nI bo)), (8, .int (nI t)), (10, .int (nI 1))]) hx hb dL_isBook_210 hl rfl rfl rfl (by decide) rfl (fun ls hl => ?_)
                            refine lv_goto (tgt := 93) hx hb dL_isBook_213 (by decide) ?_
                            exact W.widen (by show _ ≤ 0; omega) (by show _ ≤ 0; omega) (ih93 (j + 1, upd f (((7 * j) + 3) + t) (-1), cq + 1) ⟨by omega, (by rw [hf]; exact bFg_y (by omega) hz.1), (by rw [hq]; exact (bN_y hz).symm)⟩ (by show 3 - (j + 1) < 3 - j; omega) _ _ _ hP hD hS (lv_sub hl [3, 4, 5, 6, 7, 8, 9, 10, 11, 1, 12, 0] rfl))
                      · refine lv_istore (lv' := [(12, .int (nI 0)), (0, .ref (ad 0)), (1, .ref (la 2)), (2, .ref (la 3)), (3, .int (nI 6)), (4, .int (nI one)), (5, .int (nI two)), (6, .int (nI three)), (7, .int (nI bo)), (8, .int (nI t)), (9, .int (nI cq)), (10, .int (nI 1)), (11, .int (nI j))]) hx hb dL_isBook_160 hl (by decide) rfl (fun ls hl => ?_)
                        refine lv_iload hx hb dL_isBook_162 (lv_at hl 10 rfl) ?_
                        refine lv_iload hx hb dL_isBook_164 (lv_at hl 0 rfl) ?_
                        refine x_if_eq (tgt := 173) hx hb (nI_z (by omega)) dL_isBook_166 (by decide) (fun c166 => ?_) (fun c166 => ?_)
                        · refine lv_iconst (v := nI 0) hx hb dL_isBook_173 (by decide) ?_
                          refine x_add (k := cq + 0) hx hb dL_isBook_174 rfl ?_
                          refine lv_istore (lv' := [(9, .int (nI (cq + 0))), (12, .int (nI 0)), (0, .ref (ad 0)), (1, .ref (la 2)), (2, .ref (la 3)), (3, .int (nI 6)), (4, .int (nI one)), (5, .int (nI two)), (6, .int (nI three)), (7, .int (nI bo)), (8, .int (nI t)), (10, .int (nI 1)), (11, .int (nI j))]) hx hb dL_isBook_175 hl (by decide) rfl (fun ls hl => ?_)
                          refine lv_aload_n hx hb dL_isBook_177 rfl (lv_at hl 4 rfl) ?_
                          refine lv_bipush (v := nI 7) hx hb dL_isBook_178 (by decide) ?_
                          refine lv_iload hx hb dL_isBook_180 (lv_at hl 12 rfl) ?_
                          refine x_mul (k := 7 * j) hx hb dL_isBook_182 rfl ?_
                          refine lv_iconst (v := nI 3) hx hb dL_isBook_183 (by decide) ?_
                          refine x_add (k := (7 * j) + 3) hx hb dL_isBook_184 rfl ?_
                          refine lv_iload hx hb dL_isBook_185 (lv_at hl 10 rfl) ?_
                          refine x_add (k := ((7 * j) + 3) + t) hx hb dL_isBook_187 rfl ?_
                          refine lv_iload hx hb dL_isBook_188 (lv_at hl 1 rfl) ?_
                          refine x_if_eq (tgt := 197) hx hb (nI_z (by omega)) dL_isBook_190 (by decide) (fun c190 => ?_) (fun c190 => ?_)
                          · refine lv_aload_n hx hb dL_isBook_197 rfl (lv_at hl 4 rfl) ?_
                            refine lv_bipush (v := nI 7) hx hb dL_isBook_198 (by decide) ?_
                            refine lv_iload hx hb dL_isBook_200 (lv_at hl 12 rfl) ?_
                            refine x_mul (k := 7 * j) hx hb dL_isBook_202 rfl ?_
                            refine lv_iconst (v := nI 3) hx hb dL_isBook_203 (by decide) ?_
                            refine x_add (k := (7 * j) + 3) hx hb dL_isBook_204 rfl ?_
                            refine lv_iload hx hb dL_isBook_205 (lv_at hl 10 rfl) ?_
                            refine x_add (k := ((7 * j) + 3) + t) hx hb dL_isBook_207 rfl ?_
                            refine x_ald (v := eX (kc j t)) hx hb hK hP 40 0 rfl rfl (by omega) (by omega) (by rw [hf, show 7 * j + 3 + t = 7 * j + (3 + t) by omega, bFg_at (by omega), ← Nat.add_assoc]; exact IN_b3 hI (by omega) (by omega)) dL_isBook_208 ?_
                            refine x_ast (g := upd f (((7 * j) + 3) + t) (eX (kc j t))) (ws' := LW cI cP cS ad la S lp lo lq (upd f (((7 * j) + 3) + t) (eX (kc j t))) lg) hx hb hK hP hD hS 40 0 rfl rfl (by omega) (by omega) (rfl) rfl dL_isBook_209 (fun H locs hP hD hS => ?_)
                            refine x_iinc (k := 12) (o := 1) (v := j + 1) (lv' := [(11, .int (nI (j + 1))), (9, .int (nI (cq + 0))), (12, .int (nI 0)), (0, .ref (ad 0)), (1, .ref (la 2)), (2, .ref (la 3)), (3, .int (nI 6)), (4, .int (nI one)), (5, .int (nI two)), (6, .int (nI three)), (7, .int (nI bo)), (8, .int (nI t)), (10, .int (nI 1))]) hx hb dL_isBook_210 hl rfl rfl rfl (by decide) rfl (fun ls hl => ?_)
                            refine lv_goto (tgt := 93) hx hb dL_isBook_213 (by decide) ?_
                            exact W.widen (by show _ ≤ 0; omega) (by show _ ≤ 0; omega) (ih93 (j + 1, upd f (((7 * j) + 3) + t) (eX (kc j t)), cq + 0) ⟨by omega, (by rw [hf]; exact bFg_n (by omega) (IN_b3 hI (by omega) (by omega)) hz), (by rw [hq]; exact (bN_n hz).symm)⟩ (by show 3 - (j + 1) < 3 - j; omega) _ _ _ hP hD hS (lv_sub hl [3, 4, 5, 6, 7, 8, 9, 10, 11, 1, 12, 0] rfl))
                          · exfalso; omega
                        · exfalso; omega
                    intro kj160
                    obtain ⟨hf1, hf2, hf3, hf4, hf5⟩ := IN_f hI (i := j) (by omega)
                    obtain ⟨hf6, hf7⟩ := IN_ft hI (i := j) (t := t) (by omega) (by omega)
                    refine lv_aload_n hx hb dL_isBook_116 rfl (lv_at hl 2 rfl) ?_
                    refine lv_bipush (v := nI 7) hx hb dL_isBook_117 (by decide) ?_
                    refine lv_iload hx hb dL_isBook_119 (lv_at hl 11 rfl) ?_
                    refine x_mul (k := 7 * j) hx hb dL_isBook_121 rfl ?_
                    refine x_ald (v := nI (bk j)) hx hb hK hP 40 0 rfl rfl (by omega) (by omega) (by rw [hf, show 7 * j = 7 * j + 0 from rfl, bFg_at (by omega)]; exact IN_b0 hI (by omega)) dL_isBook_122 ?_
                    refine lv_iload hx hb dL_isBook_123 (lv_at hl 7 rfl) ?_
                    refine x_cmp_ne (tgt := 159) hx hb (nI_eq (a := (bk j)) (b := bo) (by omega) (by omega)) dL_isBook_125 (by decide) (fun c125 => ?_) (fun c125 => ?_)
                    · refine lv_iconst (v := nI 0) hx hb dL_isBook_159 (by decide) ?_
                      exact W.widen (by show _ ≤ 0; omega) (by show _ ≤ 0; omega) (kj160 0 (by first | exact Or.inl ⟨rfl, by omega⟩ | exact Or.inr ⟨rfl, by omega⟩) _ _ _ hP hD hS (lv_sub hl [0, 1, 2, 3, 4, 5, 6, 7, 8, 9, 10, 11] rfl))
                    · refine lv_aload_n hx hb dL_isBook_128 rfl (lv_at hl 2 rfl) ?_
                      refine lv_bipush (v := nI 7) hx hb dL_isBook_129 (by decide) ?_
                      refine lv_iload hx hb dL_isBook_131 (lv_at hl 11 rfl) ?_
                      refine x_mul (k := 7 * j) hx hb dL_isBook_133 rfl ?_
                      refine lv_iconst (v := nI 1) hx hb dL_isBook_134 (by decide) ?_
                      refine x_add (k := (7 * j) + 1) hx hb dL_isBook_135 rfl ?_
                      refine x_ald (v := nI (s_st S j)) hx hb hK hP 40 0 rfl rfl (by omega) (by omega) (by rw [hf, bFg_at (by omega)]; exact IN_b1 hI (by omega)) dL_isBook_136 ?_
                      refine x_if_le (tgt := 159) hx hb (nI_lez (by omega)) dL_isBook_137 (by decide) (fun c137 => ?_) (fun c137 => ?_)
                      · refine lv_iconst (v := nI 0) hx hb dL_isBook_159 (by decide) ?_
                        exact W.widen (by show _ ≤ 0; omega) (by show _ ≤ 0; omega) (kj160 0 (by first | exact Or.inl ⟨rfl, by omega⟩ | exact Or.inr ⟨rfl, by omega⟩) _ _ _ hP hD hS (lv_sub hl [0, 1, 2, 3, 4, 5, 6, 7, 8, 9, 10, 11] rfl))
                      · refine lv_aload_n hx hb dL_isBook_140 rfl (lv_at hl 2 rfl) ?_
                        refine lv_bipush (v := nI 7) hx hb dL_isBook_141 (by decide) ?_
                        refine lv_iload hx hb dL_isBook_143 (lv_at hl 11 rfl) ?_
                        refine x_mul (k := 7 * j) hx hb dL_isBook_145 rfl ?_
                        refine lv_iconst (v := nI 3) hx hb dL_isBook_146 (by decide) ?_
                        refine x_add (k := (7 * j) + 3) hx hb dL_isBook_147 rfl ?_
                        refine lv_iload hx hb dL_isBook_148 (lv_at hl 8 rfl) ?_
                        refine x_add (k := ((7 * j) + 3) + t) hx hb dL_isBook_150 rfl ?_
                        refine x_ald (v := eX (kc j t)) hx hb hK hP 40 0 rfl rfl (by omega) (by omega) (by rw [hf, show 7 * j + 3 + t = 7 * j + (3 + t) by omega, bFg_at (by omega), ← Nat.add_assoc]; exact IN_b3 hI (by omega) (by omega)) dL_isBook_151 ?_
                        refine x_if_lt (tgt := 159) hx hb (eX_ng (by omega)) dL_isBook_152 (by decide) (fun c152 => ?_) (fun c152 => ?_)
                        · refine lv_iconst (v := nI 0) hx hb dL_isBook_159 (by decide) ?_
                          exact W.widen (by show _ ≤ 0; omega) (by show _ ≤ 0; omega) (kj160 0 (by first | exact Or.inl ⟨rfl, by omega⟩ | exact Or.inr ⟨rfl, by omega⟩) _ _ _ hP hD hS (lv_sub hl [0, 1, 2, 3, 4, 5, 6, 7, 8, 9, 10, 11] rfl))
                        · refine lv_iconst (v := nI 1) hx hb dL_isBook_155 (by decide) ?_
                          refine lv_goto (tgt := 160) hx hb dL_isBook_156 (by decide) ?_
                          exact W.widen (by show _ ≤ 0; omega) (by show _ ≤ 0; omega) (kj160 1 (by first | exact Or.inl ⟨rfl, by omega⟩ | exact Or.inr ⟨rfl, by omega⟩) _ _ _ hP hD hS (lv_sub hl [0, 1, 2, 3, 4, 5, 6, 7, 8, 9, 10, 11] rfl))
          · refine lv_iconst (v := nI 0) hx hb dL_isBook_90 (by decide) ?_
            refine lv_istore (lv' := [(11, .int (nI 0)), (10, .int (nI 1)), (0, .ref (ad 0)), (1, .ref (la 2)), (2, .ref (la 3)), (3, .int (nI 6)), (4, .int (nI one)), (5, .int (nI two)), (6, .int (nI three)), (7, .int (nI bo)), (8, .int (nI t)), (9, .int (nI 0))]) hx hb dL_isBook_91 hl (by decide) rfl (fun ls hl => ?_)
            refine lv_iload hx hb dL_isBook_93 (lv_at hl 0 rfl) ?_
            refine lv_iconst (v := nI 3) hx hb dL_isBook_95 (by decide) ?_
            refine x_cmp_ge (tgt := 216) hx hb (nI_leI (a := 3) (b := 0) (by omega) (by omega)) dL_isBook_96 (by decide) (fun c96 => ?_) (fun c96 => ?_)
            · exfalso; omega
            · refine lv_iload hx hb dL_isBook_99 (lv_at hl 9 rfl) ?_
              refine lv_iconst (v := nI 3) hx hb dL_isBook_101 (by decide) ?_
              refine x_cmp_ge (tgt := 216) hx hb (nI_leI (a := 3) (b := bo) (by omega) (by omega)) dL_isBook_102 (by decide) (fun c102 => ?_) (fun c102 => ?_)
              · refine lv_iload hx hb dL_isBook_216 (lv_at hl 9 rfl) ?_
                refine lv_iconst (v := nI 3) hx hb dL_isBook_218 (by decide) ?_
                refine x_cmp_eq (tgt := 228) hx hb (nI_eq (a := bo) (b := 3) (by omega) (by omega)) dL_isBook_219 (by decide) (fun c219 => ?_) (fun c219 => ?_)
                · refine lv_bipush (v := (-30 : Int32)) hx hb dL_isBook_228 (by decide) ?_
                  refine lv_goto (tgt := 245) hx hb dL_isBook_230 (by decide) ?_
                  refine lv_istore (lv' := [(11, .int ((-30 : Int32))), (10, .int (nI 1)), (0, .ref (ad 0)), (1, .ref (la 2)), (2, .ref (la 3)), (3, .int (nI 6)), (4, .int (nI one)), (5, .int (nI two)), (6, .int (nI three)), (7, .int (nI bo)), (8, .int (nI t)), (9, .int (nI 0))]) hx hb dL_isBook_245 hl (by decide) rfl (fun ls hl => ?_)
                  refine lv_iload_n hx hb dL_isBook_247 rfl (lv_at hl 5 rfl) ?_
                  refine lv_bipush (v := nI 6) hx hb dL_isBook_248 (by decide) ?_
                  refine x_cmp_ne (tgt := 272) hx hb (Iff.rfl) dL_isBook_250 (by decide) (fun c250 => ?_) (fun c250 => ?_)
                  · exact absurd rfl c250
                  · refine lv_iload hx hb dL_isBook_253 (lv_at hl 0 rfl) ?_
                    refine x_if_lt (tgt := 272) hx hb (Iff.rfl) dL_isBook_255 (by decide) (fun c255 => ?_) (fun c255 => ?_)
                    · refine lv_iload_n hx hb dL_isBook_272 rfl (lv_at hl 5 rfl) ?_
                      refine lv_iconst (v := nI 5) hx hb dL_isBook_273 (by decide) ?_
                      refine x_cmp_ne (tgt := 318) hx hb (nI_eq (a := 6) (b := 5) (by omega) (by omega)) dL_isBook_274 (by decide) (fun c274 => ?_) (fun c274 => ?_)
                      · refine lv_aload_n hx hb dL_isBook_318 rfl (lv_at hl 2 rfl) ?_
                        refine lv_bipush (v := nI 6) hx hb dL_isBook_319 (by decide) ?_
                        refine lv_iload hx hb dL_isBook_321 (lv_at hl 9 rfl) ?_
                        refine lv_iload hx hb dL_isBook_323 (lv_at hl 10 rfl) ?_
                        refine lv_iload hx hb dL_isBook_325 (lv_at hl 8 rfl) ?_
                        refine lv_bipush (v := nI 9) hx hb dL_isBook_327 (by decide) ?_
                        refine x_rem (k := three % 9) hx hb dL_isBook_329 (by omega) (by omega) (by omega) rfl ?_
                        refine lv_iconst (v := nI 0) hx hb dL_isBook_330 (by decide) ?_
                        refine lv_iconst (v := nI 0) hx hb dL_isBook_331 (by decide) ?_
                        refine x_calli (w2 := fun (S332 : S4) => LW cI cP cS ad la S332 lp lo lq lb lg) (wr := []) (x_runL (n := 7) ⟨hx, hb, hml, hown, hts⟩ (fD_setColumns l D cI cP cS cL hfl ad la lp lo lq lb lg (s_lim S) (s_n S) (s_rows S) (s_cc S) (s_ct S) (s_ck S) (s_nr S) (s_cr S) (s_old S) (s_rw S) (s_co S) (s_re S) (s_nu S) (s_ma S) (s_sr S) (s_cp S) (s_pu S) (s_st S) (s_sl S) (cl bo) (nI bo) (nI t) (nI (three % 9)) (nI 0) (nI 0) (cl_lt bo) (hsx_cl (by omega))) gL_isBook_L_does rfl rfl rfl (by decide +kernel) ⟨by decide, by decide⟩ hN hK hP hD hS hA hE iLW rfl rfl rfl hl.1 (rest := []) (As := [.ref (ad 0), .int (nI 6), .int (nI bo), .int (nI t), .int (nI (three % 9)), .int (nI 0), .int (nI 0)]) rfl (Nat.le_of_ble_eq_true rfl) dL_isBook_332 ⟨by show _ ≤ 20; omega, by show _ ≤ 120; omega⟩) hP hD hS hA iLW [] iLW rfl rfl rfl (by decide) rfl (fun _ => rfl) (fun r332 S332 H locs hw hP hD hS => ?_)
                        obtain ⟨hr9, e8⟩ := (O_setColumns (IN_of hI) hinj (by omega) (by omega) (by omega) hw).1 hth
                        have e9 : S = S332 := (show S332 = S from e8).symm
                        subst e9
                        subst hr9
                        have hP : va_P D vwCl (LW cI cP cS ad la S lp lo lq lb lg) H := hP
                        have hD : va_D A (LW cI cP cS ad la S lp lo lq lb lg) := hD
                        refine lv_iload hx hb dL_isBook_335 (lv_at hl 0 rfl) ?_
                        refine x_cmp_ne (tgt := 344) hx hb (Iff.rfl) dL_isBook_337 (by decide) (fun c337 => ?_) (fun c337 => ?_)
                        · exact absurd rfl c337
                        · refine lv_iconst (v := nI 1) hx hb dL_isBook_340 (by decide) ?_
                          refine lv_goto (tgt := 345) hx hb dL_isBook_341 (by decide) ?_
                          exact x_ret_z hx hb hrt (by first | exact Or.inl rfl | exact Or.inr rfl) hlk hP hD hS dL_isBook_345 ⟨by omega, by omega⟩ ((S, lp, lo, lq, lb, lg)) ⟨rfl, ⟨bk, kc, mi, cn, hI⟩⟩ rfl
                      · exfalso; omega
                    · exact absurd (by decide) c255
                · refine lv_iload hx hb dL_isBook_222 (lv_at hl 10 rfl) ?_
                  refine lv_iconst (v := nI 2) hx hb dL_isBook_224 (by decide) ?_
                  refine x_cmp_ne (tgt := 233) hx hb (nI_eq (a := t) (b := 2) (by omega) (by omega)) dL_isBook_225 (by decide) (fun c225 => ?_) (fun c225 => ?_)
                  · exfalso; omega
                  · refine lv_bipush (v := (-30 : Int32)) hx hb dL_isBook_228 (by decide) ?_
                    refine lv_goto (tgt := 245) hx hb dL_isBook_230 (by decide) ?_
                    refine lv_istore (lv' := [(11, .int ((-30 : Int32))), (10, .int (nI 1)), (0, .ref (ad 0)), (1, .ref (la 2)), (2, .ref (la 3)), (3, .int (nI 6)), (4, .int (nI one)), (5, .int (nI two)), (6, .int (nI three)), (7, .int (nI bo)), (8, .int (nI t)), (9, .int (nI 0))]) hx hb dL_isBook_245 hl (by decide) rfl (fun ls hl => ?_)
                    refine lv_iload_n hx hb dL_isBook_247 rfl (lv_at hl 5 rfl) ?_
                    refine lv_bipush (v := nI 6) hx hb dL_isBook_248 (by decide) ?_
                    refine x_cmp_ne (tgt := 272) hx hb (Iff.rfl) dL_isBook_250 (by decide) (fun c250 => ?_) (fun c250 => ?_)
                    · exact absurd rfl c250
                    · refine lv_iload hx hb dL_isBook_253 (lv_at hl 0 rfl) ?_
                      refine x_if_lt (tgt := 272) hx hb (Iff.rfl) dL_isBook_255 (by decide) (fun c255 => ?_) (fun c255 => ?_)
                      · refine lv_iload_n hx hb dL_isBook_272 rfl (lv_at hl 5 rfl) ?_
                        refine lv_iconst (v := nI 5) hx hb dL_isBook_273 (by decide) ?_
                        refine x_cmp_ne (tgt := 318) hx hb (nI_eq (a := 6) (b := 5) (by omega) (by omega)) dL_isBook_274 (by decide) (fun c274 => ?_) (fun c274 => ?_)
                        · refine lv_aload_n hx hb dL_isBook_318 rfl (lv_at hl 2 rfl) ?_
                          refine lv_bipush (v := nI 6) hx hb dL_isBook_319 (by decide) ?_
                          refine lv_iload hx hb dL_isBook_321 (lv_at hl 9 rfl) ?_
                          refine lv_iload hx hb dL_isBook_323 (lv_at hl 10 rfl) ?_
                          refine lv_iload hx hb dL_isBook_325 (lv_at hl 8 rfl) ?_
                          refine lv_bipush (v := nI 9) hx hb dL_isBook_327 (by decide) ?_
                          refine x_rem (k := three % 9) hx hb dL_isBook_329 (by omega) (by omega) (by omega) rfl ?_
                          refine lv_iconst (v := nI 0) hx hb dL_isBook_330 (by decide) ?_
                          refine lv_iconst (v := nI 0) hx hb dL_isBook_331 (by decide) ?_
                          refine x_calli (w2 := fun (S332 : S4) => LW cI cP cS ad la S332 lp lo lq lb lg) (wr := []) (x_runL (n := 7) ⟨hx, hb, hml, hown, hts⟩ (fD_setColumns l D cI cP cS cL hfl ad la lp lo lq lb lg (s_lim S) (s_n S) (s_rows S) (s_cc S) (s_ct S) (s_ck S) (s_nr S) (s_cr S) (s_old S) (s_rw S) (s_co S) (s_re S) (s_nu S) (s_ma S) (s_sr S) (s_cp S) (s_pu S) (s_st S) (s_sl S) (cl bo) (nI bo) (nI t) (nI (three % 9)) (nI 0) (nI 0) (cl_lt bo) (hsx_cl (by omega))) gL_isBook_L_does rfl rfl rfl (by decide +kernel) ⟨by decide, by decide⟩ hN hK hP hD hS hA hE iLW rfl rfl rfl hl.1 (rest := []) (As := [.ref (ad 0), .int (nI 6), .int (nI bo), .int (nI t), .int (nI (three % 9)), .int (nI 0), .int (nI 0)]) rfl (Nat.le_of_ble_eq_true rfl) dL_isBook_332 ⟨by show _ ≤ 20; omega, by show _ ≤ 120; omega⟩) hP hD hS hA iLW [] iLW rfl rfl rfl (by decide) rfl (fun _ => rfl) (fun r332 S332 H locs hw hP hD hS => ?_)
                          obtain ⟨hr9, e8⟩ := (O_setColumns (IN_of hI) hinj (by omega) (by omega) (by omega) hw).1 hth
                          have e9 : S = S332 := (show S332 = S from e8).symm
                          subst e9
                          subst hr9
                          have hP : va_P D vwCl (LW cI cP cS ad la S lp lo lq lb lg) H := hP
                          have hD : va_D A (LW cI cP cS ad la S lp lo lq lb lg) := hD
                          refine lv_iload hx hb dL_isBook_335 (lv_at hl 0 rfl) ?_
                          refine x_cmp_ne (tgt := 344) hx hb (Iff.rfl) dL_isBook_337 (by decide) (fun c337 => ?_) (fun c337 => ?_)
                          · exact absurd rfl c337
                          · refine lv_iconst (v := nI 1) hx hb dL_isBook_340 (by decide) ?_
                            refine lv_goto (tgt := 345) hx hb dL_isBook_341 (by decide) ?_
                            exact x_ret_z hx hb hrt (by first | exact Or.inl rfl | exact Or.inr rfl) hlk hP hD hS dL_isBook_345 ⟨by omega, by omega⟩ ((S, lp, lo, lq, lb, lg)) ⟨rfl, ⟨bk, kc, mi, cn, hI⟩⟩ rfl
                        · exfalso; omega
                      · exact absurd (by decide) c255
              · refine lv_iload hx hb dL_isBook_105 (lv_at hl 10 rfl) ?_
                refine lv_iconst (v := nI 2) hx hb dL_isBook_107 (by decide) ?_
                refine x_cmp_ge (tgt := 216) hx hb (nI_leI (a := 2) (b := t) (by omega) (by omega)) dL_isBook_108 (by decide) (fun c108 => ?_) (fun c108 => ?_)
                · refine lv_iload hx hb dL_isBook_216 (lv_at hl 9 rfl) ?_
                  refine lv_iconst (v := nI 3) hx hb dL_isBook_218 (by decide) ?_
                  refine x_cmp_eq (tgt := 228) hx hb (nI_eq (a := bo) (b := 3) (by omega) (by omega)) dL_isBook_219 (by decide) (fun c219 => ?_) (fun c219 => ?_)
                  · refine lv_bipush (v := (-30 : Int32)) hx hb dL_isBook_228 (by decide) ?_
                    refine lv_goto (tgt := 245) hx hb dL_isBook_230 (by decide) ?_
                    refine lv_istore (lv' := [(11, .int ((-30 : Int32))), (10, .int (nI 1)), (0, .ref (ad 0)), (1, .ref (la 2)), (2, .ref (la 3)), (3, .int (nI 6)), (4, .int (nI one)), (5, .int (nI two)), (6, .int (nI three)), (7, .int (nI bo)), (8, .int (nI t)), (9, .int (nI 0))]) hx hb dL_isBook_245 hl (by decide) rfl (fun ls hl => ?_)
                    refine lv_iload_n hx hb dL_isBook_247 rfl (lv_at hl 5 rfl) ?_
                    refine lv_bipush (v := nI 6) hx hb dL_isBook_248 (by decide) ?_
                    refine x_cmp_ne (tgt := 272) hx hb (Iff.rfl) dL_isBook_250 (by decide) (fun c250 => ?_) (fun c250 => ?_)
                    · exact absurd rfl c250
                    · refine lv_iload hx hb dL_isBook_253 (lv_at hl 0 rfl) ?_
                      refine x_if_lt (tgt := 272) hx hb (Iff.rfl) dL_isBook_255 (by decide) (fun c255 => ?_) (fun c255 => ?_)
                      · refine lv_iload_n hx hb dL_isBook_272 rfl (lv_at hl 5 rfl) ?_
                        refine lv_iconst (v := nI 5) hx hb dL_isBook_273 (by decide) ?_
                        refine x_cmp_ne (tgt := 318) hx hb (nI_eq (a := 6) (b := 5) (by omega) (by omega)) dL_isBook_274 (by decide) (fun c274 => ?_) (fun c274 => ?_)
                        · refine lv_aload_n hx hb dL_isBook_318 rfl (lv_at hl 2 rfl) ?_
                          refine lv_bipush (v := nI 6) hx hb dL_isBook_319 (by decide) ?_
                          refine lv_iload hx hb dL_isBook_321 (lv_at hl 9 rfl) ?_
                          refine lv_iload hx hb dL_isBook_323 (lv_at hl 10 rfl) ?_
                          refine lv_iload hx hb dL_isBook_325 (lv_at hl 8 rfl) ?_
                          refine lv_bipush (v := nI 9) hx hb dL_isBook_327 (by decide) ?_
                          refine x_rem (k := three % 9) hx hb dL_isBook_329 (by omega) (by omega) (by omega) rfl ?_
                          refine lv_iconst (v := nI 0) hx hb dL_isBook_330 (by decide) ?_
                          refine lv_iconst (v := nI 0) hx hb dL_isBook_331 (by decide) ?_
                          refine x_calli (w2 := fun (S332 : S4) => LW cI cP cS ad la S332 lp lo lq lb lg) (wr := []) (x_runL (n := 7) ⟨hx, hb, hml, hown, hts⟩ (fD_setColumns l D cI cP cS cL hfl ad la lp lo lq lb lg (s_lim S) (s_n S) (s_rows S) (s_cc S) (s_ct S) (s_ck S) (s_nr S) (s_cr S) (s_old S) (s_rw S) (s_co S) (s_re S) (s_nu S) (s_ma S) (s_sr S) (s_cp S) (s_pu S) (s_st S) (s_sl S) (cl bo) (nI bo) (nI t) (nI (three % 9)) (nI 0) (nI 0) (cl_lt bo) (hsx_cl (by omega))) gL_isBook_L_does rfl rfl rfl (by decide +kernel) ⟨by decide, by decide⟩ hN hK hP hD hS hA hE iLW rfl rfl rfl hl.1 (rest := []) (As := [.ref (ad 0), .int (nI 6), .int (nI bo), .int (nI t), .int (nI (three % 9)), .int (nI 0), .int (nI 0)]) rfl (Nat.le_of_ble_eq_true rfl) dL_isBook_332 ⟨by show _ ≤ 20; omega, by show _ ≤ 120; omega⟩) hP hD hS hA iLW [] iLW rfl rfl rfl (by decide) rfl (fun _ => rfl) (fun r332 S332 H locs hw hP hD hS => ?_)
                          obtain ⟨hr9, e8⟩ := (O_setColumns (IN_of hI) hinj (by omega) (by omega) (by omega) hw).1 hth
                          have e9 : S = S332 := (show S332 = S from e8).symm
                          subst e9
                          subst hr9
                          have hP : va_P D vwCl (LW cI cP cS ad la S lp lo lq lb lg) H := hP
                          have hD : va_D A (LW cI cP cS ad la S lp lo lq lb lg) := hD
                          refine lv_iload hx hb dL_isBook_335 (lv_at hl 0 rfl) ?_
                          refine x_cmp_ne (tgt := 344) hx hb (Iff.rfl) dL_isBook_337 (by decide) (fun c337 => ?_) (fun c337 => ?_)
                          · exact absurd rfl c337
                          · refine lv_iconst (v := nI 1) hx hb dL_isBook_340 (by decide) ?_
                            refine lv_goto (tgt := 345) hx hb dL_isBook_341 (by decide) ?_
                            exact x_ret_z hx hb hrt (by first | exact Or.inl rfl | exact Or.inr rfl) hlk hP hD hS dL_isBook_345 ⟨by omega, by omega⟩ ((S, lp, lo, lq, lb, lg)) ⟨rfl, ⟨bk, kc, mi, cn, hI⟩⟩ rfl
                        · exfalso; omega
                      · exact absurd (by decide) c255
                  · refine lv_iload hx hb dL_isBook_222 (lv_at hl 10 rfl) ?_
                    refine lv_iconst (v := nI 2) hx hb dL_isBook_224 (by decide) ?_
                    refine x_cmp_ne (tgt := 233) hx hb (nI_eq (a := t) (b := 2) (by omega) (by omega)) dL_isBook_225 (by decide) (fun c225 => ?_) (fun c225 => ?_)
                    · exfalso; omega
                    · refine lv_bipush (v := (-30 : Int32)) hx hb dL_isBook_228 (by decide) ?_
                      refine lv_goto (tgt := 245) hx hb dL_isBook_230 (by decide) ?_
                      refine lv_istore (lv' := [(11, .int ((-30 : Int32))), (10, .int (nI 1)), (0, .ref (ad 0)), (1, .ref (la 2)), (2, .ref (la 3)), (3, .int (nI 6)), (4, .int (nI one)), (5, .int (nI two)), (6, .int (nI three)), (7, .int (nI bo)), (8, .int (nI t)), (9, .int (nI 0))]) hx hb dL_isBook_245 hl (by decide) rfl (fun ls hl => ?_)
                      refine lv_iload_n hx hb dL_isBook_247 rfl (lv_at hl 5 rfl) ?_
                      refine lv_bipush (v := nI 6) hx hb dL_isBook_248 (by decide) ?_
                      refine x_cmp_ne (tgt := 272) hx hb (Iff.rfl) dL_isBook_250 (by decide) (fun c250 => ?_) (fun c250 => ?_)
                      · exact absurd rfl c250
                      · refine lv_iload hx hb dL_isBook_253 (lv_at hl 0 rfl) ?_
                        refine x_if_lt (tgt := 272) hx hb (Iff.rfl) dL_isBook_255 (by decide) (fun c255 => ?_) (fun c255 => ?_)
                        · refine lv_iload_n hx hb dL_isBook_272 rfl (lv_at hl 5 rfl) ?_
                          refine lv_iconst (v := nI 5) hx hb dL_isBook_273 (by decide) ?_
                          refine x_cmp_ne (tgt := 318) hx hb (nI_eq (a := 6) (b := 5) (by omega) (by omega)) dL_isBook_274 (by decide) (fun c274 => ?_) (fun c274 => ?_)
                          · refine lv_aload_n hx hb dL_isBook_318 rfl (lv_at hl 2 rfl) ?_
                            refine lv_bipush (v := nI 6) hx hb dL_isBook_319 (by decide) ?_
                            refine lv_iload hx hb dL_isBook_321 (lv_at hl 9 rfl) ?_
                            refine lv_iload hx hb dL_isBook_323 (lv_at hl 10 rfl) ?_
                            refine lv_iload hx hb dL_isBook_325 (lv_at hl 8 rfl) ?_
                            refine lv_bipush (v := nI 9) hx hb dL_isBook_327 (by decide) ?_
                            refine x_rem (k := three % 9) hx hb dL_isBook_329 (by omega) (by omega) (by omega) rfl ?_
                            refine lv_iconst (v := nI 0) hx hb dL_isBook_330 (by decide) ?_
                            refine lv_iconst (v := nI 0) hx hb dL_isBook_331 (by decide) ?_
                            refine x_calli (w2 := fun (S332 : S4) => LW cI cP cS ad la S332 lp lo lq lb lg) (wr := []) (x_runL (n := 7) ⟨hx, hb, hml, hown, hts⟩ (fD_setColumns l D cI cP cS cL hfl ad la lp lo lq lb lg (s_lim S) (s_n S) (s_rows S) (s_cc S) (s_ct S) (s_ck S) (s_nr S) (s_cr S) (s_old S) (s_rw S) (s_co S) (s_re S) (s_nu S) (s_ma S) (s_sr S) (s_cp S) (s_pu S) (s_st S) (s_sl S) (cl bo) (nI bo) (nI t) (nI (three % 9)) (nI 0) (nI 0) (cl_lt bo) (hsx_cl (by omega))) gL_isBook_L_does rfl rfl rfl (by decide +kernel) ⟨by decide, by decide⟩ hN hK hP hD hS hA hE iLW rfl rfl rfl hl.1 (rest := []) (As := [.ref (ad 0), .int (nI 6), .int (nI bo), .int (nI t), .int (nI (three % 9)), .int (nI 0), .int (nI 0)]) rfl (Nat.le_of_ble_eq_true rfl) dL_isBook_332 ⟨by show _ ≤ 20; omega, by show _ ≤ 120; omega⟩) hP hD hS hA iLW [] iLW rfl rfl rfl (by decide) rfl (fun _ => rfl) (fun r332 S332 H locs hw hP hD hS => ?_)
                            obtain ⟨hr9, e8⟩ := (O_setColumns (IN_of hI) hinj (by omega) (by omega) (by omega) hw).1 hth
                            have e9 : S = S332 := (show S332 = S from e8).symm
                            subst e9
                            subst hr9
                            have hP : va_P D vwCl (LW cI cP cS ad la S lp lo lq lb lg) H := hP
                            have hD : va_D A (LW cI cP cS ad la S lp lo lq lb lg) := hD
                            refine lv_iload hx hb dL_isBook_335 (lv_at hl 0 rfl) ?_
                            refine x_cmp_ne (tgt := 344) hx hb (Iff.rfl) dL_isBook_337 (by decide) (fun c337 => ?_) (fun c337 => ?_)
                            · exact absurd rfl c337
                            · refine lv_iconst (v := nI 1) hx hb dL_isBook_340 (by decide) ?_
                              refine lv_goto (tgt := 345) hx hb dL_isBook_341 (by decide) ?_
                              exact x_ret_z hx hb hrt (by first | exact Or.inl rfl | exact Or.inr rfl) hlk hP hD hS dL_isBook_345 ⟨by omega, by omega⟩ ((S, lp, lo, lq, lb, lg)) ⟨rfl, ⟨bk, kc, mi, cn, hI⟩⟩ rfl
                          · exfalso; omega
                        · exact absurd (by decide) c255
                · exfalso; omega
        · refine lv_istore (lv' := [(10, .int (nI 0)), (0, .ref (ad 0)), (1, .ref (la 2)), (2, .ref (la 3)), (3, .int (nI 6)), (4, .int (nI one)), (5, .int (nI two)), (6, .int (nI three)), (7, .int (nI bo)), (8, .int (nI t)), (9, .int (nI 0))]) hx hb dL_isBook_88 hl (by decide) rfl (fun ls hl => ?_)
          rcases Classical.em (bo < 3 ∧ t < 2) with hth | hth
          · refine lv_iconst (v := nI 0) hx hb dL_isBook_90 (by decide) ?_
            refine lv_istore (lv' := [(11, .int (nI 0)), (10, .int (nI 0)), (0, .ref (ad 0)), (1, .ref (la 2)), (2, .ref (la 3)), (3, .int (nI 6)), (4, .int (nI one)), (5, .int (nI two)), (6, .int (nI three)), (7, .int (nI bo)), (8, .int (nI t)), (9, .int (nI 0))]) hx hb dL_isBook_91 hl (by decide) rfl (fun ls hl => ?_)
            refine lv_iload hx hb dL_isBook_93 (lv_at hl 0 rfl) ?_
            refine lv_iconst (v := nI 3) hx hb dL_isBook_95 (by decide) ?_
            refine x_cmp_ge (tgt := 216) hx hb (nI_leI (a := 3) (b := 0) (by omega) (by omega)) dL_isBook_96 (by decide) (fun c96 => ?_) (fun c96 => ?_)
            · exfalso; omega
            · refine lv_iload hx hb dL_isBook_99 (lv_at hl 9 rfl) ?_
              refine lv_iconst (v := nI 3) hx hb dL_isBook_101 (by decide) ?_
              refine x_cmp_ge (tgt := 216) hx hb (nI_leI (a := 3) (b := bo) (by omega) (by omega)) dL_isBook_102 (by decide) (fun c102 => ?_) (fun c102 => ?_)
              · exfalso; omega
              · refine lv_iload hx hb dL_isBook_105 (lv_at hl 10 rfl) ?_
                refine lv_iconst (v := nI 2) hx hb dL_isBook_107 (by decide) ?_
                refine x_cmp_ge (tgt := 216) hx hb (nI_leI (a := 2) (b := t) (by omega) (by omega)) dL_isBook_108 (by decide) (fun c108 => ?_) (fun c108 => ?_)
                · exfalso; omega
                · refine lv_iload hx hb dL_isBook_111 (lv_at hl 1 rfl) ?_
                  refine x_if_eq (tgt := 216) hx hb (nI_z (by omega)) dL_isBook_113 (by decide) (fun c113 => ?_) (fun c113 => ?_)
                  · refine lv_iload hx hb dL_isBook_216 (lv_at hl 9 rfl) ?_
                    refine lv_iconst (v := nI 3) hx hb dL_isBook_218 (by decide) ?_
                    refine x_cmp_eq (tgt := 228) hx hb (nI_eq (a := bo) (b := 3) (by omega) (by omega)) dL_isBook_219 (by decide) (fun c219 => ?_) (fun c219 => ?_)
                    · exfalso; omega
                    · refine lv_iload hx hb dL_isBook_222 (lv_at hl 10 rfl) ?_
                      refine lv_iconst (v := nI 2) hx hb dL_isBook_224 (by decide) ?_
                      refine x_cmp_ne (tgt := 233) hx hb (nI_eq (a := t) (b := 2) (by omega) (by omega)) dL_isBook_225 (by decide) (fun c225 => ?_) (fun c225 => ?_)
                      · refine lv_iload hx hb dL_isBook_233 (lv_at hl 1 rfl) ?_
                        refine x_if_eq (tgt := 243) hx hb (nI_z (by omega)) dL_isBook_235 (by decide) (fun c235 => ?_) (fun c235 => ?_)
                        · refine lv_bipush (v := (-20 : Int32)) hx hb dL_isBook_243 (by decide) ?_
                          refine lv_istore (lv' := [(11, .int ((-20 : Int32))), (10, .int (nI 0)), (0, .ref (ad 0)), (1, .ref (la 2)), (2, .ref (la 3)), (3, .int (nI 6)), (4, .int (nI one)), (5, .int (nI two)), (6, .int (nI three)), (7, .int (nI bo)), (8, .int (nI t)), (9, .int (nI 0))]) hx hb dL_isBook_245 hl (by decide) rfl (fun ls hl => ?_)
                          refine lv_iload_n hx hb dL_isBook_247 rfl (lv_at hl 5 rfl) ?_
                          refine lv_bipush (v := nI 6) hx hb dL_isBook_248 (by decide) ?_
                          refine x_cmp_ne (tgt := 272) hx hb (Iff.rfl) dL_isBook_250 (by decide) (fun c250 => ?_) (fun c250 => ?_)
                          · exact absurd rfl c250
                          · refine lv_iload hx hb dL_isBook_253 (lv_at hl 0 rfl) ?_
                            refine x_if_lt (tgt := 272) hx hb (Iff.rfl) dL_isBook_255 (by decide) (fun c255 => ?_) (fun c255 => ?_)
                            · refine lv_iload_n hx hb dL_isBook_272 rfl (lv_at hl 5 rfl) ?_
                              refine lv_iconst (v := nI 5) hx hb dL_isBook_273 (by decide) ?_
                              refine x_cmp_ne (tgt := 318) hx hb (nI_eq (a := 6) (b := 5) (by omega) (by omega)) dL_isBook_274 (by decide) (fun c274 => ?_) (fun c274 => ?_)
                              · refine lv_aload_n hx hb dL_isBook_318 rfl (lv_at hl 2 rfl) ?_
                                refine lv_bipush (v := nI 6) hx hb dL_isBook_319 (by decide) ?_
                                refine lv_iload hx hb dL_isBook_321 (lv_at hl 9 rfl) ?_
                                refine lv_iload hx hb dL_isBook_323 (lv_at hl 10 rfl) ?_
                                refine lv_iload hx hb dL_isBook_325 (lv_at hl 8 rfl) ?_
                                refine lv_bipush (v := nI 9) hx hb dL_isBook_327 (by decide) ?_
                                refine x_rem (k := three % 9) hx hb dL_isBook_329 (by omega) (by omega) (by omega) rfl ?_
                                refine lv_iconst (v := nI 0) hx hb dL_isBook_330 (by decide) ?_
                                refine lv_iconst (v := nI 0) hx hb dL_isBook_331 (by decide) ?_
                                refine x_calli (w2 := fun (S332 : S4) => LW cI cP cS ad la S332 lp lo lq lb lg) (wr := []) (x_runL (n := 7) ⟨hx, hb, hml, hown, hts⟩ (fD_setColumns l D cI cP cS cL hfl ad la lp lo lq lb lg (s_lim S) (s_n S) (s_rows S) (s_cc S) (s_ct S) (s_ck S) (s_nr S) (s_cr S) (s_old S) (s_rw S) (s_co S) (s_re S) (s_nu S) (s_ma S) (s_sr S) (s_cp S) (s_pu S) (s_st S) (s_sl S) (cl bo) (nI bo) (nI t) (nI (three % 9)) (nI 0) (nI 0) (cl_lt bo) (hsx_cl (by omega))) gL_isBook_L_does rfl rfl rfl (by decide +kernel) ⟨by decide, by decide⟩ hN hK hP hD hS hA hE iLW rfl rfl rfl hl.1 (rest := []) (As := [.ref (ad 0), .int (nI 6), .int (nI bo), .int (nI t), .int (nI (three % 9)), .int (nI 0), .int (nI 0)]) rfl (Nat.le_of_ble_eq_true rfl) dL_isBook_332 ⟨by show _ ≤ 20; omega, by show _ ≤ 120; omega⟩) hP hD hS hA iLW [] iLW rfl rfl rfl (by decide) rfl (fun _ => rfl) (fun r332 S332 H locs hw hP hD hS => ?_)
                                obtain ⟨hr9, e8⟩ := (O_setColumns (IN_of hI) hinj (by omega) (by omega) (by omega) hw).2.1 hth.1 hth.2 hri
                                have e9 : S = S332 := (show S332 = S from e8).symm
                                subst e9
                                subst hr9
                                have hP : va_P D vwCl (LW cI cP cS ad la S lp lo lq lb lg) H := hP
                                have hD : va_D A (LW cI cP cS ad la S lp lo lq lb lg) := hD
                                refine lv_iload hx hb dL_isBook_335 (lv_at hl 0 rfl) ?_
                                refine x_cmp_ne (tgt := 344) hx hb (Iff.rfl) dL_isBook_337 (by decide) (fun c337 => ?_) (fun c337 => ?_)
                                · exact absurd rfl c337
                                · refine lv_iconst (v := nI 1) hx hb dL_isBook_340 (by decide) ?_
                                  refine lv_goto (tgt := 345) hx hb dL_isBook_341 (by decide) ?_
                                  exact x_ret_z hx hb hrt (by first | exact Or.inl rfl | exact Or.inr rfl) hlk hP hD hS dL_isBook_345 ⟨by omega, by omega⟩ ((S, lp, lo, lq, lb, lg)) ⟨rfl, ⟨bk, kc, mi, cn, hI⟩⟩ rfl
                              · exfalso; omega
                            · exact absurd (by decide) c255
                        · exfalso; omega
                      · exfalso; omega
                  · exfalso; omega
          · refine lv_iconst (v := nI 0) hx hb dL_isBook_90 (by decide) ?_
            refine lv_istore (lv' := [(11, .int (nI 0)), (10, .int (nI 0)), (0, .ref (ad 0)), (1, .ref (la 2)), (2, .ref (la 3)), (3, .int (nI 6)), (4, .int (nI one)), (5, .int (nI two)), (6, .int (nI three)), (7, .int (nI bo)), (8, .int (nI t)), (9, .int (nI 0))]) hx hb dL_isBook_91 hl (by decide) rfl (fun ls hl => ?_)
            refine lv_iload hx hb dL_isBook_93 (lv_at hl 0 rfl) ?_
            refine lv_iconst (v := nI 3) hx hb dL_isBook_95 (by decide) ?_
            refine x_cmp_ge (tgt := 216) hx hb (nI_leI (a := 3) (b := 0) (by omega) (by omega)) dL_isBook_96 (by decide) (fun c96 => ?_) (fun c96 => ?_)
            · exfalso; omega
            · refine lv_iload hx hb dL_isBook_99 (lv_at hl 9 rfl) ?_
              refine lv_iconst (v := nI 3) hx hb dL_isBook_101 (by decide) ?_
              refine x_cmp_ge (tgt := 216) hx hb (nI_leI (a := 3) (b := bo) (by omega) (by omega)) dL_isBook_102 (by decide) (fun c102 => ?_) (fun c102 => ?_)
              · refine lv_iload hx hb dL_isBook_216 (lv_at hl 9 rfl) ?_
                refine lv_iconst (v := nI 3) hx hb dL_isBook_218 (by decide) ?_
                refine x_cmp_eq (tgt := 228) hx hb (nI_eq (a := bo) (b := 3) (by omega) (by omega)) dL_isBook_219 (by decide) (fun c219 => ?_) (fun c219 => ?_)
                · refine lv_bipush (v := (-30 : Int32)) hx hb dL_isBook_228 (by decide) ?_
                  refine lv_goto (tgt := 245) hx hb dL_isBook_230 (by decide) ?_
                  refine lv_istore (lv' := [(11, .int ((-30 : Int32))), (10, .int (nI 0)), (0, .ref (ad 0)), (1, .ref (la 2)), (2, .ref (la 3)), (3, .int (nI 6)), (4, .int (nI one)), (5, .int (nI two)), (6, .int (nI three)), (7, .int (nI bo)), (8, .int (nI t)), (9, .int (nI 0))]) hx hb dL_isBook_245 hl (by decide) rfl (fun ls hl => ?_)
                  refine lv_iload_n hx hb dL_isBook_247 rfl (lv_at hl 5 rfl) ?_
                  refine lv_bipush (v := nI 6) hx hb dL_isBook_248 (by decide) ?_
                  refine x_cmp_ne (tgt := 272) hx hb (Iff.rfl) dL_isBook_250 (by decide) (fun c250 => ?_) (fun c250 => ?_)
                  · exact absurd rfl c250
                  · refine lv_iload hx hb dL_isBook_253 (lv_at hl 0 rfl) ?_
                    refine x_if_lt (tgt := 272) hx hb (Iff.rfl) dL_isBook_255 (by decide) (fun c255 => ?_) (fun c255 => ?_)
                    · refine lv_iload_n hx hb dL_isBook_272 rfl (lv_at hl 5 rfl) ?_
                      refine lv_iconst (v := nI 5) hx hb dL_isBook_273 (by decide) ?_
                      refine x_cmp_ne (tgt := 318) hx hb (nI_eq (a := 6) (b := 5) (by omega) (by omega)) dL_isBook_274 (by decide) (fun c274 => ?_) (fun c274 => ?_)
                      · refine lv_aload_n hx hb dL_isBook_318 rfl (lv_at hl 2 rfl) ?_
                        refine lv_bipush (v := nI 6) hx hb dL_isBook_319 (by decide) ?_
                        refine lv_iload hx hb dL_isBook_321 (lv_at hl 9 rfl) ?_
                        refine lv_iload hx hb dL_isBook_323 (lv_at hl 10 rfl) ?_
                        refine lv_iload hx hb dL_isBook_325 (lv_at hl 8 rfl) ?_
                        refine lv_bipush (v := nI 9) hx hb dL_isBook_327 (by decide) ?_
                        refine x_rem (k := three % 9) hx hb dL_isBook_329 (by omega) (by omega) (by omega) rfl ?_
                        refine lv_iconst (v := nI 0) hx hb dL_isBook_330 (by decide) ?_
                        refine lv_iconst (v := nI 0) hx hb dL_isBook_331 (by decide) ?_
                        refine x_calli (w2 := fun (S332 : S4) => LW cI cP cS ad la S332 lp lo lq lb lg) (wr := []) (x_runL (n := 7) ⟨hx, hb, hml, hown, hts⟩ (fD_setColumns l D cI cP cS cL hfl ad la lp lo lq lb lg (s_lim S) (s_n S) (s_rows S) (s_cc S) (s_ct S) (s_ck S) (s_nr S) (s_cr S) (s_old S) (s_rw S) (s_co S) (s_re S) (s_nu S) (s_ma S) (s_sr S) (s_cp S) (s_pu S) (s_st S) (s_sl S) (cl bo) (nI bo) (nI t) (nI (three % 9)) (nI 0) (nI 0) (cl_lt bo) (hsx_cl (by omega))) gL_isBook_L_does rfl rfl rfl (by decide +kernel) ⟨by decide, by decide⟩ hN hK hP hD hS hA hE iLW rfl rfl rfl hl.1 (rest := []) (As := [.ref (ad 0), .int (nI 6), .int (nI bo), .int (nI t), .int (nI (three % 9)), .int (nI 0), .int (nI 0)]) rfl (Nat.le_of_ble_eq_true rfl) dL_isBook_332 ⟨by show _ ≤ 20; omega, by show _ ≤ 120; omega⟩) hP hD hS hA iLW [] iLW rfl rfl rfl (by decide) rfl (fun _ => rfl) (fun r332 S332 H locs hw hP hD hS => ?_)
                        obtain ⟨hr9, e8⟩ := (O_setColumns (IN_of hI) hinj (by omega) (by omega) (by omega) hw).1 hth
                        have e9 : S = S332 := (show S332 = S from e8).symm
                        subst e9
                        subst hr9
                        have hP : va_P D vwCl (LW cI cP cS ad la S lp lo lq lb lg) H := hP
                        have hD : va_D A (LW cI cP cS ad la S lp lo lq lb lg) := hD
                        refine lv_iload hx hb dL_isBook_335 (lv_at hl 0 rfl) ?_
                        refine x_cmp_ne (tgt := 344) hx hb (Iff.rfl) dL_isBook_337 (by decide) (fun c337 => ?_) (fun c337 => ?_)
                        · exact absurd rfl c337
                        · refine lv_iconst (v := nI 1) hx hb dL_isBook_340 (by decide) ?_
                          refine lv_goto (tgt := 345) hx hb dL_isBook_341 (by decide) ?_
                          exact x_ret_z hx hb hrt (by first | exact Or.inl rfl | exact Or.inr rfl) hlk hP hD hS dL_isBook_345 ⟨by omega, by omega⟩ ((S, lp, lo, lq, lb, lg)) ⟨rfl, ⟨bk, kc, mi, cn, hI⟩⟩ rfl
                      · exfalso; omega
                    · exact absurd (by decide) c255
                · refine lv_iload hx hb dL_isBook_222 (lv_at hl 10 rfl) ?_
                  refine lv_iconst (v := nI 2) hx hb dL_isBook_224 (by decide) ?_
                  refine x_cmp_ne (tgt := 233) hx hb (nI_eq (a := t) (b := 2) (by omega) (by omega)) dL_isBook_225 (by decide) (fun c225 => ?_) (fun c225 => ?_)
                  · exfalso; omega
                  · refine lv_bipush (v := (-30 : Int32)) hx hb dL_isBook_228 (by decide) ?_
                    refine lv_goto (tgt := 245) hx hb dL_isBook_230 (by decide) ?_
                    refine lv_istore (lv' := [(11, .int ((-30 : Int32))), (10, .int (nI 0)), (0, .ref (ad 0)), (1, .ref (la 2)), (2, .ref (la 3)), (3, .int (nI 6)), (4, .int (nI one)), (5, .int (nI two)), (6, .int (nI three)), (7, .int (nI bo)), (8, .int (nI t)), (9, .int (nI 0))]) hx hb dL_isBook_245 hl (by decide) rfl (fun ls hl => ?_)
                    refine lv_iload_n hx hb dL_isBook_247 rfl (lv_at hl 5 rfl) ?_
                    refine lv_bipush (v := nI 6) hx hb dL_isBook_248 (by decide) ?_
                    refine x_cmp_ne (tgt := 272) hx hb (Iff.rfl) dL_isBook_250 (by decide) (fun c250 => ?_) (fun c250 => ?_)
                    · exact absurd rfl c250
                    · refine lv_iload hx hb dL_isBook_253 (lv_at hl 0 rfl) ?_
                      refine x_if_lt (tgt := 272) hx hb (Iff.rfl) dL_isBook_255 (by decide) (fun c255 => ?_) (fun c255 => ?_)
                      · refine lv_iload_n hx hb dL_isBook_272 rfl (lv_at hl 5 rfl) ?_
                        refine lv_iconst (v := nI 5) hx hb dL_isBook_273 (by decide) ?_
                        refine x_cmp_ne (tgt := 318) hx hb (nI_eq (a := 6) (b := 5) (by omega) (by omega)) dL_isBook_274 (by decide) (fun c274 => ?_) (fun c274 => ?_)
                        · refine lv_aload_n hx hb dL_isBook_318 rfl (lv_at hl 2 rfl) ?_
                          refine lv_bipush (v := nI 6) hx hb dL_isBook_319 (by decide) ?_
                          refine lv_iload hx hb dL_isBook_321 (lv_at hl 9 rfl) ?_
                          refine lv_iload hx hb dL_isBook_323 (lv_at hl 10 rfl) ?_
                          refine lv_iload hx hb dL_isBook_325 (lv_at hl 8 rfl) ?_
                          refine lv_bipush (v := nI 9) hx hb dL_isBook_327 (by decide) ?_
                          refine x_rem (k := three % 9) hx hb dL_isBook_329 (by omega) (by omega) (by omega) rfl ?_
                          refine lv_iconst (v := nI 0) hx hb dL_isBook_330 (by decide) ?_
                          refine lv_iconst (v := nI 0) hx hb dL_isBook_331 (by decide) ?_
                          refine x_calli (w2 := fun (S332 : S4) => LW cI cP cS ad la S332 lp lo lq lb lg) (wr := []) (x_runL (n := 7) ⟨hx, hb, hml, hown, hts⟩ (fD_setColumns l D cI cP cS cL hfl ad la lp lo lq lb lg (s_lim S) (s_n S) (s_rows S) (s_cc S) (s_ct S) (s_ck S) (s_nr S) (s_cr S) (s_old S) (s_rw S) (s_co S) (s_re S) (s_nu S) (s_ma S) (s_sr S) (s_cp S) (s_pu S) (s_st S) (s_sl S) (cl bo) (nI bo) (nI t) (nI (three % 9)) (nI 0) (nI 0) (cl_lt bo) (hsx_cl (by omega))) gL_isBook_L_does rfl rfl rfl (by decide +kernel) ⟨by decide, by decide⟩ hN hK hP hD hS hA hE iLW rfl rfl rfl hl.1 (rest := []) (As := [.ref (ad 0), .int (nI 6), .int (nI bo), .int (nI t), .int (nI (three % 9)), .int (nI 0), .int (nI 0)]) rfl (Nat.le_of_ble_eq_true rfl) dL_isBook_332 ⟨by show _ ≤ 20; omega, by show _ ≤ 120; omega⟩) hP hD hS hA iLW [] iLW rfl rfl rfl (by decide) rfl (fun _ => rfl) (fun r332 S332 H locs hw hP hD hS => ?_)
                          obtain ⟨hr9, e8⟩ := (O_setColumns (IN_of hI) hinj (by omega) (by omega) (by omega) hw).1 hth
                          have e9 : S = S332 := (show S332 = S from e8).symm
                          subst e9
                          subst hr9
                          have hP : va_P D vwCl (LW cI cP cS ad la S lp lo lq lb lg) H := hP
                          have hD : va_D A (LW cI cP cS ad la S lp lo lq lb lg) := hD
                          refine lv_iload hx hb dL_isBook_335 (lv_at hl 0 rfl) ?_
                          refine x_cmp_ne (tgt := 344) hx hb (Iff.rfl) dL_isBook_337 (by decide) (fun c337 => ?_) (fun c337 => ?_)
                          · exact absurd rfl c337
                          · refine lv_iconst (v := nI 1) hx hb dL_isBook_340 (by decide) ?_
                            refine lv_goto (tgt := 345) hx hb dL_isBook_341 (by decide) ?_
                            exact x_ret_z hx hb hrt (by first | exact Or.inl rfl | exact Or.inr rfl) hlk hP hD hS dL_isBook_345 ⟨by omega, by omega⟩ ((S, lp, lo, lq, lb, lg)) ⟨rfl, ⟨bk, kc, mi, cn, hI⟩⟩ rfl
                        · exfalso; omega
                      · exact absurd (by decide) c255
              · refine lv_iload hx hb dL_isBook_105 (lv_at hl 10 rfl) ?_
                refine lv_iconst (v := nI 2) hx hb dL_isBook_107 (by decide) ?_
                refine x_cmp_ge (tgt := 216) hx hb (nI_leI (a := 2) (b := t) (by omega) (by omega)) dL_isBook_108 (by decide) (fun c108 => ?_) (fun c108 => ?_)
                · refine lv_iload hx hb dL_isBook_216 (lv_at hl 9 rfl) ?_
                  refine lv_iconst (v := nI 3) hx hb dL_isBook_218 (by decide) ?_
                  refine x_cmp_eq (tgt := 228) hx hb (nI_eq (a := bo) (b := 3) (by omega) (by omega)) dL_isBook_219 (by decide) (fun c219 => ?_) (fun c219 => ?_)
                  · refine lv_bipush (v := (-30 : Int32)) hx hb dL_isBook_228 (by decide) ?_
                    refine lv_goto (tgt := 245) hx hb dL_isBook_230 (by decide) ?_
                    refine lv_istore (lv' := [(11, .int ((-30 : Int32))), (10, .int (nI 0)), (0, .ref (ad 0)), (1, .ref (la 2)), (2, .ref (la 3)), (3, .int (nI 6)), (4, .int (nI one)), (5, .int (nI two)), (6, .int (nI three)), (7, .int (nI bo)), (8, .int (nI t)), (9, .int (nI 0))]) hx hb dL_isBook_245 hl (by decide) rfl (fun ls hl => ?_)
                    refine lv_iload_n hx hb dL_isBook_247 rfl (lv_at hl 5 rfl) ?_
                    refine lv_bipush (v := nI 6) hx hb dL_isBook_248 (by decide) ?_
                    refine x_cmp_ne (tgt := 272) hx hb (Iff.rfl) dL_isBook_250 (by decide) (fun c250 => ?_) (fun c250 => ?_)
                    · exact absurd rfl c250
                    · refine lv_iload hx hb dL_isBook_253 (lv_at hl 0 rfl) ?_
                      refine x_if_lt (tgt := 272) hx hb (Iff.rfl) dL_isBook_255 (by decide) (fun c255 => ?_) (fun c255 => ?_)
                      · refine lv_iload_n hx hb dL_isBook_272 rfl (lv_at hl 5 rfl) ?_
                        refine lv_iconst (v := nI 5) hx hb dL_isBook_273 (by decide) ?_
                        refine x_cmp_ne (tgt := 318) hx hb (nI_eq (a := 6) (b := 5) (by omega) (by omega)) dL_isBook_274 (by decide) (fun c274 => ?_) (fun c274 => ?_)
                        · refine lv_aload_n hx hb dL_isBook_318 rfl (lv_at hl 2 rfl) ?_
                          refine lv_bipush (v := nI 6) hx hb dL_isBook_319 (by decide) ?_
                          refine lv_iload hx hb dL_isBook_321 (lv_at hl 9 rfl) ?_
                          refine lv_iload hx hb dL_isBook_323 (lv_at hl 10 rfl) ?_
                          refine lv_iload hx hb dL_isBook_325 (lv_at hl 8 rfl) ?_
                          refine lv_bipush (v := nI 9) hx hb dL_isBook_327 (by decide) ?_
                          refine x_rem (k := three % 9) hx hb dL_isBook_329 (by omega) (by omega) (by omega) rfl ?_
                          refine lv_iconst (v := nI 0) hx hb dL_isBook_330 (by decide) ?_
                          refine lv_iconst (v := nI 0) hx hb dL_isBook_331 (by decide) ?_
                          refine x_calli (w2 := fun (S332 : S4) => LW cI cP cS ad la S332 lp lo lq lb lg) (wr := []) (x_runL (n := 7) ⟨hx, hb, hml, hown, hts⟩ (fD_setColumns l D cI cP cS cL hfl ad la lp lo lq lb lg (s_lim S) (s_n S) (s_rows S) (s_cc S) (s_ct S) (s_ck S) (s_nr S) (s_cr S) (s_old S) (s_rw S) (s_co S) (s_re S) (s_nu S) (s_ma S) (s_sr S) (s_cp S) (s_pu S) (s_st S) (s_sl S) (cl bo) (nI bo) (nI t) (nI (three % 9)) (nI 0) (nI 0) (cl_lt bo) (hsx_cl (by omega))) gL_isBook_L_does rfl rfl rfl (by decide +kernel) ⟨by decide, by decide⟩ hN hK hP hD hS hA hE iLW rfl rfl rfl hl.1 (rest := []) (As := [.ref (ad 0), .int (nI 6), .int (nI bo), .int (nI t), .int (nI (three % 9)), .int (nI 0), .int (nI 0)]) rfl (Nat.le_of_ble_eq_true rfl) dL_isBook_332 ⟨by show _ ≤ 20; omega, by show _ ≤ 120; omega⟩) hP hD hS hA iLW [] iLW rfl rfl rfl (by decide) rfl (fun _ => rfl) (fun r332 S332 H locs hw hP hD hS => ?_)
                          obtain ⟨hr9, e8⟩ := (O_setColumns (IN_of hI) hinj (by omega) (by omega) (by omega) hw).1 hth
                          have e9 : S = S332 := (show S332 = S from e8).symm
                          subst e9
                          subst hr9
                          have hP : va_P D vwCl (LW cI cP cS ad la S lp lo lq lb lg) H := hP
                          have hD : va_D A (LW cI cP cS ad la S lp lo lq lb lg) := hD
                          refine lv_iload hx hb dL_isBook_335 (lv_at hl 0 rfl) ?_
                          refine x_cmp_ne (tgt := 344) hx hb (Iff.rfl) dL_isBook_337 (by decide) (fun c337 => ?_) (fun c337 => ?_)
                          · exact absurd rfl c337
                          · refine lv_iconst (v := nI 1) hx hb dL_isBook_340 (by decide) ?_
                            refine lv_goto (tgt := 345) hx hb dL_isBook_341 (by decide) ?_
                            exact x_ret_z hx hb hrt (by first | exact Or.inl rfl | exact Or.inr rfl) hlk hP hD hS dL_isBook_345 ⟨by omega, by omega⟩ ((S, lp, lo, lq, lb, lg)) ⟨rfl, ⟨bk, kc, mi, cn, hI⟩⟩ rfl
                        · exfalso; omega
                      · exact absurd (by decide) c255
                  · refine lv_iload hx hb dL_isBook_222 (lv_at hl 10 rfl) ?_
                    refine lv_iconst (v := nI 2) hx hb dL_isBook_224 (by decide) ?_
                    refine x_cmp_ne (tgt := 233) hx hb (nI_eq (a := t) (b := 2) (by omega) (by omega)) dL_isBook_225 (by decide) (fun c225 => ?_) (fun c225 => ?_)
                    · exfalso; omega
                    · refine lv_bipush (v := (-30 : Int32)) hx hb dL_isBook_228 (by decide) ?_
                      refine lv_goto (tgt := 245) hx hb dL_isBook_230 (by decide) ?_
                      refine lv_istore (lv' := [(11, .int ((-30 : Int32))), (10, .int (nI 0)), (0, .ref (ad 0)), (1, .ref (la 2)), (2, .ref (la 3)), (3, .int (nI 6)), (4, .int (nI one)), (5, .int (nI two)), (6, .int (nI three)), (7, .int (nI bo)), (8, .int (nI t)), (9, .int (nI 0))]) hx hb dL_isBook_245 hl (by decide) rfl (fun ls hl => ?_)
                      refine lv_iload_n hx hb dL_isBook_247 rfl (lv_at hl 5 rfl) ?_
                      refine lv_bipush (v := nI 6) hx hb dL_isBook_248 (by decide) ?_
                      refine x_cmp_ne (tgt := 272) hx hb (Iff.rfl) dL_isBook_250 (by decide) (fun c250 => ?_) (fun c250 => ?_)
                      · exact absurd rfl c250
                      · refine lv_iload hx hb dL_isBook_253 (lv_at hl 0 rfl) ?_
                        refine x_if_lt (tgt := 272) hx hb (Iff.rfl) dL_isBook_255 (by decide) (fun c255 => ?_) (fun c255 => ?_)
                        · refine lv_iload_n hx hb dL_isBook_272 rfl (lv_at hl 5 rfl) ?_
                          refine lv_iconst (v := nI 5) hx hb dL_isBook_273 (by decide) ?_
                          refine x_cmp_ne (tgt := 318) hx hb (nI_eq (a := 6) (b := 5) (by omega) (by omega)) dL_isBook_274 (by decide) (fun c274 => ?_) (fun c274 => ?_)
                          · refine lv_aload_n hx hb dL_isBook_318 rfl (lv_at hl 2 rfl) ?_
                            refine lv_bipush (v := nI 6) hx hb dL_isBook_319 (by decide) ?_
                            refine lv_iload hx hb dL_isBook_321 (lv_at hl 9 rfl) ?_
                            refine lv_iload hx hb dL_isBook_323 (lv_at hl 10 rfl) ?_
                            refine lv_iload hx hb dL_isBook_325 (lv_at hl 8 rfl) ?_
                            refine lv_bipush (v := nI 9) hx hb dL_isBook_327 (by decide) ?_
                            refine x_rem (k := three % 9) hx hb dL_isBook_329 (by omega) (by omega) (by omega) rfl ?_
                            refine lv_iconst (v := nI 0) hx hb dL_isBook_330 (by decide) ?_
                            refine lv_iconst (v := nI 0) hx hb dL_isBook_331 (by decide) ?_
                            refine x_calli (w2 := fun (S332 : S4) => LW cI cP cS ad la S332 lp lo lq lb lg) (wr := []) (x_runL (n := 7) ⟨hx, hb, hml, hown, hts⟩ (fD_setColumns l D cI cP cS cL hfl ad la lp lo lq lb lg (s_lim S) (s_n S) (s_rows S) (s_cc S) (s_ct S) (s_ck S) (s_nr S) (s_cr S) (s_old S) (s_rw S) (s_co S) (s_re S) (s_nu S) (s_ma S) (s_sr S) (s_cp S) (s_pu S) (s_st S) (s_sl S) (cl bo) (nI bo) (nI t) (nI (three % 9)) (nI 0) (nI 0) (cl_lt bo) (hsx_cl (by omega))) gL_isBook_L_does rfl rfl rfl (by decide +kernel) ⟨by decide, by decide⟩ hN hK hP hD hS hA hE iLW rfl rfl rfl hl.1 (rest := []) (As := [.ref (ad 0), .int (nI 6), .int (nI bo), .int (nI t), .int (nI (three % 9)), .int (nI 0), .int (nI 0)]) rfl (Nat.le_of_ble_eq_true rfl) dL_isBook_332 ⟨by show _ ≤ 20; omega, by show _ ≤ 120; omega⟩) hP hD hS hA iLW [] iLW rfl rfl rfl (by decide) rfl (fun _ => rfl) (fun r332 S332 H locs hw hP hD hS => ?_)
                            obtain ⟨hr9, e8⟩ := (O_setColumns (IN_of hI) hinj (by omega) (by omega) (by omega) hw).1 hth
                            have e9 : S = S332 := (show S332 = S from e8).symm
                            subst e9
                            subst hr9
                            have hP : va_P D vwCl (LW cI cP cS ad la S lp lo lq lb lg) H := hP
                            have hD : va_D A (LW cI cP cS ad la S lp lo lq lb lg) := hD
                            refine lv_iload hx hb dL_isBook_335 (lv_at hl 0 rfl) ?_
                            refine x_cmp_ne (tgt := 344) hx hb (Iff.rfl) dL_isBook_337 (by decide) (fun c337 => ?_) (fun c337 => ?_)
                            · exact absurd rfl c337
                            · refine lv_iconst (v := nI 1) hx hb dL_isBook_340 (by decide) ?_
                              refine lv_goto (tgt := 345) hx hb dL_isBook_341 (by decide) ?_
                              exact x_ret_z hx hb hrt (by first | exact Or.inl rfl | exact Or.inr rfl) hlk hP hD hS dL_isBook_345 ⟨by omega, by omega⟩ ((S, lp, lo, lq, lb, lg)) ⟨rfl, ⟨bk, kc, mi, cn, hI⟩⟩ rfl
                          · exfalso; omega
                        · exact absurd (by decide) c255
                · exfalso; omega
      intro kj88
      refine lv_iload_n hx hb dL_isBook_39 rfl (lv_at hl 5 rfl) ?_
      refine lv_iconst (v := nI 5) hx hb dL_isBook_40 (by decide) ?_
      refine x_cmp_ne (tgt := 73) hx hb (nI_eq (a := 6) (b := 5) (by omega) (by omega)) dL_isBook_41 (by decide) (fun c41 => ?_) (fun c41 => ?_)
      · refine lv_iload hx hb dL_isBook_73 (lv_at hl 8 rfl) ?_
        refine lv_bipush (v := nI 9) hx hb dL_isBook_75 (by decide) ?_
        refine x_rem (k := three % 9) hx hb dL_isBook_77 (by omega) (by omega) (by omega) rfl ?_
        refine lv_bipush (v := nI 8) hx hb dL_isBook_78 (by decide) ?_
        refine x_cmp_ge (tgt := 87) hx hb (nI_leI (a := 8) (b := (three % 9)) (by omega) (by omega)) dL_isBook_80 (by decide) (fun c80 => ?_) (fun c80 => ?_)
        · refine lv_iconst (v := nI 0) hx hb dL_isBook_87 (by decide) ?_
          exact W.widen (by show _ ≤ 0; omega) (by show _ ≤ 0; omega) (kj88 0 (by first | exact Or.inl ⟨rfl, by omega⟩ | exact Or.inr ⟨rfl, by omega⟩) _ _ _ hP hD hS (lv_sub hl [2, 3, 4, 5, 6, 7, 8, 9, 1, 0] rfl))
        · refine lv_iconst (v := nI 1) hx hb dL_isBook_83 (by decide) ?_
          refine lv_goto (tgt := 88) hx hb dL_isBook_84 (by decide) ?_
          exact W.widen (by show _ ≤ 0; omega) (by show _ ≤ 0; omega) (kj88 1 (by first | exact Or.inl ⟨rfl, by omega⟩ | exact Or.inr ⟨rfl, by omega⟩) _ _ _ hP hD hS (lv_sub hl [2, 3, 4, 5, 6, 7, 8, 9, 1, 0] rfl))
      · exfalso; omega
    intro kj34
    refine lv_iload hx hb dL_isBook_18 (lv_at hl 6 rfl) ?_
    refine lv_bipush (v := nI 9) hx hb dL_isBook_20 (by decide) ?_
    refine x_rem (k := two % 9) hx hb dL_isBook_22 (by omega) (by omega) (by omega) rfl ?_
    refine x_if_ne (tgt := 30) hx hb (nI_z (by omega)) dL_isBook_23 (by decide) (fun c23 => ?_) (fun c23 => ?_)
    · refine lv_iload hx hb dL_isBook_30 (lv_at hl 6 rfl) ?_
      refine lv_iconst (v := nI 2) hx hb dL_isBook_32 (by decide) ?_
      refine x_rem (k := two % 2) hx hb dL_isBook_33 (by omega) (by omega) (by omega) rfl ?_
      exact W.widen (by show _ ≤ 0; omega) (by show _ ≤ 0; omega) (kj34 (two % 2) (by show _ ≤ 2; omega) _ _ _ hP hD hS (lv_sub hl [1, 2, 3, 4, 5, 6, 7, 0] rfl))
    · refine lv_iconst (v := nI 2) hx hb dL_isBook_26 (by decide) ?_
      refine lv_goto (tgt := 34) hx hb dL_isBook_27 (by decide) ?_
      exact W.widen (by show _ ≤ 0; omega) (by show _ ≤ 0; omega) (kj34 2 (by show _ ≤ 2; omega) _ _ _ hP hD hS (lv_sub hl [1, 2, 3, 4, 5, 6, 7, 0] rfl))
  intro kj16
  refine lv_iload hx hb dL_isBook_0 (lv_at hl 4 rfl) ?_
  refine lv_bipush (v := nI 9) hx hb dL_isBook_2 (by decide) ?_
  refine x_rem (k := one % 9) hx hb dL_isBook_4 (by omega) (by omega) (by omega) rfl ?_
  refine x_if_ne (tgt := 12) hx hb (nI_z (by omega)) dL_isBook_5 (by decide) (fun c5 => ?_) (fun c5 => ?_)
  · refine lv_iload hx hb dL_isBook_12 (lv_at hl 4 rfl) ?_
    refine lv_iconst (v := nI 3) hx hb dL_isBook_14 (by decide) ?_
    refine x_rem (k := one % 3) hx hb dL_isBook_15 (by omega) (by omega) (by omega) rfl ?_
    exact W.widen (by show _ ≤ 0; omega) (by show _ ≤ 0; omega) (kj16 (one % 3) (by show _ ≤ 3; omega) _ _ _ hP hD hS (lv_sub hl [0, 1, 2, 3, 4, 5, 6] rfl))
  · refine lv_iconst (v := nI 3) hx hb dL_isBook_8 (by decide) ?_
    refine lv_goto (tgt := 16) hx hb dL_isBook_9 (by decide) ?_
    exact W.widen (by show _ ≤ 0; omega) (by show _ ≤ 0; omega) (kj16 3 (by show _ ≤ 3; omega) _ _ _ hP hD hS (lv_sub hl [0, 1, 2, 3, 4, 5, 6] rfl))
