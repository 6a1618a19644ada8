set_option maxHeartbeats 8000000 in
set_option maxRecDepth 100000 in
theorem zL_isChange1 (l : Launch) (D : va_G) (cI cP cS cL : ClassId) (hfl : l.stackTraces = false) (ad la : Nat → Nat) (hinj : ∀ x y, x < 3 → y < 3 → ad (13 + 5 * x) = ad (13 + 5 * y) → x = y) (S : S4) (lp lo lq lb lg : qF) (one two three : Nat) (h1 : one < 6000) (h2 : two < 7000) (h3 : three < 8000) (hI0 : INE ad S lp lo lq lb lg) : xWi l yL_isChange wsL_isChange (rmD 11 20 120) D [(cI, .int), (cP, .object RX0), (cS, .object RX2)] [.ref (ad 0), .ref (la 0), .ref (la 4), .int (nI 1), .int (nI one), .int (nI two), .int (nI three)] (LW cI cP cS ad la S lp lo lq lb lg) (fun (r : Int32) (T : LT) => r = nI 1 ∧ INT ad T) (fun (T : LT) => LWt cI cP cS ad la T) 20 120 := by
  refine xe_N (cc := cL_isChange) (maxL := 16) (ret := (some .boolean)) (by decide) rfl (Nat.le_of_ble_eq_true rfl) ?_
  intro zp ze s zm below meth zc A ls B hE
  obtain ⟨hx, hb, hml, hrt, hts, hown, hnm, hlk, hK, hP, hD, hA, hS, hN, hl⟩ := B
  have hown : s.vm.findClass RL = some zm.cls := hown
  have hl : lv_has ls 16 [(0, .ref (ad 0)), (1, .ref (la 0)), (2, .ref (la 4)), (3, .int (nI 1)), (4, .int (nI one)), (5, .int (nI two)), (6, .int (nI three))] := hl
  have hA : ∀ q, s.heap.size ≤ q → A q := hA
  obtain ⟨bk, kc, mi, cn, hI⟩ := hI0
  have hn50 := IN_n hI
  have hlim50 := IN_lim hI
  have hcn12 := IN_cn hI
  refine x_join (nL := 16) (D := D) (A := A) (H0 := s.heap) (fun (t : Nat) => t ≤ 2) 16 (fun (t : Nat) => 0) (fun (t : Nat) => 0) (fun (t : Nat) => LW cI cP cS ad la S lp lo lq lb lg) (fun (t : Nat) => [(0, .ref (ad 0)), (1, .ref (la 0)), (2, .ref (la 4)), (3, .int (nI 1)), (4, .int (nI one)), (5, .int (nI two)), (6, .int (nI three))]) (fun (t : Nat) => [.int (nI t)]) ?_ ?_
  · intro x9 hj9 H locs ls hP hD hS hl
    obtain ⟨t, h9⟩ : ∃ z, z = x9 := ⟨x9, rfl⟩
    subst h9
    have hP : va_P D vwCl (LW cI cP cS ad la S lp lo lq lb lg) H := hP
    have hD : va_D A (LW cI cP cS ad la S lp lo lq lb lg) := hD
    have hl : lv_has ls 16 [(0, .ref (ad 0)), (1, .ref (la 0)), (2, .ref (la 4)), (3, .int (nI 1)), (4, .int (nI one)), (5, .int (nI two)), (6, .int (nI three))] := hl
    show W _ _ _ _ _ _ _ _ _ _ _ _ (0) (0) _ _
    have ht9 := hj9
    refine lv_istore (lv' := [(7, .int (nI t)), (0, .ref (ad 0)), (1, .ref (la 0)), (2, .ref (la 4)), (3, .int (nI 1)), (4, .int (nI one)), (5, .int (nI two)), (6, .int (nI three))]) hx hb dL_isChange_16 hl (by decide) rfl (fun ls hl => ?_)
    refine x_join (nL := 16) (D := D) (A := A) (H0 := s.heap) (fun (k : Nat) => k ≤ 12) 36 (fun (k : Nat) => 0) (fun (k : Nat) => 0) (fun (k : Nat) => LW cI cP cS ad la S lp lo lq lb lg) (fun (k : Nat) => [(0, .ref (ad 0)), (1, .ref (la 0)), (2, .ref (la 4)), (3, .int (nI 1)), (4, .int (nI one)), (5, .int (nI two)), (6, .int (nI three)), (7, .int (nI t))]) (fun (k : Nat) => [.int (nI k)]) ?_ ?_
    · intro x9 hj9 H locs ls hP hD hS hl
      obtain ⟨k, h9⟩ : ∃ z, z = x9 := ⟨x9, rfl⟩
      subst h9
      have hP : va_P D vwCl (LW cI cP cS ad la S lp lo lq lb lg) H := hP
      have hD : va_D A (LW cI cP cS ad la S lp lo lq lb lg) := hD
      have hl : lv_has ls 16 [(0, .ref (ad 0)), (1, .ref (la 0)), (2, .ref (la 4)), (3, .int (nI 1)), (4, .int (nI one)), (5, .int (nI two)), (6, .int (nI three)), (7, .int (nI t))] := hl
      show W _ _ _ _ _ _ _ _ _ _ _ _ (0) (0) _ _
      have hk9 := hj9
      refine lv_istore (lv' := [(8, .int (nI k)), (0, .ref (ad 0)), (1, .ref (la 0)), (2, .ref (la 4)), (3, .int (nI 1)), (4, .int (nI one)), (5, .int (nI two)), (6, .int (nI three)), (7, .int (nI t))]) hx hb dL_isChange_36 hl (by decide) rfl (fun ls hl => ?_)
      rcases Classical.em (t < 2 ∧ k < 12) with hth | hth
      · refine lv_iload hx hb dL_isChange_38 (lv_at hl 8 rfl) ?_
        refine lv_iconst (v := nI 2) hx hb dL_isChange_40 (by decide) ?_
        refine x_cmp_ge (tgt := 60) hx hb (nI_leI (a := 2) (b := t) (by omega) (by omega)) dL_isChange_41 (by decide) (fun c41 => ?_) (fun c41 => ?_)
        · exfalso; omega
        · refine lv_iload_n hx hb dL_isChange_44 rfl (lv_at hl 4 rfl) ?_
          refine lv_iconst (v := nI 2) hx hb dL_isChange_45 (by decide) ?_
          refine x_cmp_eq (tgt := 56) hx hb (nI_eq (a := 1) (b := 2) (by omega) (by omega)) dL_isChange_46 (by decide) (fun c46 => ?_) (fun c46 => ?_)
          · exfalso; omega
          · refine lv_iload hx hb dL_isChange_49 (lv_at hl 0 rfl) ?_
            refine lv_bipush (v := nI 12) hx hb dL_isChange_51 (by decide) ?_
            refine x_cmp_ge (tgt := 60) hx hb (nI_leI (a := 12) (b := k) (by omega) (by omega)) dL_isChange_53 (by decide) (fun c53 => ?_) (fun c53 => ?_)
            · exfalso; omega
            · refine lv_iconst (v := nI 1) hx hb dL_isChange_56 (by decide) ?_
              refine lv_goto (tgt := 61) hx hb dL_isChange_57 (by decide) ?_
              refine lv_istore (lv' := [(9, .int (nI 1)), (8, .int (nI k)), (0, .ref (ad 0)), (1, .ref (la 0)), (2, .ref (la 4)), (3, .int (nI 1)), (4, .int (nI one)), (5, .int (nI two)), (6, .int (nI three)), (7, .int (nI t))]) hx hb dL_isChange_61 hl (by decide) rfl (fun ls hl => ?_)
              refine lv_iload hx hb dL_isChange_63 (lv_at hl 0 rfl) ?_
              refine x_if_eq (tgt := 88) hx hb (nI_z (by omega)) dL_isChange_65 (by decide) (fun c65 => ?_) (fun c65 => ?_)
              · exfalso; omega
              · refine lv_bipush (v := nI 12) hx hb dL_isChange_68 (by decide) ?_
                refine lv_iload hx hb dL_isChange_70 (lv_at hl 9 rfl) ?_
                refine x_mul (k := 12 * t) hx hb dL_isChange_72 rfl ?_
                refine lv_iload_n hx hb dL_isChange_73 rfl (lv_at hl 5 rfl) ?_
                refine lv_iconst (v := nI 2) hx hb dL_isChange_74 (by decide) ?_
                refine x_cmp_ne (tgt := 82) hx hb (nI_eq (a := 1) (b := 2) (by omega) (by omega)) dL_isChange_75 (by decide) (fun c75 => ?_) (fun c75 => ?_)
                · refine lv_iload hx hb dL_isChange_82 (lv_at hl 1 rfl) ?_
                  refine x_add (k := (12 * t) + k) hx hb dL_isChange_84 rfl ?_
                  refine lv_goto (tgt := 89) hx hb dL_isChange_85 (by decide) ?_
                  refine lv_istore (lv' := [(10, .int (nI ((12 * t) + k))), (9, .int (nI 1)), (8, .int (nI k)), (0, .ref (ad 0)), (1, .ref (la 0)), (2, .ref (la 4)), (3, .int (nI 1)), (4, .int (nI one)), (5, .int (nI two)), (6, .int (nI three)), (7, .int (nI t))]) hx hb dL_isChange_89 hl (by decide) rfl (fun ls hl => ?_)
                  refine lv_aload_n hx hb dL_isChange_91 rfl (lv_at hl 5 rfl) ?_
                  refine lv_iconst (v := nI 1) hx hb dL_isChange_92 (by decide) ?_
                  refine x_ald (v := nI cn) hx hb hK hP 41 0 rfl rfl (by omega) (by omega) (IN_g1 hI) dL_isChange_93 ?_
                  refine lv_bipush (v := nI 12) hx hb dL_isChange_94 (by decide) ?_
                  refine x_cmp_ne (tgt := 103) hx hb (nI_eq (a := cn) (b := 12) (by omega) (by omega)) dL_isChange_96 (by decide) (fun c96 => ?_) (fun c96 => ?_)
                  · refine lv_iconst (v := nI 0) hx hb dL_isChange_103 (by decide) ?_
                    refine lv_istore (lv' := [(11, .int (nI 0)), (10, .int (nI ((12 * t) + k))), (9, .int (nI 1)), (8, .int (nI k)), (0, .ref (ad 0)), (1, .ref (la 0)), (2, .ref (la 4)), (3, .int (nI 1)), (4, .int (nI one)), (5, .int (nI two)), (6, .int (nI three)), (7, .int (nI t))]) hx hb dL_isChange_104 hl (by decide) rfl (fun ls hl => ?_)
                    refine lv_iload_n hx hb dL_isChange_106 rfl (lv_at hl 7 rfl) ?_
                    refine x_if_ne (tgt := 253) hx hb (nI_z (by omega)) dL_isChange_107 (by decide) (fun c107 => ?_) (fun c107 => ?_)
                    · refine lv_iload_n hx hb dL_isChange_253 rfl (lv_at hl 7 rfl) ?_
                      refine lv_iconst (v := nI 1) hx hb dL_isChange_254 (by decide) ?_
                      refine x_cmp_ne (tgt := 328) hx hb (Iff.rfl) dL_isChange_255 (by decide) (fun c255 => ?_) (fun c255 => ?_)
                      · exact absurd rfl c255
                      · refine lv_iload hx hb dL_isChange_258 (lv_at hl 2 rfl) ?_
                        refine x_if_ne (tgt := 268) hx hb (nI_z (by omega)) dL_isChange_260 (by decide) (fun c260 => ?_) (fun c260 => ?_)
                        · rcases IN_p hI (12 * t + k) (by omega) with ⟨he1, he2⟩ | ⟨a, b, c, va9, vb9, vc9, he1, he2⟩
                          · refine lv_aload_n hx hb dL_isChange_268 rfl (lv_at hl 5 rfl) ?_
                            refine lv_iload hx hb dL_isChange_269 (lv_at hl 1 rfl) ?_
                            refine x_ald (v := -1) hx hb hK hP 37 0 rfl rfl (by omega) (by omega) he2 dL_isChange_271 ?_
                            refine x_if_lt (tgt := 280) hx hb (Iff.rfl) dL_isChange_272 (by decide) (fun c272 => ?_) (fun c272 => ?_)
                            · refine lv_bipush (v := (-10 : Int32)) hx hb dL_isChange_280 (by decide) ?_
                              refine lv_goto (tgt := 286) hx hb dL_isChange_282 (by decide) ?_
                              refine lv_istore (lv' := [(12, .int ((-10 : Int32))), (11, .int (nI 0)), (10, .int (nI ((12 * t) + k))), (9, .int (nI 1)), (8, .int (nI k)), (0, .ref (ad 0)), (1, .ref (la 0)), (2, .ref (la 4)), (3, .int (nI 1)), (4, .int (nI one)), (5, .int (nI two)), (6, .int (nI three)), (7, .int (nI t))]) hx hb dL_isChange_286 hl (by decide) rfl (fun ls hl => ?_)
                              refine lv_iload hx hb dL_isChange_288 (lv_at hl 0 rfl) ?_
                              refine x_if_ne (tgt := 305) hx hb (Iff.rfl) dL_isChange_290 (by decide) (fun c290 => ?_) (fun c290 => ?_)
                              · refine lv_aload_n hx hb dL_isChange_305 rfl (lv_at hl 5 rfl) ?_
                                refine lv_iconst (v := nI 1) hx hb dL_isChange_306 (by decide) ?_
                                refine lv_iload hx hb dL_isChange_307 (lv_at hl 12 rfl) ?_
                                refine lv_iload hx hb dL_isChange_309 (lv_at hl 4 rfl) ?_
                                refine lv_iconst (v := nI 0) hx hb dL_isChange_311 (by decide) ?_
                                refine lv_iconst (v := nI 0) hx hb dL_isChange_312 (by decide) ?_
                                refine lv_iconst (v := nI 0) hx hb dL_isChange_313 (by decide) ?_
                                refine x_calli (w2 := fun (S314 : S4) => LW cI cP cS ad la S314 lp lo lq lb lg) (wr := []) (x_runL (n := 7) ⟨hx, hb, hml, hown, hts⟩ (fD_take l D cI cP cS cL hfl ad la lp lo lq lb lg (s_lim S) (s_n S) (s_rows S) (s_cc S) (s_ct S) (s_ck S) (s_nr S) (s_cr S) (s_old S) (s_rw S) (s_co S) (s_re S) (s_nu S) (s_ma S) (s_sr S) (s_cp S) (s_pu S) (s_st S) (s_sl S) cn (nI t) (nI k) (nI 0) (nI 0) (nI 0) hn50 (IN_cc hI) hcn12) gL_isChange_L_does rfl rfl rfl (by decide +kernel) ⟨by decide, by decide⟩ hN hK hP hD hS hA hE iLW rfl rfl rfl hl.1 (rest := []) (As := [.ref (ad 0), .int (nI 1), .int (nI t), .int (nI k), .int (nI 0), .int (nI 0), .int (nI 0)]) rfl (Nat.le_of_ble_eq_true rfl) dL_isChange_314 ⟨by show _ ≤ 20; omega, by show _ ≤ 120; omega⟩) hP hD hS hA iLW [] iLW rfl rfl rfl (by decide) rfl (fun _ => rfl) (fun r314 S314 H locs hw hP hD hS => ?_)
                                obtain ⟨hr9, e8⟩ := (O_take (IN_of hI) (by omega) (by omega) hw).2.1 hth.1 hth.2 (Or.inr (by rw [show t * 12 + k = 12 * t + k by omega]; exact he1))
                                have e9 : S = S314 := (show S314 = S from e8).symm
                                subst e9
                                subst hr9
                                have hP : va_P D vwCl (LW cI cP cS ad la S lp lo lq lb lg) H := hP
                                have hD : va_D A (LW cI cP cS ad la S lp lo lq lb lg) := hD
                                refine lv_iload hx hb dL_isChange_317 (lv_at hl 0 rfl) ?_
                                refine x_cmp_ne (tgt := 326) hx hb (Iff.rfl) dL_isChange_319 (by decide) (fun c319 => ?_) (fun c319 => ?_)
                                · exact absurd rfl c319
                                · refine lv_iconst (v := nI 1) hx hb dL_isChange_322 (by decide) ?_
                                  refine lv_goto (tgt := 327) hx hb dL_isChange_323 (by decide) ?_
                                  exact x_ret_z hx hb hrt (by first | exact Or.inl rfl | exact Or.inr rfl) hlk hP hD hS dL_isChange_327 ⟨by omega, by omega⟩ ((S, lp, lo, lq, lb, lg)) ⟨rfl, ⟨bk, kc, mi, cn, hI⟩⟩ rfl
                              · exact absurd c290 (by decide)
                            · exact absurd (by decide) c272
                          · have hd3 := d3_lt va9 vb9 vc9
                            refine lv_aload_n hx hb dL_isChange_268 rfl (lv_at hl 5 rfl) ?_
                            refine lv_iload hx hb dL_isChange_269 (lv_at hl 1 rfl) ?_
                            refine x_ald (v := nI (d3 a b c)) hx hb hK hP 37 0 rfl rfl (by omega) (by omega) he2 dL_isChange_271 ?_
                            refine x_if_lt (tgt := 280) hx hb (nI_ng (by omega)) dL_isChange_272 (by decide) (fun c272 => ?_) (fun c272 => ?_)
                            · exact c272.elim
                            · refine lv_iload hx hb dL_isChange_275 (lv_at hl 0 rfl) ?_
                              refine x_if_eq (tgt := 285) hx hb (nI_z (by omega)) dL_isChange_277 (by decide) (fun c277 => ?_) (fun c277 => ?_)
                              · refine lv_iconst (v := nI 0) hx hb dL_isChange_285 (by decide) ?_
                                refine lv_istore (lv' := [(12, .int (nI 0)), (11, .int (nI 0)), (10, .int (nI ((12 * t) + k))), (9, .int (nI 1)), (8, .int (nI k)), (0, .ref (ad 0)), (1, .ref (la 0)), (2, .ref (la 4)), (3, .int (nI 1)), (4, .int (nI one)), (5, .int (nI two)), (6, .int (nI three)), (7, .int (nI t))]) hx hb dL_isChange_286 hl (by decide) rfl (fun ls hl => ?_)
                                refine lv_iload hx hb dL_isChange_288 (lv_at hl 0 rfl) ?_
                                refine x_if_ne (tgt := 305) hx hb (nI_z (by omega)) dL_isChange_290 (by decide) (fun c290 => ?_) (fun c290 => ?_)
                                · exfalso; omega
                                · refine lv_aload_n hx hb dL_isChange_293 rfl (lv_at hl 6 rfl) ?_
                                  refine lv_iload hx hb dL_isChange_294 (lv_at hl 2 rfl) ?_
                                  refine lv_iconst (v := -1) hx hb dL_isChange_296 (by decide) ?_
                                  refine x_ast (g := upd lp ((12 * t) + k) (-1)) (ws' := LW cI cP cS ad la S (upd lp ((12 * t) + k) (-1)) lo lq lb lg) hx hb hK hP hD hS 37 0 rfl rfl (by omega) (by omega) (rfl) rfl dL_isChange_297 (fun H locs hP hD hS => ?_)
                                  refine lv_aload_n hx hb dL_isChange_298 rfl (lv_at hl 7 rfl) ?_
                                  refine lv_iconst (v := nI 1) hx hb dL_isChange_299 (by decide) ?_
                                  refine lv_dup2_11 hx hb dL_isChange_300 rfl rfl ?_
                                  refine x_ald (v := nI cn) hx hb hK hP 41 0 rfl rfl (by omega) (by omega) (IN_g1 hI) dL_isChange_301 ?_
                                  refine lv_iconst (v := nI 1) hx hb dL_isChange_302 (by decide) ?_
                                  refine x_add (k := cn + 1) hx hb dL_isChange_303 rfl ?_
                                  refine x_ast (g := upd lg 1 (nI (cn + 1))) (ws' := LW cI cP cS ad la S (upd lp ((12 * t) + k) (-1)) lo lq lb (upd lg 1 (nI (cn + 1)))) hx hb hK hP hD hS 41 0 rfl rfl (by omega) (by omega) (rfl) rfl dL_isChange_304 (fun H locs hP hD hS => ?_)
                                  refine lv_aload_n hx hb dL_isChange_305 rfl (lv_at hl 5 rfl) ?_
                                  refine lv_iconst (v := nI 1) hx hb dL_isChange_306 (by decide) ?_
                                  refine lv_iload hx hb dL_isChange_307 (lv_at hl 12 rfl) ?_
                                  refine lv_iload hx hb dL_isChange_309 (lv_at hl 4 rfl) ?_
                                  refine lv_iconst (v := nI 0) hx hb dL_isChange_311 (by decide) ?_
                                  refine lv_iconst (v := nI 0) hx hb dL_isChange_312 (by decide) ?_
                                  refine lv_iconst (v := nI 0) hx hb dL_isChange_313 (by decide) ?_
                                  refine x_calli (w2 := fun (S314 : S4) => LW cI cP cS ad la S314 (upd lp ((12 * t) + k) (-1)) lo lq lb (upd lg 1 (nI (cn + 1)))) (wr := []) (x_runL (n := 7) ⟨hx, hb, hml, hown, hts⟩ (fD_take l D cI cP cS cL hfl ad la (upd lp ((12 * t) + k) (-1)) lo lq lb (upd lg 1 (nI (cn + 1))) (s_lim S) (s_n S) (s_rows S) (s_cc S) (s_ct S) (s_ck S) (s_nr S) (s_cr S) (s_old S) (s_rw S) (s_co S) (s_re S) (s_nu S) (s_ma S) (s_sr S) (s_cp S) (s_pu S) (s_st S) (s_sl S) cn (nI t) (nI k) (nI 0) (nI 0) (nI 0) hn50 (IN_cc hI) hcn12) gL_isChange_L_does rfl rfl rfl (by decide +kernel) ⟨by decide, by decide⟩ hN hK hP hD hS hA hE iLW rfl rfl rfl hl.1 (rest := []) (As := [.ref (ad 0), .int (nI 1), .int (nI t), .int (nI k), .int (nI 0), .int (nI 0), .int (nI 0)]) rfl (Nat.le_of_ble_eq_true rfl) dL_isChange_314 ⟨by show _ ≤ 20; omega, by show _ ≤ 120; omega⟩) hP hD hS hA iLW [] iLW rfl rfl rfl (by decide) rfl (fun _ => rfl) (fun r314 S314 H locs hw hP hD hS => ?_)
                                  obtain ⟨hr9, hI1⟩ := (O_take (IN_of hI) (by omega) (by omega) hw).2.2 hth.1 hth.2 (by omega) (by rw [show t * 12 + k = 12 * t + k by omega, he1]; exact fun z => (nI_m1 (by have := k3_lt va9 vb9 vc9; omega)).mp z)
                                  subst hr9
                                  have hP : va_P D vwCl (LW cI cP cS ad la S314 (upd lp ((12 * t) + k) (-1)) lo lq lb (upd lg 1 (nI (cn + 1)))) H := hP
                                  have hD : va_D A (LW cI cP cS ad la S314 (upd lp ((12 * t) + k) (-1)) lo lq lb (upd lg 1 (nI (cn + 1)))) := hD
                                  refine lv_iload hx hb dL_isChange_317 (lv_at hl 0 rfl) ?_
                                  refine x_cmp_ne (tgt := 326) hx hb (Iff.rfl) dL_isChange_319 (by decide) (fun c319 => ?_) (fun c319 => ?_)
                                  · exact absurd rfl c319
                                  · refine lv_iconst (v := nI 1) hx hb dL_isChange_322 (by decide) ?_
                                    refine lv_goto (tgt := 327) hx hb dL_isChange_323 (by decide) ?_
                                    exact x_ret_z hx hb hrt (by first | exact Or.inl rfl | exact Or.inr rfl) hlk hP hD hS dL_isChange_327 ⟨by omega, by omega⟩ ((S314, upd lp ((12 * t) + k) (-1), lo, lq, lb, upd lg 1 (nI (cn + 1)))) ⟨rfl, ⟨_, _, _, _, hI1⟩⟩ rfl
                              · exfalso; omega
                        · exfalso; omega
                    · exfalso; omega
                  · refine lv_iconst (v := nI 1) hx hb dL_isChange_99 (by decide) ?_
                    refine lv_goto (tgt := 104) hx hb dL_isChange_100 (by decide) ?_
                    refine lv_istore (lv' := [(11, .int (nI 1)), (10, .int (nI ((12 * t) + k))), (9, .int (nI 1)), (8, .int (nI k)), (0, .ref (ad 0)), (1, .ref (la 0)), (2, .ref (la 4)), (3, .int (nI 1)), (4, .int (nI one)), (5, .int (nI two)), (6, .int (nI three)), (7, .int (nI t))]) hx hb dL_isChange_104 hl (by decide) rfl (fun ls hl => ?_)
                    refine lv_iload_n hx hb dL_isChange_106 rfl (lv_at hl 7 rfl) ?_
                    refine x_if_ne (tgt := 253) hx hb (nI_z (by omega)) dL_isChange_107 (by decide) (fun c107 => ?_) (fun c107 => ?_)
                    · refine lv_iload_n hx hb dL_isChange_253 rfl (lv_at hl 7 rfl) ?_
                      refine lv_iconst (v := nI 1) hx hb dL_isChange_254 (by decide) ?_
                      refine x_cmp_ne (tgt := 328) hx hb (Iff.rfl) dL_isChange_255 (by decide) (fun c255 => ?_) (fun c255 => ?_)
                      · exact absurd rfl c255
                      · refine lv_iload hx hb dL_isChange_258 (lv_at hl 2 rfl) ?_
                        refine x_if_ne (tgt := 268) hx hb (nI_z (by omega)) dL_isChange_260 (by decide) (fun c260 => ?_) (fun c260 => ?_)
                        · rcases IN_p hI (12 * t + k) (by omega) with ⟨he1, he2⟩ | ⟨a, b, c, va9, vb9, vc9, he1, he2⟩
                          · refine lv_aload_n hx hb dL_isChange_268 rfl (lv_at hl 5 rfl) ?_
                            refine lv_iload hx hb dL_isChange_269 (lv_at hl 1 rfl) ?_
                            refine x_ald (v := -1) hx hb hK hP 37 0 rfl rfl (by omega) (by omega) he2 dL_isChange_271 ?_
                            refine x_if_lt (tgt := 280) hx hb (Iff.rfl) dL_isChange_272 (by decide) (fun c272 => ?_) (fun c272 => ?_)
                            · refine lv_bipush (v := (-10 : Int32)) hx hb dL_isChange_280 (by decide) ?_
                              refine lv_goto (tgt := 286) hx hb dL_isChange_282 (by decide) ?_
                              refine lv_istore (lv' := [(12, .int ((-10 : Int32))), (11, .int (nI 1)), (10, .int (nI ((12 * t) + k))), (9, .int (nI 1)), (8, .int (nI k)), (0, .ref (ad 0)), (1, .ref (la 0)), (2, .ref (la 4)), (3, .int (nI 1)), (4, .int (nI one)), (5, .int (nI two)), (6, .int (nI three)), (7, .int (nI t))]) hx hb dL_isChange_286 hl (by decide) rfl (fun ls hl => ?_)
                              refine lv_iload hx hb dL_isChange_288 (lv_at hl 0 rfl) ?_
                              refine x_if_ne (tgt := 305) hx hb (Iff.rfl) dL_isChange_290 (by decide) (fun c290 => ?_) (fun c290 => ?_)
                              · refine lv_aload_n hx hb dL_isChange_305 rfl (lv_at hl 5 rfl) ?_
                                refine lv_iconst (v := nI 1) hx hb dL_isChange_306 (by decide) ?_
                                refine lv_iload hx hb dL_isChange_307 (lv_at hl 12 rfl) ?_
                                refine lv_iload hx hb dL_isChange_309 (lv_at hl 4 rfl) ?_
                                refine lv_iconst (v := nI 0) hx hb dL_isChange_311 (by decide) ?_
                                refine lv_iconst (v := nI 0) hx hb dL_isChange_312 (by decide) ?_
                                refine lv_iconst (v := nI 0) hx hb dL_isChange_313 (by decide) ?_
                                refine x_calli (w2 := fun (S314 : S4) => LW cI cP cS ad la S314 lp lo lq lb lg) (wr := []) (x_runL (n := 7) ⟨hx, hb, hml, hown, hts⟩ (fD_take l D cI cP cS cL hfl ad la lp lo lq lb lg (s_lim S) (s_n S) (s_rows S) (s_cc S) (s_ct S) (s_ck S) (s_nr S) (s_cr S) (s_old S) (s_rw S) (s_co S) (s_re S) (s_nu S) (s_ma S) (s_sr S) (s_cp S) (s_pu S) (s_st S) (s_sl S) cn (nI t) (nI k) (nI 0) (nI 0) (nI 0) hn50 (IN_cc hI) hcn12) gL_isChange_L_does rfl rfl rfl (by decide +kernel) ⟨by decide, by decide⟩ hN hK hP hD hS hA hE iLW rfl rfl rfl hl.1 (rest := []) (As := [.ref (ad 0), .int (nI 1), .int (nI t), .int (nI k), .int (nI 0), .int (nI 0), .int (nI 0)]) rfl (Nat.le_of_ble_eq_true rfl) dL_isChange_314 ⟨by show _ ≤ 20; omega, by show _ ≤ 120; omega⟩) hP hD hS hA iLW [] iLW rfl rfl rfl (by decide) rfl (fun _ => rfl) (fun r314 S314 H locs hw hP hD hS => ?_)
                                obtain ⟨hr9, e8⟩ := (O_take (IN_of hI) (by omega) (by omega) hw).2.1 hth.1 hth.2 (Or.inr (by rw [show t * 12 + k = 12 * t + k by omega]; exact he1))
                                have e9 : S = S314 := (show S314 = S from e8).symm
                                subst e9
                                subst hr9
                                have hP : va_P D vwCl (LW cI cP cS ad la S lp lo lq lb lg) H := hP
                                have hD : va_D A (LW cI cP cS ad la S lp lo lq lb lg) := hD
                                refine lv_iload hx hb dL_isChange_317 (lv_at hl 0 rfl) ?_
                                refine x_cmp_ne (tgt := 326) hx hb (Iff.rfl) dL_isChange_319 (by decide) (fun c319 => ?_) (fun c319 => ?_)
                                · exact absurd rfl c319
                                · refine lv_iconst (v := nI 1) hx hb dL_isChange_322 (by decide) ?_
                                  refine lv_goto (tgt := 327) hx hb dL_isChange_323 (by decide) ?_
                                  exact x_ret_z hx hb hrt (by first | exact Or.inl rfl | exact Or.inr rfl) hlk hP hD hS dL_isChange_327 ⟨by omega, by omega⟩ ((S, lp, lo, lq, lb, lg)) ⟨rfl, ⟨bk, kc, mi, cn, hI⟩⟩ rfl
                              · exact absurd c290 (by decide)
                            · exact absurd (by decide) c272
                          · have hd3 := d3_lt va9 vb9 vc9
                            refine lv_aload_n hx hb dL_isChange_268 rfl (lv_at hl 5 rfl) ?_
                            refine lv_iload hx hb dL_isChange_269 (lv_at hl 1 rfl) ?_
                            refine x_ald (v := nI (d3 a b c)) hx hb hK hP 37 0 rfl rfl (by omega) (by omega) he2 dL_isChange_271 ?_
                            refine x_if_lt (tgt := 280) hx hb (nI_ng (by omega)) dL_isChange_272 (by decide) (fun c272 => ?_) (fun c272 => ?_)
                            · exact c272.elim
                            · refine lv_iload hx hb dL_isChange_275 (lv_at hl 0 rfl) ?_
                              refine x_if_eq (tgt := 285) hx hb (nI_z (by omega)) dL_isChange_277 (by decide) (fun c277 => ?_) (fun c277 => ?_)
                              · exfalso; omega
                              · refine lv_bipush (v := (-10 : Int32)) hx hb dL_isChange_280 (by decide) ?_
                                refine lv_goto (tgt := 286) hx hb dL_isChange_282 (by decide) ?_
                                refine lv_istore (lv' := [(12, .int ((-10 : Int32))), (11, .int (nI 1)), (10, .int (nI ((12 * t) + k))), (9, .int (nI 1)), (8, .int (nI k)), (0, .ref (ad 0)), (1, .ref (la 0)), (2, .ref (la 4)), (3, .int (nI 1)), (4, .int (nI one)), (5, .int (nI two)), (6, .int (nI three)), (7, .int (nI t))]) hx hb dL_isChange_286 hl (by decide) rfl (fun ls hl => ?_)
                                refine lv_iload hx hb dL_isChange_288 (lv_at hl 0 rfl) ?_
                                refine x_if_ne (tgt := 305) hx hb (Iff.rfl) dL_isChange_290 (by decide) (fun c290 => ?_) (fun c290 => ?_)
                                · refine lv_aload_n hx hb dL_isChange_305 rfl (lv_at hl 5 rfl) ?_
                                  refine lv_iconst (v := nI 1) hx hb dL_isChange_306 (by decide) ?_
                                  refine lv_iload hx hb dL_isChange_307 (lv_at hl 12 rfl) ?_
                                  refine lv_iload hx hb dL_isChange_309 (lv_at hl 4 rfl) ?_
                                  refine lv_iconst (v := nI 0) hx hb dL_isChange_311 (by decide) ?_
                                  refine lv_iconst (v := nI 0) hx hb dL_isChange_312 (by decide) ?_
                                  refine lv_iconst (v := nI 0) hx hb dL_isChange_313 (by decide) ?_
                                  refine x_calli (w2 := fun (S314 : S4) => LW cI cP cS ad la S314 lp lo lq lb lg) (wr := []) (x_runL (n := 7) ⟨hx, hb, hml, hown, hts⟩ (fD_take l D cI cP cS cL hfl ad la lp lo lq lb lg (s_lim S) (s_n S) (s_rows S) (s_cc S) (s_ct S) (s_ck S) (s_nr S) (s_cr S) (s_old S) (s_rw S) (s_co S) (s_re S) (s_nu S) (s_ma S) (s_sr S) (s_cp S) (s_pu S) (s_st S) (s_sl S) cn (nI t) (nI k) (nI 0) (nI 0) (nI 0) hn50 (IN_cc hI) hcn12) gL_isChange_L_does rfl rfl rfl (by decide +kernel) ⟨by decide, by decide⟩ hN hK hP hD hS hA hE iLW rfl rfl rfl hl.1 (rest := []) (As := [.ref (ad 0), .int (nI 1), .int (nI t), .int (nI k), .int (nI 0), .int (nI 0), .int (nI 0)]) rfl (Nat.le_of_ble_eq_true rfl) dL_isChange_314 ⟨by show _ ≤ 20; omega, by show _ ≤ 120; omega⟩) hP hD hS hA iLW [] iLW rfl rfl rfl (by decide) rfl (fun _ => rfl) (fun r314 S314 H locs hw hP hD hS => ?_)
                                  obtain ⟨hr9, e8⟩ := (O_take (IN_of hI) (by omega) (by omega) hw).2.1 hth.1 hth.2 (Or.inl (by omega))
                                  have e9 : S = S314 := (show S314 = S from e8).symm
                                  subst e9
                                  subst hr9
                                  have hP : va_P D vwCl (LW cI cP cS ad la S lp lo lq lb lg) H := hP
                                  have hD : va_D A (LW cI cP cS ad la S lp lo lq lb lg) := hD
                                  refine lv_iload hx hb dL_isChange_317 (lv_at hl 0 rfl) ?_
                                  refine x_cmp_ne (tgt := 326) hx hb (Iff.rfl) dL_isChange_319 (by decide) (fun c319 => ?_) (fun c319 => ?_)
                                  · exact absurd rfl c319
                                  · refine lv_iconst (v := nI 1) hx hb dL_isChange_322 (by decide) ?_
                                    refine lv_goto (tgt := 327) hx hb dL_isChange_323 (by decide) ?_
                                    exact x_ret_z hx hb hrt (by first | exact Or.inl rfl | exact Or.inr rfl) hlk hP hD hS dL_isChange_327 ⟨by omega, by omega⟩ ((S, lp, lo, lq, lb, lg)) ⟨rfl, ⟨bk, kc, mi, cn, hI⟩⟩ rfl
                                · exact absurd c290 (by decide)
                        · exfalso; omega
                    · exfalso; omega
                · exfalso; omega
      · refine lv_iload hx hb dL_isChange_38 (lv_at hl 8 rfl) ?_
        refine lv_iconst (v := nI 2) hx hb dL_isChange_40 (by decide) ?_
        refine x_cmp_ge (tgt := 60) hx hb (nI_leI (a := 2) (b := t) (by omega) (by omega)) dL_isChange_41 (by decide) (fun c41 => ?_) (fun c41 => ?_)
        · refine lv_iconst (v := nI 0) hx hb dL_isChange_60 (by decide) ?_
          refine lv_istore (lv' := [(9, .int (nI 0)), (8, .int (nI k)), (0, .ref (ad 0)), (1, .ref (la 0)), (2, .ref (la 4)), (3, .int (nI 1)), (4, .int (nI one)), (5, .int (nI two)), (6, .int (nI three)), (7, .int (nI t))]) hx hb dL_isChange_61 hl (by decide) rfl (fun ls hl => ?_)
          refine lv_iload hx hb dL_isChange_63 (lv_at hl 0 rfl) ?_
          refine x_if_eq (tgt := 88) hx hb (nI_z (by omega)) dL_isChange_65 (by decide) (fun c65 => ?_) (fun c65 => ?_)
          · refine lv_iconst (v := nI 0) hx hb dL_isChange_88 (by decide) ?_
            refine lv_istore (lv' := [(10, .int (nI 0)), (9, .int (nI 0)), (8, .int (nI k)), (0, .ref (ad 0)), (1, .ref (la 0)), (2, .ref (la 4)), (3, .int (nI 1)), (4, .int (nI one)), (5, .int (nI two)), (6, .int (nI three)), (7, .int (nI t))]) hx hb dL_isChange_89 hl (by decide) rfl (fun ls hl => ?_)
            refine lv_aload_n hx hb dL_isChange_91 rfl (lv_at hl 5 rfl) ?_
            refine lv_iconst (v := nI 1) hx hb dL_isChange_92 (by decide) ?_
            refine x_ald (v := nI cn) hx hb hK hP 41 0 rfl rfl (by omega) (by omega) (IN_g1 hI) dL_isChange_93 ?_
            refine lv_bipush (v := nI 12) hx hb dL_isChange_94 (by decide) ?_
            refine x_cmp_ne (tgt := 103) hx hb (nI_eq (a := cn) (b := 12) (by omega) (by omega)) dL_isChange_96 (by decide) (fun c96 => ?_) (fun c96 => ?_)
            · refine lv_iconst (v := nI 0) hx hb dL_isChange_103 (by decide) ?_
              refine lv_istore (lv' := [(11, .int (nI 0)), (10, .int (nI 0)), (9, .int (nI 0)), (8, .int (nI k)), (0, .ref (ad 0)), (1, .ref (la 0)), (2, .ref (la 4)), (3, .int (nI 1)), (4, .int (nI one)), (5, .int (nI two)), (6, .int (nI three)), (7, .int (nI t))]) hx hb dL_isChange_104 hl (by decide) rfl (fun ls hl => ?_)
              refine lv_iload_n hx hb dL_isChange_106 rfl (lv_at hl 7 rfl) ?_
              refine x_if_ne (tgt := 253) hx hb (nI_z (by omega)) dL_isChange_107 (by decide) (fun c107 => ?_) (fun c107 => ?_)
              · refine lv_iload_n hx hb dL_isChange_253 rfl (lv_at hl 7 rfl) ?_
                refine lv_iconst (v := nI 1) hx hb dL_isChange_254 (by decide) ?_
                refine x_cmp_ne (tgt := 328) hx hb (Iff.rfl) dL_isChange_255 (by decide) (fun c255 => ?_) (fun c255 => ?_)
                · exact absurd rfl c255
                · refine lv_iload hx hb dL_isChange_258 (lv_at hl 2 rfl) ?_
                  refine x_if_ne (tgt := 268) hx hb (nI_z (by omega)) dL_isChange_260 (by decide) (fun c260 => ?_) (fun c260 => ?_)
                  · exfalso; omega
                  · refine lv_bipush (v := (-30 : Int32)) hx hb dL_isChange_263 (by decide) ?_
                    refine lv_goto (tgt := 286) hx hb dL_isChange_265 (by decide) ?_
                    refine lv_istore (lv' := [(12, .int ((-30 : Int32))), (11, .int (nI 0)), (10, .int (nI 0)), (9, .int (nI 0)), (8, .int (nI k)), (0, .ref (ad 0)), (1, .ref (la 0)), (2, .ref (la 4)), (3, .int (nI 1)), (4, .int (nI one)), (5, .int (nI two)), (6, .int (nI three)), (7, .int (nI t))]) hx hb dL_isChange_286 hl (by decide) rfl (fun ls hl => ?_)
                    refine lv_iload hx hb dL_isChange_288 (lv_at hl 0 rfl) ?_
                    refine x_if_ne (tgt := 305) hx hb (Iff.rfl) dL_isChange_290 (by decide) (fun c290 => ?_) (fun c290 => ?_)
                    · refine lv_aload_n hx hb dL_isChange_305 rfl (lv_at hl 5 rfl) ?_
                      refine lv_iconst (v := nI 1) hx hb dL_isChange_306 (by decide) ?_
                      refine lv_iload hx hb dL_isChange_307 (lv_at hl 12 rfl) ?_
                      refine lv_iload hx hb dL_isChange_309 (lv_at hl 4 rfl) ?_
                      refine lv_iconst (v := nI 0) hx hb dL_isChange_311 (by decide) ?_
                      refine lv_iconst (v := nI 0) hx hb dL_isChange_312 (by decide) ?_
                      refine lv_iconst (v := nI 0) hx hb dL_isChange_313 (by decide) ?_
                      refine x_calli (w2 := fun (S314 : S4) => LW cI cP cS ad la S314 lp lo lq lb lg) (wr := []) (x_runL (n := 7) ⟨hx, hb, hml, hown, hts⟩ (fD_take l D cI cP cS cL hfl ad la lp lo lq lb lg (s_lim S) (s_n S) (s_rows S) (s_cc S) (s_ct S) (s_ck S) (s_nr S) (s_cr S) (s_old S) (s_rw S) (s_co S) (s_re S) (s_nu S) (s_ma S) (s_sr S) (s_cp S) (s_pu S) (s_st S) (s_sl S) cn (nI t) (nI k) (nI 0) (nI 0) (nI 0) hn50 (IN_cc hI) hcn12) gL_isChange_L_does rfl rfl rfl (by decide +kernel) ⟨by decide, by decide⟩ hN hK hP hD hS hA hE iLW rfl rfl rfl hl.1 (rest := []) (As := [.ref (ad 0), .int (nI 1), .int (nI t), .int (nI k), .int (nI 0), .int (nI 0), .int (nI 0)]) rfl (Nat.le_of_ble_eq_true rfl) dL_isChange_314 ⟨by show _ ≤ 20; omega, by show _ ≤ 120; omega⟩) hP hD hS hA iLW [] iLW rfl rfl rfl (by decide) rfl (fun _ => rfl) (fun r314 S314 H locs hw hP hD hS => ?_)
                      obtain ⟨hr9, e8⟩ := (O_take (IN_of hI) (by omega) (by omega) hw).1 hth
                      have e9 : S = S314 := (show S314 = S from e8).symm
                      subst e9
                      subst hr9
                      have hP : va_P D vwCl (LW cI cP cS ad la S lp lo lq lb lg) H := hP
                      have hD : va_D A (LW cI cP cS ad la S lp lo lq lb lg) := hD
                      refine lv_iload hx hb dL_isChange_317 (lv_at hl 0 rfl) ?_
                      refine x_cmp_ne (tgt := 326) hx hb (Iff.rfl) dL_isChange_319 (by decide) (fun c319 => ?_) (fun c319 => ?_)
                      · exact absurd rfl c319
                      · refine lv_iconst (v := nI 1) hx hb dL_isChange_322 (by decide) ?_
                        refine lv_goto (tgt := 327) hx hb dL_isChange_323 (by decide) ?_
                        exact x_ret_z hx hb hrt (by first | exact Or.inl rfl | exact Or.inr rfl) hlk hP hD hS dL_isChange_327 ⟨by omega, by omega⟩ ((S, lp, lo, lq, lb, lg)) ⟨rfl, ⟨bk, kc, mi, cn, hI⟩⟩ rfl
                    · exact absurd c290 (by decide)
              · exfalso; omega
            · refine lv_iconst (v := nI 1) hx hb dL_isChange_99 (by decide) ?_
              refine lv_goto (tgt := 104) hx hb dL_isChange_100 (by decide) ?_
              refine lv_istore (lv' := [(11, .int (nI 1)), (10, .int (nI 0)), (9, .int (nI 0)), (8, .int (nI k)), (0, .ref (ad 0)), (1, .ref (la 0)), (2, .ref (la 4)), (3, .int (nI 1)), (4, .int (nI one)), (5, .int (nI two)), (6, .int (nI three)), (7, .int (nI t))]) hx hb dL_isChange_104 hl (by decide) rfl (fun ls hl => ?_)
              refine lv_iload_n hx hb dL_isChange_106 rfl (lv_at hl 7 rfl) ?_
              refine x_if_ne (tgt := 253) hx hb (nI_z (by omega)) dL_isChange_107 (by decide) (fun c107 => ?_) (fun c107 => ?_)
              · refine lv_iload_n hx hb dL_isChange_253 rfl (lv_at hl 7 rfl) ?_
                refine lv_iconst (v := nI 1) hx hb dL_isChange_254 (by decide) ?_
                refine x_cmp_ne (tgt := 328) hx hb (Iff.rfl) dL_isChange_255 (by decide) (fun c255 => ?_) (fun c255 => ?_)
                · exact absurd rfl c255
                · refine lv_iload hx hb dL_isChange_258 (lv_at hl 2 rfl) ?_
                  refine x_if_ne (tgt := 268) hx hb (nI_z (by omega)) dL_isChange_260 (by decide) (fun c260 => ?_) (fun c260 => ?_)
                  · exfalso; omega
                  · refine lv_bipush (v := (-30 : Int32)) hx hb dL_isChange_263 (by decide) ?_
                    refine lv_goto (tgt := 286) hx hb dL_isChange_265 (by decide) ?_
                    refine lv_istore (lv' := [(12, .int ((-30 : Int32))), (11, .int (nI 1)), (10, .int (nI 0)), (9, .int (nI 0)), (8, .int (nI k)), (0, .ref (ad 0)), (1, .ref (la 0)), (2, .ref (la 4)), (3, .int (nI 1)), (4, .int (nI one)), (5, .int (nI two)), (6, .int (nI three)), (7, .int (nI t))]) hx hb dL_isChange_286 hl (by decide) rfl (fun ls hl => ?_)
                    refine lv_iload hx hb dL_isChange_288 (lv_at hl 0 rfl) ?_
                    refine x_if_ne (tgt := 305) hx hb (Iff.rfl) dL_isChange_290 (by decide) (fun c290 => ?_) (fun c290 => ?_)
                    · refine lv_aload_n hx hb dL_isChange_305 rfl (lv_at hl 5 rfl) ?_
                      refine lv_iconst (v := nI 1) hx hb dL_isChange_306 (by decide) ?_
                      refine lv_iload hx hb dL_isChange_307 (lv_at hl 12 rfl) ?_
                      refine lv_iload hx hb dL_isChange_309 (lv_at hl 4 rfl) ?_
                      refine lv_iconst (v := nI 0) hx hb dL_isChange_311 (by decide) ?_
                      refine lv_iconst (v := nI 0) hx hb dL_isChange_312 (by decide) ?_
                      refine lv_iconst (v := nI 0) hx hb dL_isChange_313 (by decide) ?_
                      refine x_calli (w2 := fun (S314 : S4) => LW cI cP cS ad la S314 lp lo lq lb lg) (wr := []) (x_runL (n := 7) ⟨hx, hb, hml, hown, hts⟩ (fD_take l D cI cP cS cL hfl ad la lp lo lq lb lg (s_lim S) (s_n S) (s_rows S) (s_cc S) (s_ct S) (s_ck S) (s_nr S) (s_cr S) (s_old S) (s_rw S) (s_co S) (s_re S) (s_nu S) (s_ma S) (s_sr S) (s_cp S) (s_pu S) (s_st S) (s_sl S) cn (nI t) (nI k) (nI 0) (nI 0) (nI 0) hn50 (IN_cc hI) hcn12) gL_isChange_L_does rfl rfl rfl (by decide +kernel) ⟨by decide, by decide⟩ hN hK hP hD hS hA hE iLW rfl rfl rfl hl.1 (rest := []) (As := [.ref (ad 0), .int (nI 1), .int (nI t), .int (nI k), .int (nI 0), .int (nI 0), .int (nI 0)]) rfl (Nat.le_of_ble_eq_true rfl) dL_isChange_314 ⟨by show _ ≤ 20; omega, by show _ ≤ 120; omega⟩) hP hD hS hA iLW [] iLW rfl rfl rfl (by decide) rfl (fun _ => rfl) (fun r314 S314 H locs hw hP hD hS => ?_)
                      obtain ⟨hr9, e8⟩ := (O_take (IN_of hI) (by omega) (by omega) hw).1 hth
                      have e9 : S = S314 := (show S314 = S from e8).symm
                      subst e9
                      subst hr9
                      have hP : va_P D vwCl (LW cI cP cS ad la S lp lo lq lb lg) H := hP
                      have hD : va_D A (LW cI cP cS ad la S lp lo lq lb lg) := hD
                      refine lv_iload hx hb dL_isChange_317 (lv_at hl 0 rfl) ?_
                      refine x_cmp_ne (tgt := 326) hx hb (Iff.rfl) dL_isChange_319 (by decide) (fun c319 => ?_) (fun c319 => ?_)
                      · exact absurd rfl c319
                      · refine lv_iconst (v := nI 1) hx hb dL_isChange_322 (by decide) ?_
                        refine lv_goto (tgt := 327) hx hb dL_isChange_323 (by decide) ?_
                        exact x_ret_z hx hb hrt (by first | exact Or.inl rfl | exact Or.inr rfl) hlk hP hD hS dL_isChange_327 ⟨by omega, by omega⟩ ((S, lp, lo, lq, lb, lg)) ⟨rfl, ⟨bk, kc, mi, cn, hI⟩⟩ rfl
                    · exact absurd c290 (by decide)
              · exfalso; omega
          · exfalso; omega
        · refine lv_iload_n hx hb dL_isChange_44 rfl (lv_at hl 4 rfl) ?_
          refine lv_iconst (v := nI 2) hx hb dL_isChange_45 (by decide) ?_
          refine x_cmp_eq (tgt := 56) hx hb (nI_eq (a := 1) (b := 2) (by omega) (by omega)) dL_isChange_46 (by decide) (fun c46 => ?_) (fun c46 => ?_)
          · exfalso; omega
          · refine lv_iload hx hb dL_isChange_49 (lv_at hl 0 rfl) ?_
            refine lv_bipush (v := nI 12) hx hb dL_isChange_51 (by decide) ?_
            refine x_cmp_ge (tgt := 60) hx hb (nI_leI (a := 12) (b := k) (by omega) (by omega)) dL_isChange_53 (by decide) (fun c53 => ?_) (fun c53 => ?_)
            · refine lv_iconst (v := nI 0) hx hb dL_isChange_60 (by decide) ?_
              refine lv_istore (lv' := [(9, .int (nI 0)), (8, .int (nI k)), (0, .ref (ad 0)), (1, .ref (la 0)), (2, .ref (la 4)), (3, .int (nI 1)), (4, .int (nI one)), (5, .int (nI two)), (6, .int (nI three)), (7, .int (nI t))]) hx hb dL_isChange_61 hl (by decide) rfl (fun ls hl => ?_)
              refine lv_iload hx hb dL_isChange_63 (lv_at hl 0 rfl) ?_
              refine x_if_eq (tgt := 88) hx hb (nI_z (by omega)) dL_isChange_65 (by decide) (fun c65 => ?_) (fun c65 => ?_)
              · refine lv_iconst (v := nI 0) hx hb dL_isChange_88 (by decide) ?_
                refine lv_istore (lv' := [(10, .int (nI 0)), (9, .int (nI 0)), (8, .int (nI k)), (0, .ref (ad 0)), (1, .ref (la 0)), (2, .ref (la 4)), (3, .int (nI 1)), (4, .int (nI one)), (5, .int (nI two)), (6, .int (nI three)), (7, .int (nI t))]) hx hb dL_isChange_89 hl (by decide) rfl (fun ls hl => ?_)
                refine lv_aload_n hx hb dL_isChange_91 rfl (lv_at hl 5 rfl) ?_
                refine lv_iconst (v := nI 1) hx hb dL_isChange_92 (by decide) ?_
                refine x_ald (v := nI cn) hx hb hK hP 41 0 rfl rfl (by omega) (by omega) (IN_g1 hI) dL_isChange_93 ?_
                refine lv_bipush (v := nI 12) hx hb dL_isChange_94 (by decide) ?_
                refine x_cmp_ne (tgt := 103) hx hb (nI_eq (a := cn) (b := 12) (by omega) (by omega)) dL_isChange_96 (by decide) (fun c96 => ?_) (fun c96 => ?_)
                · refine lv_iconst (v := nI 0) hx hb dL_isChange_103 (by decide) ?_
                  refine lv_istore (lv' := [(11, .int (nI 0)), (10, .int (nI 0)), (9, .int (nI 0)), (8, .int (nI k)), (0, .ref (ad 0)), (1, .ref (la 0)), (2, .ref (la 4)), (3, .int (nI 1)), (4, .int (nI one)), (5, .int (nI two)), (6, .int (nI three)), (7, .int (nI t))]) hx hb dL_isChange_104 hl (by decide) rfl (fun ls hl => ?_)
                  refine lv_iload_n hx hb dL_isChange_106 rfl (lv_at hl 7 rfl) ?_
                  refine x_if_ne (tgt := 253) hx hb (nI_z (by omega)) dL_isChange_107 (by decide) (fun c107 => ?_) (fun c107 => ?_)
                  · refine lv_iload_n hx hb dL_isChange_253 rfl (lv_at hl 7 rfl) ?_
                    refine lv_iconst (v := nI 1) hx hb dL_isChange_254 (by decide) ?_
                    refine x_cmp_ne (tgt := 328) hx hb (Iff.rfl) dL_isChange_255 (by decide) (fun c255 => ?_) (fun c255 => ?_)
                    · exact absurd rfl c255
                    · refine lv_iload hx hb dL_isChange_258 (lv_at hl 2 rfl) ?_
                      refine x_if_ne (tgt := 268) hx hb (nI_z (by omega)) dL_isChange_260 (by decide) (fun c260 => ?_) (fun c260 => ?_)
                      · exfalso; omega
                      · refine lv_bipush (v := (-30 : Int32)) hx hb dL_isChange_263 (by decide) ?_
                        refine lv_goto (tgt := 286) hx hb dL_isChange_265 (by decide) ?_
                        refine lv_istore (lv' := [(12, .int ((-30 : Int32))), (11, .int (nI 0)), (10, .int (nI 0)), (9, .int (nI 0)), (8, .int (nI k)), (0, .ref (ad 0)), (1, .ref (la 0)), (2, .ref (la 4)), (3, .int (nI 1)), (4, .int (nI one)), (5, .int (nI two)), (6, .int (nI three)), (7, .int (nI t))]) hx hb dL_isChange_286 hl (by decide) rfl (fun ls hl => ?_)
                        refine lv_iload hx hb dL_isChange_288 (lv_at hl 0 rfl) ?_
                        refine x_if_ne (tgt := 305) hx hb (Iff.rfl) dL_isChange_290 (by decide) (fun c290 => ?_) (fun c290 => ?_)
                        · refine lv_aload_n hx hb dL_isChange_305 rfl (lv_at hl 5 rfl) ?_
                          refine lv_iconst (v := nI 1) hx hb dL_isChange_306 (by decide) ?_
                          refine lv_iload hx hb dL_isChange_307 (lv_at hl 12 rfl) ?_
                          refine lv_iload hx hb dL_isChange_309 (lv_at hl 4 rfl) ?_
                          refine lv_iconst (v := nI 0) hx hb dL_isChange_311 (by decide) ?_
                          refine lv_iconst (v := nI 0) hx hb dL_isChange_312 (by decide) ?_
                          refine lv_iconst (v := nI 0) hx hb dL_isChange_313 (by decide) ?_
                          refine x_calli (w2 := fun (S314 : S4) => LW cI cP cS ad la S314 lp lo lq lb lg) (wr := []) (x_runL (n := 7) ⟨hx, hb, hml, hown, hts⟩ (fD_take l D cI cP cS cL hfl ad la lp lo lq lb lg (s_lim S) (s_n S) (s_rows S) (s_cc S) (s_ct S) (s_ck S) (s_nr S) (s_cr S) (s_old S) (s_rw S) (s_co S) (s_re S) (s_nu S) (s_ma S) (s_sr S) (s_cp S) (s_pu S) (s_st S) (s_sl S) cn (nI t) (nI k) (nI 0) (nI 0) (nI 0) hn50 (IN_cc hI) hcn12) gL_isChange_L_does rfl rfl rfl (by decide +kernel) ⟨by decide, by decide⟩ hN hK hP hD hS hA hE iLW rfl rfl rfl hl.1 (rest := []) (As := [.ref (ad 0), .int (nI 1), .int (nI t), .int (nI k), .int (nI 0), .int (nI 0), .int (nI 0)]) rfl (Nat.le_of_ble_eq_true rfl) dL_isChange_314 ⟨by show _ ≤ 20; omega, by show _ ≤ 120; omega⟩) hP hD hS hA iLW [] iLW rfl rfl rfl (by decide) rfl (fun _ => rfl) (fun r314 S314 H locs hw hP hD hS => ?_)
                          obtain ⟨hr9, e8⟩ := (O_take (IN_of hI) (by omega) (by omega) hw).1 hth
                          have e9 : S = S314 := (show S314 = S from e8).symm
                          subst e9
                          subst hr9
                          have hP : va_P D vwCl (LW cI cP cS ad la S lp lo lq lb lg) H := hP
                          have hD : va_D A (LW cI cP cS ad la S lp lo lq lb lg) := hD
                          refine lv_iload hx hb dL_isChange_317 (lv_at hl 0 rfl) ?_
                          refine x_cmp_ne (tgt := 326) hx hb (Iff.rfl) dL_isChange_319 (by decide) (fun c319 => ?_) (fun c319 => ?_)
                          · exact absurd rfl c319
                          · refine lv_iconst (v := nI 1) hx hb dL_isChange_322 (by decide) ?_
                            refine lv_goto (tgt := 327) hx hb dL_isChange_323 (by decide) ?_
                            exact x_ret_z hx hb hrt (by first | exact Or.inl rfl | exact Or.inr rfl) hlk hP hD hS dL_isChange_327 ⟨by omega, by omega⟩ ((S, lp, lo, lq, lb, lg)) ⟨rfl, ⟨bk, kc, mi, cn, hI⟩⟩ rfl
                        · exact absurd c290 (by decide)
                  · exfalso; omega
                · refine lv_iconst (v := nI 1) hx hb dL_isChange_99 (by decide) ?_
                  refine lv_goto (tgt := 104) hx hb dL_isChange_100 (by decide) ?_
                  refine lv_istore (lv' := [(11, .int (nI 1)), (10, .int (nI 0)), (9, .int (nI 0)), (8, .int (nI k)), (0, .ref (ad 0)), (1, .ref (la 0)), (2, .ref (la 4)), (3, .int (nI 1)), (4, .int (nI one)), (5, .int (nI two)), (6, .int (nI three)), (7, .int (nI t))]) hx hb dL_isChange_104 hl (by decide) rfl (fun ls hl => ?_)
                  refine lv_iload_n hx hb dL_isChange_106 rfl (lv_at hl 7 rfl) ?_
                  refine x_if_ne (tgt := 253) hx hb (nI_z (by omega)) dL_isChange_107 (by decide) (fun c107 => ?_) (fun c107 => ?_)
                  · refine lv_iload_n hx hb dL_isChange_253 rfl (lv_at hl 7 rfl) ?_
                    refine lv_iconst (v := nI 1) hx hb dL_isChange_254 (by decide) ?_
                    refine x_cmp_ne (tgt := 328) hx hb (Iff.rfl) dL_isChange_255 (by decide) (fun c255 => ?_) (fun c255 => ?_)
                    · exact absurd rfl c255
                    · refine lv_iload hx hb dL_isChange_258 (lv_at hl 2 rfl) ?_
                      refine x_if_ne (tgt := 268) hx hb (nI_z (by omega)) dL_isChange_260 (by decide) (fun c260 => ?_) (fun c260 => ?_)
                      · exfalso; omega
                      · refine lv_bipush (v := (-30 : Int32)) hx hb dL_isChange_263 (by decide) ?_
                        refine lv_goto (tgt := 286) hx hb dL_isChange_265 (by decide) ?_
                        refine lv_istore (lv' := [(12, .int ((-30 : Int32))), (11, .int (nI 1)), (10, .int (nI 0)), (9, .int (nI 0)), (8, .int (nI k)), (0, .ref (ad 0)), (1, .ref (la 0)), (2, .ref (la 4)), (3, .int (nI 1)), (4, .int (nI one)), (5, .int (nI two)), (6, .int (nI three)), (7, .int (nI t))]) hx hb dL_isChange_286 hl (by decide) rfl (fun ls hl => ?_)
                        refine lv_iload hx hb dL_isChange_288 (lv_at hl 0 rfl) ?_
                        refine x_if_ne (tgt := 305) hx hb (Iff.rfl) dL_isChange_290 (by decide) (fun c290 => ?_) (fun c290 => ?_)
                        · refine lv_aload_n hx hb dL_isChange_305 rfl (lv_at hl 5 rfl) ?_
                          refine lv_iconst (v := nI 1) hx hb dL_isChange_306 (by decide) ?_
                          refine lv_iload hx hb dL_isChange_307 (lv_at hl 12 rfl) ?_
                          refine lv_iload hx hb dL_isChange_309 (lv_at hl 4 rfl) ?_
                          refine lv_iconst (v := nI 0) hx hb dL_isChange_311 (by decide) ?_
                          refine lv_iconst (v := nI 0) hx hb dL_isChange_312 (by decide) ?_
                          refine lv_iconst (v := nI 0) hx hb dL_isChange_313 (by decide) ?_
                          refine x_calli (w2 := fun (S314 : S4) => LW cI cP cS ad la S314 lp lo lq lb lg) (wr := []) (x_runL (n := 7) ⟨hx, hb, hml, hown, hts⟩ (fD_take l D cI cP cS cL hfl ad la lp lo lq lb lg (s_lim S) (s_n S) (s_rows S) (s_cc S) (s_ct S) (s_ck S) (s_nr S) (s_cr S) (s_old S) (s_rw S) (s_co S) (s_re S) (s_nu S) (s_ma S) (s_sr S) (s_cp S) (s_pu S) (s_st S) (s_sl S) cn (nI t) (nI k) (nI 0) (nI 0) (nI 0) hn50 (IN_cc hI) hcn12) gL_isChange_L_does rfl rfl rfl (by decide +kernel) ⟨by decide, by decide⟩ hN hK hP hD hS hA hE iLW rfl rfl rfl hl.1 (rest := []) (As := [.ref (ad 0), .int (nI 1), .int (nI t), .int (nI k), .int (nI 0), .int (nI 0), .int (nI 0)]) rfl (Nat.le_of_ble_eq_true rfl) dL_isChange_314 ⟨by show _ ≤ 20; omega, by show _ ≤ 120; omega⟩) hP hD hS hA iLW [] iLW rfl rfl rfl (by decide) rfl (fun _ => rfl) (fun r314 S314 H locs hw hP hD hS => ?_)
                          obtain ⟨hr9, e8⟩ := (O_take (IN_of hI) (by omega) (by omega) hw).1 hth
                          have e9 : S = S314 := (show S314 = S from e8).symm
                          subst e9
                          subst hr9
                          have hP : va_P D vwCl (LW cI cP cS ad la S lp lo lq lb lg) H := hP
                          have hD : va_D A (LW cI cP cS ad la S lp lo lq lb lg) := hD
                          refine lv_iload hx hb dL_isChange_317 (lv_at hl 0 rfl) ?_
                          refine x_cmp_ne (tgt := 326) hx hb (Iff.rfl) dL_isChange_319 (by decide) (fun c319 => ?_) (fun c319 => ?_)
                          · exact absurd rfl c319
                          · refine lv_iconst (v := nI 1) hx hb dL_isChange_322 (by decide) ?_
                            refine lv_goto (tgt := 327) hx hb dL_isChange_323 (by decide) ?_
                            exact x_ret_z hx hb hrt (by first | exact Or.inl rfl | exact Or.inr rfl) hlk hP hD hS dL_isChange_327 ⟨by omega, by omega⟩ ((S, lp, lo, lq, lb, lg)) ⟨rfl, ⟨bk, kc, mi, cn, hI⟩⟩ rfl
                        · exact absurd c290 (by decide)
                  · exfalso; omega
              · exfalso; omega
            · exfalso; omega
    intro kj36
    refine lv_iload hx hb dL_isChange_18 (lv_at hl 6 rfl) ?_
    refine lv_bipush (v := nI 25) hx hb dL_isChange_20 (by decide) ?_
    refine x_rem (k := two % 25) hx hb dL_isChange_22 (by omega) (by omega) (by omega) rfl ?_
    refine x_if_ne (tgt := 31) hx hb (nI_z (by omega)) dL_isChange_23 (by decide) (fun c23 => ?_) (fun c23 => ?_)
    · refine lv_iload hx hb dL_isChange_31 (lv_at hl 6 rfl) ?_
      refine lv_bipush (v := nI 6) hx hb dL_isChange_33 (by decide) ?_
      refine x_rem (k := two % 6) hx hb dL_isChange_35 (by omega) (by omega) (by omega) rfl ?_
      exact W.widen (by show _ ≤ 0; omega) (by show _ ≤ 0; omega) (kj36 (two % 6) (by show _ ≤ 12; omega) _ _ _ hP hD hS (lv_sub hl [1, 2, 3, 4, 5, 6, 7, 0] rfl))
    · refine lv_bipush (v := nI 12) hx hb dL_isChange_26 (by decide) ?_
      refine lv_goto (tgt := 36) hx hb dL_isChange_28 (by decide) ?_
      exact W.widen (by show _ ≤ 0; omega) (by show _ ≤ 0; omega) (kj36 12 (by show _ ≤ 12; omega) _ _ _ hP hD hS (lv_sub hl [1, 2, 3, 4, 5, 6, 7, 0] rfl))
  intro kj16
  refine lv_iload hx hb dL_isChange_0 (lv_at hl 4 rfl) ?_
  refine lv_bipush (v := nI 9) hx hb dL_isChange_2 (by decide) ?_
  refine x_rem (k := one % 9) hx hb dL_isChange_4 (by omega) (by omega) (by omega) rfl ?_
  refine x_if_ne (tgt := 12) hx hb (nI_z (by omega)) dL_isChange_5 (by decide) (fun c5 => ?_) (fun c5 => ?_)
  · refine lv_iload hx hb dL_isChange_12 (lv_at hl 4 rfl) ?_
    refine lv_iconst (v := nI 2) hx hb dL_isChange_14 (by decide) ?_
    refine x_rem (k := one % 2) hx hb dL_isChange_15 (by omega) (by omega) (by omega) rfl ?_
    exact W.widen (by show _ ≤ 0; omega) (by show _ ≤ 0; omega) (kj16 (one % 2) (by show _ ≤ 2; omega) _ _ _ hP hD hS (lv_sub hl [0, 1, 2, 3, 4, 5, 6] rfl))
  · refine lv_iconst (v := nI 2) hx hb dL_isChange_8 (by decide) ?_
    refine lv_goto (tgt := 16) hx hb dL_isChange_9 (by decide) ?_
    exact W.widen (by show _ ≤ 0; omega) (by show _ ≤ 0; omega) (kj16 2 (by show _ ≤ 2; omega) _ _ _ hP hD hS (lv_sub hl [0, 1, 2, 3, 4, 5, 6] rfl))
