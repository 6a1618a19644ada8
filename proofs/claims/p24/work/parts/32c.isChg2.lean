set_option maxHeartbeats 8000000 in
set_option maxRecDepth 100000 in
theorem zL_isChange2 (l : Launch) (D : va_G) (cI cP cS cL : ClassId) (hfl : l.stackTraces = false) (ad la : Nat → Nat) (hinj : ∀ x y, x < 3 → y < 3 → ad (13 + 5 * x) = ad (13 + 5 * y) → x = y) (S : S4) (lp lo lq lb lg : qF) (one two three : Nat) (h1 : one < 6000) (h2 : two < 7000) (h3 : three < 8000) (hI0 : INE ad S lp lo lq lb lg) : xWi l yL_isChange wsL_isChange (rmD 11 20 120) D [(cI, .int), (cP, .object RX0), (cS, .object RX2)] [.ref (ad 0), .ref (la 0), .ref (la 4), .int (nI 2), .int (nI one), .int (nI two), .int (nI three)] (LW cI cP cS ad la S lp lo lq lb lg) (fun (r : Int32) (T : LT) => r = nI 1 ∧ INT ad T) (fun (T : LT) => LWt cI cP cS ad la T) 20 120 := by
  refine xe_N (cc := cL_isChange) (maxL := 16) (ret := (some .boolean)) (by decide) rfl (Nat.le_of_ble_eq_true rfl) ?_
  intro zp ze s zm below meth zc A ls B hE
  obtain ⟨hx, hb, hml, hrt, hts, hown, hnm, hlk, hK, hP, hD, hA, hS, hN, hl⟩ := B
  have hown : s.vm.findClass RL = some zm.cls := hown
  have hl : lv_has ls 16 [(0, .ref (ad 0)), (1, .ref (la 0)), (2, .ref (la 4)), (3, .int (nI 2)), (4, .int (nI one)), (5, .int (nI two)), (6, .int (nI three))] := hl
  have hA : ∀ q, s.heap.size ≤ q → A q := hA
  obtain ⟨bk, kc, mi, cn, hI⟩ := hI0
  have hn50 := IN_n hI
  have hlim50 := IN_lim hI
  have hcn12 := IN_cn hI
  refine x_join (nL := 16) (D := D) (A := A) (H0 := s.heap) (fun (t : Nat) => t ≤ 2) 16 (fun (t : Nat) => 0) (fun (t : Nat) => 0) (fun (t : Nat) => LW cI cP cS ad la S lp lo lq lb lg) (fun (t : Nat) => [(0, .ref (ad 0)), (1, .ref (la 0)), (2, .ref (la 4)), (3, .int (nI 2)), (4, .int (nI one)), (5, .int (nI two)), (6, .int (nI three))]) (fun (t : Nat) => [.int (nI t)]) ?_ ?_
  · intro x9 hj9 H locs ls hP hD hS hl
    obtain ⟨t, h9⟩ : ∃ z, z = x9 := ⟨x9, rfl⟩
    subst h9
    have hP : va_P D vwCl (LW cI cP cS ad la S lp lo lq lb lg) H := hP
    have hD : va_D A (LW cI cP cS ad la S lp lo lq lb lg) := hD
    have hl : lv_has ls 16 [(0, .ref (ad 0)), (1, .ref (la 0)), (2, .ref (la 4)), (3, .int (nI 2)), (4, .int (nI one)), (5, .int (nI two)), (6, .int (nI three))] := hl
    show W _ _ _ _ _ _ _ _ _ _ _ _ (0) (0) _ _
    have ht9 := hj9
    refine lv_istore (lv' := [(7, .int (nI t)), (0, .ref (ad 0)), (1, .ref (la 0)), (2, .ref (la 4)), (3, .int (nI 2)), (4, .int (nI one)), (5, .int (nI two)), (6, .int (nI three))]) hx hb dL_isChange_16 hl (by decide) rfl (fun ls hl => ?_)
    refine x_join (nL := 16) (D := D) (A := A) (H0 := s.heap) (fun (k : Nat) => k ≤ 12) 36 (fun (k : Nat) => 0) (fun (k : Nat) => 0) (fun (k : Nat) => LW cI cP cS ad la S lp lo lq lb lg) (fun (k : Nat) => [(0, .ref (ad 0)), (1, .ref (la 0)), (2, .ref (la 4)), (3, .int (nI 2)), (4, .int (nI one)), (5, .int (nI two)), (6, .int (nI three)), (7, .int (nI t))]) (fun (k : Nat) => [.int (nI k)]) ?_ ?_
    · intro x9 hj9 H locs ls hP hD hS hl
      obtain ⟨k, h9⟩ : ∃ z, z = x9 := ⟨x9, rfl⟩
      subst h9
      have hP : va_P D vwCl (LW cI cP cS ad la S lp lo lq lb lg) H := hP
      have hD : va_D A (LW cI cP cS ad la S lp lo lq lb lg) := hD
      have hl : lv_has ls 16 [(0, .ref (ad 0)), (1, .ref (la 0)), (2, .ref (la 4)), (3, .int (nI 2)), (4, .int (nI one)), (5, .int (nI two)), (6, .int (nI three)), (7, .int (nI t))] := hl
      show W _ _ _ _ _ _ _ _ _ _ _ _ (0) (0) _ _
      have hk9 := hj9
      refine lv_istore (lv' := [(8, .int (nI k)), (0, .ref (ad 0)), (1, .ref (la 0)), (2, .ref (la 4)), (3, .int (nI 2)), (4, .int (nI one)), (5, .int (nI two)), (6, .int (nI three)), (7, .int (nI t))]) hx hb dL_isChange_36 hl (by decide) rfl (fun ls hl => ?_)
      rcases Classical.em (t < 2) with hth | hth
      · refine lv_iload hx hb dL_isChange_38 (lv_at hl 8 rfl) ?_
        refine lv_iconst (v := nI 2) hx hb dL_isChange_40 (by decide) ?_
        refine x_cmp_ge (tgt := 60) hx hb (nI_leI (a := 2) (b := t) (by omega) (by omega)) dL_isChange_41 (by decide) (fun c41 => ?_) (fun c41 => ?_)
        · exfalso; omega
        · refine lv_iload_n hx hb dL_isChange_44 rfl (lv_at hl 4 rfl) ?_
          refine lv_iconst (v := nI 2) hx hb dL_isChange_45 (by decide) ?_
          refine x_cmp_eq (tgt := 56) hx hb (Iff.rfl) dL_isChange_46 (by decide) (fun c46 => ?_) (fun c46 => ?_)
          · refine lv_iconst (v := nI 1) hx hb dL_isChange_56 (by decide) ?_
            refine lv_goto (tgt := 61) hx hb dL_isChange_57 (by decide) ?_
            refine lv_istore (lv' := [(9, .int (nI 1)), (8, .int (nI k)), (0, .ref (ad 0)), (1, .ref (la 0)), (2, .ref (la 4)), (3, .int (nI 2)), (4, .int (nI one)), (5, .int (nI two)), (6, .int (nI three)), (7, .int (nI t))]) hx hb dL_isChange_61 hl (by decide) rfl (fun ls hl => ?_)
            refine lv_iload hx hb dL_isChange_63 (lv_at hl 0 rfl) ?_
            refine x_if_eq (tgt := 88) hx hb (nI_z (by omega)) dL_isChange_65 (by decide) (fun c65 => ?_) (fun c65 => ?_)
            · exfalso; omega
            · refine lv_bipush (v := nI 12) hx hb dL_isChange_68 (by decide) ?_
              refine lv_iload hx hb dL_isChange_70 (lv_at hl 9 rfl) ?_
              refine x_mul (k := 12 * t) hx hb dL_isChange_72 rfl ?_
              refine lv_iload_n hx hb dL_isChange_73 rfl (lv_at hl 5 rfl) ?_
              refine lv_iconst (v := nI 2) hx hb dL_isChange_74 (by decide) ?_
              refine x_cmp_ne (tgt := 82) hx hb (Iff.rfl) dL_isChange_75 (by decide) (fun c75 => ?_) (fun c75 => ?_)
              · exact absurd rfl c75
              · refine lv_iconst (v := nI 0) hx hb dL_isChange_78 (by decide) ?_
                refine lv_goto (tgt := 84) hx hb dL_isChange_79 (by decide) ?_
                refine lv_iadd hx hb dL_isChange_84 ?_
                refine x_top (y := nI (12 * t)) ((nI_add (12 * t) 0)) ?_
                refine lv_goto (tgt := 89) hx hb dL_isChange_85 (by decide) ?_
                refine lv_istore (lv' := [(10, .int (nI (12 * t))), (9, .int (nI 1)), (8, .int (nI k)), (0, .ref (ad 0)), (1, .ref (la 0)), (2, .ref (la 4)), (3, .int (nI 2)), (4, .int (nI one)), (5, .int (nI two)), (6, .int (nI three)), (7, .int (nI t))]) hx hb dL_isChange_89 hl (by decide) rfl (fun ls hl => ?_)
                refine lv_aload_n hx hb dL_isChange_91 rfl (lv_at hl 5 rfl) ?_
                refine lv_iconst (v := nI 1) hx hb dL_isChange_92 (by decide) ?_
                refine x_ald (v := nI cn) hx hb hK hP 41 0 rfl rfl (by omega) (by omega) (IN_g1 hI) dL_isChange_93 ?_
                refine lv_bipush (v := nI 12) hx hb dL_isChange_94 (by decide) ?_
                refine x_cmp_ne (tgt := 103) hx hb (nI_eq (a := cn) (b := 12) (by omega) (by omega)) dL_isChange_96 (by decide) (fun c96 => ?_) (fun c96 => ?_)
                · refine lv_iconst (v := nI 0) hx hb dL_isChange_103 (by decide) ?_
                  refine lv_istore (lv' := [(11, .int (nI 0)), (10, .int (nI (12 * t))), (9, .int (nI 1)), (8, .int (nI k)), (0, .ref (ad 0)), (1, .ref (la 0)), (2, .ref (la 4)), (3, .int (nI 2)), (4, .int (nI one)), (5, .int (nI two)), (6, .int (nI three)), (7, .int (nI t))]) hx hb dL_isChange_104 hl (by decide) rfl (fun ls hl => ?_)
                  refine lv_iload_n hx hb dL_isChange_106 rfl (lv_at hl 7 rfl) ?_
                  refine x_if_ne (tgt := 253) hx hb (nI_z (by omega)) dL_isChange_107 (by decide) (fun c107 => ?_) (fun c107 => ?_)
                  · refine lv_iload_n hx hb dL_isChange_253 rfl (lv_at hl 7 rfl) ?_
                    refine lv_iconst (v := nI 1) hx hb dL_isChange_254 (by decide) ?_
                    refine x_cmp_ne (tgt := 328) hx hb (nI_eq (a := 2) (b := 1) (by omega) (by omega)) dL_isChange_255 (by decide) (fun c255 => ?_) (fun c255 => ?_)
                    · refine lv_iconst (v := nI 0) hx hb dL_isChange_328 (by decide) ?_
                      refine lv_istore (lv' := [(12, .int (nI 0)), (11, .int (nI 0)), (10, .int (nI (12 * t))), (9, .int (nI 1)), (8, .int (nI k)), (0, .ref (ad 0)), (1, .ref (la 0)), (2, .ref (la 4)), (3, .int (nI 2)), (4, .int (nI one)), (5, .int (nI two)), (6, .int (nI three)), (7, .int (nI t))]) hx hb dL_isChange_329 hl (by decide) rfl (fun ls hl => ?_)
                      refine lv_iload hx hb dL_isChange_331 (lv_at hl 2 rfl) ?_
                      refine lv_istore (lv' := [(13, .int (nI (12 * t))), (12, .int (nI 0)), (11, .int (nI 0)), (10, .int (nI (12 * t))), (9, .int (nI 1)), (8, .int (nI k)), (0, .ref (ad 0)), (1, .ref (la 0)), (2, .ref (la 4)), (3, .int (nI 2)), (4, .int (nI one)), (5, .int (nI two)), (6, .int (nI three)), (7, .int (nI t))]) hx hb dL_isChange_333 hl (by decide) rfl (fun ls hl => ?_)
                      refine x_loopc (nL := 16) (fun (x : Nat × qF × Nat) => match x with | (j, f, cq) => j ≤ 12 ∧ f = qFill lp (12 * t) j (-1) ∧ cq = qCnt lp (12 * t) j) (fun (x : Nat × qF × Nat) => match x with | (j, f, cq) => 12 - j) (fun (x : Nat × qF × Nat) => match x with | (j, f, cq) => 0) (fun (x : Nat × qF × Nat) => match x with | (j, f, cq) => 0) (fun (x : Nat × qF × Nat) => match x with | (j, f, cq) => LW cI cP cS ad la S f lo lq lb lg) (fun (x : Nat × qF × Nat) => match x with | (j, f, cq) => [(0, .ref (ad 0)), (1, .ref (la 0)), (2, .ref (la 4)), (3, .int (nI 2)), (4, .int (nI one)), (5, .int (nI two)), (6, .int (nI three)), (7, .int (nI t)), (8, .int (nI k)), (9, .int (nI 1)), (10, .int (nI (12 * t))), (11, .int (nI 0)), (12, .int (nI cq)), (13, .int (nI (12 * t + j)))]) (fun (x : Nat × qF × Nat) => match x with | (j, f, cq) => []) ?_ (0, lp, 0) ⟨Nat.zero_le 12, (qFill_0 _ _ _).symm, rfl⟩ (by show _ ≤ 0; omega) (by show _ ≤ 0; omega) hP hD hS (lv_sub hl [6, 7, 8, 9, 10, 11, 12, 13, 5, 4, 3, 2, 1, 0] rfl)
                      intro x9 hI335 ih335 H locs ls hP hD hS hl
                      obtain ⟨j, f, cq⟩ := x9
                      have hP : va_P D vwCl (LW cI cP cS ad la S f lo lq lb lg) H := hP
                      have hD : va_D A (LW cI cP cS ad la S f lo lq lb lg) := hD
                      have hl : lv_has ls 16 [(0, .ref (ad 0)), (1, .ref (la 0)), (2, .ref (la 4)), (3, .int (nI 2)), (4, .int (nI one)), (5, .int (nI two)), (6, .int (nI three)), (7, .int (nI t)), (8, .int (nI k)), (9, .int (nI 1)), (10, .int (nI (12 * t))), (11, .int (nI 0)), (12, .int (nI cq)), (13, .int (nI (12 * t + j)))] := hl
                      show W _ _ _ _ _ _ _ _ _ _ _ _ (0) (0) _ _
                      obtain ⟨hj9, hf, hq9⟩ := hI335
                      have hq12 := qCnt_le lp (12 * t) j
                      refine lv_iload hx hb dL_isChange_335 (lv_at hl 13 rfl) ?_
                      refine lv_iload hx hb dL_isChange_337 (lv_at hl 10 rfl) ?_
                      refine lv_bipush (v := nI 12) hx hb dL_isChange_339 (by decide) ?_
                      refine x_add (k := (12 * t) + 12) hx hb dL_isChange_341 rfl ?_
                      refine x_cmp_ge (tgt := 390) hx hb (nI_leI (a := ((12 * t) + 12)) (b := (12 * t + j)) (by omega) (by omega)) dL_isChange_342 (by decide) (fun c342 => ?_) (fun c342 => ?_)
                      · obtain rfl : j = 12 := by omega
                        subst hf
                        subst hq9
                        have hP : va_P D vwCl (LW cI cP cS ad la S (qFill lp (12 * t) 12 (-1)) lo lq lb lg) H := hP
                        have hD : va_D A (LW cI cP cS ad la S (qFill lp (12 * t) 12 (-1)) lo lq lb lg) := hD
                        have hl : lv_has ls 16 [(0, .ref (ad 0)), (1, .ref (la 0)), (2, .ref (la 4)), (3, .int (nI 2)), (4, .int (nI one)), (5, .int (nI two)), (6, .int (nI three)), (7, .int (nI t)), (8, .int (nI k)), (9, .int (nI 1)), (10, .int (nI (12 * t))), (11, .int (nI 0)), (12, .int (nI (qCnt lp (12 * t) 12))), (13, .int (nI (12 * t + 12)))] := hl
                        have hq12 := qCnt_le lp (12 * t) 12
                        refine lv_iload hx hb dL_isChange_390 (lv_at hl 9 rfl) ?_
                        refine x_if_ne (tgt := 400) hx hb (nI_z (by omega)) dL_isChange_392 (by decide) (fun c392 => ?_) (fun c392 => ?_)
                        · refine lv_iload hx hb dL_isChange_400 (lv_at hl 11 rfl) ?_
                          refine x_if_eq (tgt := 410) hx hb (nI_z (by omega)) dL_isChange_402 (by decide) (fun c402 => ?_) (fun c402 => ?_)
                          · refine lv_iload hx hb dL_isChange_410 (lv_at hl 12 rfl) ?_
                            refine lv_istore (lv' := [(13, .int (nI (qCnt lp (12 * t) 12))), (0, .ref (ad 0)), (1, .ref (la 0)), (2, .ref (la 4)), (3, .int (nI 2)), (4, .int (nI one)), (5, .int (nI two)), (6, .int (nI three)), (7, .int (nI t)), (8, .int (nI k)), (9, .int (nI 1)), (10, .int (nI (12 * t))), (11, .int (nI 0)), (12, .int (nI (qCnt lp (12 * t) 12)))]) hx hb dL_isChange_412 hl (by decide) rfl (fun ls hl => ?_)
                            refine lv_aload_n hx hb dL_isChange_414 rfl (lv_at hl 3 rfl) ?_
                            refine lv_iconst (v := nI 1) hx hb dL_isChange_415 (by decide) ?_
                            refine lv_dup2_11 hx hb dL_isChange_416 rfl rfl ?_
                            refine x_ald (v := nI cn) hx hb hK hP 41 0 rfl rfl (by omega) (by omega) (IN_g1 hI) dL_isChange_417 ?_
                            refine lv_iload hx hb dL_isChange_418 (lv_at hl 0 rfl) ?_
                            refine x_if_lt (tgt := 427) hx hb (nI_ng (by omega)) dL_isChange_420 (by decide) (fun c420 => ?_) (fun c420 => ?_)
                            · exact c420.elim
                            · refine lv_iconst (v := nI 1) hx hb dL_isChange_423 (by decide) ?_
                              refine lv_goto (tgt := 428) hx hb dL_isChange_424 (by decide) ?_
                              refine x_add (k := cn + 1) hx hb dL_isChange_428 rfl ?_
                              refine x_ast (g := upd lg 1 (nI (cn + 1))) (ws' := LW cI cP cS ad la S (qFill lp (12 * t) 12 (-1)) lo lq lb (upd lg 1 (nI (cn + 1)))) hx hb hK hP hD hS 41 0 rfl rfl (by omega) (by omega) (rfl) rfl dL_isChange_429 (fun H locs hP hD hS => ?_)
                              refine lv_aload_n hx hb dL_isChange_430 rfl (lv_at hl 1 rfl) ?_
                              refine lv_iconst (v := nI 2) hx hb dL_isChange_431 (by decide) ?_
                              refine lv_iload hx hb dL_isChange_432 (lv_at hl 8 rfl) ?_
                              refine lv_iconst (v := nI 0) hx hb dL_isChange_434 (by decide) ?_
                              refine lv_iconst (v := nI 0) hx hb dL_isChange_435 (by decide) ?_
                              refine lv_iconst (v := nI 0) hx hb dL_isChange_436 (by decide) ?_
                              refine lv_iconst (v := nI 0) hx hb dL_isChange_437 (by decide) ?_
                              refine x_calli (w2 := fun (S438 : S4) => LW cI cP cS ad la S438 (qFill lp (12 * t) 12 (-1)) lo lq lb (upd lg 1 (nI (cn + 1)))) (wr := []) (x_runL (n := 7) ⟨hx, hb, hml, hown, hts⟩ (fD_truncate l D cI cP cS cL hfl ad la (qFill lp (12 * t) 12 (-1)) lo lq lb (upd lg 1 (nI (cn + 1))) (s_lim S) (s_n S) (s_rows S) (s_cc S) (s_ct S) (s_ck S) (s_nr S) (s_cr S) (s_old S) (s_rw S) (s_co S) (s_re S) (s_nu S) (s_ma S) (s_sr S) (s_cp S) (s_pu S) (s_st S) (s_sl S) cn (nI t) (nI 0) (nI 0) (nI 0) (nI 0) hn50 (IN_cc hI) hcn12) gL_isChange_L_does rfl rfl rfl (by decide +kernel) ⟨by decide, by decide⟩ hN hK hP hD hS hA hE iLW rfl rfl rfl hl.1 (rest := []) (As := [.ref (ad 0), .int (nI 2), .int (nI t), .int (nI 0), .int (nI 0), .int (nI 0), .int (nI 0)]) rfl (Nat.le_of_ble_eq_true rfl) dL_isChange_438 ⟨by show _ ≤ 20; omega, by show _ ≤ 120; omega⟩) hP hD hS hA iLW [] iLW rfl rfl rfl (by decide) rfl (fun _ => rfl) (fun r438 S438 H locs hw hP hD hS => ?_)
                              obtain ⟨hr9, hI1⟩ := (O_truncate (IN_of hI) (by omega) hw).2.2 hth (by omega)
                              rw [qCnt_rE (IN_p hI) hth] at hr9
                              subst hr9
                              have hP : va_P D vwCl (LW cI cP cS ad la S438 (qFill lp (12 * t) 12 (-1)) lo lq lb (upd lg 1 (nI (cn + 1)))) H := hP
                              have hD : va_D A (LW cI cP cS ad la S438 (qFill lp (12 * t) 12 (-1)) lo lq lb (upd lg 1 (nI (cn + 1)))) := hD
                              refine lv_iload hx hb dL_isChange_441 (lv_at hl 0 rfl) ?_
                              refine x_cmp_ne (tgt := 450) hx hb (Iff.rfl) dL_isChange_443 (by decide) (fun c443 => ?_) (fun c443 => ?_)
                              · exact absurd rfl c443
                              · refine lv_iconst (v := nI 1) hx hb dL_isChange_446 (by decide) ?_
                                refine lv_goto (tgt := 451) hx hb dL_isChange_447 (by decide) ?_
                                exact x_ret_z hx hb hrt (by first | exact Or.inl rfl | exact Or.inr rfl) hlk hP hD hS dL_isChange_451 ⟨by omega, by omega⟩ ((S438, qFill lp (12 * t) 12 (-1), lo, lq, lb, upd lg 1 (nI (cn + 1)))) ⟨rfl, ⟨_, _, _, _, hI1⟩⟩ rfl
                          · exfalso; omega
                        · exfalso; omega
                      · refine lv_iload hx hb dL_isChange_345 (lv_at hl 9 rfl) ?_
                        refine x_if_eq (tgt := 390) hx hb (nI_z (by omega)) dL_isChange_347 (by decide) (fun c347 => ?_) (fun c347 => ?_)
                        · exfalso; omega
                        · rcases IN_p hI (12 * t + j) (by omega) with ⟨he1, he2⟩ | ⟨a, b, c, va9, vb9, vc9, he1, he2⟩
                          · have hd3 := 0
                            refine lv_iload hx hb dL_isChange_350 (lv_at hl 12 rfl) ?_
                            refine lv_aload_n hx hb dL_isChange_352 rfl (lv_at hl 1 rfl) ?_
                            refine lv_iload hx hb dL_isChange_353 (lv_at hl 13 rfl) ?_
                            refine x_ald (v := -1) hx hb hK hP 37 0 rfl rfl (by omega) (by omega) (by rw [hf, qFill_in (by omega)]; exact he2) dL_isChange_355 ?_
                            refine x_if_ge (tgt := 363) hx hb (Iff.rfl) dL_isChange_356 (by decide) (fun c356 => ?_) (fun c356 => ?_)
                            · exact absurd c356 (by decide)
                            · refine lv_iconst (v := nI 0) hx hb dL_isChange_359 (by decide) ?_
                              refine lv_goto (tgt := 364) hx hb dL_isChange_360 (by decide) ?_
                              refine x_add (k := cq + 0) hx hb dL_isChange_364 rfl ?_
                              refine lv_istore (lv' := [(12, .int (nI (cq + 0))), (0, .ref (ad 0)), (1, .ref (la 0)), (2, .ref (la 4)), (3, .int (nI 2)), (4, .int (nI one)), (5, .int (nI two)), (6, .int (nI three)), (7, .int (nI t)), (8, .int (nI k)), (9, .int (nI 1)), (10, .int (nI (12 * t))), (11, .int (nI 0)), (13, .int (nI (12 * t + j)))]) hx hb dL_isChange_365 hl (by decide) rfl (fun ls hl => ?_)
                              refine lv_aload_n hx hb dL_isChange_367 rfl (lv_at hl 2 rfl) ?_
                              refine lv_iload hx hb dL_isChange_368 (lv_at hl 13 rfl) ?_
                              refine lv_iload hx hb dL_isChange_370 (lv_at hl 12 rfl) ?_
                              refine x_if_eq (tgt := 382) hx hb (nI_z (by omega)) dL_isChange_372 (by decide) (fun c372 => ?_) (fun c372 => ?_)
                              · refine lv_iconst (v := -1) hx hb dL_isChange_382 (by decide) ?_
                                refine x_ast (g := (upd f (12 * t + j) (-1))) (ws' := LW cI cP cS ad la S ((upd f (12 * t + j) (-1))) lo lq lb lg) hx hb hK hP hD hS 37 0 rfl rfl (by omega) (by omega) (rfl) rfl dL_isChange_383 (fun H locs hP hD hS => ?_)
                                refine x_iinc (k := 13) (o := 1) (v := (12 * t + j) + 1) (lv' := [(13, .int (nI ((12 * t + j) + 1))), (12, .int (nI (cq + 0))), (0, .ref (ad 0)), (1, .ref (la 0)), (2, .ref (la 4)), (3, .int (nI 2)), (4, .int (nI one)), (5, .int (nI two)), (6, .int (nI three)), (7, .int (nI t)), (8, .int (nI k)), (9, .int (nI 1)), (10, .int (nI (12 * t))), (11, .int (nI 0))]) hx hb dL_isChange_384 hl rfl rfl rfl (by decide) rfl (fun ls hl => ?_)
                                refine lv_goto (tgt := 335) hx hb dL_isChange_387 (by decide) ?_
                                exact W.widen (by show _ ≤ 0; omega) (by show _ ≤ 0; omega) (ih335 (j + 1, (upd f (12 * t + j) (-1)), cq + 0) ⟨by omega, (by rw [hf]; exact qFill_s _ _ _ _), (by rw [hq9]; exact (qCnt_y (f := lp) he2).symm)⟩ (by show 12 - (j + 1) < 12 - j; omega) _ _ _ hP hD hS (lv_sub hl [2, 3, 4, 5, 6, 7, 8, 9, 10, 11, 12, 13, 1, 0] rfl))
                              · exfalso; omega
                          · have hd3 := d3_lt va9 vb9 vc9
                            refine lv_iload hx hb dL_isChange_350 (lv_at hl 12 rfl) ?_
                            refine lv_aload_n hx hb dL_isChange_352 rfl (lv_at hl 1 rfl) ?_
                            refine lv_iload hx hb dL_isChange_353 (lv_at hl 13 rfl) ?_
                            refine x_ald (v := nI (d3 a b c)) hx hb hK hP 37 0 rfl rfl (by omega) (by omega) (by rw [hf, qFill_in (by omega)]; exact he2) dL_isChange_355 ?_
                            refine x_if_ge (tgt := 363) hx hb (nI_ge0 (by omega)) dL_isChange_356 (by decide) (fun c356 => ?_) (fun c356 => ?_)
                            · refine lv_iconst (v := nI 1) hx hb dL_isChange_363 (by decide) ?_
                              refine x_add (k := cq + 1) hx hb dL_isChange_364 rfl ?_
                              refine lv_istore (lv' := [(12, .int (nI (cq + 1))), (0, .ref (ad 0)), (1, .ref (la 0)), (2, .ref (la 4)), (3, .int (nI 2)), (4, .int (nI one)), (5, .int (nI two)), (6, .int (nI three)), (7, .int (nI t)), (8, .int (nI k)), (9, .int (nI 1)), (10, .int (nI (12 * t))), (11, .int (nI 0)), (13, .int (nI (12 * t + j)))]) hx hb dL_isChange_365 hl (by decide) rfl (fun ls hl => ?_)
                              refine lv_aload_n hx hb dL_isChange_367 rfl (lv_at hl 2 rfl) ?_
                              refine lv_iload hx hb dL_isChange_368 (lv_at hl 13 rfl) ?_
                              refine lv_iload hx hb dL_isChange_370 (lv_at hl 12 rfl) ?_
                              refine x_if_eq (tgt := 382) hx hb (nI_z (by omega)) dL_isChange_372 (by decide) (fun c372 => ?_) (fun c372 => ?_)
                              · refine lv_iconst (v := -1) hx hb dL_isChange_382 (by decide) ?_
                                refine x_ast (g := (upd f (12 * t + j) (-1))) (ws' := LW cI cP cS ad la S ((upd f (12 * t + j) (-1))) lo lq lb lg) hx hb hK hP hD hS 37 0 rfl rfl (by omega) (by omega) (rfl) rfl dL_isChange_383 (fun H locs hP hD hS => ?_)
                                refine x_iinc (k := 13) (o := 1) (v := (12 * t + j) + 1) (lv' := [(13, .int (nI ((12 * t + j) + 1))), (12, .int (nI (cq + 1))), (0, .ref (ad 0)), (1, .ref (la 0)), (2, .ref (la 4)), (3, .int (nI 2)), (4, .int (nI one)), (5, .int (nI two)), (6, .int (nI three)), (7, .int (nI t)), (8, .int (nI k)), (9, .int (nI 1)), (10, .int (nI (12 * t))), (11, .int (nI 0))]) hx hb dL_isChange_384 hl rfl rfl rfl (by decide) rfl (fun ls hl => ?_)
                                refine lv_goto (tgt := 335) hx hb dL_isChange_387 (by decide) ?_
                                exact W.widen (by show _ ≤ 0; omega) (by show _ ≤ 0; omega) (ih335 (j + 1, (upd f (12 * t + j) (-1)), cq + 1) ⟨by omega, (by rw [hf]; exact qFill_s _ _ _ _), (by rw [hq9]; exact (qCnt_n (f := lp) (by rw [he2]; exact fun z => (nI_m1 (by omega)).mp z)).symm)⟩ (by show 12 - (j + 1) < 12 - j; omega) _ _ _ hP hD hS (lv_sub hl [2, 3, 4, 5, 6, 7, 8, 9, 10, 11, 12, 13, 1, 0] rfl))
                              · exfalso; omega
                            · exact absurd trivial c356
                    · exfalso; omega
                  · exfalso; omega
                · refine lv_iconst (v := nI 1) hx hb dL_isChange_99 (by decide) ?_
                  refine lv_goto (tgt := 104) hx hb dL_isChange_100 (by decide) ?_
                  refine lv_istore (lv' := [(11, .int (nI 1)), (10, .int (nI (12 * t))), (9, .int (nI 1)), (8, .int (nI k)), (0, .ref (ad 0)), (1, .ref (la 0)), (2, .ref (la 4)), (3, .int (nI 2)), (4, .int (nI one)), (5, .int (nI two)), (6, .int (nI three)), (7, .int (nI t))]) hx hb dL_isChange_104 hl (by decide) rfl (fun ls hl => ?_)
                  refine lv_iload_n hx hb dL_isChange_106 rfl (lv_at hl 7 rfl) ?_
                  refine x_if_ne (tgt := 253) hx hb (nI_z (by omega)) dL_isChange_107 (by decide) (fun c107 => ?_) (fun c107 => ?_)
                  · refine lv_iload_n hx hb dL_isChange_253 rfl (lv_at hl 7 rfl) ?_
                    refine lv_iconst (v := nI 1) hx hb dL_isChange_254 (by decide) ?_
                    refine x_cmp_ne (tgt := 328) hx hb (nI_eq (a := 2) (b := 1) (by omega) (by omega)) dL_isChange_255 (by decide) (fun c255 => ?_) (fun c255 => ?_)
                    · refine lv_iconst (v := nI 0) hx hb dL_isChange_328 (by decide) ?_
                      refine lv_istore (lv' := [(12, .int (nI 0)), (11, .int (nI 1)), (10, .int (nI (12 * t))), (9, .int (nI 1)), (8, .int (nI k)), (0, .ref (ad 0)), (1, .ref (la 0)), (2, .ref (la 4)), (3, .int (nI 2)), (4, .int (nI one)), (5, .int (nI two)), (6, .int (nI three)), (7, .int (nI t))]) hx hb dL_isChange_329 hl (by decide) rfl (fun ls hl => ?_)
                      refine lv_iload hx hb dL_isChange_331 (lv_at hl 2 rfl) ?_
                      refine lv_istore (lv' := [(13, .int (nI (12 * t))), (12, .int (nI 0)), (11, .int (nI 1)), (10, .int (nI (12 * t))), (9, .int (nI 1)), (8, .int (nI k)), (0, .ref (ad 0)), (1, .ref (la 0)), (2, .ref (la 4)), (3, .int (nI 2)), (4, .int (nI one)), (5, .int (nI two)), (6, .int (nI three)), (7, .int (nI t))]) hx hb dL_isChange_333 hl (by decide) rfl (fun ls hl => ?_)
                      refine x_loopc (nL := 16) (fun (x : Nat × Nat) => match x with | (j, cq) => j ≤ 12 ∧ cq = qCnt lp (12 * t) j) (fun (x : Nat × Nat) => match x with | (j, cq) => 12 - j) (fun (x : Nat × Nat) => match x with | (j, cq) => 0) (fun (x : Nat × Nat) => match x with | (j, cq) => 0) (fun (x : Nat × Nat) => match x with | (j, cq) => LW cI cP cS ad la S lp lo lq lb lg) (fun (x : Nat × Nat) => match x with | (j, cq) => [(0, .ref (ad 0)), (1, .ref (la 0)), (2, .ref (la 4)), (3, .int (nI 2)), (4, .int (nI one)), (5, .int (nI two)), (6, .int (nI three)), (7, .int (nI t)), (8, .int (nI k)), (9, .int (nI 1)), (10, .int (nI (12 * t))), (11, .int (nI 1)), (12, .int (nI cq)), (13, .int (nI (12 * t + j)))]) (fun (x : Nat × Nat) => match x with | (j, cq) => []) ?_ (0, 0) ⟨Nat.zero_le 12, rfl⟩ (by show _ ≤ 0; omega) (by show _ ≤ 0; omega) hP hD hS (lv_sub hl [6, 7, 8, 9, 10, 11, 12, 13, 5, 4, 3, 2, 1, 0] rfl)
                      intro x9 hI335 ih335 H locs ls hP hD hS hl
                      obtain ⟨j, cq⟩ := x9
                      have hP : va_P D vwCl (LW cI cP cS ad la S lp lo lq lb lg) H := hP
                      have hD : va_D A (LW cI cP cS ad la S lp lo lq lb lg) := hD
                      have hl : lv_has ls 16 [(0, .ref (ad 0)), (1, .ref (la 0)), (2, .ref (la 4)), (3, .int (nI 2)), (4, .int (nI one)), (5, .int (nI two)), (6, .int (nI three)), (7, .int (nI t)), (8, .int (nI k)), (9, .int (nI 1)), (10, .int (nI (12 * t))), (11, .int (nI 1)), (12, .int (nI cq)), (13, .int (nI (12 * t + j)))] := hl
                      show W _ _ _ _ _ _ _ _ _ _ _ _ (0) (0) _ _
                      obtain ⟨hj9, hq9⟩ := hI335
                      have hq12 := qCnt_le lp (12 * t) j
                      refine lv_iload hx hb dL_isChange_335 (lv_at hl 13 rfl) ?_
                      refine lv_iload hx hb dL_isChange_337 (lv_at hl 10 rfl) ?_
                      refine lv_bipush (v := nI 12) hx hb dL_isChange_339 (by decide) ?_
                      refine x_add (k := (12 * t) + 12) hx hb dL_isChange_341 rfl ?_
                      refine x_cmp_ge (tgt := 390) hx hb (nI_leI (a := ((12 * t) + 12)) (b := (12 * t + j)) (by omega) (by omega)) dL_isChange_342 (by decide) (fun c342 => ?_) (fun c342 => ?_)
                      · obtain rfl : j = 12 := by omega
                        subst hq9
                        have hP : va_P D vwCl (LW cI cP cS ad la S lp lo lq lb lg) H := hP
                        have hD : va_D A (LW cI cP cS ad la S lp lo lq lb lg) := hD
                        have hl : lv_has ls 16 [(0, .ref (ad 0)), (1, .ref (la 0)), (2, .ref (la 4)), (3, .int (nI 2)), (4, .int (nI one)), (5, .int (nI two)), (6, .int (nI three)), (7, .int (nI t)), (8, .int (nI k)), (9, .int (nI 1)), (10, .int (nI (12 * t))), (11, .int (nI 1)), (12, .int (nI (qCnt lp (12 * t) 12))), (13, .int (nI (12 * t + 12)))] := hl
                        have hq12 := qCnt_le lp (12 * t) 12
                        refine lv_iload hx hb dL_isChange_390 (lv_at hl 9 rfl) ?_
                        refine x_if_ne (tgt := 400) hx hb (nI_z (by omega)) dL_isChange_392 (by decide) (fun c392 => ?_) (fun c392 => ?_)
                        · refine lv_iload hx hb dL_isChange_400 (lv_at hl 11 rfl) ?_
                          refine x_if_eq (tgt := 410) hx hb (nI_z (by omega)) dL_isChange_402 (by decide) (fun c402 => ?_) (fun c402 => ?_)
                          · exfalso; omega
                          · refine lv_bipush (v := (-10 : Int32)) hx hb dL_isChange_405 (by decide) ?_
                            refine lv_goto (tgt := 412) hx hb dL_isChange_407 (by decide) ?_
                            refine lv_istore (lv' := [(13, .int ((-10 : Int32))), (0, .ref (ad 0)), (1, .ref (la 0)), (2, .ref (la 4)), (3, .int (nI 2)), (4, .int (nI one)), (5, .int (nI two)), (6, .int (nI three)), (7, .int (nI t)), (8, .int (nI k)), (9, .int (nI 1)), (10, .int (nI (12 * t))), (11, .int (nI 1)), (12, .int (nI (qCnt lp (12 * t) 12)))]) hx hb dL_isChange_412 hl (by decide) rfl (fun ls hl => ?_)
                            refine lv_aload_n hx hb dL_isChange_414 rfl (lv_at hl 3 rfl) ?_
                            refine lv_iconst (v := nI 1) hx hb dL_isChange_415 (by decide) ?_
                            refine lv_dup2_11 hx hb dL_isChange_416 rfl rfl ?_
                            refine x_ald (v := nI cn) hx hb hK hP 41 0 rfl rfl (by omega) (by omega) (IN_g1 hI) dL_isChange_417 ?_
                            refine lv_iload hx hb dL_isChange_418 (lv_at hl 0 rfl) ?_
                            refine x_if_lt (tgt := 427) hx hb (Iff.rfl) dL_isChange_420 (by decide) (fun c420 => ?_) (fun c420 => ?_)
                            · refine lv_iconst (v := nI 0) hx hb dL_isChange_427 (by decide) ?_
                              refine x_add (k := cn + 0) hx hb dL_isChange_428 rfl ?_
                              refine x_ast (g := lg) (ws' := LW cI cP cS ad la S lp lo lq lb lg) hx hb hK hP hD hS 41 0 rfl rfl (by omega) (by omega) ((upd_id (IN_g1 hI))) rfl dL_isChange_429 (fun H locs hP hD hS => ?_)
                              refine lv_aload_n hx hb dL_isChange_430 rfl (lv_at hl 1 rfl) ?_
                              refine lv_iconst (v := nI 2) hx hb dL_isChange_431 (by decide) ?_
                              refine lv_iload hx hb dL_isChange_432 (lv_at hl 8 rfl) ?_
                              refine lv_iconst (v := nI 0) hx hb dL_isChange_434 (by decide) ?_
                              refine lv_iconst (v := nI 0) hx hb dL_isChange_435 (by decide) ?_
                              refine lv_iconst (v := nI 0) hx hb dL_isChange_436 (by decide) ?_
                              refine lv_iconst (v := nI 0) hx hb dL_isChange_437 (by decide) ?_
                              refine x_calli (w2 := fun (S438 : S4) => LW cI cP cS ad la S438 lp lo lq lb lg) (wr := []) (x_runL (n := 7) ⟨hx, hb, hml, hown, hts⟩ (fD_truncate l D cI cP cS cL hfl ad la lp lo lq lb lg (s_lim S) (s_n S) (s_rows S) (s_cc S) (s_ct S) (s_ck S) (s_nr S) (s_cr S) (s_old S) (s_rw S) (s_co S) (s_re S) (s_nu S) (s_ma S) (s_sr S) (s_cp S) (s_pu S) (s_st S) (s_sl S) cn (nI t) (nI 0) (nI 0) (nI 0) (nI 0) hn50 (IN_cc hI) hcn12) gL_isChange_L_does rfl rfl rfl (by decide +kernel) ⟨by decide, by decide⟩ hN hK hP hD hS hA hE iLW rfl rfl rfl hl.1 (rest := []) (As := [.ref (ad 0), .int (nI 2), .int (nI t), .int (nI 0), .int (nI 0), .int (nI 0), .int (nI 0)]) rfl (Nat.le_of_ble_eq_true rfl) dL_isChange_438 ⟨by show _ ≤ 20; omega, by show _ ≤ 120; omega⟩) hP hD hS hA iLW [] iLW rfl rfl rfl (by decide) rfl (fun _ => rfl) (fun r438 S438 H locs hw hP hD hS => ?_)
                              obtain ⟨hr9, e8⟩ := (O_truncate (IN_of hI) (by omega) hw).2.1 hth (by omega)
                              have e9 : S = S438 := (show S438 = S from e8).symm
                              subst e9
                              subst hr9
                              have hP : va_P D vwCl (LW cI cP cS ad la S lp lo lq lb lg) H := hP
                              have hD : va_D A (LW cI cP cS ad la S lp lo lq lb lg) := hD
                              refine lv_iload hx hb dL_isChange_441 (lv_at hl 0 rfl) ?_
                              refine x_cmp_ne (tgt := 450) hx hb (Iff.rfl) dL_isChange_443 (by decide) (fun c443 => ?_) (fun c443 => ?_)
                              · exact absurd rfl c443
                              · refine lv_iconst (v := nI 1) hx hb dL_isChange_446 (by decide) ?_
                                refine lv_goto (tgt := 451) hx hb dL_isChange_447 (by decide) ?_
                                exact x_ret_z hx hb hrt (by first | exact Or.inl rfl | exact Or.inr rfl) hlk hP hD hS dL_isChange_451 ⟨by omega, by omega⟩ ((S, lp, lo, lq, lb, lg)) ⟨rfl, ⟨bk, kc, mi, cn, hI⟩⟩ rfl
                            · exact absurd (by decide) c420
                        · exfalso; omega
                      · refine lv_iload hx hb dL_isChange_345 (lv_at hl 9 rfl) ?_
                        refine x_if_eq (tgt := 390) hx hb (nI_z (by omega)) dL_isChange_347 (by decide) (fun c347 => ?_) (fun c347 => ?_)
                        · exfalso; omega
                        · rcases IN_p hI (12 * t + j) (by omega) with ⟨he1, he2⟩ | ⟨a, b, c, va9, vb9, vc9, he1, he2⟩
                          · have hd3 := 0
                            refine lv_iload hx hb dL_isChange_350 (lv_at hl 12 rfl) ?_
                            refine lv_aload_n hx hb dL_isChange_352 rfl (lv_at hl 1 rfl) ?_
                            refine lv_iload hx hb dL_isChange_353 (lv_at hl 13 rfl) ?_
                            refine x_ald (v := -1) hx hb hK hP 37 0 rfl rfl (by omega) (by omega) he2 dL_isChange_355 ?_
                            refine x_if_ge (tgt := 363) hx hb (Iff.rfl) dL_isChange_356 (by decide) (fun c356 => ?_) (fun c356 => ?_)
                            · exact absurd c356 (by decide)
                            · refine lv_iconst (v := nI 0) hx hb dL_isChange_359 (by decide) ?_
                              refine lv_goto (tgt := 364) hx hb dL_isChange_360 (by decide) ?_
                              refine x_add (k := cq + 0) hx hb dL_isChange_364 rfl ?_
                              refine lv_istore (lv' := [(12, .int (nI (cq + 0))), (0, .ref (ad 0)), (1, .ref (la 0)), (2, .ref (la 4)), (3, .int (nI 2)), (4, .int (nI one)), (5, .int (nI two)), (6, .int (nI three)), (7, .int (nI t)), (8, .int (nI k)), (9, .int (nI 1)), (10, .int (nI (12 * t))), (11, .int (nI 1)), (13, .int (nI (12 * t + j)))]) hx hb dL_isChange_365 hl (by decide) rfl (fun ls hl => ?_)
                              refine lv_aload_n hx hb dL_isChange_367 rfl (lv_at hl 2 rfl) ?_
                              refine lv_iload hx hb dL_isChange_368 (lv_at hl 13 rfl) ?_
                              refine lv_iload hx hb dL_isChange_370 (lv_at hl 12 rfl) ?_
                              refine x_if_eq (tgt := 382) hx hb (nI_z (by omega)) dL_isChange_372 (by decide) (fun c372 => ?_) (fun c372 => ?_)
                              · exfalso; omega
                              · refine lv_aload_n hx hb dL_isChange_375 rfl (lv_at hl 2 rfl) ?_
                                refine lv_iload hx hb dL_isChange_376 (lv_at hl 13 rfl) ?_
                                refine x_ald (v := -1) hx hb hK hP 37 0 rfl rfl (by omega) (by omega) he2 dL_isChange_378 ?_
                                refine lv_goto (tgt := 383) hx hb dL_isChange_379 (by decide) ?_
                                refine x_ast (g := lp) (ws' := LW cI cP cS ad la S lp lo lq lb lg) hx hb hK hP hD hS 37 0 rfl rfl (by omega) (by omega) ((upd_id he2)) rfl dL_isChange_383 (fun H locs hP hD hS => ?_)
                                refine x_iinc (k := 13) (o := 1) (v := (12 * t + j) + 1) (lv' := [(13, .int (nI ((12 * t + j) + 1))), (12, .int (nI (cq + 0))), (0, .ref (ad 0)), (1, .ref (la 0)), (2, .ref (la 4)), (3, .int (nI 2)), (4, .int (nI one)), (5, .int (nI two)), (6, .int (nI three)), (7, .int (nI t)), (8, .int (nI k)), (9, .int (nI 1)), (10, .int (nI (12 * t))), (11, .int (nI 1))]) hx hb dL_isChange_384 hl rfl rfl rfl (by decide) rfl (fun ls hl => ?_)
                                refine lv_goto (tgt := 335) hx hb dL_isChange_387 (by decide) ?_
                                exact W.widen (by show _ ≤ 0; omega) (by show _ ≤ 0; omega) (ih335 (j + 1, cq + 0) ⟨by omega, (by rw [hq9]; exact (qCnt_y (f := lp) he2).symm)⟩ (by show 12 - (j + 1) < 12 - j; omega) _ _ _ hP hD hS (lv_sub hl [2, 3, 4, 5, 6, 7, 8, 9, 10, 11, 12, 13, 1, 0] rfl))
                          · have hd3 := d3_lt va9 vb9 vc9
                            refine lv_iload hx hb dL_isChange_350 (lv_at hl 12 rfl) ?_
                            refine lv_aload_n hx hb dL_isChange_352 rfl (lv_at hl 1 rfl) ?_
                            refine lv_iload hx hb dL_isChange_353 (lv_at hl 13 rfl) ?_
                            refine x_ald (v := nI (d3 a b c)) hx hb hK hP 37 0 rfl rfl (by omega) (by omega) he2 dL_isChange_355 ?_
                            refine x_if_ge (tgt := 363) hx hb (nI_ge0 (by omega)) dL_isChange_356 (by decide) (fun c356 => ?_) (fun c356 => ?_)
                            · refine lv_iconst (v := nI 1) hx hb dL_isChange_363 (by decide) ?_
                              refine x_add (k := cq + 1) hx hb dL_isChange_364 rfl ?_
                              refine lv_istore (lv' := [(12, .int (nI (cq + 1))), (0, .ref (ad 0)), (1, .ref (la 0)), (2, .ref (la 4)), (3, .int (nI 2)), (4, .int (nI one)), (5, .int (nI two)), (6, .int (nI three)), (7, .int (nI t)), (8, .int (nI k)), (9, .int (nI 1)), (10, .int (nI (12 * t))), (11, .int (nI 1)), (13, .int (nI (12 * t + j)))]) hx hb dL_isChange_365 hl (by decide) rfl (fun ls hl => ?_)
                              refine lv_aload_n hx hb dL_isChange_367 rfl (lv_at hl 2 rfl) ?_
                              refine lv_iload hx hb dL_isChange_368 (lv_at hl 13 rfl) ?_
                              refine lv_iload hx hb dL_isChange_370 (lv_at hl 12 rfl) ?_
                              refine x_if_eq (tgt := 382) hx hb (nI_z (by omega)) dL_isChange_372 (by decide) (fun c372 => ?_) (fun c372 => ?_)
                              · exfalso; omega
                              · refine lv_aload_n hx hb dL_isChange_375 rfl (lv_at hl 2 rfl) ?_
                                refine lv_iload hx hb dL_isChange_376 (lv_at hl 13 rfl) ?_
                                refine x_ald (v := nI (d3 a b c)) hx hb hK hP 37 0 rfl rfl (by omega) (by omega) he2 dL_isChange_378 ?_
                                refine lv_goto (tgt := 383) hx hb dL_isChange_379 (by decide) ?_
                                refine x_ast (g := lp) (ws' := LW cI cP cS ad la S lp lo lq lb lg) hx hb hK hP hD hS 37 0 rfl rfl (by omega) (by omega) ((upd_id he2)) rfl dL_isChange_383 (fun H locs hP hD hS => ?_)
                                refine x_iinc (k := 13) (o := 1) (v := (12 * t + j) + 1) (lv' := [(13, .int (nI ((12 * t + j) + 1))), (12, .int (nI (cq + 1))), (0, .ref (ad 0)), (1, .ref (la 0)), (2, .ref (la 4)), (3, .int (nI 2)), (4, .int (nI one)), (5, .int (nI two)), (6, .int (nI three)), (7, .int (nI t)), (8, .int (nI k)), (9, .int (nI 1)), (10, .int (nI (12 * t))), (11, .int (nI 1))]) hx hb dL_isChange_384 hl rfl rfl rfl (by decide) rfl (fun ls hl => ?_)
                                refine lv_goto (tgt := 335) hx hb dL_isChange_387 (by decide) ?_
                                exact W.widen (by show _ ≤ 0; omega) (by show _ ≤ 0; omega) (ih335 (j + 1, cq + 1) ⟨by omega, (by rw [hq9]; exact (qCnt_n (f := lp) (by rw [he2]; exact fun z => (nI_m1 (by omega)).mp z)).symm)⟩ (by show 12 - (j + 1) < 12 - j; omega) _ _ _ hP hD hS (lv_sub hl [2, 3, 4, 5, 6, 7, 8, 9, 10, 11, 12, 13, 1, 0] rfl))
                            · exact absurd trivial c356
                    · exfalso; omega
                  · exfalso; omega
          · exact absurd rfl c46
      · refine lv_iload hx hb dL_isChange_38 (lv_at hl 8 rfl) ?_
        refine lv_iconst (v := nI 2) hx hb dL_isChange_40 (by decide) ?_
        refine x_cmp_ge (tgt := 60) hx hb (nI_leI (a := 2) (b := t) (by omega) (by omega)) dL_isChange_41 (by decide) (fun c41 => ?_) (fun c41 => ?_)
        · refine lv_iconst (v := nI 0) hx hb dL_isChange_60 (by decide) ?_
          refine lv_istore (lv' := [(9, .int (nI 0)), (8, .int (nI k)), (0, .ref (ad 0)), (1, .ref (la 0)), (2, .ref (la 4)), (3, .int (nI 2)), (4, .int (nI one)), (5, .int (nI two)), (6, .int (nI three)), (7, .int (nI t))]) hx hb dL_isChange_61 hl (by decide) rfl (fun ls hl => ?_)
          refine lv_iload hx hb dL_isChange_63 (lv_at hl 0 rfl) ?_
          refine x_if_eq (tgt := 88) hx hb (nI_z (by omega)) dL_isChange_65 (by decide) (fun c65 => ?_) (fun c65 => ?_)
          · refine lv_iconst (v := nI 0) hx hb dL_isChange_88 (by decide) ?_
            refine lv_istore (lv' := [(10, .int (nI 0)), (9, .int (nI 0)), (8, .int (nI k)), (0, .ref (ad 0)), (1, .ref (la 0)), (2, .ref (la 4)), (3, .int (nI 2)), (4, .int (nI one)), (5, .int (nI two)), (6, .int (nI three)), (7, .int (nI t))]) hx hb dL_isChange_89 hl (by decide) rfl (fun ls hl => ?_)
            refine lv_aload_n hx hb dL_isChange_91 rfl (lv_at hl 5 rfl) ?_
            refine lv_iconst (v := nI 1) hx hb dL_isChange_92 (by decide) ?_
            refine x_ald (v := nI cn) hx hb hK hP 41 0 rfl rfl (by omega) (by omega) (IN_g1 hI) dL_isChange_93 ?_
            refine lv_bipush (v := nI 12) hx hb dL_isChange_94 (by decide) ?_
            refine x_cmp_ne (tgt := 103) hx hb (nI_eq (a := cn) (b := 12) (by omega) (by omega)) dL_isChange_96 (by decide) (fun c96 => ?_) (fun c96 => ?_)
            · refine lv_iconst (v := nI 0) hx hb dL_isChange_103 (by decide) ?_
              refine lv_istore (lv' := [(11, .int (nI 0)), (10, .int (nI 0)), (9, .int (nI 0)), (8, .int (nI k)), (0, .ref (ad 0)), (1, .ref (la 0)), (2, .ref (la 4)), (3, .int (nI 2)), (4, .int (nI one)), (5, .int (nI two)), (6, .int (nI three)), (7, .int (nI t))]) hx hb dL_isChange_104 hl (by decide) rfl (fun ls hl => ?_)
              refine lv_iload_n hx hb dL_isChange_106 rfl (lv_at hl 7 rfl) ?_
              refine x_if_ne (tgt := 253) hx hb (nI_z (by omega)) dL_isChange_107 (by decide) (fun c107 => ?_) (fun c107 => ?_)
              · refine lv_iload_n hx hb dL_isChange_253 rfl (lv_at hl 7 rfl) ?_
                refine lv_iconst (v := nI 1) hx hb dL_isChange_254 (by decide) ?_
                refine x_cmp_ne (tgt := 328) hx hb (nI_eq (a := 2) (b := 1) (by omega) (by omega)) dL_isChange_255 (by decide) (fun c255 => ?_) (fun c255 => ?_)
                · refine lv_iconst (v := nI 0) hx hb dL_isChange_328 (by decide) ?_
                  refine lv_istore (lv' := [(12, .int (nI 0)), (11, .int (nI 0)), (10, .int (nI 0)), (9, .int (nI 0)), (8, .int (nI k)), (0, .ref (ad 0)), (1, .ref (la 0)), (2, .ref (la 4)), (3, .int (nI 2)), (4, .int (nI one)), (5, .int (nI two)), (6, .int (nI three)), (7, .int (nI t))]) hx hb dL_isChange_329 hl (by decide) rfl (fun ls hl => ?_)
                  refine lv_iload hx hb dL_isChange_331 (lv_at hl 2 rfl) ?_
                  refine lv_istore (lv' := [(13, .int (nI 0)), (12, .int (nI 0)), (11, .int (nI 0)), (10, .int (nI 0)), (9, .int (nI 0)), (8, .int (nI k)), (0, .ref (ad 0)), (1, .ref (la 0)), (2, .ref (la 4)), (3, .int (nI 2)), (4, .int (nI one)), (5, .int (nI two)), (6, .int (nI three)), (7, .int (nI t))]) hx hb dL_isChange_333 hl (by decide) rfl (fun ls hl => ?_)
                  refine lv_iload hx hb dL_isChange_335 (lv_at hl 0 rfl) ?_
                  refine lv_iload hx hb dL_isChange_337 (lv_at hl 3 rfl) ?_
                  refine lv_bipush (v := nI 12) hx hb dL_isChange_339 (by decide) ?_
                  refine x_add (k := 12) hx hb dL_isChange_341 rfl ?_
                  refine x_cmp_ge (tgt := 390) hx hb (nI_leI (a := 12) (b := 0) (by omega) (by omega)) dL_isChange_342 (by decide) (fun c342 => ?_) (fun c342 => ?_)
                  · exfalso; omega
                  · refine lv_iload hx hb dL_isChange_345 (lv_at hl 4 rfl) ?_
                    refine x_if_eq (tgt := 390) hx hb (nI_z (by omega)) dL_isChange_347 (by decide) (fun c347 => ?_) (fun c347 => ?_)
                    · refine lv_iload hx hb dL_isChange_390 (lv_at hl 4 rfl) ?_
                      refine x_if_ne (tgt := 400) hx hb (nI_z (by omega)) dL_isChange_392 (by decide) (fun c392 => ?_) (fun c392 => ?_)
                      · exfalso; omega
                      · refine lv_bipush (v := (-30 : Int32)) hx hb dL_isChange_395 (by decide) ?_
                        refine lv_goto (tgt := 412) hx hb dL_isChange_397 (by decide) ?_
                        refine lv_istore (lv' := [(13, .int ((-30 : Int32))), (12, .int (nI 0)), (11, .int (nI 0)), (10, .int (nI 0)), (9, .int (nI 0)), (8, .int (nI k)), (0, .ref (ad 0)), (1, .ref (la 0)), (2, .ref (la 4)), (3, .int (nI 2)), (4, .int (nI one)), (5, .int (nI two)), (6, .int (nI three)), (7, .int (nI t))]) hx hb dL_isChange_412 hl (by decide) rfl (fun ls hl => ?_)
                        refine lv_aload_n hx hb dL_isChange_414 rfl (lv_at hl 8 rfl) ?_
                        refine lv_iconst (v := nI 1) hx hb dL_isChange_415 (by decide) ?_
                        refine lv_dup2_11 hx hb dL_isChange_416 rfl rfl ?_
                        refine x_ald (v := nI cn) hx hb hK hP 41 0 rfl rfl (by omega) (by omega) (IN_g1 hI) dL_isChange_417 ?_
                        refine lv_iload hx hb dL_isChange_418 (lv_at hl 0 rfl) ?_
                        refine x_if_lt (tgt := 427) hx hb (Iff.rfl) dL_isChange_420 (by decide) (fun c420 => ?_) (fun c420 => ?_)
                        · refine lv_iconst (v := nI 0) hx hb dL_isChange_427 (by decide) ?_
                          refine x_add (k := cn + 0) hx hb dL_isChange_428 rfl ?_
                          refine x_ast (g := lg) (ws' := LW cI cP cS ad la S lp lo lq lb lg) hx hb hK hP hD hS 41 0 rfl rfl (by omega) (by omega) ((upd_id (IN_g1 hI))) rfl dL_isChange_429 (fun H locs hP hD hS => ?_)
                          refine lv_aload_n hx hb dL_isChange_430 rfl (lv_at hl 6 rfl) ?_
                          refine lv_iconst (v := nI 2) hx hb dL_isChange_431 (by decide) ?_
                          refine lv_iload hx hb dL_isChange_432 (lv_at hl 13 rfl) ?_
                          refine lv_iconst (v := nI 0) hx hb dL_isChange_434 (by decide) ?_
                          refine lv_iconst (v := nI 0) hx hb dL_isChange_435 (by decide) ?_
                          refine lv_iconst (v := nI 0) hx hb dL_isChange_436 (by decide) ?_
                          refine lv_iconst (v := nI 0) hx hb dL_isChange_437 (by decide) ?_
                          refine x_calli (w2 := fun (S438 : S4) => LW cI cP cS ad la S438 lp lo lq lb lg) (wr := []) (x_runL (n := 7) ⟨hx, hb, hml, hown, hts⟩ (fD_truncate l D cI cP cS cL hfl ad la lp lo lq lb lg (s_lim S) (s_n S) (s_rows S) (s_cc S) (s_ct S) (s_ck S) (s_nr S) (s_cr S) (s_old S) (s_rw S) (s_co S) (s_re S) (s_nu S) (s_ma S) (s_sr S) (s_cp S) (s_pu S) (s_st S) (s_sl S) cn (nI t) (nI 0) (nI 0) (nI 0) (nI 0) hn50 (IN_cc hI) hcn12) gL_isChange_L_does rfl rfl rfl (by decide +kernel) ⟨by decide, by decide⟩ hN hK hP hD hS hA hE iLW rfl rfl rfl hl.1 (rest := []) (As := [.ref (ad 0), .int (nI 2), .int (nI t), .int (nI 0), .int (nI 0), .int (nI 0), .int (nI 0)]) rfl (Nat.le_of_ble_eq_true rfl) dL_isChange_438 ⟨by show _ ≤ 20; omega, by show _ ≤ 120; omega⟩) hP hD hS hA iLW [] iLW rfl rfl rfl (by decide) rfl (fun _ => rfl) (fun r438 S438 H locs hw hP hD hS => ?_)
                          obtain ⟨hr9, e8⟩ := (O_truncate (IN_of hI) (by omega) hw).1 hth
                          have e9 : S = S438 := (show S438 = S from e8).symm
                          subst e9
                          subst hr9
                          have hP : va_P D vwCl (LW cI cP cS ad la S lp lo lq lb lg) H := hP
                          have hD : va_D A (LW cI cP cS ad la S lp lo lq lb lg) := hD
                          refine lv_iload hx hb dL_isChange_441 (lv_at hl 0 rfl) ?_
                          refine x_cmp_ne (tgt := 450) hx hb (Iff.rfl) dL_isChange_443 (by decide) (fun c443 => ?_) (fun c443 => ?_)
                          · exact absurd rfl c443
                          · refine lv_iconst (v := nI 1) hx hb dL_isChange_446 (by decide) ?_
                            refine lv_goto (tgt := 451) hx hb dL_isChange_447 (by decide) ?_
                            exact x_ret_z hx hb hrt (by first | exact Or.inl rfl | exact Or.inr rfl) hlk hP hD hS dL_isChange_451 ⟨by omega, by omega⟩ ((S, lp, lo, lq, lb, lg)) ⟨rfl, ⟨bk, kc, mi, cn, hI⟩⟩ rfl
                        · exact absurd (by decide) c420
                    · exfalso; omega
                · exfalso; omega
              · exfalso; omega
            · refine lv_iconst (v := nI 1) hx hb dL_isChange_99 (by decide) ?_
              refine lv_goto (tgt := 104) hx hb dL_isChange_100 (by decide) ?_
              refine lv_istore (lv' := [(11, .int (nI 1)), (10, .int (nI 0)), (9, .int (nI 0)), (8, .int (nI k)), (0, .ref (ad 0)), (1, .ref (la 0)), (2, .ref (la 4)), (3, .int (nI 2)), (4, .int (nI one)), (5, .int (nI two)), (6, .int (nI three)), (7, .int (nI t))]) hx hb dL_isChange_104 hl (by decide) rfl (fun ls hl => ?_)
              refine lv_iload_n hx hb dL_isChange_106 rfl (lv_at hl 7 rfl) ?_
              refine x_if_ne (tgt := 253) hx hb (nI_z (by omega)) dL_isChange_107 (by decide) (fun c107 => ?_) (fun c107 => ?_)
              · refine lv_iload_n hx hb dL_isChange_253 rfl (lv_at hl 7 rfl) ?_
                refine lv_iconst (v := nI 1) hx hb dL_isChange_254 (by decide) ?_
                refine x_cmp_ne (tgt := 328) hx hb (nI_eq (a := 2) (b := 1) (by omega) (by omega)) dL_isChange_255 (by decide) (fun c255 => ?_) (fun c255 => ?_)
                · refine lv_iconst (v := nI 0) hx hb dL_isChange_328 (by decide) ?_
                  refine lv_istore (lv' := [(12, .int (nI 0)), (11, .int (nI 1)), (10, .int (nI 0)), (9, .int (nI 0)), (8, .int (nI k)), (0, .ref (ad 0)), (1, .ref (la 0)), (2, .ref (la 4)), (3, .int (nI 2)), (4, .int (nI one)), (5, .int (nI two)), (6, .int (nI three)), (7, .int (nI t))]) hx hb dL_isChange_329 hl (by decide) rfl (fun ls hl => ?_)
                  refine lv_iload hx hb dL_isChange_331 (lv_at hl 2 rfl) ?_
                  refine lv_istore (lv' := [(13, .int (nI 0)), (12, .int (nI 0)), (11, .int (nI 1)), (10, .int (nI 0)), (9, .int (nI 0)), (8, .int (nI k)), (0, .ref (ad 0)), (1, .ref (la 0)), (2, .ref (la 4)), (3, .int (nI 2)), (4, .int (nI one)), (5, .int (nI two)), (6, .int (nI three)), (7, .int (nI t))]) hx hb dL_isChange_333 hl (by decide) rfl (fun ls hl => ?_)
                  refine lv_iload hx hb dL_isChange_335 (lv_at hl 0 rfl) ?_
                  refine lv_iload hx hb dL_isChange_337 (lv_at hl 3 rfl) ?_
                  refine lv_bipush (v := nI 12) hx hb dL_isChange_339 (by decide) ?_
                  refine x_add (k := 12) hx hb dL_isChange_341 rfl ?_
                  refine x_cmp_ge (tgt := 390) hx hb (nI_leI (a := 12) (b := 0) (by omega) (by omega)) dL_isChange_342 (by decide) (fun c342 => ?_) (fun c342 => ?_)
                  · exfalso; omega
                  · refine lv_iload hx hb dL_isChange_345 (lv_at hl 4 rfl) ?_
                    refine x_if_eq (tgt := 390) hx hb (nI_z (by omega)) dL_isChange_347 (by decide) (fun c347 => ?_) (fun c347 => ?_)
                    · refine lv_iload hx hb dL_isChange_390 (lv_at hl 4 rfl) ?_
                      refine x_if_ne (tgt := 400) hx hb (nI_z (by omega)) dL_isChange_392 (by decide) (fun c392 => ?_) (fun c392 => ?_)
                      · exfalso; omega
                      · refine lv_bipush (v := (-30 : Int32)) hx hb dL_isChange_395 (by decide) ?_
                        refine lv_goto (tgt := 412) hx hb dL_isChange_397 (by decide) ?_
                        refine lv_istore (lv' := [(13, .int ((-30 : Int32))), (12, .int (nI 0)), (11, .int (nI 1)), (10, .int (nI 0)), (9, .int (nI 0)), (8, .int (nI k)), (0, .ref (ad 0)), (1, .ref (la 0)), (2, .ref (la 4)), (3, .int (nI 2)), (4, .int (nI one)), (5, .int (nI two)), (6, .int (nI three)), (7, .int (nI t))]) hx hb dL_isChange_412 hl (by decide) rfl (fun ls hl => ?_)
                        refine lv_aload_n hx hb dL_isChange_414 rfl (lv_at hl 8 rfl) ?_
                        refine lv_iconst (v := nI 1) hx hb dL_isChange_415 (by decide) ?_
                        refine lv_dup2_11 hx hb dL_isChange_416 rfl rfl ?_
                        refine x_ald (v := nI cn) hx hb hK hP 41 0 rfl rfl (by omega) (by omega) (IN_g1 hI) dL_isChange_417 ?_
                        refine lv_iload hx hb dL_isChange_418 (lv_at hl 0 rfl) ?_
                        refine x_if_lt (tgt := 427) hx hb (Iff.rfl) dL_isChange_420 (by decide) (fun c420 => ?_) (fun c420 => ?_)
                        · refine lv_iconst (v := nI 0) hx hb dL_isChange_427 (by decide) ?_
                          refine x_add (k := cn + 0) hx hb dL_isChange_428 rfl ?_
                          refine x_ast (g := lg) (ws' := LW cI cP cS ad la S lp lo lq lb lg) hx hb hK hP hD hS 41 0 rfl rfl (by omega) (by omega) ((upd_id (IN_g1 hI))) rfl dL_isChange_429 (fun H locs hP hD hS => ?_)
                          refine lv_aload_n hx hb dL_isChange_430 rfl (lv_at hl 6 rfl) ?_
                          refine lv_iconst (v := nI 2) hx hb dL_isChange_431 (by decide) ?_
                          refine lv_iload hx hb dL_isChange_432 (lv_at hl 13 rfl) ?_
                          refine lv_iconst (v := nI 0) hx hb dL_isChange_434 (by decide) ?_
                          refine lv_iconst (v := nI 0) hx hb dL_isChange_435 (by decide) ?_
                          refine lv_iconst (v := nI 0) hx hb dL_isChange_436 (by decide) ?_
                          refine lv_iconst (v := nI 0) hx hb dL_isChange_437 (by decide) ?_
                          refine x_calli (w2 := fun (S438 : S4) => LW cI cP cS ad la S438 lp lo lq lb lg) (wr := []) (x_runL (n := 7) ⟨hx, hb, hml, hown, hts⟩ (fD_truncate l D cI cP cS cL hfl ad la lp lo lq lb lg (s_lim S) (s_n S) (s_rows S) (s_cc S) (s_ct S) (s_ck S) (s_nr S) (s_cr S) (s_old S) (s_rw S) (s_co S) (s_re S) (s_nu S) (s_ma S) (s_sr S) (s_cp S) (s_pu S) (s_st S) (s_sl S) cn (nI t) (nI 0) (nI 0) (nI 0) (nI 0) hn50 (IN_cc hI) hcn12) gL_isChange_L_does rfl rfl rfl (by decide +kernel) ⟨by decide, by decide⟩ hN hK hP hD hS hA hE iLW rfl rfl rfl hl.1 (rest := []) (As := [.ref (ad 0), .int (nI 2), .int (nI t), .int (nI 0), .int (nI 0), .int (nI 0), .int (nI 0)]) rfl (Nat.le_of_ble_eq_true rfl) dL_isChange_438 ⟨by show _ ≤ 20; omega, by show _ ≤ 120; omega⟩) hP hD hS hA iLW [] iLW rfl rfl rfl (by decide) rfl (fun _ => rfl) (fun r438 S438 H locs hw hP hD hS => ?_)
                          obtain ⟨hr9, e8⟩ := (O_truncate (IN_of hI) (by omega) hw).1 hth
                          have e9 : S = S438 := (show S438 = S from e8).symm
                          subst e9
                          subst hr9
                          have hP : va_P D vwCl (LW cI cP cS ad la S lp lo lq lb lg) H := hP
                          have hD : va_D A (LW cI cP cS ad la S lp lo lq lb lg) := hD
                          refine lv_iload hx hb dL_isChange_441 (lv_at hl 0 rfl) ?_
                          refine x_cmp_ne (tgt := 450) hx hb (Iff.rfl) dL_isChange_443 (by decide) (fun c443 => ?_) (fun c443 => ?_)
                          · exact absurd rfl c443
                          · refine lv_iconst (v := nI 1) hx hb dL_isChange_446 (by decide) ?_
                            refine lv_goto (tgt := 451) hx hb dL_isChange_447 (by decide) ?_
                            exact x_ret_z hx hb hrt (by first | exact Or.inl rfl | exact Or.inr rfl) hlk hP hD hS dL_isChange_451 ⟨by omega, by omega⟩ ((S, lp, lo, lq, lb, lg)) ⟨rfl, ⟨bk, kc, mi, cn, hI⟩⟩ rfl
                        · exact absurd (by decide) c420
                    · exfalso; omega
                · exfalso; omega
              · exfalso; omega
          · exfalso; omega
        · exfalso; omega
    intro kj36
    refine lv_iload hx hb dL_isChange_18 (lv_at hl 6 rfl) ?_
    refine lv_bipush (v := nI 25) hx hb dL_isChange_20 (by decide) ?_
    refine x_rem (k := two % 25) hx hb dL_isChange_22 (by omega) (by omega) (by omega) rfl ?_
    refine x_if_ne (tgt := 31) hx hb (nI_z (by omega)) dL_isChange_23 (by decide) (fun c23 => ?_) (fun c23 => ?_)
    · refine lv_iload hx hb dL_isChange_31 (lv_at hl 6 rfl) ?_
      refine lv_bipush (v := nI 6) hx hb dL_isChange_33 (by decide) ?_
      refine x_rem (k := two % 6) hx hb dL_isChange_35 (by omega) (by omega) (by omega) rfl ?_
      exact W.widen (by show _ ≤ 0; omega) (by show _ ≤ 0; omega) (kj36 (two % 6) (by show _ ≤ 12; omega) _ _ _ hP hD hS (lv_sub hl [1, 2, 3, 4, 5, 6, 7, 0] rfl))
    · refine lv_bipush (v := nI 12) hx hb dL_isChange_26 (by decide) ?_
      refine lv_goto (tgt := 36) hx hb dL_isChange_28 (by decide) ?_
      exact W.widen (by show _ ≤ 0; omega) (by show _ ≤ 0; omega) (kj36 12 (by show _ ≤ 12; omega) _ _ _ hP hD hS (lv_sub hl [1, 2, 3, 4, 5, 6, 7, 0] rfl))
  intro kj16
  refine lv_iload hx hb dL_isChange_0 (lv_at hl 4 rfl) ?_
  refine lv_bipush (v := nI 9) hx hb dL_isChange_2 (by decide) ?_
  refine x_rem (k := one % 9) hx hb dL_isChange_4 (by omega) (by omega) (by omega) rfl ?_
  refine x_if_ne (tgt := 12) hx hb (nI_z (by omega)) dL_isChange_5 (by decide) (fun c5 => ?_) (fun c5 => ?_)
  · refine lv_iload hx hb dL_isChange_12 (lv_at hl 4 rfl) ?_
    refine lv_iconst (v := nI 2) hx hb dL_isChange_14 (by decide) ?_
    refine x_rem (k := one % 2) hx hb dL_isChange_15 (by omega) (by omega) (by omega) rfl ?_
    exact W.widen (by show _ ≤ 0; omega) (by show _ ≤ 0; omega) (kj16 (one % 2) (by show _ ≤ 2; omega) _ _ _ hP hD hS (lv_sub hl [0, 1, 2, 3, 4, 5, 6] rfl))
  · refine lv_iconst (v := nI 2) hx hb dL_isChange_8 (by decide) ?_
    refine lv_goto (tgt := 16) hx hb dL_isChange_9 (by decide) ?_
    exact W.widen (by show _ ≤ 0; omega) (by show _ ≤ 0; omega) (kj16 2 (by show _ ≤ 2; omega) _ _ _ hP hD hS (lv_sub hl [0, 1, 2, 3, 4, 5, 6] rfl))
