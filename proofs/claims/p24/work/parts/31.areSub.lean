set_option maxHeartbeats 8000000 in
set_option maxRecDepth 100000 in
theorem zL_areSubscribers (l : Launch) (D : va_G) (cI cP cS cL : ClassId) (hfl : l.stackTraces = false) (ad la : Nat → Nat) (hinj : ∀ x y, x < 3 → y < 3 → ad (13 + 5 * x) = ad (13 + 5 * y) → x = y) (S : S4) (lp lo lq lb lg : qF)  (hI0 : INE ad S lp lo lq lb lg) : xWi l yL_areSubscribers wsL_areSubscribers (rmD 11 2200 13200) D [(cI, .int), (cP, .object RX0), (cS, .object RX2)] [.ref (ad 0), .ref (la 2), .ref (la 3), .ref (la 4)] (LW cI cP cS ad la S lp lo lq lb lg) (fun (r : Int32) (_ : Unit) => r = nI 1) (fun (_ : Unit) => LW cI cP cS ad la S lp lo lq lb lg) 2200 13200 := by
  refine xe_N (cc := cL_areSubscribers) (maxL := 14) (ret := (some .boolean)) (by decide) rfl (Nat.le_of_ble_eq_true rfl) ?_
  intro zp ze s zm below meth zc A ls B hE
  obtain ⟨hx, hb, hml, hrt, hts, hown, hnm, hlk, hK, hP, hD, hA, hS, hN, hl⟩ := B
  have hown : s.vm.findClass RL = some zm.cls := hown
  have hl : lv_has ls 14 [(0, .ref (ad 0)), (1, .ref (la 2)), (2, .ref (la 3)), (3, .ref (la 4))] := hl
  have hA : ∀ q, s.heap.size ≤ q → A q := hA
  obtain ⟨bk, kc, mi, cn, hI⟩ := hI0
  have hn50 := IN_n hI
  have hlim50 := IN_lim hI
  have hcn12 := IN_cn hI
  refine lv_aload_n hx hb dL_areSubscribers_0 rfl (lv_at hl 0 rfl) ?_
  refine lv_iconst (v := nI 1) hx hb dL_areSubscribers_1 (by decide) ?_
  refine lv_iconst (v := nI 3) hx hb dL_areSubscribers_2 (by decide) ?_
  refine lv_iconst (v := nI 0) hx hb dL_areSubscribers_3 (by decide) ?_
  refine lv_iconst (v := nI 0) hx hb dL_areSubscribers_4 (by decide) ?_
  refine lv_iconst (v := nI 0) hx hb dL_areSubscribers_5 (by decide) ?_
  refine x_calli (w2 := fun (S6 : S4) => LW cI cP cS ad la S6 lp lo lq lb lg) (wr := []) (x_runL (n := 6) ⟨hx, hb, hml, hown, hts⟩ (fA_state l D cI cP cS cL hfl ad la lp lo lq lb lg (s_lim S) (s_n S) (s_rows S) (s_cc S) (s_ct S) (s_ck S) (s_nr S) (s_cr S) (s_old S) (s_rw S) (s_co S) (s_re S) (s_nu S) (s_ma S) (s_sr S) (s_cp S) (s_pu S) (s_st S) (s_sl S) 0 (nI 3) (nI 0) (nI 0) (nI 0) (by omega) hsx_3) gL_areSubscribers_L_asks rfl rfl rfl (by decide +kernel) ⟨by decide, by decide⟩ hN hK hP hD hS hA hE iLW rfl rfl rfl hl.1 (rest := []) (As := [.ref (ad 0), .int (nI 1), .int (nI 3), .int (nI 0), .int (nI 0), .int (nI 0)]) rfl (Nat.le_of_ble_eq_true rfl) dL_areSubscribers_6 ⟨by show _ ≤ 2200; omega, by show _ ≤ 13200; omega⟩) hP hD hS hA iLW [] iLW rfl rfl rfl (by decide) rfl (fun _ => rfl) (fun r6 S6 H locs hw hP hD hS => ?_)
  obtain ⟨hr9, e8⟩ := O_statex hw
  have e9 : S = S6 := (show S6 = S from e8).symm
  subst e9
  subst hr9
  have hP : va_P D vwCl (LW cI cP cS ad la S lp lo lq lb lg) H := hP
  have hD : va_D A (LW cI cP cS ad la S lp lo lq lb lg) := hD
  refine lv_bipush (v := (-30 : Int32)) hx hb dL_areSubscribers_9 (by decide) ?_
  refine x_cmp_ne (tgt := 75) hx hb (Iff.rfl) dL_areSubscribers_11 (by decide) (fun c11 => ?_) (fun c11 => ?_)
  · exact absurd rfl c11
  · refine lv_aload_n hx hb dL_areSubscribers_14 rfl (lv_at hl 0 rfl) ?_
    refine lv_iconst (v := nI 2) hx hb dL_areSubscribers_15 (by decide) ?_
    refine lv_iconst (v := -1) hx hb dL_areSubscribers_16 (by decide) ?_
    refine lv_iconst (v := nI 0) hx hb dL_areSubscribers_17 (by decide) ?_
    refine lv_iconst (v := nI 0) hx hb dL_areSubscribers_18 (by decide) ?_
    refine lv_iconst (v := nI 0) hx hb dL_areSubscribers_19 (by decide) ?_
    refine x_calli (w2 := fun (S20 : S4) => LW cI cP cS ad la S20 lp lo lq lb lg) (wr := []) (x_runL (n := 6) ⟨hx, hb, hml, hown, hts⟩ (fA_lag l D cI cP cS cL hfl ad la lp lo lq lb lg (s_lim S) (s_n S) (s_rows S) (s_cc S) (s_ct S) (s_ck S) (s_nr S) (s_cr S) (s_old S) (s_rw S) (s_co S) (s_re S) (s_nu S) (s_ma S) (s_sr S) (s_cp S) (s_pu S) (s_st S) (s_sl S) 0 (-1) (nI 0) (nI 0) (nI 0) (by omega) hsx_m (IN_sts hI 0 (by omega)) (IN_sls hI 0 (by omega)) hn50) gL_areSubscribers_L_asks rfl rfl rfl (by decide +kernel) ⟨by decide, by decide⟩ hN hK hP hD hS hA hE iLW rfl rfl rfl hl.1 (rest := []) (As := [.ref (ad 0), .int (nI 2), .int (-1), .int (nI 0), .int (nI 0), .int (nI 0)]) rfl (Nat.le_of_ble_eq_true rfl) dL_areSubscribers_20 ⟨by show _ ≤ 2200; omega, by show _ ≤ 13200; omega⟩) hP hD hS hA iLW [] iLW rfl rfl rfl (by decide) rfl (fun _ => rfl) (fun r20 S20 H locs hw hP hD hS => ?_)
    obtain ⟨hr9, e8⟩ := O_lagx hw
    have e9 : S = S20 := (show S20 = S from e8).symm
    subst e9
    subst hr9
    have hP : va_P D vwCl (LW cI cP cS ad la S lp lo lq lb lg) H := hP
    have hD : va_D A (LW cI cP cS ad la S lp lo lq lb lg) := hD
    refine lv_bipush (v := (-30 : Int32)) hx hb dL_areSubscribers_23 (by decide) ?_
    refine x_cmp_ne (tgt := 75) hx hb (Iff.rfl) dL_areSubscribers_25 (by decide) (fun c25 => ?_) (fun c25 => ?_)
    · exact absurd rfl c25
    · refine lv_aload_n hx hb dL_areSubscribers_28 rfl (lv_at hl 0 rfl) ?_
      refine lv_iconst (v := nI 3) hx hb dL_areSubscribers_29 (by decide) ?_
      refine lv_iconst (v := nI 0) hx hb dL_areSubscribers_30 (by decide) ?_
      refine lv_iconst (v := nI 2) hx hb dL_areSubscribers_31 (by decide) ?_
      refine lv_iconst (v := nI 0) hx hb dL_areSubscribers_32 (by decide) ?_
      refine lv_iconst (v := nI 0) hx hb dL_areSubscribers_33 (by decide) ?_
      refine x_calli (w2 := fun (S34 : S4) => LW cI cP cS ad la S34 lp lo lq lb lg) (wr := []) (x_runL (n := 6) ⟨hx, hb, hml, hown, hts⟩ (fA_copiedAt l D cI cP cS cL hfl ad la lp lo lq lb lg (s_lim S) (s_n S) (s_rows S) (s_cc S) (s_ct S) (s_ck S) (s_nr S) (s_cr S) (s_old S) (s_rw S) (s_co S) (s_re S) (s_nu S) (s_ma S) (s_sr S) (s_cp S) (s_pu S) (s_st S) (s_sl S) 0 (nI 0) (nI 2) (nI 0) (nI 0) (by omega) (hsx_of (by omega))) gL_areSubscribers_L_asks rfl rfl rfl (by decide +kernel) ⟨by decide, by decide⟩ hN hK hP hD hS hA hE iLW rfl rfl rfl hl.1 (rest := []) (As := [.ref (ad 0), .int (nI 3), .int (nI 0), .int (nI 2), .int (nI 0), .int (nI 0)]) rfl (Nat.le_of_ble_eq_true rfl) dL_areSubscribers_34 ⟨by show _ ≤ 2200; omega, by show _ ≤ 13200; omega⟩) hP hD hS hA iLW [] iLW rfl rfl rfl (by decide) rfl (fun _ => rfl) (fun r34 S34 H locs hw hP hD hS => ?_)
      obtain ⟨hr9, e8⟩ := O_copiedAtx hw
      have e9 : S = S34 := (show S34 = S from e8).symm
      subst e9
      subst hr9
      have hP : va_P D vwCl (LW cI cP cS ad la S lp lo lq lb lg) H := hP
      have hD : va_D A (LW cI cP cS ad la S lp lo lq lb lg) := hD
      refine lv_bipush (v := (-30 : Int32)) hx hb dL_areSubscribers_37 (by decide) ?_
      refine x_cmp_ne (tgt := 75) hx hb (Iff.rfl) dL_areSubscribers_39 (by decide) (fun c39 => ?_) (fun c39 => ?_)
      · exact absurd rfl c39
      · refine lv_aload_n hx hb dL_areSubscribers_42 rfl (lv_at hl 0 rfl) ?_
        refine lv_iconst (v := nI 4) hx hb dL_areSubscribers_43 (by decide) ?_
        refine lv_iconst (v := nI 0) hx hb dL_areSubscribers_44 (by decide) ?_
        refine lv_iconst (v := nI 0) hx hb dL_areSubscribers_45 (by decide) ?_
        refine lv_bipush (v := nI 12) hx hb dL_areSubscribers_46 (by decide) ?_
        refine lv_iconst (v := nI 0) hx hb dL_areSubscribers_48 (by decide) ?_
        refine x_calli (w2 := fun (S49 : S4) => LW cI cP cS ad la S49 lp lo lq lb lg) (wr := []) (x_runL (n := 6) ⟨hx, hb, hml, hown, hts⟩ (fA_seen l D cI cP cS cL hfl ad la lp lo lq lb lg (s_lim S) (s_n S) (s_rows S) (s_cc S) (s_ct S) (s_ck S) (s_nr S) (s_cr S) (s_old S) (s_rw S) (s_co S) (s_re S) (s_nu S) (s_ma S) (s_sr S) (s_cp S) (s_pu S) (s_st S) (s_sl S) 0 (nI 0) (nI 0) (nI 12) (nI 0) (by omega) (hsx_of (by omega))) gL_areSubscribers_L_asks rfl rfl rfl (by decide +kernel) ⟨by decide, by decide⟩ hN hK hP hD hS hA hE iLW rfl rfl rfl hl.1 (rest := []) (As := [.ref (ad 0), .int (nI 4), .int (nI 0), .int (nI 0), .int (nI 12), .int (nI 0)]) rfl (Nat.le_of_ble_eq_true rfl) dL_areSubscribers_49 ⟨by show _ ≤ 2200; omega, by show _ ≤ 13200; omega⟩) hP hD hS hA iLW [] iLW rfl rfl rfl (by decide) rfl (fun _ => rfl) (fun r49 S49 H locs hw hP hD hS => ?_)
        obtain ⟨hr9, e8⟩ := O_seenx hw
        have e9 : S = S49 := (show S49 = S from e8).symm
        subst e9
        subst hr9
        have hP : va_P D vwCl (LW cI cP cS ad la S lp lo lq lb lg) H := hP
        have hD : va_D A (LW cI cP cS ad la S lp lo lq lb lg) := hD
        refine lv_bipush (v := (-30 : Int32)) hx hb dL_areSubscribers_52 (by decide) ?_
        refine x_cmp_ne (tgt := 75) hx hb (Iff.rfl) dL_areSubscribers_54 (by decide) (fun c54 => ?_) (fun c54 => ?_)
        · exact absurd rfl c54
        · refine lv_aload_n hx hb dL_areSubscribers_57 rfl (lv_at hl 0 rfl) ?_
          refine lv_iconst (v := nI 5) hx hb dL_areSubscribers_58 (by decide) ?_
          refine lv_iconst (v := nI 3) hx hb dL_areSubscribers_59 (by decide) ?_
          refine lv_iconst (v := nI 0) hx hb dL_areSubscribers_60 (by decide) ?_
          refine lv_iconst (v := nI 0) hx hb dL_areSubscribers_61 (by decide) ?_
          refine lv_iconst (v := nI 0) hx hb dL_areSubscribers_62 (by decide) ?_
          refine x_calli (w2 := fun (S63 : S4) => LW cI cP cS ad la S63 lp lo lq lb lg) (wr := []) (x_runL (n := 6) ⟨hx, hb, hml, hown, hts⟩ (fA_isFaithful l D cI cP cS cL hfl ad la lp lo lq lb lg (s_lim S) (s_n S) (s_rows S) (s_cc S) (s_ct S) (s_ck S) (s_nr S) (s_cr S) (s_old S) (s_rw S) (s_co S) (s_re S) (s_nu S) (s_ma S) (s_sr S) (s_cp S) (s_pu S) (s_st S) (s_sl S) 0 (bk 0) (nI 3) (nI 0) (nI 0) (nI 0) (by omega) (IN_f hI (by omega : 0 < 3)).2.2.1 hsx_3 (IN_sts hI 0 (by omega)) (Nat.le_trans (IN_sls hI 0 (by omega)) hn50) (IN_pu hI (by omega)) (H_cp (IN_of hI) (by omega))) gL_areSubscribers_L_asks rfl rfl rfl (by decide +kernel) ⟨by decide, by decide⟩ hN hK hP hD hS hA hE iLW rfl rfl rfl hl.1 (rest := []) (As := [.ref (ad 0), .int (nI 5), .int (nI 3), .int (nI 0), .int (nI 0), .int (nI 0)]) rfl (Nat.le_of_ble_eq_true rfl) dL_areSubscribers_63 ⟨by show _ ≤ 2200; omega, by show _ ≤ 13200; omega⟩) hP hD hS hA iLW [] iLW rfl rfl rfl (by decide) rfl (fun _ => rfl) (fun r63 S63 H locs hw hP hD hS => ?_)
          obtain ⟨hr9, e8⟩ := O_faithx hw
          have e9 : S = S63 := (show S63 = S from e8).symm
          subst e9
          subst hr9
          have hP : va_P D vwCl (LW cI cP cS ad la S lp lo lq lb lg) H := hP
          have hD : va_D A (LW cI cP cS ad la S lp lo lq lb lg) := hD
          refine lv_bipush (v := (-30 : Int32)) hx hb dL_areSubscribers_66 (by decide) ?_
          refine x_cmp_ne (tgt := 75) hx hb (Iff.rfl) dL_areSubscribers_68 (by decide) (fun c68 => ?_) (fun c68 => ?_)
          · exact absurd rfl c68
          · refine lv_iconst (v := nI 1) hx hb dL_areSubscribers_71 (by decide) ?_
            refine lv_goto (tgt := 76) hx hb dL_areSubscribers_72 (by decide) ?_
            refine lv_istore (lv' := [(4, .int (nI 1)), (0, .ref (ad 0)), (1, .ref (la 2)), (2, .ref (la 3)), (3, .ref (la 4))]) hx hb dL_areSubscribers_76 hl (by decide) rfl (fun ls hl => ?_)
            refine lv_iconst (v := nI 0) hx hb dL_areSubscribers_78 (by decide) ?_
            refine lv_istore (lv' := [(5, .int (nI 0)), (4, .int (nI 1)), (0, .ref (ad 0)), (1, .ref (la 2)), (2, .ref (la 3)), (3, .ref (la 4))]) hx hb dL_areSubscribers_79 hl (by decide) rfl (fun ls hl => ?_)
            refine x_loopc (nL := 14) (fun (k : Nat) => k ≤ 3) (fun (k : Nat) => 3 - k) (fun (k : Nat) => 20 + 660 * k) (fun (k : Nat) => 120 + 3960 * k) (fun (k : Nat) => LW cI cP cS ad la S lp lo lq lb lg) (fun (k : Nat) => [(0, .ref (ad 0)), (1, .ref (la 2)), (2, .ref (la 3)), (3, .ref (la 4)), (4, .int (nI 1)), (5, .int (nI k))]) (fun (k : Nat) => []) ?_ 0 (Nat.zero_le 3) (by show _ ≤ 20 + 660 * 0; omega) (by show _ ≤ 120 + 3960 * 0; omega) hP hD hS (lv_sub hl [2, 3, 4, 5, 1, 0] rfl)
            intro x9 hI81 ih81 H locs ls hP hD hS hl
            obtain ⟨k, h9⟩ : ∃ z, z = x9 := ⟨x9, rfl⟩
            subst h9
            have hP : va_P D vwCl (LW cI cP cS ad la S lp lo lq lb lg) H := hP
            have hD : va_D A (LW cI cP cS ad la S lp lo lq lb lg) := hD
            have hl : lv_has ls 14 [(0, .ref (ad 0)), (1, .ref (la 2)), (2, .ref (la 3)), (3, .ref (la 4)), (4, .int (nI 1)), (5, .int (nI k))] := hl
            show W _ _ _ _ _ _ _ _ _ _ _ _ (20 + 660 * k) (120 + 3960 * k) _ _
            have hk9 := hI81
            refine lv_iload hx hb dL_areSubscribers_81 (lv_at hl 5 rfl) ?_
            refine lv_iconst (v := nI 3) hx hb dL_areSubscribers_83 (by decide) ?_
            refine x_cmp_ge (tgt := 538) hx hb (nI_leI (a := 3) (b := k) (by omega) (by omega)) dL_areSubscribers_84 (by decide) (fun c84 => ?_) (fun c84 => ?_)
            · refine lv_iload hx hb dL_areSubscribers_538 (lv_at hl 4 rfl) ?_
              exact x_ret_z hx hb hrt (by first | exact Or.inl rfl | exact Or.inr rfl) hlk hP hD hS dL_areSubscribers_540 ⟨by omega, by omega⟩ (()) rfl rfl
            · refine lv_iload hx hb dL_areSubscribers_87 (lv_at hl 4 rfl) ?_
              refine x_if_eq (tgt := 538) hx hb (nI_z (by omega)) dL_areSubscribers_89 (by decide) (fun c89 => ?_) (fun c89 => ?_)
              · exfalso; omega
              · obtain ⟨hf1, hf2, hf3, hf4, hf5⟩ := IN_f hI (i := k) (by omega)
                refine lv_bipush (v := nI 7) hx hb dL_areSubscribers_92 (by decide) ?_
                refine lv_iload hx hb dL_areSubscribers_94 (lv_at hl 5 rfl) ?_
                refine x_mul (k := 7 * k) hx hb dL_areSubscribers_96 rfl ?_
                refine lv_istore (lv' := [(6, .int (nI (7 * k))), (0, .ref (ad 0)), (1, .ref (la 2)), (2, .ref (la 3)), (3, .ref (la 4)), (4, .int (nI 1)), (5, .int (nI k))]) hx hb dL_areSubscribers_97 hl (by decide) rfl (fun ls hl => ?_)
                refine x_join (nL := 14) (D := D) (A := A) (H0 := s.heap) (fun (on : Nat) => (on = 1 ∧ (s_st S k = 1 ∨ s_st S k = 2)) ∨ (on = 0 ∧ ¬ (s_st S k = 1 ∨ s_st S k = 2))) 124 (fun (on : Nat) => 20 + 660 * k) (fun (on : Nat) => 120 + 3960 * k) (fun (on : Nat) => LW cI cP cS ad la S lp lo lq lb lg) (fun (on : Nat) => [(0, .ref (ad 0)), (1, .ref (la 2)), (2, .ref (la 3)), (3, .ref (la 4)), (4, .int (nI 1)), (5, .int (nI k)), (6, .int (nI (7 * k)))]) (fun (on : Nat) => [.int (nI on)]) ?_ ?_
                · intro x9 hj9 H locs ls hP hD hS hl
                  obtain ⟨on, h9⟩ : ∃ z, z = x9 := ⟨x9, rfl⟩
                  subst h9
                  have hP : va_P D vwCl (LW cI cP cS ad la S lp lo lq lb lg) H := hP
                  have hD : va_D A (LW cI cP cS ad la S lp lo lq lb lg) := hD
                  have hl : lv_has ls 14 [(0, .ref (ad 0)), (1, .ref (la 2)), (2, .ref (la 3)), (3, .ref (la 4)), (4, .int (nI 1)), (5, .int (nI k)), (6, .int (nI (7 * k)))] := hl
                  show W _ _ _ _ _ _ _ _ _ _ _ _ (20 + 660 * k) (120 + 3960 * k) _ _
                  have hon := hj9
                  rcases hon with ⟨rfl, h12⟩ | ⟨rfl, h12⟩
                  · have hf6 := hf5 h12
                    refine lv_istore (lv' := [(7, .int (nI 1)), (0, .ref (ad 0)), (1, .ref (la 2)), (2, .ref (la 3)), (3, .ref (la 4)), (4, .int (nI 1)), (5, .int (nI k)), (6, .int (nI (7 * k)))]) hx hb dL_areSubscribers_124 hl (by decide) rfl (fun ls hl => ?_)
                    refine lv_aload_n hx hb dL_areSubscribers_126 rfl (lv_at hl 1 rfl) ?_
                    refine lv_iload hx hb dL_areSubscribers_127 (lv_at hl 6 rfl) ?_
                    refine x_calli (w2 := fun (S129 : S4) => LW cI cP cS ad la S129 lp lo lq lb lg) (wr := []) (x_runVE (n := 1) ⟨hx, hb, hml, hown, hts⟩ (fN_state l D cI cP cS cL hfl ad la lp lo lq lb lg (s_lim S) (s_n S) (s_rows S) (s_cc S) (s_ct S) (s_ck S) (s_nr S) (s_cr S) (s_old S) (s_rw S) (s_co S) (s_re S) (s_nu S) (s_ma S) (s_sr S) (s_cp S) (s_pu S) (s_st S) (s_sl S) k (nI k) (by omega) (hsx_of (by omega)) (nx_s (by omega))) gL_areSubscribers_X4_state rfl rfl rfl (by decide +kernel) ⟨by decide, by decide⟩ hN hK hP hD hS hA hE iLW rfl rfl (ci := 4) (q0 := 0) rfl rfl rfl rfl hl.1 (rest := []) (As := [.int (nI k)]) rfl (Nat.le_of_ble_eq_true rfl) dL_areSubscribers_129 ⟨by show _ ≤ 2200; omega, by show _ ≤ 13200; omega⟩) hP hD hS hA iLW [] iLW rfl rfl rfl (by decide) rfl (fun _ => rfl) (fun r129 S129 H locs hw hP hD hS => ?_)
                    obtain ⟨⟨-, -, hr9⟩, e8⟩ := hw
                    have e9 : S = S129 := (show S129 = S from e8).symm
                    subst e9
                    subst hr9
                    have hP : va_P D vwCl (LW cI cP cS ad la S lp lo lq lb lg) H := hP
                    have hD : va_D A (LW cI cP cS ad la S lp lo lq lb lg) := hD
                    refine lv_aload_n hx hb dL_areSubscribers_132 rfl (lv_at hl 3 rfl) ?_
                    refine lv_iload hx hb dL_areSubscribers_133 (lv_at hl 7 rfl) ?_
                    refine lv_iconst (v := nI 1) hx hb dL_areSubscribers_135 (by decide) ?_
                    refine x_add (k := (7 * k) + 1) hx hb dL_areSubscribers_136 rfl ?_
                    refine x_ald (v := nI (s_st S k)) hx hb hK hP 40 0 rfl rfl (by omega) (by omega) (IN_b1 hI (by omega)) dL_areSubscribers_137 ?_
                    refine x_cmp_ne (tgt := 194) hx hb (Iff.rfl) dL_areSubscribers_138 (by decide) (fun c138 => ?_) (fun c138 => ?_)
                    · exact absurd rfl c138
                    · refine lv_aload_n hx hb dL_areSubscribers_141 rfl (lv_at hl 1 rfl) ?_
                      refine lv_iload hx hb dL_areSubscribers_142 (lv_at hl 6 rfl) ?_
                      refine x_calli (w2 := fun (S144 : S4) => LW cI cP cS ad la S144 lp lo lq lb lg) (wr := []) (x_runVE (n := 1) ⟨hx, hb, hml, hown, hts⟩ (fN_lag l D cI cP cS cL hfl ad la lp lo lq lb lg (s_lim S) (s_n S) (s_rows S) (s_cc S) (s_ct S) (s_ck S) (s_nr S) (s_cr S) (s_old S) (s_rw S) (s_co S) (s_re S) (s_nu S) (s_ma S) (s_sr S) (s_cp S) (s_pu S) (s_st S) (s_sl S) k (nI k) (by omega) (hsx_of (by omega)) (IN_sts hI k (by omega)) (IN_sls hI k (by omega)) hn50 (nx_s (by omega))) gL_areSubscribers_X4_lag rfl rfl rfl (by decide +kernel) ⟨by decide, by decide⟩ hN hK hP hD hS hA hE iLW rfl rfl (ci := 4) (q0 := 0) rfl rfl rfl rfl hl.1 (rest := []) (As := [.int (nI k)]) rfl (Nat.le_of_ble_eq_true rfl) dL_areSubscribers_144 ⟨by show _ ≤ 2200; omega, by show _ ≤ 13200; omega⟩) hP hD hS hA iLW [] iLW rfl rfl rfl (by decide) rfl (fun _ => rfl) (fun r144 S144 H locs hw hP hD hS => ?_)
                      obtain ⟨⟨-, -, hr9⟩, e8⟩ := hw
                      have e9 : S = S144 := (show S144 = S from e8).symm
                      subst e9
                      rw [qLag_i h12] at hr9
                      subst hr9
                      have hP : va_P D vwCl (LW cI cP cS ad la S lp lo lq lb lg) H := hP
                      have hD : va_D A (LW cI cP cS ad la S lp lo lq lb lg) := hD
                      refine lv_iload hx hb dL_areSubscribers_147 (lv_at hl 0 rfl) ?_
                      refine x_if_eq (tgt := 165) hx hb (nI_z (by omega)) dL_areSubscribers_149 (by decide) (fun c149 => ?_) (fun c149 => ?_)
                      · exfalso; omega
                      · refine lv_aload_n hx hb dL_areSubscribers_152 rfl (lv_at hl 4 rfl) ?_
                        refine lv_iconst (v := nI 0) hx hb dL_areSubscribers_153 (by decide) ?_
                        refine x_ald (v := nI (s_n S)) hx hb hK hP 41 0 rfl rfl (by omega) (by omega) (IN_g0 hI) dL_areSubscribers_154 ?_
                        refine lv_aload_n hx hb dL_areSubscribers_155 rfl (lv_at hl 3 rfl) ?_
                        refine lv_iload hx hb dL_areSubscribers_156 (lv_at hl 7 rfl) ?_
                        refine lv_iconst (v := nI 2) hx hb dL_areSubscribers_158 (by decide) ?_
                        refine x_add (k := (7 * k) + 2) hx hb dL_areSubscribers_159 rfl ?_
                        refine x_ald (v := nI (s_sl S k)) hx hb hK hP 40 0 rfl rfl (by omega) (by omega) (IN_b2 hI (by omega)) dL_areSubscribers_160 ?_
                        refine x_sub (k := (s_n S) - (s_sl S k)) hx hb dL_areSubscribers_161 (by omega) rfl ?_
                        refine lv_goto (tgt := 166) hx hb dL_areSubscribers_162 (by decide) ?_
                        refine x_cmp_ne (tgt := 194) hx hb (Iff.rfl) dL_areSubscribers_166 (by decide) (fun c166 => ?_) (fun c166 => ?_)
                        · exact absurd rfl c166
                        · refine lv_aload_n hx hb dL_areSubscribers_169 rfl (lv_at hl 1 rfl) ?_
                          refine lv_iload hx hb dL_areSubscribers_170 (lv_at hl 6 rfl) ?_
                          refine x_calli (w2 := fun (S172 : S4) => LW cI cP cS ad la S172 lp lo lq lb lg) (wr := []) (x_runVE (n := 1) ⟨hx, hb, hml, hown, hts⟩ (fN_lag l D cI cP cS cL hfl ad la lp lo lq lb lg (s_lim S) (s_n S) (s_rows S) (s_cc S) (s_ct S) (s_ck S) (s_nr S) (s_cr S) (s_old S) (s_rw S) (s_co S) (s_re S) (s_nu S) (s_ma S) (s_sr S) (s_cp S) (s_pu S) (s_st S) (s_sl S) k (nI k) (by omega) (hsx_of (by omega)) (IN_sts hI k (by omega)) (IN_sls hI k (by omega)) hn50 (nx_s (by omega))) gL_areSubscribers_X4_lag rfl rfl rfl (by decide +kernel) ⟨by decide, by decide⟩ hN hK hP hD hS hA hE iLW rfl rfl (ci := 4) (q0 := 0) rfl rfl rfl rfl hl.1 (rest := []) (As := [.int (nI k)]) rfl (Nat.le_of_ble_eq_true rfl) dL_areSubscribers_172 ⟨by show _ ≤ 2200; omega, by show _ ≤ 13200; omega⟩) hP hD hS hA iLW [] iLW rfl rfl rfl (by decide) rfl (fun _ => rfl) (fun r172 S172 H locs hw hP hD hS => ?_)
                          obtain ⟨⟨-, -, hr9⟩, e8⟩ := hw
                          have e9 : S = S172 := (show S172 = S from e8).symm
                          subst e9
                          rw [qLag_i h12] at hr9
                          subst hr9
                          have hP : va_P D vwCl (LW cI cP cS ad la S lp lo lq lb lg) H := hP
                          have hD : va_D A (LW cI cP cS ad la S lp lo lq lb lg) := hD
                          refine lv_iload hx hb dL_areSubscribers_175 (lv_at hl 0 rfl) ?_
                          refine x_if_eq (tgt := 186) hx hb (nI_z (by omega)) dL_areSubscribers_177 (by decide) (fun c177 => ?_) (fun c177 => ?_)
                          · exfalso; omega
                          · refine lv_aload_n hx hb dL_areSubscribers_180 rfl (lv_at hl 4 rfl) ?_
                            refine lv_iconst (v := nI 2) hx hb dL_areSubscribers_181 (by decide) ?_
                            refine x_ald (v := nI (s_lim S)) hx hb hK hP 41 0 rfl rfl (by omega) (by omega) (IN_g2 hI) dL_areSubscribers_182 ?_
                            refine lv_goto (tgt := 187) hx hb dL_areSubscribers_183 (by decide) ?_
                            refine x_cmp_gt (tgt := 194) hx hb (nI_ltI (a := (s_lim S)) (b := ((s_n S) - (s_sl S k))) (by omega) (by omega)) dL_areSubscribers_187 (by decide) (fun c187 => ?_) (fun c187 => ?_)
                            · exfalso; omega
                            · refine lv_iconst (v := nI 1) hx hb dL_areSubscribers_190 (by decide) ?_
                              refine lv_goto (tgt := 195) hx hb dL_areSubscribers_191 (by decide) ?_
                              refine lv_istore (lv' := [(4, .int (nI 1)), (7, .int (nI 1)), (0, .ref (ad 0)), (1, .ref (la 2)), (2, .ref (la 3)), (3, .ref (la 4)), (5, .int (nI k)), (6, .int (nI (7 * k)))]) hx hb dL_areSubscribers_195 hl (by decide) rfl (fun ls hl => ?_)
                              refine lv_iconst (v := nI 0) hx hb dL_areSubscribers_197 (by decide) ?_
                              refine lv_istore (lv' := [(8, .int (nI 0)), (4, .int (nI 1)), (7, .int (nI 1)), (0, .ref (ad 0)), (1, .ref (la 2)), (2, .ref (la 3)), (3, .ref (la 4)), (5, .int (nI k)), (6, .int (nI (7 * k)))]) hx hb dL_areSubscribers_198 hl (by decide) rfl (fun ls hl => ?_)
                              refine x_loopc (nL := 14) (fun (t : Nat) => t ≤ 2) (fun (t : Nat) => 2 - t) (fun (t : Nat) => 20 + 660 * k + 10 + 300 * t) (fun (t : Nat) => 120 + 3960 * k + 60 + 1800 * t) (fun (t : Nat) => LW cI cP cS ad la S lp lo lq lb lg) (fun (t : Nat) => [(0, .ref (ad 0)), (1, .ref (la 2)), (2, .ref (la 3)), (3, .ref (la 4)), (4, .int (nI 1)), (5, .int (nI k)), (6, .int (nI (7 * k))), (7, .int (nI 1)), (8, .int (nI t))]) (fun (t : Nat) => []) ?_ 0 (Nat.zero_le 2) (by show _ ≤ 20 + 660 * k + 10 + 300 * 0; omega) (by show _ ≤ 120 + 3960 * k + 60 + 1800 * 0; omega) hP hD hS (lv_sub hl [3, 4, 5, 6, 1, 7, 8, 2, 0] rfl)
                              intro x9 hI200 ih200 H locs ls hP hD hS hl
                              obtain ⟨t, h9⟩ : ∃ z, z = x9 := ⟨x9, rfl⟩
                              subst h9
                              have hP : va_P D vwCl (LW cI cP cS ad la S lp lo lq lb lg) H := hP
                              have hD : va_D A (LW cI cP cS ad la S lp lo lq lb lg) := hD
                              have hl : lv_has ls 14 [(0, .ref (ad 0)), (1, .ref (la 2)), (2, .ref (la 3)), (3, .ref (la 4)), (4, .int (nI 1)), (5, .int (nI k)), (6, .int (nI (7 * k))), (7, .int (nI 1)), (8, .int (nI t))] := hl
                              show W _ _ _ _ _ _ _ _ _ _ _ _ (20 + 660 * k + 10 + 300 * t) (120 + 3960 * k + 60 + 1800 * t) _ _
                              have ht9 := hI200
                              refine lv_iload hx hb dL_areSubscribers_200 (lv_at hl 8 rfl) ?_
                              refine lv_iconst (v := nI 2) hx hb dL_areSubscribers_202 (by decide) ?_
                              refine x_cmp_ge (tgt := 532) hx hb (nI_leI (a := 2) (b := t) (by omega) (by omega)) dL_areSubscribers_203 (by decide) (fun c203 => ?_) (fun c203 => ?_)
                              · refine x_iinc (k := 5) (o := 1) (v := k + 1) (lv' := [(5, .int (nI (k + 1))), (0, .ref (ad 0)), (1, .ref (la 2)), (2, .ref (la 3)), (3, .ref (la 4)), (4, .int (nI 1)), (6, .int (nI (7 * k))), (7, .int (nI 1)), (8, .int (nI t))]) hx hb dL_areSubscribers_532 hl rfl rfl rfl (by decide) rfl (fun ls hl => ?_)
                                refine lv_goto (tgt := 81) hx hb dL_areSubscribers_535 (by decide) ?_
                                exact W.widen (by show _ ≤ 20 + 660 * (k + 1); omega) (by show _ ≤ 120 + 3960 * (k + 1); omega) (ih81 (k + 1) (by show k + 1 ≤ 3; omega) (by show 3 - (k + 1) < 3 - k; omega) _ _ _ hP hD hS (lv_sub hl [1, 2, 3, 4, 5, 0] rfl))
                              · refine lv_iload hx hb dL_areSubscribers_206 (lv_at hl 4 rfl) ?_
                                refine x_if_eq (tgt := 532) hx hb (nI_z (by omega)) dL_areSubscribers_208 (by decide) (fun c208 => ?_) (fun c208 => ?_)
                                · exfalso; omega
                                · have hft := IN_ft hI (i := k) (t := t) (by omega) (by omega)
                                  rcases (show kc k t = 0 ∨ (∃ c9, kc k t = c9 + 1 ∧ mi k t = 0) ∨ ∃ c9, kc k t = c9 + 1 ∧ mi k t = 1 by rcases (show kc k t = 0 ∨ (0 < kc k t ∧ mi k t = 0) ∨ (0 < kc k t ∧ mi k t = 1) by omega) with z | z | z; exact Or.inl z; exact Or.inr (Or.inl ⟨kc k t - 1, by omega, z.2⟩); exact Or.inr (Or.inr ⟨kc k t - 1, by omega, z.2⟩)) with hkc | ⟨c9, hkc, hmi⟩ | ⟨c9, hkc, hmi⟩
                                  · refine lv_aload_n hx hb dL_areSubscribers_211 rfl (lv_at hl 0 rfl) ?_
                                    refine lv_iload hx hb dL_areSubscribers_212 (lv_at hl 5 rfl) ?_
                                    refine lv_iload hx hb dL_areSubscribers_214 (lv_at hl 8 rfl) ?_
                                    refine x_calli (w2 := fun (S216 : S4) => LW cI cP cS ad la S216 lp lo lq lb lg) (wr := []) (x_runVE (n := 2) ⟨hx, hb, hml, hown, hts⟩ (fN_copiedAt l D cI cP cS cL hfl ad la lp lo lq lb lg (s_lim S) (s_n S) (s_rows S) (s_cc S) (s_ct S) (s_ck S) (s_nr S) (s_cr S) (s_old S) (s_rw S) (s_co S) (s_re S) (s_nu S) (s_ma S) (s_sr S) (s_cp S) (s_pu S) (s_st S) (s_sl S) k (nI k) (nI t) (by omega) (hsx_of (by omega)) (nx_st (by omega) (by omega))) gL_areSubscribers_X4_copiedAt rfl rfl rfl (by decide +kernel) ⟨by decide, by decide⟩ hN hK hP hD hS hA hE iLW rfl rfl (ci := 4) (q0 := 0) rfl rfl rfl rfl hl.1 (rest := []) (As := [.int (nI k), .int (nI t)]) rfl (Nat.le_of_ble_eq_true rfl) dL_areSubscribers_216 ⟨by show _ ≤ 2200; omega, by show _ ≤ 13200; omega⟩) hP hD hS hA iLW [] iLW rfl rfl rfl (by decide) rfl (fun _ => rfl) (fun r216 S216 H locs hw hP hD hS => ?_)
                                    obtain ⟨hr9, e8⟩ := N_copiedAt (by omega) hw
                                    have e9 : S = S216 := (show S216 = S from e8).symm
                                    subst e9
                                    rw [IN_cp hI (by omega) (by omega)] at hr9
                                    rw [hkc, eX_0] at hr9
                                    subst hr9
                                    have hP : va_P D vwCl (LW cI cP cS ad la S lp lo lq lb lg) H := hP
                                    have hD : va_D A (LW cI cP cS ad la S lp lo lq lb lg) := hD
                                    refine lv_istore (lv' := [(9, .int (-1)), (0, .ref (ad 0)), (1, .ref (la 2)), (2, .ref (la 3)), (3, .ref (la 4)), (4, .int (nI 1)), (5, .int (nI k)), (6, .int (nI (7 * k))), (7, .int (nI 1)), (8, .int (nI t))]) hx hb dL_areSubscribers_219 hl (by decide) rfl (fun ls hl => ?_)
                                    refine lv_aload_n hx hb dL_areSubscribers_221 rfl (lv_at hl 1 rfl) ?_
                                    refine lv_iconst (v := nI 5) hx hb dL_areSubscribers_222 (by decide) ?_
                                    refine lv_iload hx hb dL_areSubscribers_223 (lv_at hl 6 rfl) ?_
                                    refine lv_iload hx hb dL_areSubscribers_225 (lv_at hl 9 rfl) ?_
                                    refine lv_iconst (v := nI 0) hx hb dL_areSubscribers_227 (by decide) ?_
                                    refine lv_iconst (v := nI 0) hx hb dL_areSubscribers_228 (by decide) ?_
                                    refine x_calli (w2 := fun (S229 : S4) => LW cI cP cS ad la S229 lp lo lq lb lg) (wr := []) (x_runL (n := 6) ⟨hx, hb, hml, hown, hts⟩ (fA_isFaithful l D cI cP cS cL hfl ad la lp lo lq lb lg (s_lim S) (s_n S) (s_rows S) (s_cc S) (s_ct S) (s_ck S) (s_nr S) (s_cr S) (s_old S) (s_rw S) (s_co S) (s_re S) (s_nu S) (s_ma S) (s_sr S) (s_cp S) (s_pu S) (s_st S) (s_sl S) k (bk k) (nI k) (nI t) (nI 0) (nI 0) (by omega) (IN_f hI (by omega : k < 3)).2.2.1 (hsx_of (by omega)) (IN_sts hI k (by omega)) (Nat.le_trans (IN_sls hI k (by omega)) hn50) (IN_pu hI (by omega)) (H_cp (IN_of hI) (by omega))) gL_areSubscribers_L_asks rfl rfl rfl (by decide +kernel) ⟨by decide, by decide⟩ hN hK hP hD hS hA hE iLW rfl rfl rfl hl.1 (rest := []) (As := [.ref (ad 0), .int (nI 5), .int (nI k), .int (nI t), .int (nI 0), .int (nI 0)]) rfl (Nat.le_of_ble_eq_true rfl) dL_areSubscribers_229 ⟨by show _ ≤ 2200; omega, by show _ ≤ 13200; omega⟩) hP hD hS hA iLW [] iLW rfl rfl rfl (by decide) rfl (fun _ => rfl) (fun r229 S229 H locs hw hP hD hS => ?_)
                                    obtain ⟨hr9, e8⟩ := (O_faith (IN_of hI) (by omega) (by omega) hw).1 (fun z => by have := z.2; omega)
                                    have e9 : S = S229 := (show S229 = S from e8).symm
                                    subst e9
                                    subst hr9
                                    have hP : va_P D vwCl (LW cI cP cS ad la S lp lo lq lb lg) H := hP
                                    have hD : va_D A (LW cI cP cS ad la S lp lo lq lb lg) := hD
                                    refine lv_istore (lv' := [(10, .int ((-10 : Int32))), (9, .int (-1)), (0, .ref (ad 0)), (1, .ref (la 2)), (2, .ref (la 3)), (3, .ref (la 4)), (4, .int (nI 1)), (5, .int (nI k)), (6, .int (nI (7 * k))), (7, .int (nI 1)), (8, .int (nI t))]) hx hb dL_areSubscribers_232 hl (by decide) rfl (fun ls hl => ?_)
                                    refine lv_iload hx hb dL_areSubscribers_234 (lv_at hl 1 rfl) ?_
                                    refine lv_aload_n hx hb dL_areSubscribers_236 rfl (lv_at hl 4 rfl) ?_
                                    refine lv_iload hx hb dL_areSubscribers_237 (lv_at hl 8 rfl) ?_
                                    refine lv_iconst (v := nI 3) hx hb dL_areSubscribers_239 (by decide) ?_
                                    refine x_add (k := (7 * k) + 3) hx hb dL_areSubscribers_240 rfl ?_
                                    refine lv_iload hx hb dL_areSubscribers_241 (lv_at hl 10 rfl) ?_
                                    refine x_add (k := ((7 * k) + 3) + t) hx hb dL_areSubscribers_243 rfl ?_
                                    refine x_ald (v := -1) hx hb hK hP 40 0 rfl rfl (by omega) (by omega) ((IN_b3 hI (by omega) (by omega)).trans (by rw [hkc, eX_0])) dL_areSubscribers_244 ?_
                                    refine x_cmp_ne (tgt := 296) hx hb (Iff.rfl) dL_areSubscribers_245 (by decide) (fun c245 => ?_) (fun c245 => ?_)
                                    · exact absurd rfl c245
                                    · refine lv_iload hx hb dL_areSubscribers_248 (lv_at hl 9 rfl) ?_
                                      refine x_if_eq (tgt := 285) hx hb (nI_z (by omega)) dL_areSubscribers_250 (by decide) (fun c250 => ?_) (fun c250 => ?_)
                                      · exfalso; omega
                                      · refine lv_iload hx hb dL_areSubscribers_253 (lv_at hl 1 rfl) ?_
                                        refine x_if_lt (tgt := 285) hx hb (Iff.rfl) dL_areSubscribers_255 (by decide) (fun c255 => ?_) (fun c255 => ?_)
                                        · refine lv_iload hx hb dL_areSubscribers_285 (lv_at hl 0 rfl) ?_
                                          refine lv_bipush (v := (-10 : Int32)) hx hb dL_areSubscribers_287 (by decide) ?_
                                          refine x_cmp_ne (tgt := 296) hx hb (Iff.rfl) dL_areSubscribers_289 (by decide) (fun c289 => ?_) (fun c289 => ?_)
                                          · exact absurd rfl c289
                                          · refine lv_iconst (v := nI 1) hx hb dL_areSubscribers_292 (by decide) ?_
                                            refine lv_goto (tgt := 297) hx hb dL_areSubscribers_293 (by decide) ?_
                                            refine lv_istore (lv' := [(4, .int (nI 1)), (10, .int ((-10 : Int32))), (9, .int (-1)), (0, .ref (ad 0)), (1, .ref (la 2)), (2, .ref (la 3)), (3, .ref (la 4)), (5, .int (nI k)), (6, .int (nI (7 * k))), (7, .int (nI 1)), (8, .int (nI t))]) hx hb dL_areSubscribers_297 hl (by decide) rfl (fun ls hl => ?_)
                                            refine lv_iconst (v := nI 0) hx hb dL_areSubscribers_299 (by decide) ?_
                                            refine lv_istore (lv' := [(11, .int (nI 0)), (4, .int (nI 1)), (10, .int ((-10 : Int32))), (9, .int (-1)), (0, .ref (ad 0)), (1, .ref (la 2)), (2, .ref (la 3)), (3, .ref (la 4)), (5, .int (nI k)), (6, .int (nI (7 * k))), (7, .int (nI 1)), (8, .int (nI t))]) hx hb dL_areSubscribers_300 hl (by decide) rfl (fun ls hl => ?_)
                                            refine x_loopc (nL := 14) (fun (w : Nat) => w ≤ 12) (fun (w : Nat) => 12 - w) (fun (w : Nat) => 20 + 660 * k + 10 + 300 * t + 8 + 20 * w) (fun (w : Nat) => 120 + 3960 * k + 60 + 1800 * t + 48 + 120 * w) (fun (w : Nat) => LW cI cP cS ad la S lp lo lq lb lg) (fun (w : Nat) => [(0, .ref (ad 0)), (1, .ref (la 2)), (2, .ref (la 3)), (3, .ref (la 4)), (4, .int (nI 1)), (5, .int (nI k)), (6, .int (nI (7 * k))), (7, .int (nI 1)), (8, .int (nI t)), (9, .int (-1)), (10, .int ((-10 : Int32))), (11, .int (nI w))]) (fun (w : Nat) => []) ?_ 0 (Nat.zero_le 12) (by show _ ≤ 20 + 660 * k + 10 + 300 * t + 8 + 20 * 0; omega) (by show _ ≤ 120 + 3960 * k + 60 + 1800 * t + 48 + 120 * 0; omega) hP hD hS (lv_sub hl [4, 5, 6, 7, 1, 8, 9, 10, 11, 3, 2, 0] rfl)
                                            intro x9 hI302 ih302 H locs ls hP hD hS hl
                                            obtain ⟨w, h9⟩ : ∃ z, z = x9 := ⟨x9, rfl⟩
                                            subst h9
                                            have hP : va_P D vwCl (LW cI cP cS ad la S lp lo lq lb lg) H := hP
                                            have hD : va_D A (LW cI cP cS ad la S lp lo lq lb lg) := hD
                                            have hl : lv_has ls 14 [(0, .ref (ad 0)), (1, .ref (la 2)), (2, .ref (la 3)), (3, .ref (la 4)), (4, .int (nI 1)), (5, .int (nI k)), (6, .int (nI (7 * k))), (7, .int (nI 1)), (8, .int (nI t)), (9, .int (-1)), (10, .int ((-10 : Int32))), (11, .int (nI w))] := hl
                                            show W _ _ _ _ _ _ _ _ _ _ _ _ (20 + 660 * k + 10 + 300 * t + 8 + 20 * w) (120 + 3960 * k + 60 + 1800 * t + 48 + 120 * w) _ _
                                            have hw9 := hI302
                                            refine lv_iload hx hb dL_areSubscribers_302 (lv_at hl 11 rfl) ?_
                                            refine lv_bipush (v := nI 12) hx hb dL_areSubscribers_304 (by decide) ?_
                                            refine x_cmp_ge (tgt := 526) hx hb (nI_leI (a := 12) (b := w) (by omega) (by omega)) dL_areSubscribers_306 (by decide) (fun c306 => ?_) (fun c306 => ?_)
                                            · refine x_iinc (k := 8) (o := 1) (v := t + 1) (lv' := [(8, .int (nI (t + 1))), (0, .ref (ad 0)), (1, .ref (la 2)), (2, .ref (la 3)), (3, .ref (la 4)), (4, .int (nI 1)), (5, .int (nI k)), (6, .int (nI (7 * k))), (7, .int (nI 1)), (9, .int (-1)), (10, .int ((-10 : Int32))), (11, .int (nI w))]) hx hb dL_areSubscribers_526 hl rfl rfl rfl (by decide) rfl (fun ls hl => ?_)
                                              refine lv_goto (tgt := 200) hx hb dL_areSubscribers_529 (by decide) ?_
                                              exact W.widen (by show _ ≤ 20 + 660 * k + 10 + 300 * (t + 1); omega) (by show _ ≤ 120 + 3960 * k + 60 + 1800 * (t + 1); omega) (ih200 (t + 1) (by show t + 1 ≤ 2; omega) (by show 2 - (t + 1) < 2 - t; omega) _ _ _ hP hD hS (lv_sub hl [1, 2, 3, 4, 5, 6, 7, 8, 0] rfl))
                                            · refine lv_iload hx hb dL_areSubscribers_309 (lv_at hl 4 rfl) ?_
                                              refine x_if_eq (tgt := 526) hx hb (nI_z (by omega)) dL_areSubscribers_311 (by decide) (fun c311 => ?_) (fun c311 => ?_)
                                              · exfalso; omega
                                              · rcases IN_sr hI (i := k) (j := t * 12 + w) (by omega) (by omega) with ⟨y9, ⟨he1, -⟩ | ⟨a, b, c, va9, vb9, vc9, he1, -⟩⟩
                                                · refine lv_aload_n hx hb dL_areSubscribers_314 rfl (lv_at hl 0 rfl) ?_
                                                  refine lv_iload hx hb dL_areSubscribers_315 (lv_at hl 5 rfl) ?_
                                                  refine lv_iload hx hb dL_areSubscribers_317 (lv_at hl 8 rfl) ?_
                                                  refine lv_iload hx hb dL_areSubscribers_319 (lv_at hl 11 rfl) ?_
                                                  refine lv_iconst (v := nI 0) hx hb dL_areSubscribers_321 (by decide) ?_
                                                  refine x_calli (w2 := fun (S322 : S4) => LW cI cP cS ad la S322 lp lo lq lb lg) (wr := []) (x_runVE (n := 4) ⟨hx, hb, hml, hown, hts⟩ (fN_seen l D cI cP cS cL hfl ad la lp lo lq lb lg (s_lim S) (s_n S) (s_rows S) (s_cc S) (s_ct S) (s_ck S) (s_nr S) (s_cr S) (s_old S) (s_rw S) (s_co S) (s_re S) (s_nu S) (s_ma S) (s_sr S) (s_cp S) (s_pu S) (s_st S) (s_sl S) k (nI k) (nI t) (nI w) (nI 0) (by omega) (hsx_of (by omega)) (nx_seen (by omega) (by omega) (by omega) (by omega))) gL_areSubscribers_X4_seen rfl rfl rfl (by decide +kernel) ⟨by decide, by decide⟩ hN hK hP hD hS hA hE iLW rfl rfl (ci := 4) (q0 := 0) rfl rfl rfl rfl hl.1 (rest := []) (As := [.int (nI k), .int (nI t), .int (nI w), .int (nI 0)]) rfl (Nat.le_of_ble_eq_true rfl) dL_areSubscribers_322 ⟨by show _ ≤ 2200; omega, by show _ ≤ 13200; omega⟩) hP hD hS hA iLW [] iLW rfl rfl rfl (by decide) rfl (fun _ => rfl) (fun r322 S322 H locs hw hP hD hS => ?_)
                                                  obtain ⟨hr9, e8⟩ := N_seen (by omega) (by omega) hw
                                                  have e9 : S = S322 := (show S322 = S from e8).symm
                                                  subst e9
                                                  rw [he1, qNum_m] at hr9
                                                  subst hr9
                                                  have hP : va_P D vwCl (LW cI cP cS ad la S lp lo lq lb lg) H := hP
                                                  have hD : va_D A (LW cI cP cS ad la S lp lo lq lb lg) := hD
                                                  refine lv_istore (lv' := [(12, .int (-1)), (0, .ref (ad 0)), (1, .ref (la 2)), (2, .ref (la 3)), (3, .ref (la 4)), (4, .int (nI 1)), (5, .int (nI k)), (6, .int (nI (7 * k))), (7, .int (nI 1)), (8, .int (nI t)), (9, .int (-1)), (10, .int ((-10 : Int32))), (11, .int (nI w))]) hx hb dL_areSubscribers_325 hl (by decide) rfl (fun ls hl => ?_)
                                                  refine lv_iload hx hb dL_areSubscribers_327 (lv_at hl 0 rfl) ?_
                                                  refine lv_iconst (v := -1) hx hb dL_areSubscribers_329 (by decide) ?_
                                                  refine x_cmp_lt (tgt := 408) hx hb (Iff.rfl) dL_areSubscribers_330 (by decide) (fun c330 => ?_) (fun c330 => ?_)
                                                  · exact absurd c330 (by decide)
                                                  · refine lv_iload hx hb dL_areSubscribers_333 (lv_at hl 0 rfl) ?_
                                                    refine lv_bipush (v := nI 100) hx hb dL_areSubscribers_335 (by decide) ?_
                                                    refine x_cmp_ge (tgt := 408) hx hb (Iff.rfl) dL_areSubscribers_337 (by decide) (fun c337 => ?_) (fun c337 => ?_)
                                                    · exact absurd c337 (by decide)
                                                    · refine lv_iload hx hb dL_areSubscribers_340 (lv_at hl 0 rfl) ?_
                                                      refine x_if_ge (tgt := 349) hx hb (Iff.rfl) dL_areSubscribers_342 (by decide) (fun c342 => ?_) (fun c342 => ?_)
                                                      · exact absurd c342 (by decide)
                                                      · refine lv_iconst (v := nI 1) hx hb dL_areSubscribers_345 (by decide) ?_
                                                        refine lv_goto (tgt := 350) hx hb dL_areSubscribers_346 (by decide) ?_
                                                        refine lv_aload_n hx hb dL_areSubscribers_350 rfl (lv_at hl 1 rfl) ?_
                                                        refine lv_iload hx hb dL_areSubscribers_351 (lv_at hl 6 rfl) ?_
                                                        refine lv_iload hx hb dL_areSubscribers_353 (lv_at hl 9 rfl) ?_
                                                        refine lv_iload hx hb dL_areSubscribers_355 (lv_at hl 12 rfl) ?_
                                                        refine lv_iconst (v := nI 1) hx hb dL_areSubscribers_357 (by decide) ?_
                                                        refine x_calli (w2 := fun (S358 : S4) => LW cI cP cS ad la S358 lp lo lq lb lg) (wr := []) (x_runVE (n := 4) ⟨hx, hb, hml, hown, hts⟩ (fN_seen l D cI cP cS cL hfl ad la lp lo lq lb lg (s_lim S) (s_n S) (s_rows S) (s_cc S) (s_ct S) (s_ck S) (s_nr S) (s_cr S) (s_old S) (s_rw S) (s_co S) (s_re S) (s_nu S) (s_ma S) (s_sr S) (s_cp S) (s_pu S) (s_st S) (s_sl S) k (nI k) (nI t) (nI w) (nI 1) (by omega) (hsx_of (by omega)) (nx_seen (by omega) (by omega) (by omega) (by omega))) gL_areSubscribers_X4_seen rfl rfl rfl (by decide +kernel) ⟨by decide, by decide⟩ hN hK hP hD hS hA hE iLW rfl rfl (ci := 4) (q0 := 0) rfl rfl rfl rfl hl.1 (rest := [.int (nI 1)]) (As := [.int (nI k), .int (nI t), .int (nI w), .int (nI 1)]) rfl (Nat.le_of_ble_eq_true rfl) dL_areSubscribers_358 ⟨by show _ ≤ 2200; omega, by show _ ≤ 13200; omega⟩) hP hD hS hA iLW [] iLW rfl rfl rfl (by decide) rfl (fun _ => rfl) (fun r358 S358 H locs hw hP hD hS => ?_)
                                                        obtain ⟨hr9, e8⟩ := N_seen (by omega) (by omega) hw
                                                        have e9 : S = S358 := (show S358 = S from e8).symm
                                                        subst e9
                                                        rw [he1, qNum_m] at hr9
                                                        subst hr9
                                                        have hP : va_P D vwCl (LW cI cP cS ad la S lp lo lq lb lg) H := hP
                                                        have hD : va_D A (LW cI cP cS ad la S lp lo lq lb lg) := hD
                                                        refine x_if_ge (tgt := 368) hx hb (Iff.rfl) dL_areSubscribers_361 (by decide) (fun c361 => ?_) (fun c361 => ?_)
                                                        · exact absurd c361 (by decide)
                                                        · refine lv_iconst (v := nI 1) hx hb dL_areSubscribers_364 (by decide) ?_
                                                          refine lv_goto (tgt := 369) hx hb dL_areSubscribers_365 (by decide) ?_
                                                          refine x_cmp_ne (tgt := 408) hx hb (Iff.rfl) dL_areSubscribers_369 (by decide) (fun c369 => ?_) (fun c369 => ?_)
                                                          · exact absurd rfl c369
                                                          · refine lv_iload hx hb dL_areSubscribers_372 (lv_at hl 0 rfl) ?_
                                                            refine x_if_ge (tgt := 381) hx hb (Iff.rfl) dL_areSubscribers_374 (by decide) (fun c374 => ?_) (fun c374 => ?_)
                                                            · exact absurd c374 (by decide)
                                                            · refine lv_iconst (v := nI 1) hx hb dL_areSubscribers_377 (by decide) ?_
                                                              refine lv_goto (tgt := 382) hx hb dL_areSubscribers_378 (by decide) ?_
                                                              refine lv_aload_n hx hb dL_areSubscribers_382 rfl (lv_at hl 1 rfl) ?_
                                                              refine lv_iload hx hb dL_areSubscribers_383 (lv_at hl 6 rfl) ?_
                                                              refine lv_iload hx hb dL_areSubscribers_385 (lv_at hl 9 rfl) ?_
                                                              refine lv_iload hx hb dL_areSubscribers_387 (lv_at hl 12 rfl) ?_
                                                              refine lv_iconst (v := nI 2) hx hb dL_areSubscribers_389 (by decide) ?_
                                                              refine x_calli (w2 := fun (S390 : S4) => LW cI cP cS ad la S390 lp lo lq lb lg) (wr := []) (x_runVE (n := 4) ⟨hx, hb, hml, hown, hts⟩ (fN_seen l D cI cP cS cL hfl ad la lp lo lq lb lg (s_lim S) (s_n S) (s_rows S) (s_cc S) (s_ct S) (s_ck S) (s_nr S) (s_cr S) (s_old S) (s_rw S) (s_co S) (s_re S) (s_nu S) (s_ma S) (s_sr S) (s_cp S) (s_pu S) (s_st S) (s_sl S) k (nI k) (nI t) (nI w) (nI 2) (by omega) (hsx_of (by omega)) (nx_seen (by omega) (by omega) (by omega) (by omega))) gL_areSubscribers_X4_seen rfl rfl rfl (by decide +kernel) ⟨by decide, by decide⟩ hN hK hP hD hS hA hE iLW rfl rfl (ci := 4) (q0 := 0) rfl rfl rfl rfl hl.1 (rest := [.int (nI 1)]) (As := [.int (nI k), .int (nI t), .int (nI w), .int (nI 2)]) rfl (Nat.le_of_ble_eq_true rfl) dL_areSubscribers_390 ⟨by show _ ≤ 2200; omega, by show _ ≤ 13200; omega⟩) hP hD hS hA iLW [] iLW rfl rfl rfl (by decide) rfl (fun _ => rfl) (fun r390 S390 H locs hw hP hD hS => ?_)
                                                              obtain ⟨hr9, e8⟩ := N_seen (by omega) (by omega) hw
                                                              have e9 : S = S390 := (show S390 = S from e8).symm
                                                              subst e9
                                                              rw [he1, qNum_m] at hr9
                                                              subst hr9
                                                              have hP : va_P D vwCl (LW cI cP cS ad la S lp lo lq lb lg) H := hP
                                                              have hD : va_D A (LW cI cP cS ad la S lp lo lq lb lg) := hD
                                                              refine x_if_ge (tgt := 400) hx hb (Iff.rfl) dL_areSubscribers_393 (by decide) (fun c393 => ?_) (fun c393 => ?_)
                                                              · exact absurd c393 (by decide)
                                                              · refine lv_iconst (v := nI 1) hx hb dL_areSubscribers_396 (by decide) ?_
                                                                refine lv_goto (tgt := 401) hx hb dL_areSubscribers_397 (by decide) ?_
                                                                refine x_cmp_ne (tgt := 408) hx hb (Iff.rfl) dL_areSubscribers_401 (by decide) (fun c401 => ?_) (fun c401 => ?_)
                                                                · exact absurd rfl c401
                                                                · refine lv_iconst (v := nI 1) hx hb dL_areSubscribers_404 (by decide) ?_
                                                                  refine lv_goto (tgt := 409) hx hb dL_areSubscribers_405 (by decide) ?_
                                                                  refine lv_istore (lv' := [(4, .int (nI 1)), (12, .int (-1)), (0, .ref (ad 0)), (1, .ref (la 2)), (2, .ref (la 3)), (3, .ref (la 4)), (5, .int (nI k)), (6, .int (nI (7 * k))), (7, .int (nI 1)), (8, .int (nI t)), (9, .int (-1)), (10, .int ((-10 : Int32))), (11, .int (nI w))]) hx hb dL_areSubscribers_409 hl (by decide) rfl (fun ls hl => ?_)
                                                                  refine lv_iload hx hb dL_areSubscribers_411 (lv_at hl 0 rfl) ?_
                                                                  refine x_if_eq (tgt := 520) hx hb (nI_z (by omega)) dL_areSubscribers_413 (by decide) (fun c413 => ?_) (fun c413 => ?_)
                                                                  · exfalso; omega
                                                                  · refine lv_iload hx hb dL_areSubscribers_416 (lv_at hl 1 rfl) ?_
                                                                    refine x_if_lt (tgt := 520) hx hb (Iff.rfl) dL_areSubscribers_418 (by decide) (fun c418 => ?_) (fun c418 => ?_)
                                                                    · refine x_iinc (k := 12) (o := 1) (v := w + 1) (lv' := [(11, .int (nI (w + 1))), (4, .int (nI 1)), (12, .int (-1)), (0, .ref (ad 0)), (1, .ref (la 2)), (2, .ref (la 3)), (3, .ref (la 4)), (5, .int (nI k)), (6, .int (nI (7 * k))), (7, .int (nI 1)), (8, .int (nI t)), (9, .int (-1)), (10, .int ((-10 : Int32)))]) hx hb dL_areSubscribers_520 hl rfl rfl rfl (by decide) rfl (fun ls hl => ?_)
                                                                      refine lv_goto (tgt := 302) hx hb dL_areSubscribers_523 (by decide) ?_
                                                                      exact W.widen (by show _ ≤ 20 + 660 * k + 10 + 300 * t + 8 + 20 * (w + 1); omega) (by show _ ≤ 120 + 3960 * k + 60 + 1800 * t + 48 + 120 * (w + 1); omega) (ih302 (w + 1) (by show w + 1 ≤ 12; omega) (by show 12 - (w + 1) < 12 - w; omega) _ _ _ hP hD hS (lv_sub hl [3, 4, 5, 6, 1, 7, 8, 9, 10, 11, 12, 0] rfl))
                                                                    · exact absurd (by decide) c418
                                                · refine lv_aload_n hx hb dL_areSubscribers_314 rfl (lv_at hl 0 rfl) ?_
                                                  refine lv_iload hx hb dL_areSubscribers_315 (lv_at hl 5 rfl) ?_
                                                  refine lv_iload hx hb dL_areSubscribers_317 (lv_at hl 8 rfl) ?_
                                                  refine lv_iload hx hb dL_areSubscribers_319 (lv_at hl 11 rfl) ?_
                                                  refine lv_iconst (v := nI 0) hx hb dL_areSubscribers_321 (by decide) ?_
                                                  refine x_calli (w2 := fun (S322 : S4) => LW cI cP cS ad la S322 lp lo lq lb lg) (wr := []) (x_runVE (n := 4) ⟨hx, hb, hml, hown, hts⟩ (fN_seen l D cI cP cS cL hfl ad la lp lo lq lb lg (s_lim S) (s_n S) (s_rows S) (s_cc S) (s_ct S) (s_ck S) (s_nr S) (s_cr S) (s_old S) (s_rw S) (s_co S) (s_re S) (s_nu S) (s_ma S) (s_sr S) (s_cp S) (s_pu S) (s_st S) (s_sl S) k (nI k) (nI t) (nI w) (nI 0) (by omega) (hsx_of (by omega)) (nx_seen (by omega) (by omega) (by omega) (by omega))) gL_areSubscribers_X4_seen rfl rfl rfl (by decide +kernel) ⟨by decide, by decide⟩ hN hK hP hD hS hA hE iLW rfl rfl (ci := 4) (q0 := 0) rfl rfl rfl rfl hl.1 (rest := []) (As := [.int (nI k), .int (nI t), .int (nI w), .int (nI 0)]) rfl (Nat.le_of_ble_eq_true rfl) dL_areSubscribers_322 ⟨by show _ ≤ 2200; omega, by show _ ≤ 13200; omega⟩) hP hD hS hA iLW [] iLW rfl rfl rfl (by decide) rfl (fun _ => rfl) (fun r322 S322 H locs hw hP hD hS => ?_)
                                                  obtain ⟨hr9, e8⟩ := N_seen (by omega) (by omega) hw
                                                  have e9 : S = S322 := (show S322 = S from e8).symm
                                                  subst e9
                                                  rw [he1, qNum_e va9 vb9 vc9 (by omega)] at hr9
                                                  have hr9 : r322 = nI a := hr9
                                                  subst hr9
                                                  have hP : va_P D vwCl (LW cI cP cS ad la S lp lo lq lb lg) H := hP
                                                  have hD : va_D A (LW cI cP cS ad la S lp lo lq lb lg) := hD
                                                  refine lv_istore (lv' := [(12, .int (nI a)), (0, .ref (ad 0)), (1, .ref (la 2)), (2, .ref (la 3)), (3, .ref (la 4)), (4, .int (nI 1)), (5, .int (nI k)), (6, .int (nI (7 * k))), (7, .int (nI 1)), (8, .int (nI t)), (9, .int (-1)), (10, .int ((-10 : Int32))), (11, .int (nI w))]) hx hb dL_areSubscribers_325 hl (by decide) rfl (fun ls hl => ?_)
                                                  refine lv_iload hx hb dL_areSubscribers_327 (lv_at hl 0 rfl) ?_
                                                  refine lv_iconst (v := -1) hx hb dL_areSubscribers_329 (by decide) ?_
                                                  refine x_cmp_lt (tgt := 408) hx hb (nI_nm1 (by omega)) dL_areSubscribers_330 (by decide) (fun c330 => ?_) (fun c330 => ?_)
                                                  · exact c330.elim
                                                  · refine lv_iload hx hb dL_areSubscribers_333 (lv_at hl 0 rfl) ?_
                                                    refine lv_bipush (v := nI 100) hx hb dL_areSubscribers_335 (by decide) ?_
                                                    refine x_cmp_ge (tgt := 408) hx hb (nI_leI (a := 100) (b := a) (by omega) (by omega)) dL_areSubscribers_337 (by decide) (fun c337 => ?_) (fun c337 => ?_)
                                                    · exfalso; omega
                                                    · refine lv_iload hx hb dL_areSubscribers_340 (lv_at hl 0 rfl) ?_
                                                      refine x_if_ge (tgt := 349) hx hb (nI_ge0 (by omega)) dL_areSubscribers_342 (by decide) (fun c342 => ?_) (fun c342 => ?_)
                                                      · refine lv_iconst (v := nI 0) hx hb dL_areSubscribers_349 (by decide) ?_
                                                        refine lv_aload_n hx hb dL_areSubscribers_350 rfl (lv_at hl 1 rfl) ?_
                                                        refine lv_iload hx hb dL_areSubscribers_351 (lv_at hl 6 rfl) ?_
                                                        refine lv_iload hx hb dL_areSubscribers_353 (lv_at hl 9 rfl) ?_
                                                        refine lv_iload hx hb dL_areSubscribers_355 (lv_at hl 12 rfl) ?_
                                                        refine lv_iconst (v := nI 1) hx hb dL_areSubscribers_357 (by decide) ?_
                                                        refine x_calli (w2 := fun (S358 : S4) => LW cI cP cS ad la S358 lp lo lq lb lg) (wr := []) (x_runVE (n := 4) ⟨hx, hb, hml, hown, hts⟩ (fN_seen l D cI cP cS cL hfl ad la lp lo lq lb lg (s_lim S) (s_n S) (s_rows S) (s_cc S) (s_ct S) (s_ck S) (s_nr S) (s_cr S) (s_old S) (s_rw S) (s_co S) (s_re S) (s_nu S) (s_ma S) (s_sr S) (s_cp S) (s_pu S) (s_st S) (s_sl S) k (nI k) (nI t) (nI w) (nI 1) (by omega) (hsx_of (by omega)) (nx_seen (by omega) (by omega) (by omega) (by omega))) gL_areSubscribers_X4_seen rfl rfl rfl (by decide +kernel) ⟨by decide, by decide⟩ hN hK hP hD hS hA hE iLW rfl rfl (ci := 4) (q0 := 0) rfl rfl rfl rfl hl.1 (rest := [.int (nI 0)]) (As := [.int (nI k), .int (nI t), .int (nI w), .int (nI 1)]) rfl (Nat.le_of_ble_eq_true rfl) dL_areSubscribers_358 ⟨by show _ ≤ 2200; omega, by show _ ≤ 13200; omega⟩) hP hD hS hA iLW [] iLW rfl rfl rfl (by decide) rfl (fun _ => rfl) (fun r358 S358 H locs hw hP hD hS => ?_)
                                                        obtain ⟨hr9, e8⟩ := N_seen (by omega) (by omega) hw
                                                        have e9 : S = S358 := (show S358 = S from e8).symm
                                                        subst e9
                                                        rw [he1, qNum_e va9 vb9 vc9 (by omega)] at hr9
                                                        have hr9 : r358 = nI b := hr9
                                                        subst hr9
                                                        have hP : va_P D vwCl (LW cI cP cS ad la S lp lo lq lb lg) H := hP
                                                        have hD : va_D A (LW cI cP cS ad la S lp lo lq lb lg) := hD
                                                        refine x_if_ge (tgt := 368) hx hb (nI_ge0 (by omega)) dL_areSubscribers_361 (by decide) (fun c361 => ?_) (fun c361 => ?_)
                                                        · refine lv_iconst (v := nI 0) hx hb dL_areSubscribers_368 (by decide) ?_
                                                          refine x_cmp_ne (tgt := 408) hx hb (Iff.rfl) dL_areSubscribers_369 (by decide) (fun c369 => ?_) (fun c369 => ?_)
                                                          · exact absurd rfl c369
                                                          · refine lv_iload hx hb dL_areSubscribers_372 (lv_at hl 0 rfl) ?_
                                                            refine x_if_ge (tgt := 381) hx hb (nI_ge0 (by omega)) dL_areSubscribers_374 (by decide) (fun c374 => ?_) (fun c374 => ?_)
                                                            · refine lv_iconst (v := nI 0) hx hb dL_areSubscribers_381 (by decide) ?_
                                                              refine lv_aload_n hx hb dL_areSubscribers_382 rfl (lv_at hl 1 rfl) ?_
                                                              refine lv_iload hx hb dL_areSubscribers_383 (lv_at hl 6 rfl) ?_
                                                              refine lv_iload hx hb dL_areSubscribers_385 (lv_at hl 9 rfl) ?_
                                                              refine lv_iload hx hb dL_areSubscribers_387 (lv_at hl 12 rfl) ?_
                                                              refine lv_iconst (v := nI 2) hx hb dL_areSubscribers_389 (by decide) ?_
                                                              refine x_calli (w2 := fun (S390 : S4) => LW cI cP cS ad la S390 lp lo lq lb lg) (wr := []) (x_runVE (n := 4) ⟨hx, hb, hml, hown, hts⟩ (fN_seen l D cI cP cS cL hfl ad la lp lo lq lb lg (s_lim S) (s_n S) (s_rows S) (s_cc S) (s_ct S) (s_ck S) (s_nr S) (s_cr S) (s_old S) (s_rw S) (s_co S) (s_re S) (s_nu S) (s_ma S) (s_sr S) (s_cp S) (s_pu S) (s_st S) (s_sl S) k (nI k) (nI t) (nI w) (nI 2) (by omega) (hsx_of (by omega)) (nx_seen (by omega) (by omega) (by omega) (by omega))) gL_areSubscribers_X4_seen rfl rfl rfl (by decide +kernel) ⟨by decide, by decide⟩ hN hK hP hD hS hA hE iLW rfl rfl (ci := 4) (q0 := 0) rfl rfl rfl rfl hl.1 (rest := [.int (nI 0)]) (As := [.int (nI k), .int (nI t), .int (nI w), .int (nI 2)]) rfl (Nat.le_of_ble_eq_true rfl) dL_areSubscribers_390 ⟨by show _ ≤ 2200; omega, by show _ ≤ 13200; omega⟩) hP hD hS hA iLW [] iLW rfl rfl rfl (by decide) rfl (fun _ => rfl) (fun r390 S390 H locs hw hP hD hS => ?_)
                                                              obtain ⟨hr9, e8⟩ := N_seen (by omega) (by omega) hw
                                                              have e9 : S = S390 := (show S390 = S from e8).symm
                                                              subst e9
                                                              rw [he1, qNum_e va9 vb9 vc9 (by omega)] at hr9
                                                              have hr9 : r390 = nI c := hr9
                                                              subst hr9
                                                              have hP : va_P D vwCl (LW cI cP cS ad la S lp lo lq lb lg) H := hP
                                                              have hD : va_D A (LW cI cP cS ad la S lp lo lq lb lg) := hD
                                                              refine x_if_ge (tgt := 400) hx hb (nI_ge0 (by omega)) dL_areSubscribers_393 (by decide) (fun c393 => ?_) (fun c393 => ?_)
                                                              · refine lv_iconst (v := nI 0) hx hb dL_areSubscribers_400 (by decide) ?_
                                                                refine x_cmp_ne (tgt := 408) hx hb (Iff.rfl) dL_areSubscribers_401 (by decide) (fun c401 => ?_) (fun c401 => ?_)
                                                                · exact absurd rfl c401
                                                                · refine lv_iconst (v := nI 1) hx hb dL_areSubscribers_404 (by decide) ?_
                                                                  refine lv_goto (tgt := 409) hx hb dL_areSubscribers_405 (by decide) ?_
                                                                  refine lv_istore (lv' := [(4, .int (nI 1)), (12, .int (nI a)), (0, .ref (ad 0)), (1, .ref (la 2)), (2, .ref (la 3)), (3, .ref (la 4)), (5, .int (nI k)), (6, .int (nI (7 * k))), (7, .int (nI 1)), (8, .int (nI t)), (9, .int (-1)), (10, .int ((-10 : Int32))), (11, .int (nI w))]) hx hb dL_areSubscribers_409 hl (by decide) rfl (fun ls hl => ?_)
                                                                  refine lv_iload hx hb dL_areSubscribers_411 (lv_at hl 0 rfl) ?_
                                                                  refine x_if_eq (tgt := 520) hx hb (nI_z (by omega)) dL_areSubscribers_413 (by decide) (fun c413 => ?_) (fun c413 => ?_)
                                                                  · exfalso; omega
                                                                  · refine lv_iload hx hb dL_areSubscribers_416 (lv_at hl 1 rfl) ?_
                                                                    refine x_if_lt (tgt := 520) hx hb (nI_ng (by omega)) dL_areSubscribers_418 (by decide) (fun c418 => ?_) (fun c418 => ?_)
                                                                    · exact c418.elim
                                                                    · refine lv_iload hx hb dL_areSubscribers_421 (lv_at hl 10 rfl) ?_
                                                                      refine x_if_lt (tgt := 520) hx hb (Iff.rfl) dL_areSubscribers_423 (by decide) (fun c423 => ?_) (fun c423 => ?_)
                                                                      · refine x_iinc (k := 12) (o := 1) (v := w + 1) (lv' := [(11, .int (nI (w + 1))), (4, .int (nI 1)), (12, .int (nI a)), (0, .ref (ad 0)), (1, .ref (la 2)), (2, .ref (la 3)), (3, .ref (la 4)), (5, .int (nI k)), (6, .int (nI (7 * k))), (7, .int (nI 1)), (8, .int (nI t)), (9, .int (-1)), (10, .int ((-10 : Int32)))]) hx hb dL_areSubscribers_520 hl rfl rfl rfl (by decide) rfl (fun ls hl => ?_)
                                                                        refine lv_goto (tgt := 302) hx hb dL_areSubscribers_523 (by decide) ?_
                                                                        exact W.widen (by show _ ≤ 20 + 660 * k + 10 + 300 * t + 8 + 20 * (w + 1); omega) (by show _ ≤ 120 + 3960 * k + 60 + 1800 * t + 48 + 120 * (w + 1); omega) (ih302 (w + 1) (by show w + 1 ≤ 12; omega) (by show 12 - (w + 1) < 12 - w; omega) _ _ _ hP hD hS (lv_sub hl [3, 4, 5, 6, 1, 7, 8, 9, 10, 11, 12, 0] rfl))
                                                                      · exact absurd (by decide) c423
                                                              · exact absurd trivial c393
                                                            · exact absurd trivial c374
                                                        · exact absurd trivial c361
                                                      · exact absurd trivial c342
                                        · exact absurd (by decide) c255
                                  · refine lv_aload_n hx hb dL_areSubscribers_211 rfl (lv_at hl 0 rfl) ?_
                                    refine lv_iload hx hb dL_areSubscribers_212 (lv_at hl 5 rfl) ?_
                                    refine lv_iload hx hb dL_areSubscribers_214 (lv_at hl 8 rfl) ?_
                                    refine x_calli (w2 := fun (S216 : S4) => LW cI cP cS ad la S216 lp lo lq lb lg) (wr := []) (x_runVE (n := 2) ⟨hx, hb, hml, hown, hts⟩ (fN_copiedAt l D cI cP cS cL hfl ad la lp lo lq lb lg (s_lim S) (s_n S) (s_rows S) (s_cc S) (s_ct S) (s_ck S) (s_nr S) (s_cr S) (s_old S) (s_rw S) (s_co S) (s_re S) (s_nu S) (s_ma S) (s_sr S) (s_cp S) (s_pu S) (s_st S) (s_sl S) k (nI k) (nI t) (by omega) (hsx_of (by omega)) (nx_st (by omega) (by omega))) gL_areSubscribers_X4_copiedAt rfl rfl rfl (by decide +kernel) ⟨by decide, by decide⟩ hN hK hP hD hS hA hE iLW rfl rfl (ci := 4) (q0 := 0) rfl rfl rfl rfl hl.1 (rest := []) (As := [.int (nI k), .int (nI t)]) rfl (Nat.le_of_ble_eq_true rfl) dL_areSubscribers_216 ⟨by show _ ≤ 2200; omega, by show _ ≤ 13200; omega⟩) hP hD hS hA iLW [] iLW rfl rfl rfl (by decide) rfl (fun _ => rfl) (fun r216 S216 H locs hw hP hD hS => ?_)
                                    obtain ⟨hr9, e8⟩ := N_copiedAt (by omega) hw
                                    have e9 : S = S216 := (show S216 = S from e8).symm
                                    subst e9
                                    rw [IN_cp hI (by omega) (by omega)] at hr9
                                    rw [hkc, eX_s] at hr9
                                    subst hr9
                                    have hP : va_P D vwCl (LW cI cP cS ad la S lp lo lq lb lg) H := hP
                                    have hD : va_D A (LW cI cP cS ad la S lp lo lq lb lg) := hD
                                    refine lv_istore (lv' := [(9, .int (nI c9)), (0, .ref (ad 0)), (1, .ref (la 2)), (2, .ref (la 3)), (3, .ref (la 4)), (4, .int (nI 1)), (5, .int (nI k)), (6, .int (nI (7 * k))), (7, .int (nI 1)), (8, .int (nI t))]) hx hb dL_areSubscribers_219 hl (by decide) rfl (fun ls hl => ?_)
                                    refine lv_aload_n hx hb dL_areSubscribers_221 rfl (lv_at hl 1 rfl) ?_
                                    refine lv_iconst (v := nI 5) hx hb dL_areSubscribers_222 (by decide) ?_
                                    refine lv_iload hx hb dL_areSubscribers_223 (lv_at hl 6 rfl) ?_
                                    refine lv_iload hx hb dL_areSubscribers_225 (lv_at hl 9 rfl) ?_
                                    refine lv_iconst (v := nI 0) hx hb dL_areSubscribers_227 (by decide) ?_
                                    refine lv_iconst (v := nI 0) hx hb dL_areSubscribers_228 (by decide) ?_
                                    refine x_calli (w2 := fun (S229 : S4) => LW cI cP cS ad la S229 lp lo lq lb lg) (wr := []) (x_runL (n := 6) ⟨hx, hb, hml, hown, hts⟩ (fA_isFaithful l D cI cP cS cL hfl ad la lp lo lq lb lg (s_lim S) (s_n S) (s_rows S) (s_cc S) (s_ct S) (s_ck S) (s_nr S) (s_cr S) (s_old S) (s_rw S) (s_co S) (s_re S) (s_nu S) (s_ma S) (s_sr S) (s_cp S) (s_pu S) (s_st S) (s_sl S) k (bk k) (nI k) (nI t) (nI 0) (nI 0) (by omega) (IN_f hI (by omega : k < 3)).2.2.1 (hsx_of (by omega)) (IN_sts hI k (by omega)) (Nat.le_trans (IN_sls hI k (by omega)) hn50) (IN_pu hI (by omega)) (H_cp (IN_of hI) (by omega))) gL_areSubscribers_L_asks rfl rfl rfl (by decide +kernel) ⟨by decide, by decide⟩ hN hK hP hD hS hA hE iLW rfl rfl rfl hl.1 (rest := []) (As := [.ref (ad 0), .int (nI 5), .int (nI k), .int (nI t), .int (nI 0), .int (nI 0)]) rfl (Nat.le_of_ble_eq_true rfl) dL_areSubscribers_229 ⟨by show _ ≤ 2200; omega, by show _ ≤ 13200; omega⟩) hP hD hS hA iLW [] iLW rfl rfl rfl (by decide) rfl (fun _ => rfl) (fun r229 S229 H locs hw hP hD hS => ?_)
                                    obtain ⟨hr9, e8⟩ := (O_faith (IN_of hI) (by omega) (by omega) hw).2 h12 (by omega)
                                    have e9 : S = S229 := (show S229 = S from e8).symm
                                    subst e9
                                    have hr9 := hr9.resolve_right (fun z => by have := z.2; omega)
                                    subst hr9
                                    have hP : va_P D vwCl (LW cI cP cS ad la S lp lo lq lb lg) H := hP
                                    have hD : va_D A (LW cI cP cS ad la S lp lo lq lb lg) := hD
                                    refine lv_istore (lv' := [(10, .int (nI 1)), (9, .int (nI c9)), (0, .ref (ad 0)), (1, .ref (la 2)), (2, .ref (la 3)), (3, .ref (la 4)), (4, .int (nI 1)), (5, .int (nI k)), (6, .int (nI (7 * k))), (7, .int (nI 1)), (8, .int (nI t))]) hx hb dL_areSubscribers_232 hl (by decide) rfl (fun ls hl => ?_)
                                    refine lv_iload hx hb dL_areSubscribers_234 (lv_at hl 1 rfl) ?_
                                    refine lv_aload_n hx hb dL_areSubscribers_236 rfl (lv_at hl 4 rfl) ?_
                                    refine lv_iload hx hb dL_areSubscribers_237 (lv_at hl 8 rfl) ?_
                                    refine lv_iconst (v := nI 3) hx hb dL_areSubscribers_239 (by decide) ?_
                                    refine x_add (k := (7 * k) + 3) hx hb dL_areSubscribers_240 rfl ?_
                                    refine lv_iload hx hb dL_areSubscribers_241 (lv_at hl 10 rfl) ?_
                                    refine x_add (k := ((7 * k) + 3) + t) hx hb dL_areSubscribers_243 rfl ?_
                                    refine x_ald (v := nI c9) hx hb hK hP 40 0 rfl rfl (by omega) (by omega) ((IN_b3 hI (by omega) (by omega)).trans (by rw [hkc, eX_s])) dL_areSubscribers_244 ?_
                                    refine x_cmp_ne (tgt := 296) hx hb (Iff.rfl) dL_areSubscribers_245 (by decide) (fun c245 => ?_) (fun c245 => ?_)
                                    · exact absurd rfl c245
                                    · refine lv_iload hx hb dL_areSubscribers_248 (lv_at hl 9 rfl) ?_
                                      refine x_if_eq (tgt := 285) hx hb (nI_z (by omega)) dL_areSubscribers_250 (by decide) (fun c250 => ?_) (fun c250 => ?_)
                                      · exfalso; omega
                                      · refine lv_iload hx hb dL_areSubscribers_253 (lv_at hl 1 rfl) ?_
                                        refine x_if_lt (tgt := 285) hx hb (nI_ng (by omega)) dL_areSubscribers_255 (by decide) (fun c255 => ?_) (fun c255 => ?_)
                                        · exact c255.elim
                                        · refine lv_iload hx hb dL_areSubscribers_258 (lv_at hl 0 rfl) ?_
                                          refine x_if_lt (tgt := 296) hx hb (nI_ng (by omega)) dL_areSubscribers_260 (by decide) (fun c260 => ?_) (fun c260 => ?_)
                                          · exact c260.elim
                                          · refine lv_aload_n hx hb dL_areSubscribers_263 rfl (lv_at hl 4 rfl) ?_
                                            refine lv_iload hx hb dL_areSubscribers_264 (lv_at hl 8 rfl) ?_
                                            refine lv_iconst (v := nI 5) hx hb dL_areSubscribers_266 (by decide) ?_
                                            refine x_add (k := (7 * k) + 5) hx hb dL_areSubscribers_267 rfl ?_
                                            refine lv_iload hx hb dL_areSubscribers_268 (lv_at hl 10 rfl) ?_
                                            refine x_add (k := ((7 * k) + 5) + t) hx hb dL_areSubscribers_270 rfl ?_
                                            refine x_ald (v := nI 0) hx hb hK hP 40 0 rfl rfl (by omega) (by omega) ((IN_b5 hI (by omega) (by omega)).trans (by rw [hmi])) dL_areSubscribers_271 ?_
                                            refine lv_iconst (v := nI 1) hx hb dL_areSubscribers_272 (by decide) ?_
                                            refine x_cmp_eq (tgt := 292) hx hb (nI_eq (a := 0) (b := 1) (by omega) (by omega)) dL_areSubscribers_273 (by decide) (fun c273 => ?_) (fun c273 => ?_)
                                            · exfalso; omega
                                            · refine lv_iload hx hb dL_areSubscribers_276 (lv_at hl 0 rfl) ?_
                                              refine lv_iconst (v := nI 1) hx hb dL_areSubscribers_278 (by decide) ?_
                                              refine x_cmp_ne (tgt := 296) hx hb (Iff.rfl) dL_areSubscribers_279 (by decide) (fun c279 => ?_) (fun c279 => ?_)
                                              · exact absurd rfl c279
                                              · refine lv_goto (tgt := 292) hx hb dL_areSubscribers_282 (by decide) ?_
                                                refine lv_iconst (v := nI 1) hx hb dL_areSubscribers_292 (by decide) ?_
                                                refine lv_goto (tgt := 297) hx hb dL_areSubscribers_293 (by decide) ?_
                                                refine lv_istore (lv' := [(4, .int (nI 1)), (10, .int (nI 1)), (9, .int (nI c9)), (0, .ref (ad 0)), (1, .ref (la 2)), (2, .ref (la 3)), (3, .ref (la 4)), (5, .int (nI k)), (6, .int (nI (7 * k))), (7, .int (nI 1)), (8, .int (nI t))]) hx hb dL_areSubscribers_297 hl (by decide) rfl (fun ls hl => ?_)
                                                refine lv_iconst (v := nI 0) hx hb dL_areSubscribers_299 (by decide) ?_
                                                refine lv_istore (lv' := [(11, .int (nI 0)), (4, .int (nI 1)), (10, .int (nI 1)), (9, .int (nI c9)), (0, .ref (ad 0)), (1, .ref (la 2)), (2, .ref (la 3)), (3, .ref (la 4)), (5, .int (nI k)), (6, .int (nI (7 * k))), (7, .int (nI 1)), (8, .int (nI t))]) hx hb dL_areSubscribers_300 hl (by decide) rfl (fun ls hl => ?_)
                                                refine x_loopc (nL := 14) (fun (w : Nat) => w ≤ 12) (fun (w : Nat) => 12 - w) (fun (w : Nat) => 20 + 660 * k + 10 + 300 * t + 8 + 20 * w) (fun (w : Nat) => 120 + 3960 * k + 60 + 1800 * t + 48 + 120 * w) (fun (w : Nat) => LW cI cP cS ad la S lp lo lq lb lg) (fun (w : Nat) => [(0, .ref (ad 0)), (1, .ref (la 2)), (2, .ref (la 3)), (3, .ref (la 4)), (4, .int (nI 1)), (5, .int (nI k)), (6, .int (nI (7 * k))), (7, .int (nI 1)), (8, .int (nI t)), (9, .int (nI c9)), (10, .int (nI 1)), (11, .int (nI w))]) (fun (w : Nat) => []) ?_ 0 (Nat.zero_le 12) (by show _ ≤ 20 + 660 * k + 10 + 300 * t + 8 + 20 * 0; omega) (by show _ ≤ 120 + 3960 * k + 60 + 1800 * t + 48 + 120 * 0; omega) hP hD hS (lv_sub hl [4, 5, 6, 7, 1, 8, 9, 10, 11, 3, 2, 0] rfl)
                                                intro x9 hI302 ih302 H locs ls hP hD hS hl
                                                obtain ⟨w, h9⟩ : ∃ z, z = x9 := ⟨x9, rfl⟩
                                                subst h9
                                                have hP : va_P D vwCl (LW cI cP cS ad la S lp lo lq lb lg) H := hP
                                                have hD : va_D A (LW cI cP cS ad la S lp lo lq lb lg) := hD
                                                have hl : lv_has ls 14 [(0, .ref (ad 0)), (1, .ref (la 2)), (2, .ref (la 3)), (3, .ref (la 4)), (4, .int (nI 1)), (5, .int (nI k)), (6, .int (nI (7 * k))), (7, .int (nI 1)), (8, .int (nI t)), (9, .int (nI c9)), (10, .int (nI 1)), (11, .int (nI w))] := hl
                                                show W _ _ _ _ _ _ _ _ _ _ _ _ (20 + 660 * k + 10 + 300 * t + 8 + 20 * w) (120 + 3960 * k + 60 + 1800 * t + 48 + 120 * w) _ _
                                                have hw9 := hI302
                                                refine lv_iload hx hb dL_areSubscribers_302 (lv_at hl 11 rfl) ?_
                                                refine lv_bipush (v := nI 12) hx hb dL_areSubscribers_304 (by decide) ?_
                                                refine x_cmp_ge (tgt := 526) hx hb (nI_leI (a := 12) (b := w) (by omega) (by omega)) dL_areSubscribers_306 (by decide) (fun c306 => ?_) (fun c306 => ?_)
                                                · refine x_iinc (k := 8) (o := 1) (v := t + 1) (lv' := [(8, .int (nI (t + 1))), (0, .ref (ad 0)), (1, .ref (la 2)), (2, .ref (la 3)), (3, .ref (la 4)), (4, .int (nI 1)), (5, .int (nI k)), (6, .int (nI (7 * k))), (7, .int (nI 1)), (9, .int (nI c9)), (10, .int (nI 1)), (11, .int (nI w))]) hx hb dL_areSubscribers_526 hl rfl rfl rfl (by decide) rfl (fun ls hl => ?_)
                                                  refine lv_goto (tgt := 200) hx hb dL_areSubscribers_529 (by decide) ?_
                                                  exact W.widen (by show _ ≤ 20 + 660 * k + 10 + 300 * (t + 1); omega) (by show _ ≤ 120 + 3960 * k + 60 + 1800 * (t + 1); omega) (ih200 (t + 1) (by show t + 1 ≤ 2; omega) (by show 2 - (t + 1) < 2 - t; omega) _ _ _ hP hD hS (lv_sub hl [1, 2, 3, 4, 5, 6, 7, 8, 0] rfl))
                                                · refine lv_iload hx hb dL_areSubscribers_309 (lv_at hl 4 rfl) ?_
                                                  refine x_if_eq (tgt := 526) hx hb (nI_z (by omega)) dL_areSubscribers_311 (by decide) (fun c311 => ?_) (fun c311 => ?_)
                                                  · exfalso; omega
                                                  · obtain ⟨li, hli, eli, hrow⟩ := F_row (IN_of hI) (s := k) (t := t) (k := w) (by omega) (by omega) (by omega) h12 hmi hkc
                                                    rcases hrow with he1 | ⟨a, b, c, va9, vb9, vc9, he1, hz0, hz1, hz2⟩
                                                    · refine lv_aload_n hx hb dL_areSubscribers_314 rfl (lv_at hl 0 rfl) ?_
                                                      refine lv_iload hx hb dL_areSubscribers_315 (lv_at hl 5 rfl) ?_
                                                      refine lv_iload hx hb dL_areSubscribers_317 (lv_at hl 8 rfl) ?_
                                                      refine lv_iload hx hb dL_areSubscribers_319 (lv_at hl 11 rfl) ?_
                                                      refine lv_iconst (v := nI 0) hx hb dL_areSubscribers_321 (by decide) ?_
                                                      refine x_calli (w2 := fun (S322 : S4) => LW cI cP cS ad la S322 lp lo lq lb lg) (wr := []) (x_runVE (n := 4) ⟨hx, hb, hml, hown, hts⟩ (fN_seen l D cI cP cS cL hfl ad la lp lo lq lb lg (s_lim S) (s_n S) (s_rows S) (s_cc S) (s_ct S) (s_ck S) (s_nr S) (s_cr S) (s_old S) (s_rw S) (s_co S) (s_re S) (s_nu S) (s_ma S) (s_sr S) (s_cp S) (s_pu S) (s_st S) (s_sl S) k (nI k) (nI t) (nI w) (nI 0) (by omega) (hsx_of (by omega)) (nx_seen (by omega) (by omega) (by omega) (by omega))) gL_areSubscribers_X4_seen rfl rfl rfl (by decide +kernel) ⟨by decide, by decide⟩ hN hK hP hD hS hA hE iLW rfl rfl (ci := 4) (q0 := 0) rfl rfl rfl rfl hl.1 (rest := []) (As := [.int (nI k), .int (nI t), .int (nI w), .int (nI 0)]) rfl (Nat.le_of_ble_eq_true rfl) dL_areSubscribers_322 ⟨by show _ ≤ 2200; omega, by show _ ≤ 13200; omega⟩) hP hD hS hA iLW [] iLW rfl rfl rfl (by decide) rfl (fun _ => rfl) (fun r322 S322 H locs hw hP hD hS => ?_)
                                                      obtain ⟨hr9, e8⟩ := N_seen (by omega) (by omega) hw
                                                      have e9 : S = S322 := (show S322 = S from e8).symm
                                                      subst e9
                                                      rw [he1, qNum_m] at hr9
                                                      subst hr9
                                                      have hP : va_P D vwCl (LW cI cP cS ad la S lp lo lq lb lg) H := hP
                                                      have hD : va_D A (LW cI cP cS ad la S lp lo lq lb lg) := hD
                                                      refine lv_istore (lv' := [(12, .int (-1)), (0, .ref (ad 0)), (1, .ref (la 2)), (2, .ref (la 3)), (3, .ref (la 4)), (4, .int (nI 1)), (5, .int (nI k)), (6, .int (nI (7 * k))), (7, .int (nI 1)), (8, .int (nI t)), (9, .int (nI c9)), (10, .int (nI 1)), (11, .int (nI w))]) hx hb dL_areSubscribers_325 hl (by decide) rfl (fun ls hl => ?_)
                                                      refine lv_iload hx hb dL_areSubscribers_327 (lv_at hl 0 rfl) ?_
                                                      refine lv_iconst (v := -1) hx hb dL_areSubscribers_329 (by decide) ?_
                                                      refine x_cmp_lt (tgt := 408) hx hb (Iff.rfl) dL_areSubscribers_330 (by decide) (fun c330 => ?_) (fun c330 => ?_)
                                                      · exact absurd c330 (by decide)
                                                      · refine lv_iload hx hb dL_areSubscribers_333 (lv_at hl 0 rfl) ?_
                                                        refine lv_bipush (v := nI 100) hx hb dL_areSubscribers_335 (by decide) ?_
                                                        refine x_cmp_ge (tgt := 408) hx hb (Iff.rfl) dL_areSubscribers_337 (by decide) (fun c337 => ?_) (fun c337 => ?_)
                                                        · exact absurd c337 (by decide)
                                                        · refine lv_iload hx hb dL_areSubscribers_340 (lv_at hl 0 rfl) ?_
                                                          refine x_if_ge (tgt := 349) hx hb (Iff.rfl) dL_areSubscribers_342 (by decide) (fun c342 => ?_) (fun c342 => ?_)
                                                          · exact absurd c342 (by decide)
                                                          · refine lv_iconst (v := nI 1) hx hb dL_areSubscribers_345 (by decide) ?_
                                                            refine lv_goto (tgt := 350) hx hb dL_areSubscribers_346 (by decide) ?_
                                                            refine lv_aload_n hx hb dL_areSubscribers_350 rfl (lv_at hl 1 rfl) ?_
                                                            refine lv_iload hx hb dL_areSubscribers_351 (lv_at hl 6 rfl) ?_
                                                            refine lv_iload hx hb dL_areSubscribers_353 (lv_at hl 9 rfl) ?_
                                                            refine lv_iload hx hb dL_areSubscribers_355 (lv_at hl 12 rfl) ?_
                                                            refine lv_iconst (v := nI 1) hx hb dL_areSubscribers_357 (by decide) ?_
                                                            refine x_calli (w2 := fun (S358 : S4) => LW cI cP cS ad la S358 lp lo lq lb lg) (wr := []) (x_runVE (n := 4) ⟨hx, hb, hml, hown, hts⟩ (fN_seen l D cI cP cS cL hfl ad la lp lo lq lb lg (s_lim S) (s_n S) (s_rows S) (s_cc S) (s_ct S) (s_ck S) (s_nr S) (s_cr S) (s_old S) (s_rw S) (s_co S) (s_re S) (s_nu S) (s_ma S) (s_sr S) (s_cp S) (s_pu S) (s_st S) (s_sl S) k (nI k) (nI t) (nI w) (nI 1) (by omega) (hsx_of (by omega)) (nx_seen (by omega) (by omega) (by omega) (by omega))) gL_areSubscribers_X4_seen rfl rfl rfl (by decide +kernel) ⟨by decide, by decide⟩ hN hK hP hD hS hA hE iLW rfl rfl (ci := 4) (q0 := 0) rfl rfl rfl rfl hl.1 (rest := [.int (nI 1)]) (As := [.int (nI k), .int (nI t), .int (nI w), .int (nI 1)]) rfl (Nat.le_of_ble_eq_true rfl) dL_areSubscribers_358 ⟨by show _ ≤ 2200; omega, by show _ ≤ 13200; omega⟩) hP hD hS hA iLW [] iLW rfl rfl rfl (by decide) rfl (fun _ => rfl) (fun r358 S358 H locs hw hP hD hS => ?_)
                                                            obtain ⟨hr9, e8⟩ := N_seen (by omega) (by omega) hw
                                                            have e9 : S = S358 := (show S358 = S from e8).symm
                                                            subst e9
                                                            rw [he1, qNum_m] at hr9
                                                            subst hr9
                                                            have hP : va_P D vwCl (LW cI cP cS ad la S lp lo lq lb lg) H := hP
                                                            have hD : va_D A (LW cI cP cS ad la S lp lo lq lb lg) := hD
                                                            refine x_if_ge (tgt := 368) hx hb (Iff.rfl) dL_areSubscribers_361 (by decide) (fun c361 => ?_) (fun c361 => ?_)
                                                            · exact absurd c361 (by decide)
                                                            · refine lv_iconst (v := nI 1) hx hb dL_areSubscribers_364 (by decide) ?_
                                                              refine lv_goto (tgt := 369) hx hb dL_areSubscribers_365 (by decide) ?_
                                                              refine x_cmp_ne (tgt := 408) hx hb (Iff.rfl) dL_areSubscribers_369 (by decide) (fun c369 => ?_) (fun c369 => ?_)
                                                              · exact absurd rfl c369
                                                              · refine lv_iload hx hb dL_areSubscribers_372 (lv_at hl 0 rfl) ?_
                                                                refine x_if_ge (tgt := 381) hx hb (Iff.rfl) dL_areSubscribers_374 (by decide) (fun c374 => ?_) (fun c374 => ?_)
                                                                · exact absurd c374 (by decide)
                                                                · refine lv_iconst (v := nI 1) hx hb dL_areSubscribers_377 (by decide) ?_
                                                                  refine lv_goto (tgt := 382) hx hb dL_areSubscribers_378 (by decide) ?_
                                                                  refine lv_aload_n hx hb dL_areSubscribers_382 rfl (lv_at hl 1 rfl) ?_
                                                                  refine lv_iload hx hb dL_areSubscribers_383 (lv_at hl 6 rfl) ?_
                                                                  refine lv_iload hx hb dL_areSubscribers_385 (lv_at hl 9 rfl) ?_
                                                                  refine lv_iload hx hb dL_areSubscribers_387 (lv_at hl 12 rfl) ?_
                                                                  refine lv_iconst (v := nI 2) hx hb dL_areSubscribers_389 (by decide) ?_
                                                                  refine x_calli (w2 := fun (S390 : S4) => LW cI cP cS ad la S390 lp lo lq lb lg) (wr := []) (x_runVE (n := 4) ⟨hx, hb, hml, hown, hts⟩ (fN_seen l D cI cP cS cL hfl ad la lp lo lq lb lg (s_lim S) (s_n S) (s_rows S) (s_cc S) (s_ct S) (s_ck S) (s_nr S) (s_cr S) (s_old S) (s_rw S) (s_co S) (s_re S) (s_nu S) (s_ma S) (s_sr S) (s_cp S) (s_pu S) (s_st S) (s_sl S) k (nI k) (nI t) (nI w) (nI 2) (by omega) (hsx_of (by omega)) (nx_seen (by omega) (by omega) (by omega) (by omega))) gL_areSubscribers_X4_seen rfl rfl rfl (by decide +kernel) ⟨by decide, by decide⟩ hN hK hP hD hS hA hE iLW rfl rfl (ci := 4) (q0 := 0) rfl rfl rfl rfl hl.1 (rest := [.int (nI 1)]) (As := [.int (nI k), .int (nI t), .int (nI w), .int (nI 2)]) rfl (Nat.le_of_ble_eq_true rfl) dL_areSubscribers_390 ⟨by show _ ≤ 2200; omega, by show _ ≤ 13200; omega⟩) hP hD hS hA iLW [] iLW rfl rfl rfl (by decide) rfl (fun _ => rfl) (fun r390 S390 H locs hw hP hD hS => ?_)
                                                                  obtain ⟨hr9, e8⟩ := N_seen (by omega) (by omega) hw
                                                                  have e9 : S = S390 := (show S390 = S from e8).symm
                                                                  subst e9
                                                                  rw [he1, qNum_m] at hr9
                                                                  subst hr9
                                                                  have hP : va_P D vwCl (LW cI cP cS ad la S lp lo lq lb lg) H := hP
                                                                  have hD : va_D A (LW cI cP cS ad la S lp lo lq lb lg) := hD
                                                                  refine x_if_ge (tgt := 400) hx hb (Iff.rfl) dL_areSubscribers_393 (by decide) (fun c393 => ?_) (fun c393 => ?_)
                                                                  · exact absurd c393 (by decide)
                                                                  · refine lv_iconst (v := nI 1) hx hb dL_areSubscribers_396 (by decide) ?_
                                                                    refine lv_goto (tgt := 401) hx hb dL_areSubscribers_397 (by decide) ?_
                                                                    refine x_cmp_ne (tgt := 408) hx hb (Iff.rfl) dL_areSubscribers_401 (by decide) (fun c401 => ?_) (fun c401 => ?_)
                                                                    · exact absurd rfl c401
                                                                    · refine lv_iconst (v := nI 1) hx hb dL_areSubscribers_404 (by decide) ?_
                                                                      refine lv_goto (tgt := 409) hx hb dL_areSubscribers_405 (by decide) ?_
                                                                      refine lv_istore (lv' := [(4, .int (nI 1)), (12, .int (-1)), (0, .ref (ad 0)), (1, .ref (la 2)), (2, .ref (la 3)), (3, .ref (la 4)), (5, .int (nI k)), (6, .int (nI (7 * k))), (7, .int (nI 1)), (8, .int (nI t)), (9, .int (nI c9)), (10, .int (nI 1)), (11, .int (nI w))]) hx hb dL_areSubscribers_409 hl (by decide) rfl (fun ls hl => ?_)
                                                                      refine lv_iload hx hb dL_areSubscribers_411 (lv_at hl 0 rfl) ?_
                                                                      refine x_if_eq (tgt := 520) hx hb (nI_z (by omega)) dL_areSubscribers_413 (by decide) (fun c413 => ?_) (fun c413 => ?_)
                                                                      · exfalso; omega
                                                                      · refine lv_iload hx hb dL_areSubscribers_416 (lv_at hl 1 rfl) ?_
                                                                        refine x_if_lt (tgt := 520) hx hb (Iff.rfl) dL_areSubscribers_418 (by decide) (fun c418 => ?_) (fun c418 => ?_)
                                                                        · refine x_iinc (k := 12) (o := 1) (v := w + 1) (lv' := [(11, .int (nI (w + 1))), (4, .int (nI 1)), (12, .int (-1)), (0, .ref (ad 0)), (1, .ref (la 2)), (2, .ref (la 3)), (3, .ref (la 4)), (5, .int (nI k)), (6, .int (nI (7 * k))), (7, .int (nI 1)), (8, .int (nI t)), (9, .int (nI c9)), (10, .int (nI 1))]) hx hb dL_areSubscribers_520 hl rfl rfl rfl (by decide) rfl (fun ls hl => ?_)
                                                                          refine lv_goto (tgt := 302) hx hb dL_areSubscribers_523 (by decide) ?_
                                                                          exact W.widen (by show _ ≤ 20 + 660 * k + 10 + 300 * t + 8 + 20 * (w + 1); omega) (by show _ ≤ 120 + 3960 * k + 60 + 1800 * t + 48 + 120 * (w + 1); omega) (ih302 (w + 1) (by show w + 1 ≤ 12; omega) (by show 12 - (w + 1) < 12 - w; omega) _ _ _ hP hD hS (lv_sub hl [3, 4, 5, 6, 1, 7, 8, 9, 10, 11, 12, 0] rfl))
                                                                        · exact absurd (by decide) c418
                                                    · refine lv_aload_n hx hb dL_areSubscribers_314 rfl (lv_at hl 0 rfl) ?_
                                                      refine lv_iload hx hb dL_areSubscribers_315 (lv_at hl 5 rfl) ?_
                                                      refine lv_iload hx hb dL_areSubscribers_317 (lv_at hl 8 rfl) ?_
                                                      refine lv_iload hx hb dL_areSubscribers_319 (lv_at hl 11 rfl) ?_
                                                      refine lv_iconst (v := nI 0) hx hb dL_areSubscribers_321 (by decide) ?_
                                                      refine x_calli (w2 := fun (S322 : S4) => LW cI cP cS ad la S322 lp lo lq lb lg) (wr := []) (x_runVE (n := 4) ⟨hx, hb, hml, hown, hts⟩ (fN_seen l D cI cP cS cL hfl ad la lp lo lq lb lg (s_lim S) (s_n S) (s_rows S) (s_cc S) (s_ct S) (s_ck S) (s_nr S) (s_cr S) (s_old S) (s_rw S) (s_co S) (s_re S) (s_nu S) (s_ma S) (s_sr S) (s_cp S) (s_pu S) (s_st S) (s_sl S) k (nI k) (nI t) (nI w) (nI 0) (by omega) (hsx_of (by omega)) (nx_seen (by omega) (by omega) (by omega) (by omega))) gL_areSubscribers_X4_seen rfl rfl rfl (by decide +kernel) ⟨by decide, by decide⟩ hN hK hP hD hS hA hE iLW rfl rfl (ci := 4) (q0 := 0) rfl rfl rfl rfl hl.1 (rest := []) (As := [.int (nI k), .int (nI t), .int (nI w), .int (nI 0)]) rfl (Nat.le_of_ble_eq_true rfl) dL_areSubscribers_322 ⟨by show _ ≤ 2200; omega, by show _ ≤ 13200; omega⟩) hP hD hS hA iLW [] iLW rfl rfl rfl (by decide) rfl (fun _ => rfl) (fun r322 S322 H locs hw hP hD hS => ?_)
                                                      obtain ⟨hr9, e8⟩ := N_seen (by omega) (by omega) hw
                                                      have e9 : S = S322 := (show S322 = S from e8).symm
                                                      subst e9
                                                      rw [he1, qNum_e va9 vb9 vc9 (by omega)] at hr9
                                                      have hr9 : r322 = nI a := hr9
                                                      subst hr9
                                                      have hP : va_P D vwCl (LW cI cP cS ad la S lp lo lq lb lg) H := hP
                                                      have hD : va_D A (LW cI cP cS ad la S lp lo lq lb lg) := hD
                                                      refine lv_istore (lv' := [(12, .int (nI a)), (0, .ref (ad 0)), (1, .ref (la 2)), (2, .ref (la 3)), (3, .ref (la 4)), (4, .int (nI 1)), (5, .int (nI k)), (6, .int (nI (7 * k))), (7, .int (nI 1)), (8, .int (nI t)), (9, .int (nI c9)), (10, .int (nI 1)), (11, .int (nI w))]) hx hb dL_areSubscribers_325 hl (by decide) rfl (fun ls hl => ?_)
                                                      refine lv_iload hx hb dL_areSubscribers_327 (lv_at hl 0 rfl) ?_
                                                      refine lv_iconst (v := -1) hx hb dL_areSubscribers_329 (by decide) ?_
                                                      refine x_cmp_lt (tgt := 408) hx hb (nI_nm1 (by omega)) dL_areSubscribers_330 (by decide) (fun c330 => ?_) (fun c330 => ?_)
                                                      · exact c330.elim
                                                      · refine lv_iload hx hb dL_areSubscribers_333 (lv_at hl 0 rfl) ?_
                                                        refine lv_bipush (v := nI 100) hx hb dL_areSubscribers_335 (by decide) ?_
                                                        refine x_cmp_ge (tgt := 408) hx hb (nI_leI (a := 100) (b := a) (by omega) (by omega)) dL_areSubscribers_337 (by decide) (fun c337 => ?_) (fun c337 => ?_)
                                                        · exfalso; omega
                                                        · refine lv_iload hx hb dL_areSubscribers_340 (lv_at hl 0 rfl) ?_
                                                          refine x_if_ge (tgt := 349) hx hb (nI_ge0 (by omega)) dL_areSubscribers_342 (by decide) (fun c342 => ?_) (fun c342 => ?_)
                                                          · refine lv_iconst (v := nI 0) hx hb dL_areSubscribers_349 (by decide) ?_
                                                            refine lv_aload_n hx hb dL_areSubscribers_350 rfl (lv_at hl 1 rfl) ?_
                                                            refine lv_iload hx hb dL_areSubscribers_351 (lv_at hl 6 rfl) ?_
                                                            refine lv_iload hx hb dL_areSubscribers_353 (lv_at hl 9 rfl) ?_
                                                            refine lv_iload hx hb dL_areSubscribers_355 (lv_at hl 12 rfl) ?_
                                                            refine lv_iconst (v := nI 1) hx hb dL_areSubscribers_357 (by decide) ?_
                                                            refine x_calli (w2 := fun (S358 : S4) => LW cI cP cS ad la S358 lp lo lq lb lg) (wr := []) (x_runVE (n := 4) ⟨hx, hb, hml, hown, hts⟩ (fN_seen l D cI cP cS cL hfl ad la lp lo lq lb lg (s_lim S) (s_n S) (s_rows S) (s_cc S) (s_ct S) (s_ck S) (s_nr S) (s_cr S) (s_old S) (s_rw S) (s_co S) (s_re S) (s_nu S) (s_ma S) (s_sr S) (s_cp S) (s_pu S) (s_st S) (s_sl S) k (nI k) (nI t) (nI w) (nI 1) (by omega) (hsx_of (by omega)) (nx_seen (by omega) (by omega) (by omega) (by omega))) gL_areSubscribers_X4_seen rfl rfl rfl (by decide +kernel) ⟨by decide, by decide⟩ hN hK hP hD hS hA hE iLW rfl rfl (ci := 4) (q0 := 0) rfl rfl rfl rfl hl.1 (rest := [.int (nI 0)]) (As := [.int (nI k), .int (nI t), .int (nI w), .int (nI 1)]) rfl (Nat.le_of_ble_eq_true rfl) dL_areSubscribers_358 ⟨by show _ ≤ 2200; omega, by show _ ≤ 13200; omega⟩) hP hD hS hA iLW [] iLW rfl rfl rfl (by decide) rfl (fun _ => rfl) (fun r358 S358 H locs hw hP hD hS => ?_)
                                                            obtain ⟨hr9, e8⟩ := N_seen (by omega) (by omega) hw
                                                            have e9 : S = S358 := (show S358 = S from e8).symm
                                                            subst e9
                                                            rw [he1, qNum_e va9 vb9 vc9 (by omega)] at hr9
                                                            have hr9 : r358 = nI b := hr9
                                                            subst hr9
                                                            have hP : va_P D vwCl (LW cI cP cS ad la S lp lo lq lb lg) H := hP
                                                            have hD : va_D A (LW cI cP cS ad la S lp lo lq lb lg) := hD
                                                            refine x_if_ge (tgt := 368) hx hb (nI_ge0 (by omega)) dL_areSubscribers_361 (by decide) (fun c361 => ?_) (fun c361 => ?_)
                                                            · refine lv_iconst (v := nI 0) hx hb dL_areSubscribers_368 (by decide) ?_
                                                              refine x_cmp_ne (tgt := 408) hx hb (Iff.rfl) dL_areSubscribers_369 (by decide) (fun c369 => ?_) (fun c369 => ?_)
                                                              · exact absurd rfl c369
                                                              · refine lv_iload hx hb dL_areSubscribers_372 (lv_at hl 0 rfl) ?_
                                                                refine x_if_ge (tgt := 381) hx hb (nI_ge0 (by omega)) dL_areSubscribers_374 (by decide) (fun c374 => ?_) (fun c374 => ?_)
                                                                · refine lv_iconst (v := nI 0) hx hb dL_areSubscribers_381 (by decide) ?_
                                                                  refine lv_aload_n hx hb dL_areSubscribers_382 rfl (lv_at hl 1 rfl) ?_
                                                                  refine lv_iload hx hb dL_areSubscribers_383 (lv_at hl 6 rfl) ?_
                                                                  refine lv_iload hx hb dL_areSubscribers_385 (lv_at hl 9 rfl) ?_
                                                                  refine lv_iload hx hb dL_areSubscribers_387 (lv_at hl 12 rfl) ?_
                                                                  refine lv_iconst (v := nI 2) hx hb dL_areSubscribers_389 (by decide) ?_
                                                                  refine x_calli (w2 := fun (S390 : S4) => LW cI cP cS ad la S390 lp lo lq lb lg) (wr := []) (x_runVE (n := 4) ⟨hx, hb, hml, hown, hts⟩ (fN_seen l D cI cP cS cL hfl ad la lp lo lq lb lg (s_lim S) (s_n S) (s_rows S) (s_cc S) (s_ct S) (s_ck S) (s_nr S) (s_cr S) (s_old S) (s_rw S) (s_co S) (s_re S) (s_nu S) (s_ma S) (s_sr S) (s_cp S) (s_pu S) (s_st S) (s_sl S) k (nI k) (nI t) (nI w) (nI 2) (by omega) (hsx_of (by omega)) (nx_seen (by omega) (by omega) (by omega) (by omega))) gL_areSubscribers_X4_seen rfl rfl rfl (by decide +kernel) ⟨by decide, by decide⟩ hN hK hP hD hS hA hE iLW rfl rfl (ci := 4) (q0 := 0) rfl rfl rfl rfl hl.1 (rest := [.int (nI 0)]) (As := [.int (nI k), .int (nI t), .int (nI w), .int (nI 2)]) rfl (Nat.le_of_ble_eq_true rfl) dL_areSubscribers_390 ⟨by show _ ≤ 2200; omega, by show _ ≤ 13200; omega⟩) hP hD hS hA iLW [] iLW rfl rfl rfl (by decide) rfl (fun _ => rfl) (fun r390 S390 H locs hw hP hD hS => ?_)
                                                                  obtain ⟨hr9, e8⟩ := N_seen (by omega) (by omega) hw
                                                                  have e9 : S = S390 := (show S390 = S from e8).symm
                                                                  subst e9
                                                                  rw [he1, qNum_e va9 vb9 vc9 (by omega)] at hr9
                                                                  have hr9 : r390 = nI c := hr9
                                                                  subst hr9
                                                                  have hP : va_P D vwCl (LW cI cP cS ad la S lp lo lq lb lg) H := hP
                                                                  have hD : va_D A (LW cI cP cS ad la S lp lo lq lb lg) := hD
                                                                  refine x_if_ge (tgt := 400) hx hb (nI_ge0 (by omega)) dL_areSubscribers_393 (by decide) (fun c393 => ?_) (fun c393 => ?_)
                                                                  · refine lv_iconst (v := nI 0) hx hb dL_areSubscribers_400 (by decide) ?_
                                                                    refine x_cmp_ne (tgt := 408) hx hb (Iff.rfl) dL_areSubscribers_401 (by decide) (fun c401 => ?_) (fun c401 => ?_)
                                                                    · exact absurd rfl c401
                                                                    · refine lv_iconst (v := nI 1) hx hb dL_areSubscribers_404 (by decide) ?_
                                                                      refine lv_goto (tgt := 409) hx hb dL_areSubscribers_405 (by decide) ?_
                                                                      refine lv_istore (lv' := [(4, .int (nI 1)), (12, .int (nI a)), (0, .ref (ad 0)), (1, .ref (la 2)), (2, .ref (la 3)), (3, .ref (la 4)), (5, .int (nI k)), (6, .int (nI (7 * k))), (7, .int (nI 1)), (8, .int (nI t)), (9, .int (nI c9)), (10, .int (nI 1)), (11, .int (nI w))]) hx hb dL_areSubscribers_409 hl (by decide) rfl (fun ls hl => ?_)
                                                                      refine lv_iload hx hb dL_areSubscribers_411 (lv_at hl 0 rfl) ?_
                                                                      refine x_if_eq (tgt := 520) hx hb (nI_z (by omega)) dL_areSubscribers_413 (by decide) (fun c413 => ?_) (fun c413 => ?_)
                                                                      · exfalso; omega
                                                                      · refine lv_iload hx hb dL_areSubscribers_416 (lv_at hl 1 rfl) ?_
                                                                        refine x_if_lt (tgt := 520) hx hb (nI_ng (by omega)) dL_areSubscribers_418 (by decide) (fun c418 => ?_) (fun c418 => ?_)
                                                                        · exact c418.elim
                                                                        · refine lv_iload hx hb dL_areSubscribers_421 (lv_at hl 10 rfl) ?_
                                                                          refine x_if_lt (tgt := 520) hx hb (nI_ng (by omega)) dL_areSubscribers_423 (by decide) (fun c423 => ?_) (fun c423 => ?_)
                                                                          · exact c423.elim
                                                                          · refine lv_iload hx hb dL_areSubscribers_426 (lv_at hl 8 rfl) ?_
                                                                            refine x_if_eq (tgt := 520) hx hb (nI_z (by omega)) dL_areSubscribers_428 (by decide) (fun c428 => ?_) (fun c428 => ?_)
                                                                            · exfalso; omega
                                                                            · refine lv_aload_n hx hb dL_areSubscribers_431 rfl (lv_at hl 4 rfl) ?_
                                                                              refine lv_iload hx hb dL_areSubscribers_432 (lv_at hl 7 rfl) ?_
                                                                              refine lv_iconst (v := nI 5) hx hb dL_areSubscribers_434 (by decide) ?_
                                                                              refine x_add (k := (7 * k) + 5) hx hb dL_areSubscribers_435 rfl ?_
                                                                              refine lv_iload hx hb dL_areSubscribers_436 (lv_at hl 9 rfl) ?_
                                                                              refine x_add (k := ((7 * k) + 5) + t) hx hb dL_areSubscribers_438 rfl ?_
                                                                              refine x_ald (v := nI 0) hx hb hK hP 40 0 rfl rfl (by omega) (by omega) ((IN_b5 hI (by omega) (by omega)).trans (by rw [hmi])) dL_areSubscribers_439 ?_
                                                                              refine x_if_ne (tgt := 520) hx hb (nI_z (by omega)) dL_areSubscribers_440 (by decide) (fun c440 => ?_) (fun c440 => ?_)
                                                                              · exfalso; omega
                                                                              · refine lv_aload_n hx hb dL_areSubscribers_443 rfl (lv_at hl 3 rfl) ?_
                                                                                refine lv_iconst (v := nI 2) hx hb dL_areSubscribers_444 (by decide) ?_
                                                                                refine lv_aload_n hx hb dL_areSubscribers_445 rfl (lv_at hl 4 rfl) ?_
                                                                                refine lv_iload hx hb dL_areSubscribers_446 (lv_at hl 7 rfl) ?_
                                                                                refine x_ald (v := nI (bk k)) hx hb hK hP 40 0 rfl rfl (by omega) (by omega) (IN_b0 hI (by omega)) dL_areSubscribers_448 ?_
                                                                                refine x_mul (k := 2 * (bk k)) hx hb dL_areSubscribers_449 rfl ?_
                                                                                refine lv_iload hx hb dL_areSubscribers_450 (lv_at hl 9 rfl) ?_
                                                                                refine x_add (k := (2 * (bk k)) + t) hx hb dL_areSubscribers_452 rfl ?_
                                                                                refine x_ald (v := nI li) hx hb hK hP 39 0 rfl rfl (by omega) (by omega) eli dL_areSubscribers_453 ?_
                                                                                refine lv_istore (lv' := [(13, .int (nI li)), (4, .int (nI 1)), (12, .int (nI a)), (0, .ref (ad 0)), (1, .ref (la 2)), (2, .ref (la 3)), (3, .ref (la 4)), (5, .int (nI k)), (6, .int (nI (7 * k))), (7, .int (nI 1)), (8, .int (nI t)), (9, .int (nI c9)), (10, .int (nI 1)), (11, .int (nI w))]) hx hb dL_areSubscribers_454 hl (by decide) rfl (fun ls hl => ?_)
                                                                                refine x_join (nL := 14) (D := D) (A := A) (H0 := s.heap) (fun (z9 : Nat) => True) 469 (fun (z9 : Nat) => 20 + 660 * k + 10 + 300 * t + 8 + 20 * w + 12) (fun (z9 : Nat) => 120 + 3960 * k + 60 + 1800 * t + 48 + 120 * w + 72) (fun (z9 : Nat) => LW cI cP cS ad la S lp lo lq lb lg) (fun (z9 : Nat) => [(0, .ref (ad 0)), (1, .ref (la 2)), (2, .ref (la 3)), (3, .ref (la 4)), (4, .int (nI 1)), (5, .int (nI k)), (6, .int (nI (7 * k))), (7, .int (nI 1)), (8, .int (nI t)), (9, .int (nI c9)), (10, .int (nI 1)), (11, .int (nI w)), (12, .int (nI a)), (13, .int (nI li))]) (fun (z9 : Nat) => []) ?_ ?_
                                                                                · intro x9 hj9 H locs ls hP hD hS hl
                                                                                  obtain ⟨z9, h9⟩ : ∃ z, z = x9 := ⟨x9, rfl⟩
                                                                                  subst h9
                                                                                  have hP : va_P D vwCl (LW cI cP cS ad la S lp lo lq lb lg) H := hP
                                                                                  have hD : va_D A (LW cI cP cS ad la S lp lo lq lb lg) := hD
                                                                                  have hl : lv_has ls 14 [(0, .ref (ad 0)), (1, .ref (la 2)), (2, .ref (la 3)), (3, .ref (la 4)), (4, .int (nI 1)), (5, .int (nI k)), (6, .int (nI (7 * k))), (7, .int (nI 1)), (8, .int (nI t)), (9, .int (nI c9)), (10, .int (nI 1)), (11, .int (nI w)), (12, .int (nI a)), (13, .int (nI li))] := hl
                                                                                  show W _ _ _ _ _ _ _ _ _ _ _ _ (20 + 660 * k + 10 + 300 * t + 8 + 20 * w + 12) (120 + 3960 * k + 60 + 1800 * t + 48 + 120 * w + 72) _ _
                                                                                  refine x_join (nL := 14) (D := D) (A := A) (H0 := s.heap) (fun (z9 : Nat) => True) 491 (fun (z9 : Nat) => 20 + 660 * k + 10 + 300 * t + 8 + 20 * w + 16) (fun (z9 : Nat) => 120 + 3960 * k + 60 + 1800 * t + 48 + 120 * w + 96) (fun (z9 : Nat) => LW cI cP cS ad la S lp lo lq lb lg) (fun (z9 : Nat) => [(0, .ref (ad 0)), (1, .ref (la 2)), (2, .ref (la 3)), (3, .ref (la 4)), (4, .int (nI 1)), (5, .int (nI k)), (6, .int (nI (7 * k))), (7, .int (nI 1)), (8, .int (nI t)), (9, .int (nI c9)), (10, .int (nI 1)), (11, .int (nI w)), (12, .int (nI a)), (13, .int (nI li))]) (fun (z9 : Nat) => []) ?_ ?_
                                                                                  · intro x9 hj9 H locs ls hP hD hS hl
                                                                                    obtain ⟨z9, h9⟩ : ∃ z, z = x9 := ⟨x9, rfl⟩
                                                                                    subst h9
                                                                                    have hP : va_P D vwCl (LW cI cP cS ad la S lp lo lq lb lg) H := hP
                                                                                    have hD : va_D A (LW cI cP cS ad la S lp lo lq lb lg) := hD
                                                                                    have hl : lv_has ls 14 [(0, .ref (ad 0)), (1, .ref (la 2)), (2, .ref (la 3)), (3, .ref (la 4)), (4, .int (nI 1)), (5, .int (nI k)), (6, .int (nI (7 * k))), (7, .int (nI 1)), (8, .int (nI t)), (9, .int (nI c9)), (10, .int (nI 1)), (11, .int (nI w)), (12, .int (nI a)), (13, .int (nI li))] := hl
                                                                                    show W _ _ _ _ _ _ _ _ _ _ _ _ (20 + 660 * k + 10 + 300 * t + 8 + 20 * w + 16) (120 + 3960 * k + 60 + 1800 * t + 48 + 120 * w + 96) _ _
                                                                                    refine x_join (nL := 14) (D := D) (A := A) (H0 := s.heap) (fun (z9 : Nat) => True) 513 (fun (z9 : Nat) => 20 + 660 * k + 10 + 300 * t + 8 + 20 * w + 20) (fun (z9 : Nat) => 120 + 3960 * k + 60 + 1800 * t + 48 + 120 * w + 120) (fun (z9 : Nat) => LW cI cP cS ad la S lp lo lq lb lg) (fun (z9 : Nat) => [(0, .ref (ad 0)), (1, .ref (la 2)), (2, .ref (la 3)), (3, .ref (la 4)), (4, .int (nI 1)), (5, .int (nI k)), (6, .int (nI (7 * k))), (7, .int (nI 1)), (8, .int (nI t)), (9, .int (nI c9)), (10, .int (nI 1)), (11, .int (nI w)), (12, .int (nI a)), (13, .int (nI li))]) (fun (z9 : Nat) => []) ?_ ?_
                                                                                    · intro x9 hj9 H locs ls hP hD hS hl
                                                                                      obtain ⟨z9, h9⟩ : ∃ z, z = x9 := ⟨x9, rfl⟩
                                                                                      subst h9
                                                                                      have hP : va_P D vwCl (LW cI cP cS ad la S lp lo lq lb lg) H := hP
                                                                                      have hD : va_D A (LW cI cP cS ad la S lp lo lq lb lg) := hD
                                                                                      have hl : lv_has ls 14 [(0, .ref (ad 0)), (1, .ref (la 2)), (2, .ref (la 3)), (3, .ref (la 4)), (4, .int (nI 1)), (5, .int (nI k)), (6, .int (nI (7 * k))), (7, .int (nI 1)), (8, .int (nI t)), (9, .int (nI c9)), (10, .int (nI 1)), (11, .int (nI w)), (12, .int (nI a)), (13, .int (nI li))] := hl
                                                                                      show W _ _ _ _ _ _ _ _ _ _ _ _ (20 + 660 * k + 10 + 300 * t + 8 + 20 * w + 20) (120 + 3960 * k + 60 + 1800 * t + 48 + 120 * w + 120) _ _
                                                                                      refine lv_iconst (v := nI 1) hx hb dL_areSubscribers_513 (by decide) ?_
                                                                                      refine lv_goto (tgt := 518) hx hb dL_areSubscribers_514 (by decide) ?_
                                                                                      refine lv_istore (lv' := [(4, .int (nI 1)), (0, .ref (ad 0)), (1, .ref (la 2)), (2, .ref (la 3)), (3, .ref (la 4)), (5, .int (nI k)), (6, .int (nI (7 * k))), (7, .int (nI 1)), (8, .int (nI t)), (9, .int (nI c9)), (10, .int (nI 1)), (11, .int (nI w)), (12, .int (nI a)), (13, .int (nI li))]) hx hb dL_areSubscribers_518 hl (by decide) rfl (fun ls hl => ?_)
                                                                                      refine x_iinc (k := 11) (o := 1) (v := w + 1) (lv' := [(11, .int (nI (w + 1))), (4, .int (nI 1)), (0, .ref (ad 0)), (1, .ref (la 2)), (2, .ref (la 3)), (3, .ref (la 4)), (5, .int (nI k)), (6, .int (nI (7 * k))), (7, .int (nI 1)), (8, .int (nI t)), (9, .int (nI c9)), (10, .int (nI 1)), (12, .int (nI a)), (13, .int (nI li))]) hx hb dL_areSubscribers_520 hl rfl rfl rfl (by decide) rfl (fun ls hl => ?_)
                                                                                      refine lv_goto (tgt := 302) hx hb dL_areSubscribers_523 (by decide) ?_
                                                                                      exact W.widen (by show _ ≤ 20 + 660 * k + 10 + 300 * t + 8 + 20 * (w + 1); omega) (by show _ ≤ 120 + 3960 * k + 60 + 1800 * t + 48 + 120 * (w + 1); omega) (ih302 (w + 1) (by show w + 1 ≤ 12; omega) (by show 12 - (w + 1) < 12 - w; omega) _ _ _ hP hD hS (lv_sub hl [2, 3, 4, 5, 1, 6, 7, 8, 9, 10, 11, 0] rfl))
                                                                                    intro kj513
                                                                                    refine lv_iload hx hb dL_areSubscribers_491 (lv_at hl 13 rfl) ?_
                                                                                    refine lv_iconst (v := nI 4) hx hb dL_areSubscribers_493 (by decide) ?_
                                                                                    refine lv_iand hx hb dL_areSubscribers_494 ?_
                                                                                    refine x_top (y := nI (li / 4 % 2 * 4)) (a_4 (by omega)) ?_
                                                                                    refine lv_iconst (v := nI 4) hx hb dL_areSubscribers_495 (by decide) ?_
                                                                                    refine x_cmp_eq (tgt := 513) hx hb (nI_eq (a := (li / 4 % 2 * 4)) (b := 4) (by omega) (by omega)) dL_areSubscribers_496 (by decide) (fun c496 => ?_) (fun c496 => ?_)
                                                                                    · exact W.widen (by show _ ≤ 20 + 660 * k + 10 + 300 * t + 8 + 20 * w + 20; omega) (by show _ ≤ 120 + 3960 * k + 60 + 1800 * t + 48 + 120 * w + 120; omega) (kj513 0 trivial _ _ _ hP hD hS (lv_sub hl [0, 1, 2, 3, 4, 5, 6, 7, 8, 9, 10, 11, 12, 13] rfl))
                                                                                    · refine lv_aload_n hx hb dL_areSubscribers_499 rfl (lv_at hl 0 rfl) ?_
                                                                                      refine lv_iload hx hb dL_areSubscribers_500 (lv_at hl 5 rfl) ?_
                                                                                      refine lv_iload hx hb dL_areSubscribers_502 (lv_at hl 8 rfl) ?_
                                                                                      refine lv_iload hx hb dL_areSubscribers_504 (lv_at hl 11 rfl) ?_
                                                                                      refine lv_iconst (v := nI 2) hx hb dL_areSubscribers_506 (by decide) ?_
                                                                                      refine x_calli (w2 := fun (S507 : S4) => LW cI cP cS ad la S507 lp lo lq lb lg) (wr := []) (x_runVE (n := 4) ⟨hx, hb, hml, hown, hts⟩ (fN_seen l D cI cP cS cL hfl ad la lp lo lq lb lg (s_lim S) (s_n S) (s_rows S) (s_cc S) (s_ct S) (s_ck S) (s_nr S) (s_cr S) (s_old S) (s_rw S) (s_co S) (s_re S) (s_nu S) (s_ma S) (s_sr S) (s_cp S) (s_pu S) (s_st S) (s_sl S) k (nI k) (nI t) (nI w) (nI 2) (by omega) (hsx_of (by omega)) (nx_seen (by omega) (by omega) (by omega) (by omega))) gL_areSubscribers_X4_seen rfl rfl rfl (by decide +kernel) ⟨by decide, by decide⟩ hN hK hP hD hS hA hE iLW rfl rfl (ci := 4) (q0 := 0) rfl rfl rfl rfl hl.1 (rest := []) (As := [.int (nI k), .int (nI t), .int (nI w), .int (nI 2)]) rfl (Nat.le_of_ble_eq_true rfl) dL_areSubscribers_507 ⟨by show _ ≤ 2200; omega, by show _ ≤ 13200; omega⟩) hP hD hS hA iLW [] iLW rfl rfl rfl (by decide) rfl (fun _ => rfl) (fun r507 S507 H locs hw hP hD hS => ?_)
                                                                                      obtain ⟨hr9, e8⟩ := N_seen (by omega) (by omega) hw
                                                                                      have e9 : S = S507 := (show S507 = S from e8).symm
                                                                                      subst e9
                                                                                      rw [he1, qNum_e va9 vb9 vc9 (by omega)] at hr9
                                                                                      have hr9 : r507 = nI c := hr9
                                                                                      subst hr9
                                                                                      have hP : va_P D vwCl (LW cI cP cS ad la S lp lo lq lb lg) H := hP
                                                                                      have hD : va_D A (LW cI cP cS ad la S lp lo lq lb lg) := hD
                                                                                      refine x_if_ne (tgt := 517) hx hb (nI_z (by omega)) dL_areSubscribers_510 (by decide) (fun c510 => ?_) (fun c510 => ?_)
                                                                                      · exfalso; omega
                                                                                      · exact W.widen (by show _ ≤ 20 + 660 * k + 10 + 300 * t + 8 + 20 * w + 20; omega) (by show _ ≤ 120 + 3960 * k + 60 + 1800 * t + 48 + 120 * w + 120; omega) (kj513 0 trivial _ _ _ hP hD hS (lv_sub hl [0, 1, 2, 3, 4, 5, 6, 7, 8, 9, 10, 11, 12, 13] rfl))
                                                                                  intro kj491
                                                                                  refine lv_iload hx hb dL_areSubscribers_469 (lv_at hl 13 rfl) ?_
                                                                                  refine lv_iconst (v := nI 2) hx hb dL_areSubscribers_471 (by decide) ?_
                                                                                  refine lv_iand hx hb dL_areSubscribers_472 ?_
                                                                                  refine x_top (y := nI (li / 2 % 2 * 2)) (a_2 (by omega)) ?_
                                                                                  refine lv_iconst (v := nI 2) hx hb dL_areSubscribers_473 (by decide) ?_
                                                                                  refine x_cmp_eq (tgt := 491) hx hb (nI_eq (a := (li / 2 % 2 * 2)) (b := 2) (by omega) (by omega)) dL_areSubscribers_474 (by decide) (fun c474 => ?_) (fun c474 => ?_)
                                                                                  · exact W.widen (by show _ ≤ 20 + 660 * k + 10 + 300 * t + 8 + 20 * w + 16; omega) (by show _ ≤ 120 + 3960 * k + 60 + 1800 * t + 48 + 120 * w + 96; omega) (kj491 0 trivial _ _ _ hP hD hS (lv_sub hl [0, 1, 2, 3, 4, 5, 6, 7, 8, 9, 10, 11, 12, 13] rfl))
                                                                                  · refine lv_aload_n hx hb dL_areSubscribers_477 rfl (lv_at hl 0 rfl) ?_
                                                                                    refine lv_iload hx hb dL_areSubscribers_478 (lv_at hl 5 rfl) ?_
                                                                                    refine lv_iload hx hb dL_areSubscribers_480 (lv_at hl 8 rfl) ?_
                                                                                    refine lv_iload hx hb dL_areSubscribers_482 (lv_at hl 11 rfl) ?_
                                                                                    refine lv_iconst (v := nI 1) hx hb dL_areSubscribers_484 (by decide) ?_
                                                                                    refine x_calli (w2 := fun (S485 : S4) => LW cI cP cS ad la S485 lp lo lq lb lg) (wr := []) (x_runVE (n := 4) ⟨hx, hb, hml, hown, hts⟩ (fN_seen l D cI cP cS cL hfl ad la lp lo lq lb lg (s_lim S) (s_n S) (s_rows S) (s_cc S) (s_ct S) (s_ck S) (s_nr S) (s_cr S) (s_old S) (s_rw S) (s_co S) (s_re S) (s_nu S) (s_ma S) (s_sr S) (s_cp S) (s_pu S) (s_st S) (s_sl S) k (nI k) (nI t) (nI w) (nI 1) (by omega) (hsx_of (by omega)) (nx_seen (by omega) (by omega) (by omega) (by omega))) gL_areSubscribers_X4_seen rfl rfl rfl (by decide +kernel) ⟨by decide, by decide⟩ hN hK hP hD hS hA hE iLW rfl rfl (ci := 4) (q0 := 0) rfl rfl rfl rfl hl.1 (rest := []) (As := [.int (nI k), .int (nI t), .int (nI w), .int (nI 1)]) rfl (Nat.le_of_ble_eq_true rfl) dL_areSubscribers_485 ⟨by show _ ≤ 2200; omega, by show _ ≤ 13200; omega⟩) hP hD hS hA iLW [] iLW rfl rfl rfl (by decide) rfl (fun _ => rfl) (fun r485 S485 H locs hw hP hD hS => ?_)
                                                                                    obtain ⟨hr9, e8⟩ := N_seen (by omega) (by omega) hw
                                                                                    have e9 : S = S485 := (show S485 = S from e8).symm
                                                                                    subst e9
                                                                                    rw [he1, qNum_e va9 vb9 vc9 (by omega)] at hr9
                                                                                    have hr9 : r485 = nI b := hr9
                                                                                    subst hr9
                                                                                    have hP : va_P D vwCl (LW cI cP cS ad la S lp lo lq lb lg) H := hP
                                                                                    have hD : va_D A (LW cI cP cS ad la S lp lo lq lb lg) := hD
                                                                                    refine x_if_ne (tgt := 517) hx hb (nI_z (by omega)) dL_areSubscribers_488 (by decide) (fun c488 => ?_) (fun c488 => ?_)
                                                                                    · exfalso; omega
                                                                                    · exact W.widen (by show _ ≤ 20 + 660 * k + 10 + 300 * t + 8 + 20 * w + 16; omega) (by show _ ≤ 120 + 3960 * k + 60 + 1800 * t + 48 + 120 * w + 96; omega) (kj491 0 trivial _ _ _ hP hD hS (lv_sub hl [0, 1, 2, 3, 4, 5, 6, 7, 8, 9, 10, 11, 12, 13] rfl))
                                                                                intro kj469
                                                                                refine lv_iload hx hb dL_areSubscribers_456 (lv_at hl 0 rfl) ?_
                                                                                refine lv_iconst (v := nI 1) hx hb dL_areSubscribers_458 (by decide) ?_
                                                                                refine lv_iand hx hb dL_areSubscribers_459 ?_
                                                                                refine x_top (y := nI (li % 2)) (a_1 (by omega)) ?_
                                                                                refine lv_iconst (v := nI 1) hx hb dL_areSubscribers_460 (by decide) ?_
                                                                                refine x_cmp_eq (tgt := 469) hx hb (nI_eq (a := (li % 2)) (b := 1) (by omega) (by omega)) dL_areSubscribers_461 (by decide) (fun c461 => ?_) (fun c461 => ?_)
                                                                                · exact W.widen (by show _ ≤ 20 + 660 * k + 10 + 300 * t + 8 + 20 * w + 12; omega) (by show _ ≤ 120 + 3960 * k + 60 + 1800 * t + 48 + 120 * w + 72; omega) (kj469 0 trivial _ _ _ hP hD hS (lv_sub hl [3, 4, 5, 6, 1, 7, 8, 9, 10, 11, 12, 13, 2, 0] rfl))
                                                                                · refine lv_iload hx hb dL_areSubscribers_464 (lv_at hl 2 rfl) ?_
                                                                                  refine x_if_ne (tgt := 517) hx hb (nI_z (by omega)) dL_areSubscribers_466 (by decide) (fun c466 => ?_) (fun c466 => ?_)
                                                                                  · exfalso; omega
                                                                                  · exact W.widen (by show _ ≤ 20 + 660 * k + 10 + 300 * t + 8 + 20 * w + 12; omega) (by show _ ≤ 120 + 3960 * k + 60 + 1800 * t + 48 + 120 * w + 72; omega) (kj469 0 trivial _ _ _ hP hD hS (lv_sub hl [3, 4, 5, 6, 1, 7, 8, 9, 10, 11, 12, 13, 2, 0] rfl))
                                                                  · exact absurd trivial c393
                                                                · exact absurd trivial c374
                                                            · exact absurd trivial c361
                                                          · exact absurd trivial c342
                                  · refine lv_aload_n hx hb dL_areSubscribers_211 rfl (lv_at hl 0 rfl) ?_
                                    refine lv_iload hx hb dL_areSubscribers_212 (lv_at hl 5 rfl) ?_
                                    refine lv_iload hx hb dL_areSubscribers_214 (lv_at hl 8 rfl) ?_
                                    refine x_calli (w2 := fun (S216 : S4) => LW cI cP cS ad la S216 lp lo lq lb lg) (wr := []) (x_runVE (n := 2) ⟨hx, hb, hml, hown, hts⟩ (fN_copiedAt l D cI cP cS cL hfl ad la lp lo lq lb lg (s_lim S) (s_n S) (s_rows S) (s_cc S) (s_ct S) (s_ck S) (s_nr S) (s_cr S) (s_old S) (s_rw S) (s_co S) (s_re S) (s_nu S) (s_ma S) (s_sr S) (s_cp S) (s_pu S) (s_st S) (s_sl S) k (nI k) (nI t) (by omega) (hsx_of (by omega)) (nx_st (by omega) (by omega))) gL_areSubscribers_X4_copiedAt rfl rfl rfl (by decide +kernel) ⟨by decide, by decide⟩ hN hK hP hD hS hA hE iLW rfl rfl (ci := 4) (q0 := 0) rfl rfl rfl rfl hl.1 (rest := []) (As := [.int (nI k), .int (nI t)]) rfl (Nat.le_of_ble_eq_true rfl) dL_areSubscribers_216 ⟨by show _ ≤ 2200; omega, by show _ ≤ 13200; omega⟩) hP hD hS hA iLW [] iLW rfl rfl rfl (by decide) rfl (fun _ => rfl) (fun r216 S216 H locs hw hP hD hS => ?_)
                                    obtain ⟨hr9, e8⟩ := N_copiedAt (by omega) hw
                                    have e9 : S = S216 := (show S216 = S from e8).symm
                                    subst e9
                                    rw [IN_cp hI (by omega) (by omega)] at hr9
                                    rw [hkc, eX_s] at hr9
                                    subst hr9
                                    have hP : va_P D vwCl (LW cI cP cS ad la S lp lo lq lb lg) H := hP
                                    have hD : va_D A (LW cI cP cS ad la S lp lo lq lb lg) := hD
                                    refine lv_istore (lv' := [(9, .int (nI c9)), (0, .ref (ad 0)), (1, .ref (la 2)), (2, .ref (la 3)), (3, .ref (la 4)), (4, .int (nI 1)), (5, .int (nI k)), (6, .int (nI (7 * k))), (7, .int (nI 1)), (8, .int (nI t))]) hx hb dL_areSubscribers_219 hl (by decide) rfl (fun ls hl => ?_)
                                    refine lv_aload_n hx hb dL_areSubscribers_221 rfl (lv_at hl 1 rfl) ?_
                                    refine lv_iconst (v := nI 5) hx hb dL_areSubscribers_222 (by decide) ?_
                                    refine lv_iload hx hb dL_areSubscribers_223 (lv_at hl 6 rfl) ?_
                                    refine lv_iload hx hb dL_areSubscribers_225 (lv_at hl 9 rfl) ?_
                                    refine lv_iconst (v := nI 0) hx hb dL_areSubscribers_227 (by decide) ?_
                                    refine lv_iconst (v := nI 0) hx hb dL_areSubscribers_228 (by decide) ?_
                                    refine x_calli (w2 := fun (S229 : S4) => LW cI cP cS ad la S229 lp lo lq lb lg) (wr := []) (x_runL (n := 6) ⟨hx, hb, hml, hown, hts⟩ (fA_isFaithful l D cI cP cS cL hfl ad la lp lo lq lb lg (s_lim S) (s_n S) (s_rows S) (s_cc S) (s_ct S) (s_ck S) (s_nr S) (s_cr S) (s_old S) (s_rw S) (s_co S) (s_re S) (s_nu S) (s_ma S) (s_sr S) (s_cp S) (s_pu S) (s_st S) (s_sl S) k (bk k) (nI k) (nI t) (nI 0) (nI 0) (by omega) (IN_f hI (by omega : k < 3)).2.2.1 (hsx_of (by omega)) (IN_sts hI k (by omega)) (Nat.le_trans (IN_sls hI k (by omega)) hn50) (IN_pu hI (by omega)) (H_cp (IN_of hI) (by omega))) gL_areSubscribers_L_asks rfl rfl rfl (by decide +kernel) ⟨by decide, by decide⟩ hN hK hP hD hS hA hE iLW rfl rfl rfl hl.1 (rest := []) (As := [.ref (ad 0), .int (nI 5), .int (nI k), .int (nI t), .int (nI 0), .int (nI 0)]) rfl (Nat.le_of_ble_eq_true rfl) dL_areSubscribers_229 ⟨by show _ ≤ 2200; omega, by show _ ≤ 13200; omega⟩) hP hD hS hA iLW [] iLW rfl rfl rfl (by decide) rfl (fun _ => rfl) (fun r229 S229 H locs hw hP hD hS => ?_)
                                    obtain ⟨hr9, e8⟩ := (O_faith (IN_of hI) (by omega) (by omega) hw).2 h12 (by omega)
                                    have e9 : S = S229 := (show S229 = S from e8).symm
                                    subst e9
                                    have hP : va_P D vwCl (LW cI cP cS ad la S lp lo lq lb lg) H := hP
                                    have hD : va_D A (LW cI cP cS ad la S lp lo lq lb lg) := hD
                                    refine lv_istore (lv' := [(10, .int r229), (9, .int (nI c9)), (0, .ref (ad 0)), (1, .ref (la 2)), (2, .ref (la 3)), (3, .ref (la 4)), (4, .int (nI 1)), (5, .int (nI k)), (6, .int (nI (7 * k))), (7, .int (nI 1)), (8, .int (nI t))]) hx hb dL_areSubscribers_232 hl (by decide) rfl (fun ls hl => ?_)
                                    refine lv_iload hx hb dL_areSubscribers_234 (lv_at hl 1 rfl) ?_
                                    refine lv_aload_n hx hb dL_areSubscribers_236 rfl (lv_at hl 4 rfl) ?_
                                    refine lv_iload hx hb dL_areSubscribers_237 (lv_at hl 8 rfl) ?_
                                    refine lv_iconst (v := nI 3) hx hb dL_areSubscribers_239 (by decide) ?_
                                    refine x_add (k := (7 * k) + 3) hx hb dL_areSubscribers_240 rfl ?_
                                    refine lv_iload hx hb dL_areSubscribers_241 (lv_at hl 10 rfl) ?_
                                    refine x_add (k := ((7 * k) + 3) + t) hx hb dL_areSubscribers_243 rfl ?_
                                    refine x_ald (v := nI c9) hx hb hK hP 40 0 rfl rfl (by omega) (by omega) ((IN_b3 hI (by omega) (by omega)).trans (by rw [hkc, eX_s])) dL_areSubscribers_244 ?_
                                    refine x_cmp_ne (tgt := 296) hx hb (Iff.rfl) dL_areSubscribers_245 (by decide) (fun c245 => ?_) (fun c245 => ?_)
                                    · exact absurd rfl c245
                                    · refine lv_iload hx hb dL_areSubscribers_248 (lv_at hl 9 rfl) ?_
                                      refine x_if_eq (tgt := 285) hx hb (nI_z (by omega)) dL_areSubscribers_250 (by decide) (fun c250 => ?_) (fun c250 => ?_)
                                      · exfalso; omega
                                      · refine lv_iload hx hb dL_areSubscribers_253 (lv_at hl 1 rfl) ?_
                                        refine x_if_lt (tgt := 285) hx hb (nI_ng (by omega)) dL_areSubscribers_255 (by decide) (fun c255 => ?_) (fun c255 => ?_)
                                        · exact c255.elim
                                        · refine lv_iload hx hb dL_areSubscribers_258 (lv_at hl 0 rfl) ?_
                                          refine x_if_lt (tgt := 296) hx hb (Iff.rfl) dL_areSubscribers_260 (by decide) (fun c260 => ?_) (fun c260 => ?_)
                                          · exfalso; rcases hr9 with z | ⟨z, -⟩ <;> (rw [z] at c260; exact absurd c260 (by decide))
                                          · refine lv_aload_n hx hb dL_areSubscribers_263 rfl (lv_at hl 4 rfl) ?_
                                            refine lv_iload hx hb dL_areSubscribers_264 (lv_at hl 8 rfl) ?_
                                            refine lv_iconst (v := nI 5) hx hb dL_areSubscribers_266 (by decide) ?_
                                            refine x_add (k := (7 * k) + 5) hx hb dL_areSubscribers_267 rfl ?_
                                            refine lv_iload hx hb dL_areSubscribers_268 (lv_at hl 10 rfl) ?_
                                            refine x_add (k := ((7 * k) + 5) + t) hx hb dL_areSubscribers_270 rfl ?_
                                            refine x_ald (v := nI 1) hx hb hK hP 40 0 rfl rfl (by omega) (by omega) ((IN_b5 hI (by omega) (by omega)).trans (by rw [hmi])) dL_areSubscribers_271 ?_
                                            refine lv_iconst (v := nI 1) hx hb dL_areSubscribers_272 (by decide) ?_
                                            refine x_cmp_eq (tgt := 292) hx hb (Iff.rfl) dL_areSubscribers_273 (by decide) (fun c273 => ?_) (fun c273 => ?_)
                                            · refine lv_iconst (v := nI 1) hx hb dL_areSubscribers_292 (by decide) ?_
                                              refine lv_goto (tgt := 297) hx hb dL_areSubscribers_293 (by decide) ?_
                                              refine lv_istore (lv' := [(4, .int (nI 1)), (10, .int r229), (9, .int (nI c9)), (0, .ref (ad 0)), (1, .ref (la 2)), (2, .ref (la 3)), (3, .ref (la 4)), (5, .int (nI k)), (6, .int (nI (7 * k))), (7, .int (nI 1)), (8, .int (nI t))]) hx hb dL_areSubscribers_297 hl (by decide) rfl (fun ls hl => ?_)
                                              refine lv_iconst (v := nI 0) hx hb dL_areSubscribers_299 (by decide) ?_
                                              refine lv_istore (lv' := [(11, .int (nI 0)), (4, .int (nI 1)), (10, .int r229), (9, .int (nI c9)), (0, .ref (ad 0)), (1, .ref (la 2)), (2, .ref (la 3)), (3, .ref (la 4)), (5, .int (nI k)), (6, .int (nI (7 * k))), (7, .int (nI 1)), (8, .int (nI t))]) hx hb dL_areSubscribers_300 hl (by decide) rfl (fun ls hl => ?_)
                                              refine x_loopc (nL := 14) (fun (w : Nat) => w ≤ 12) (fun (w : Nat) => 12 - w) (fun (w : Nat) => 20 + 660 * k + 10 + 300 * t + 8 + 20 * w) (fun (w : Nat) => 120 + 3960 * k + 60 + 1800 * t + 48 + 120 * w) (fun (w : Nat) => LW cI cP cS ad la S lp lo lq lb lg) (fun (w : Nat) => [(0, .ref (ad 0)), (1, .ref (la 2)), (2, .ref (la 3)), (3, .ref (la 4)), (4, .int (nI 1)), (5, .int (nI k)), (6, .int (nI (7 * k))), (7, .int (nI 1)), (8, .int (nI t)), (9, .int (nI c9)), (10, .int r229), (11, .int (nI w))]) (fun (w : Nat) => []) ?_ 0 (Nat.zero_le 12) (by show _ ≤ 20 + 660 * k + 10 + 300 * t + 8 + 20 * 0; omega) (by show _ ≤ 120 + 3960 * k + 60 + 1800 * t + 48 + 120 * 0; omega) hP hD hS (lv_sub hl [4, 5, 6, 7, 1, 8, 9, 10, 11, 3, 2, 0] rfl)
                                              intro x9 hI302 ih302 H locs ls hP hD hS hl
                                              obtain ⟨w, h9⟩ : ∃ z, z = x9 := ⟨x9, rfl⟩
                                              subst h9
                                              have hP : va_P D vwCl (LW cI cP cS ad la S lp lo lq lb lg) H := hP
                                              have hD : va_D A (LW cI cP cS ad la S lp lo lq lb lg) := hD
                                              have hl : lv_has ls 14 [(0, .ref (ad 0)), (1, .ref (la 2)), (2, .ref (la 3)), (3, .ref (la 4)), (4, .int (nI 1)), (5, .int (nI k)), (6, .int (nI (7 * k))), (7, .int (nI 1)), (8, .int (nI t)), (9, .int (nI c9)), (10, .int r229), (11, .int (nI w))] := hl
                                              show W _ _ _ _ _ _ _ _ _ _ _ _ (20 + 660 * k + 10 + 300 * t + 8 + 20 * w) (120 + 3960 * k + 60 + 1800 * t + 48 + 120 * w) _ _
                                              have hw9 := hI302
                                              refine lv_iload hx hb dL_areSubscribers_302 (lv_at hl 11 rfl) ?_
                                              refine lv_bipush (v := nI 12) hx hb dL_areSubscribers_304 (by decide) ?_
                                              refine x_cmp_ge (tgt := 526) hx hb (nI_leI (a := 12) (b := w) (by omega) (by omega)) dL_areSubscribers_306 (by decide) (fun c306 => ?_) (fun c306 => ?_)
                                              · refine x_iinc (k := 8) (o := 1) (v := t + 1) (lv' := [(8, .int (nI (t + 1))), (0, .ref (ad 0)), (1, .ref (la 2)), (2, .ref (la 3)), (3, .ref (la 4)), (4, .int (nI 1)), (5, .int (nI k)), (6, .int (nI (7 * k))), (7, .int (nI 1)), (9, .int (nI c9)), (10, .int r229), (11, .int (nI w))]) hx hb dL_areSubscribers_526 hl rfl rfl rfl (by decide) rfl (fun ls hl => ?_)
                                                refine lv_goto (tgt := 200) hx hb dL_areSubscribers_529 (by decide) ?_
                                                exact W.widen (by show _ ≤ 20 + 660 * k + 10 + 300 * (t + 1); omega) (by show _ ≤ 120 + 3960 * k + 60 + 1800 * (t + 1); omega) (ih200 (t + 1) (by show t + 1 ≤ 2; omega) (by show 2 - (t + 1) < 2 - t; omega) _ _ _ hP hD hS (lv_sub hl [1, 2, 3, 4, 5, 6, 7, 8, 0] rfl))
                                              · refine lv_iload hx hb dL_areSubscribers_309 (lv_at hl 4 rfl) ?_
                                                refine x_if_eq (tgt := 526) hx hb (nI_z (by omega)) dL_areSubscribers_311 (by decide) (fun c311 => ?_) (fun c311 => ?_)
                                                · exfalso; omega
                                                · rcases IN_sr hI (i := k) (j := t * 12 + w) (by omega) (by omega) with ⟨y9, ⟨he1, -⟩ | ⟨a, b, c, va9, vb9, vc9, he1, -⟩⟩
                                                  · refine lv_aload_n hx hb dL_areSubscribers_314 rfl (lv_at hl 0 rfl) ?_
                                                    refine lv_iload hx hb dL_areSubscribers_315 (lv_at hl 5 rfl) ?_
                                                    refine lv_iload hx hb dL_areSubscribers_317 (lv_at hl 8 rfl) ?_
                                                    refine lv_iload hx hb dL_areSubscribers_319 (lv_at hl 11 rfl) ?_
                                                    refine lv_iconst (v := nI 0) hx hb dL_areSubscribers_321 (by decide) ?_
                                                    refine x_calli (w2 := fun (S322 : S4) => LW cI cP cS ad la S322 lp lo lq lb lg) (wr := []) (x_runVE (n := 4) ⟨hx, hb, hml, hown, hts⟩ (fN_seen l D cI cP cS cL hfl ad la lp lo lq lb lg (s_lim S) (s_n S) (s_rows S) (s_cc S) (s_ct S) (s_ck S) (s_nr S) (s_cr S) (s_old S) (s_rw S) (s_co S) (s_re S) (s_nu S) (s_ma S) (s_sr S) (s_cp S) (s_pu S) (s_st S) (s_sl S) k (nI k) (nI t) (nI w) (nI 0) (by omega) (hsx_of (by omega)) (nx_seen (by omega) (by omega) (by omega) (by omega))) gL_areSubscribers_X4_seen rfl rfl rfl (by decide +kernel) ⟨by decide, by decide⟩ hN hK hP hD hS hA hE iLW rfl rfl (ci := 4) (q0 := 0) rfl rfl rfl rfl hl.1 (rest := []) (As := [.int (nI k), .int (nI t), .int (nI w), .int (nI 0)]) rfl (Nat.le_of_ble_eq_true rfl) dL_areSubscribers_322 ⟨by show _ ≤ 2200; omega, by show _ ≤ 13200; omega⟩) hP hD hS hA iLW [] iLW rfl rfl rfl (by decide) rfl (fun _ => rfl) (fun r322 S322 H locs hw hP hD hS => ?_)
                                                    obtain ⟨hr9, e8⟩ := N_seen (by omega) (by omega) hw
                                                    have e9 : S = S322 := (show S322 = S from e8).symm
                                                    subst e9
                                                    rw [he1, qNum_m] at hr9
                                                    subst hr9
                                                    have hP : va_P D vwCl (LW cI cP cS ad la S lp lo lq lb lg) H := hP
                                                    have hD : va_D A (LW cI cP cS ad la S lp lo lq lb lg) := hD
                                                    refine lv_istore (lv' := [(12, .int (-1)), (0, .ref (ad 0)), (1, .ref (la 2)), (2, .ref (la 3)), (3, .ref (la 4)), (4, .int (nI 1)), (5, .int (nI k)), (6, .int (nI (7 * k))), (7, .int (nI 1)), (8, .int (nI t)), (9, .int (nI c9)), (10, .int r229), (11, .int (nI w))]) hx hb dL_areSubscribers_325 hl (by decide) rfl (fun ls hl => ?_)
                                                    refine lv_iload hx hb dL_areSubscribers_327 (lv_at hl 0 rfl) ?_
                                                    refine lv_iconst (v := -1) hx hb dL_areSubscribers_329 (by decide) ?_
                                                    refine x_cmp_lt (tgt := 408) hx hb (Iff.rfl) dL_areSubscribers_330 (by decide) (fun c330 => ?_) (fun c330 => ?_)
                                                    · exact absurd c330 (by decide)
                                                    · refine lv_iload hx hb dL_areSubscribers_333 (lv_at hl 0 rfl) ?_
                                                      refine lv_bipush (v := nI 100) hx hb dL_areSubscribers_335 (by decide) ?_
                                                      refine x_cmp_ge (tgt := 408) hx hb (Iff.rfl) dL_areSubscribers_337 (by decide) (fun c337 => ?_) (fun c337 => ?_)
                                                      · exact absurd c337 (by decide)
                                                      · refine lv_iload hx hb dL_areSubscribers_340 (lv_at hl 0 rfl) ?_
                                                        refine x_if_ge (tgt := 349) hx hb (Iff.rfl) dL_areSubscribers_342 (by decide) (fun c342 => ?_) (fun c342 => ?_)
                                                        · exact absurd c342 (by decide)
                                                        · refine lv_iconst (v := nI 1) hx hb dL_areSubscribers_345 (by decide) ?_
                                                          refine lv_goto (tgt := 350) hx hb dL_areSubscribers_346 (by decide) ?_
                                                          refine lv_aload_n hx hb dL_areSubscribers_350 rfl (lv_at hl 1 rfl) ?_
                                                          refine lv_iload hx hb dL_areSubscribers_351 (lv_at hl 6 rfl) ?_
                                                          refine lv_iload hx hb dL_areSubscribers_353 (lv_at hl 9 rfl) ?_
                                                          refine lv_iload hx hb dL_areSubscribers_355 (lv_at hl 12 rfl) ?_
                                                          refine lv_iconst (v := nI 1) hx hb dL_areSubscribers_357 (by decide) ?_
                                                          refine x_calli (w2 := fun (S358 : S4) => LW cI cP cS ad la S358 lp lo lq lb lg) (wr := []) (x_runVE (n := 4) ⟨hx, hb, hml, hown, hts⟩ (fN_seen l D cI cP cS cL hfl ad la lp lo lq lb lg (s_lim S) (s_n S) (s_rows S) (s_cc S) (s_ct S) (s_ck S) (s_nr S) (s_cr S) (s_old S) (s_rw S) (s_co S) (s_re S) (s_nu S) (s_ma S) (s_sr S) (s_cp S) (s_pu S) (s_st S) (s_sl S) k (nI k) (nI t) (nI w) (nI 1) (by omega) (hsx_of (by omega)) (nx_seen (by omega) (by omega) (by omega) (by omega))) gL_areSubscribers_X4_seen rfl rfl rfl (by decide +kernel) ⟨by decide, by decide⟩ hN hK hP hD hS hA hE iLW rfl rfl (ci := 4) (q0 := 0) rfl rfl rfl rfl hl.1 (rest := [.int (nI 1)]) (As := [.int (nI k), .int (nI t), .int (nI w), .int (nI 1)]) rfl (Nat.le_of_ble_eq_true rfl) dL_areSubscribers_358 ⟨by show _ ≤ 2200; omega, by show _ ≤ 13200; omega⟩) hP hD hS hA iLW [] iLW rfl rfl rfl (by decide) rfl (fun _ => rfl) (fun r358 S358 H locs hw hP hD hS => ?_)
                                                          obtain ⟨hr9, e8⟩ := N_seen (by omega) (by omega) hw
                                                          have e9 : S = S358 := (show S358 = S from e8).symm
                                                          subst e9
                                                          rw [he1, qNum_m] at hr9
                                                          subst hr9
                                                          have hP : va_P D vwCl (LW cI cP cS ad la S lp lo lq lb lg) H := hP
                                                          have hD : va_D A (LW cI cP cS ad la S lp lo lq lb lg) := hD
                                                          refine x_if_ge (tgt := 368) hx hb (Iff.rfl) dL_areSubscribers_361 (by decide) (fun c361 => ?_) (fun c361 => ?_)
                                                          · exact absurd c361 (by decide)
                                                          · refine lv_iconst (v := nI 1) hx hb dL_areSubscribers_364 (by decide) ?_
                                                            refine lv_goto (tgt := 369) hx hb dL_areSubscribers_365 (by decide) ?_
                                                            refine x_cmp_ne (tgt := 408) hx hb (Iff.rfl) dL_areSubscribers_369 (by decide) (fun c369 => ?_) (fun c369 => ?_)
                                                            · exact absurd rfl c369
                                                            · refine lv_iload hx hb dL_areSubscribers_372 (lv_at hl 0 rfl) ?_
                                                              refine x_if_ge (tgt := 381) hx hb (Iff.rfl) dL_areSubscribers_374 (by decide) (fun c374 => ?_) (fun c374 => ?_)
                                                              · exact absurd c374 (by decide)
                                                              · refine lv_iconst (v := nI 1) hx hb dL_areSubscribers_377 (by decide) ?_
                                                                refine lv_goto (tgt := 382) hx hb dL_areSubscribers_378 (by decide) ?_
                                                                refine lv_aload_n hx hb dL_areSubscribers_382 rfl (lv_at hl 1 rfl) ?_
                                                                refine lv_iload hx hb dL_areSubscribers_383 (lv_at hl 6 rfl) ?_
                                                                refine lv_iload hx hb dL_areSubscribers_385 (lv_at hl 9 rfl) ?_
                                                                refine lv_iload hx hb dL_areSubscribers_387 (lv_at hl 12 rfl) ?_
                                                                refine lv_iconst (v := nI 2) hx hb dL_areSubscribers_389 (by decide) ?_
                                                                refine x_calli (w2 := fun (S390 : S4) => LW cI cP cS ad la S390 lp lo lq lb lg) (wr := []) (x_runVE (n := 4) ⟨hx, hb, hml, hown, hts⟩ (fN_seen l D cI cP cS cL hfl ad la lp lo lq lb lg (s_lim S) (s_n S) (s_rows S) (s_cc S) (s_ct S) (s_ck S) (s_nr S) (s_cr S) (s_old S) (s_rw S) (s_co S) (s_re S) (s_nu S) (s_ma S) (s_sr S) (s_cp S) (s_pu S) (s_st S) (s_sl S) k (nI k) (nI t) (nI w) (nI 2) (by omega) (hsx_of (by omega)) (nx_seen (by omega) (by omega) (by omega) (by omega))) gL_areSubscribers_X4_seen rfl rfl rfl (by decide +kernel) ⟨by decide, by decide⟩ hN hK hP hD hS hA hE iLW rfl rfl (ci := 4) (q0 := 0) rfl rfl rfl rfl hl.1 (rest := [.int (nI 1)]) (As := [.int (nI k), .int (nI t), .int (nI w), .int (nI 2)]) rfl (Nat.le_of_ble_eq_true rfl) dL_areSubscribers_390 ⟨by show _ ≤ 2200; omega, by show _ ≤ 13200; omega⟩) hP hD hS hA iLW [] iLW rfl rfl rfl (by decide) rfl (fun _ => rfl) (fun r390 S390 H locs hw hP hD hS => ?_)
                                                                obtain ⟨hr9, e8⟩ := N_seen (by omega) (by omega) hw
                                                                have e9 : S = S390 := (show S390 = S from e8).symm
                                                                subst e9
                                                                rw [he1, qNum_m] at hr9
                                                                subst hr9
                                                                have hP : va_P D vwCl (LW cI cP cS ad la S lp lo lq lb lg) H := hP
                                                                have hD : va_D A (LW cI cP cS ad la S lp lo lq lb lg) := hD
                                                                refine x_if_ge (tgt := 400) hx hb (Iff.rfl) dL_areSubscribers_393 (by decide) (fun c393 => ?_) (fun c393 => ?_)
                                                                · exact absurd c393 (by decide)
                                                                · refine lv_iconst (v := nI 1) hx hb dL_areSubscribers_396 (by decide) ?_
                                                                  refine lv_goto (tgt := 401) hx hb dL_areSubscribers_397 (by decide) ?_
                                                                  refine x_cmp_ne (tgt := 408) hx hb (Iff.rfl) dL_areSubscribers_401 (by decide) (fun c401 => ?_) (fun c401 => ?_)
                                                                  · exact absurd rfl c401
                                                                  · refine lv_iconst (v := nI 1) hx hb dL_areSubscribers_404 (by decide) ?_
                                                                    refine lv_goto (tgt := 409) hx hb dL_areSubscribers_405 (by decide) ?_
                                                                    refine lv_istore (lv' := [(4, .int (nI 1)), (12, .int (-1)), (0, .ref (ad 0)), (1, .ref (la 2)), (2, .ref (la 3)), (3, .ref (la 4)), (5, .int (nI k)), (6, .int (nI (7 * k))), (7, .int (nI 1)), (8, .int (nI t)), (9, .int (nI c9)), (10, .int r229), (11, .int (nI w))]) hx hb dL_areSubscribers_409 hl (by decide) rfl (fun ls hl => ?_)
                                                                    refine lv_iload hx hb dL_areSubscribers_411 (lv_at hl 0 rfl) ?_
                                                                    refine x_if_eq (tgt := 520) hx hb (nI_z (by omega)) dL_areSubscribers_413 (by decide) (fun c413 => ?_) (fun c413 => ?_)
                                                                    · exfalso; omega
                                                                    · refine lv_iload hx hb dL_areSubscribers_416 (lv_at hl 1 rfl) ?_
                                                                      refine x_if_lt (tgt := 520) hx hb (Iff.rfl) dL_areSubscribers_418 (by decide) (fun c418 => ?_) (fun c418 => ?_)
                                                                      · refine x_iinc (k := 12) (o := 1) (v := w + 1) (lv' := [(11, .int (nI (w + 1))), (4, .int (nI 1)), (12, .int (-1)), (0, .ref (ad 0)), (1, .ref (la 2)), (2, .ref (la 3)), (3, .ref (la 4)), (5, .int (nI k)), (6, .int (nI (7 * k))), (7, .int (nI 1)), (8, .int (nI t)), (9, .int (nI c9)), (10, .int r229)]) hx hb dL_areSubscribers_520 hl rfl rfl rfl (by decide) rfl (fun ls hl => ?_)
                                                                        refine lv_goto (tgt := 302) hx hb dL_areSubscribers_523 (by decide) ?_
                                                                        exact W.widen (by show _ ≤ 20 + 660 * k + 10 + 300 * t + 8 + 20 * (w + 1); omega) (by show _ ≤ 120 + 3960 * k + 60 + 1800 * t + 48 + 120 * (w + 1); omega) (ih302 (w + 1) (by show w + 1 ≤ 12; omega) (by show 12 - (w + 1) < 12 - w; omega) _ _ _ hP hD hS (lv_sub hl [3, 4, 5, 6, 1, 7, 8, 9, 10, 11, 12, 0] rfl))
                                                                      · exact absurd (by decide) c418
                                                  · refine lv_aload_n hx hb dL_areSubscribers_314 rfl (lv_at hl 0 rfl) ?_
                                                    refine lv_iload hx hb dL_areSubscribers_315 (lv_at hl 5 rfl) ?_
                                                    refine lv_iload hx hb dL_areSubscribers_317 (lv_at hl 8 rfl) ?_
                                                    refine lv_iload hx hb dL_areSubscribers_319 (lv_at hl 11 rfl) ?_
                                                    refine lv_iconst (v := nI 0) hx hb dL_areSubscribers_321 (by decide) ?_
                                                    refine x_calli (w2 := fun (S322 : S4) => LW cI cP cS ad la S322 lp lo lq lb lg) (wr := []) (x_runVE (n := 4) ⟨hx, hb, hml, hown, hts⟩ (fN_seen l D cI cP cS cL hfl ad la lp lo lq lb lg (s_lim S) (s_n S) (s_rows S) (s_cc S) (s_ct S) (s_ck S) (s_nr S) (s_cr S) (s_old S) (s_rw S) (s_co S) (s_re S) (s_nu S) (s_ma S) (s_sr S) (s_cp S) (s_pu S) (s_st S) (s_sl S) k (nI k) (nI t) (nI w) (nI 0) (by omega) (hsx_of (by omega)) (nx_seen (by omega) (by omega) (by omega) (by omega))) gL_areSubscribers_X4_seen rfl rfl rfl (by decide +kernel) ⟨by decide, by decide⟩ hN hK hP hD hS hA hE iLW rfl rfl (ci := 4) (q0 := 0) rfl rfl rfl rfl hl.1 (rest := []) (As := [.int (nI k), .int (nI t), .int (nI w), .int (nI 0)]) rfl (Nat.le_of_ble_eq_true rfl) dL_areSubscribers_322 ⟨by show _ ≤ 2200; omega, by show _ ≤ 13200; omega⟩) hP hD hS hA iLW [] iLW rfl rfl rfl (by decide) rfl (fun _ => rfl) (fun r322 S322 H locs hw hP hD hS => ?_)
                                                    obtain ⟨hr9, e8⟩ := N_seen (by omega) (by omega) hw
                                                    have e9 : S = S322 := (show S322 = S from e8).symm
                                                    subst e9
                                                    rw [he1, qNum_e va9 vb9 vc9 (by omega)] at hr9
                                                    have hr9 : r322 = nI a := hr9
                                                    subst hr9
                                                    have hP : va_P D vwCl (LW cI cP cS ad la S lp lo lq lb lg) H := hP
                                                    have hD : va_D A (LW cI cP cS ad la S lp lo lq lb lg) := hD
                                                    refine lv_istore (lv' := [(12, .int (nI a)), (0, .ref (ad 0)), (1, .ref (la 2)), (2, .ref (la 3)), (3, .ref (la 4)), (4, .int (nI 1)), (5, .int (nI k)), (6, .int (nI (7 * k))), (7, .int (nI 1)), (8, .int (nI t)), (9, .int (nI c9)), (10, .int r229), (11, .int (nI w))]) hx hb dL_areSubscribers_325 hl (by decide) rfl (fun ls hl => ?_)
                                                    refine lv_iload hx hb dL_areSubscribers_327 (lv_at hl 0 rfl) ?_
                                                    refine lv_iconst (v := -1) hx hb dL_areSubscribers_329 (by decide) ?_
                                                    refine x_cmp_lt (tgt := 408) hx hb (nI_nm1 (by omega)) dL_areSubscribers_330 (by decide) (fun c330 => ?_) (fun c330 => ?_)
                                                    · exact c330.elim
                                                    · refine lv_iload hx hb dL_areSubscribers_333 (lv_at hl 0 rfl) ?_
                                                      refine lv_bipush (v := nI 100) hx hb dL_areSubscribers_335 (by decide) ?_
                                                      refine x_cmp_ge (tgt := 408) hx hb (nI_leI (a := 100) (b := a) (by omega) (by omega)) dL_areSubscribers_337 (by decide) (fun c337 => ?_) (fun c337 => ?_)
                                                      · exfalso; omega
                                                      · refine lv_iload hx hb dL_areSubscribers_340 (lv_at hl 0 rfl) ?_
                                                        refine x_if_ge (tgt := 349) hx hb (nI_ge0 (by omega)) dL_areSubscribers_342 (by decide) (fun c342 => ?_) (fun c342 => ?_)
                                                        · refine lv_iconst (v := nI 0) hx hb dL_areSubscribers_349 (by decide) ?_
                                                          refine lv_aload_n hx hb dL_areSubscribers_350 rfl (lv_at hl 1 rfl) ?_
                                                          refine lv_iload hx hb dL_areSubscribers_351 (lv_at hl 6 rfl) ?_
                                                          refine lv_iload hx hb dL_areSubscribers_353 (lv_at hl 9 rfl) ?_
                                                          refine lv_iload hx hb dL_areSubscribers_355 (lv_at hl 12 rfl) ?_
                                                          refine lv_iconst (v := nI 1) hx hb dL_areSubscribers_357 (by decide) ?_
                                                          refine x_calli (w2 := fun (S358 : S4) => LW cI cP cS ad la S358 lp lo lq lb lg) (wr := []) (x_runVE (n := 4) ⟨hx, hb, hml, hown, hts⟩ (fN_seen l D cI cP cS cL hfl ad la lp lo lq lb lg (s_lim S) (s_n S) (s_rows S) (s_cc S) (s_ct S) (s_ck S) (s_nr S) (s_cr S) (s_old S) (s_rw S) (s_co S) (s_re S) (s_nu S) (s_ma S) (s_sr S) (s_cp S) (s_pu S) (s_st S) (s_sl S) k (nI k) (nI t) (nI w) (nI 1) (by omega) (hsx_of (by omega)) (nx_seen (by omega) (by omega) (by omega) (by omega))) gL_areSubscribers_X4_seen rfl rfl rfl (by decide +kernel) ⟨by decide, by decide⟩ hN hK hP hD hS hA hE iLW rfl rfl (ci := 4) (q0 := 0) rfl rfl rfl rfl hl.1 (rest := [.int (nI 0)]) (As := [.int (nI k), .int (nI t), .int (nI w), .int (nI 1)]) rfl (Nat.le_of_ble_eq_true rfl) dL_areSubscribers_358 ⟨by show _ ≤ 2200; omega, by show _ ≤ 13200; omega⟩) hP hD hS hA iLW [] iLW rfl rfl rfl (by decide) rfl (fun _ => rfl) (fun r358 S358 H locs hw hP hD hS => ?_)
                                                          obtain ⟨hr9, e8⟩ := N_seen (by omega) (by omega) hw
                                                          have e9 : S = S358 := (show S358 = S from e8).symm
                                                          subst e9
                                                          rw [he1, qNum_e va9 vb9 vc9 (by omega)] at hr9
                                                          have hr9 : r358 = nI b := hr9
                                                          subst hr9
                                                          have hP : va_P D vwCl (LW cI cP cS ad la S lp lo lq lb lg) H := hP
                                                          have hD : va_D A (LW cI cP cS ad la S lp lo lq lb lg) := hD
                                                          refine x_if_ge (tgt := 368) hx hb (nI_ge0 (by omega)) dL_areSubscribers_361 (by decide) (fun c361 => ?_) (fun c361 => ?_)
                                                          · refine lv_iconst (v := nI 0) hx hb dL_areSubscribers_368 (by decide) ?_
                                                            refine x_cmp_ne (tgt := 408) hx hb (Iff.rfl) dL_areSubscribers_369 (by decide) (fun c369 => ?_) (fun c369 => ?_)
                                                            · exact absurd rfl c369
                                                            · refine lv_iload hx hb dL_areSubscribers_372 (lv_at hl 0 rfl) ?_
                                                              refine x_if_ge (tgt := 381) hx hb (nI_ge0 (by omega)) dL_areSubscribers_374 (by decide) (fun c374 => ?_) (fun c374 => ?_)
                                                              · refine lv_iconst (v := nI 0) hx hb dL_areSubscribers_381 (by decide) ?_
                                                                refine lv_aload_n hx hb dL_areSubscribers_382 rfl (lv_at hl 1 rfl) ?_
                                                                refine lv_iload hx hb dL_areSubscribers_383 (lv_at hl 6 rfl) ?_
                                                                refine lv_iload hx hb dL_areSubscribers_385 (lv_at hl 9 rfl) ?_
                                                                refine lv_iload hx hb dL_areSubscribers_387 (lv_at hl 12 rfl) ?_
                                                                refine lv_iconst (v := nI 2) hx hb dL_areSubscribers_389 (by decide) ?_
                                                                refine x_calli (w2 := fun (S390 : S4) => LW cI cP cS ad la S390 lp lo lq lb lg) (wr := []) (x_runVE (n := 4) ⟨hx, hb, hml, hown, hts⟩ (fN_seen l D cI cP cS cL hfl ad la lp lo lq lb lg (s_lim S) (s_n S) (s_rows S) (s_cc S) (s_ct S) (s_ck S) (s_nr S) (s_cr S) (s_old S) (s_rw S) (s_co S) (s_re S) (s_nu S) (s_ma S) (s_sr S) (s_cp S) (s_pu S) (s_st S) (s_sl S) k (nI k) (nI t) (nI w) (nI 2) (by omega) (hsx_of (by omega)) (nx_seen (by omega) (by omega) (by omega) (by omega))) gL_areSubscribers_X4_seen rfl rfl rfl (by decide +kernel) ⟨by decide, by decide⟩ hN hK hP hD hS hA hE iLW rfl rfl (ci := 4) (q0 := 0) rfl rfl rfl rfl hl.1 (rest := [.int (nI 0)]) (As := [.int (nI k), .int (nI t), .int (nI w), .int (nI 2)]) rfl (Nat.le_of_ble_eq_true rfl) dL_areSubscribers_390 ⟨by show _ ≤ 2200; omega, by show _ ≤ 13200; omega⟩) hP hD hS hA iLW [] iLW rfl rfl rfl (by decide) rfl (fun _ => rfl) (fun r390 S390 H locs hw hP hD hS => ?_)
                                                                obtain ⟨hr9, e8⟩ := N_seen (by omega) (by omega) hw
                                                                have e9 : S = S390 := (show S390 = S from e8).symm
                                                                subst e9
                                                                rw [he1, qNum_e va9 vb9 vc9 (by omega)] at hr9
                                                                have hr9 : r390 = nI c := hr9
                                                                subst hr9
                                                                have hP : va_P D vwCl (LW cI cP cS ad la S lp lo lq lb lg) H := hP
                                                                have hD : va_D A (LW cI cP cS ad la S lp lo lq lb lg) := hD
                                                                refine x_if_ge (tgt := 400) hx hb (nI_ge0 (by omega)) dL_areSubscribers_393 (by decide) (fun c393 => ?_) (fun c393 => ?_)
                                                                · refine lv_iconst (v := nI 0) hx hb dL_areSubscribers_400 (by decide) ?_
                                                                  refine x_cmp_ne (tgt := 408) hx hb (Iff.rfl) dL_areSubscribers_401 (by decide) (fun c401 => ?_) (fun c401 => ?_)
                                                                  · exact absurd rfl c401
                                                                  · refine lv_iconst (v := nI 1) hx hb dL_areSubscribers_404 (by decide) ?_
                                                                    refine lv_goto (tgt := 409) hx hb dL_areSubscribers_405 (by decide) ?_
                                                                    refine lv_istore (lv' := [(4, .int (nI 1)), (12, .int (nI a)), (0, .ref (ad 0)), (1, .ref (la 2)), (2, .ref (la 3)), (3, .ref (la 4)), (5, .int (nI k)), (6, .int (nI (7 * k))), (7, .int (nI 1)), (8, .int (nI t)), (9, .int (nI c9)), (10, .int r229), (11, .int (nI w))]) hx hb dL_areSubscribers_409 hl (by decide) rfl (fun ls hl => ?_)
                                                                    refine lv_iload hx hb dL_areSubscribers_411 (lv_at hl 0 rfl) ?_
                                                                    refine x_if_eq (tgt := 520) hx hb (nI_z (by omega)) dL_areSubscribers_413 (by decide) (fun c413 => ?_) (fun c413 => ?_)
                                                                    · exfalso; omega
                                                                    · refine lv_iload hx hb dL_areSubscribers_416 (lv_at hl 1 rfl) ?_
                                                                      refine x_if_lt (tgt := 520) hx hb (nI_ng (by omega)) dL_areSubscribers_418 (by decide) (fun c418 => ?_) (fun c418 => ?_)
                                                                      · exact c418.elim
                                                                      · refine lv_iload hx hb dL_areSubscribers_421 (lv_at hl 10 rfl) ?_
                                                                        refine x_if_lt (tgt := 520) hx hb (nI_ng (by omega)) dL_areSubscribers_423 (by decide) (fun c423 => ?_) (fun c423 => ?_)
                                                                        · exact c423.elim
                                                                        · refine lv_iload hx hb dL_areSubscribers_426 (lv_at hl 8 rfl) ?_
                                                                          refine x_if_eq (tgt := 520) hx hb (nI_z (by omega)) dL_areSubscribers_428 (by decide) (fun c428 => ?_) (fun c428 => ?_)
                                                                          · exfalso; omega
                                                                          · refine lv_aload_n hx hb dL_areSubscribers_431 rfl (lv_at hl 4 rfl) ?_
                                                                            refine lv_iload hx hb dL_areSubscribers_432 (lv_at hl 7 rfl) ?_
                                                                            refine lv_iconst (v := nI 5) hx hb dL_areSubscribers_434 (by decide) ?_
                                                                            refine x_add (k := (7 * k) + 5) hx hb dL_areSubscribers_435 rfl ?_
                                                                            refine lv_iload hx hb dL_areSubscribers_436 (lv_at hl 9 rfl) ?_
                                                                            refine x_add (k := ((7 * k) + 5) + t) hx hb dL_areSubscribers_438 rfl ?_
                                                                            refine x_ald (v := nI 1) hx hb hK hP 40 0 rfl rfl (by omega) (by omega) ((IN_b5 hI (by omega) (by omega)).trans (by rw [hmi])) dL_areSubscribers_439 ?_
                                                                            refine x_if_ne (tgt := 520) hx hb (nI_z (by omega)) dL_areSubscribers_440 (by decide) (fun c440 => ?_) (fun c440 => ?_)
                                                                            · refine x_iinc (k := 12) (o := 1) (v := w + 1) (lv' := [(11, .int (nI (w + 1))), (4, .int (nI 1)), (12, .int (nI a)), (0, .ref (ad 0)), (1, .ref (la 2)), (2, .ref (la 3)), (3, .ref (la 4)), (5, .int (nI k)), (6, .int (nI (7 * k))), (7, .int (nI 1)), (8, .int (nI t)), (9, .int (nI c9)), (10, .int r229)]) hx hb dL_areSubscribers_520 hl rfl rfl rfl (by decide) rfl (fun ls hl => ?_)
                                                                              refine lv_goto (tgt := 302) hx hb dL_areSubscribers_523 (by decide) ?_
                                                                              exact W.widen (by show _ ≤ 20 + 660 * k + 10 + 300 * t + 8 + 20 * (w + 1); omega) (by show _ ≤ 120 + 3960 * k + 60 + 1800 * t + 48 + 120 * (w + 1); omega) (ih302 (w + 1) (by show w + 1 ≤ 12; omega) (by show 12 - (w + 1) < 12 - w; omega) _ _ _ hP hD hS (lv_sub hl [3, 4, 5, 6, 1, 7, 8, 9, 10, 11, 12, 0] rfl))
                                                                            · exfalso; omega
                                                                · exact absurd trivial c393
                                                              · exact absurd trivial c374
                                                          · exact absurd trivial c361
                                                        · exact absurd trivial c342
                                            · exact absurd rfl c273
                  · refine lv_istore (lv' := [(7, .int (nI 0)), (0, .ref (ad 0)), (1, .ref (la 2)), (2, .ref (la 3)), (3, .ref (la 4)), (4, .int (nI 1)), (5, .int (nI k)), (6, .int (nI (7 * k)))]) hx hb dL_areSubscribers_124 hl (by decide) rfl (fun ls hl => ?_)
                    refine lv_aload_n hx hb dL_areSubscribers_126 rfl (lv_at hl 1 rfl) ?_
                    refine lv_iload hx hb dL_areSubscribers_127 (lv_at hl 6 rfl) ?_
                    refine x_calli (w2 := fun (S129 : S4) => LW cI cP cS ad la S129 lp lo lq lb lg) (wr := []) (x_runVE (n := 1) ⟨hx, hb, hml, hown, hts⟩ (fN_state l D cI cP cS cL hfl ad la lp lo lq lb lg (s_lim S) (s_n S) (s_rows S) (s_cc S) (s_ct S) (s_ck S) (s_nr S) (s_cr S) (s_old S) (s_rw S) (s_co S) (s_re S) (s_nu S) (s_ma S) (s_sr S) (s_cp S) (s_pu S) (s_st S) (s_sl S) k (nI k) (by omega) (hsx_of (by omega)) (nx_s (by omega))) gL_areSubscribers_X4_state rfl rfl rfl (by decide +kernel) ⟨by decide, by decide⟩ hN hK hP hD hS hA hE iLW rfl rfl (ci := 4) (q0 := 0) rfl rfl rfl rfl hl.1 (rest := []) (As := [.int (nI k)]) rfl (Nat.le_of_ble_eq_true rfl) dL_areSubscribers_129 ⟨by show _ ≤ 2200; omega, by show _ ≤ 13200; omega⟩) hP hD hS hA iLW [] iLW rfl rfl rfl (by decide) rfl (fun _ => rfl) (fun r129 S129 H locs hw hP hD hS => ?_)
                    obtain ⟨⟨-, -, hr9⟩, e8⟩ := hw
                    have e9 : S = S129 := (show S129 = S from e8).symm
                    subst e9
                    subst hr9
                    have hP : va_P D vwCl (LW cI cP cS ad la S lp lo lq lb lg) H := hP
                    have hD : va_D A (LW cI cP cS ad la S lp lo lq lb lg) := hD
                    refine lv_aload_n hx hb dL_areSubscribers_132 rfl (lv_at hl 3 rfl) ?_
                    refine lv_iload hx hb dL_areSubscribers_133 (lv_at hl 7 rfl) ?_
                    refine lv_iconst (v := nI 1) hx hb dL_areSubscribers_135 (by decide) ?_
                    refine x_add (k := (7 * k) + 1) hx hb dL_areSubscribers_136 rfl ?_
                    refine x_ald (v := nI (s_st S k)) hx hb hK hP 40 0 rfl rfl (by omega) (by omega) (IN_b1 hI (by omega)) dL_areSubscribers_137 ?_
                    refine x_cmp_ne (tgt := 194) hx hb (Iff.rfl) dL_areSubscribers_138 (by decide) (fun c138 => ?_) (fun c138 => ?_)
                    · exact absurd rfl c138
                    · refine lv_aload_n hx hb dL_areSubscribers_141 rfl (lv_at hl 1 rfl) ?_
                      refine lv_iload hx hb dL_areSubscribers_142 (lv_at hl 6 rfl) ?_
                      refine x_calli (w2 := fun (S144 : S4) => LW cI cP cS ad la S144 lp lo lq lb lg) (wr := []) (x_runVE (n := 1) ⟨hx, hb, hml, hown, hts⟩ (fN_lag l D cI cP cS cL hfl ad la lp lo lq lb lg (s_lim S) (s_n S) (s_rows S) (s_cc S) (s_ct S) (s_ck S) (s_nr S) (s_cr S) (s_old S) (s_rw S) (s_co S) (s_re S) (s_nu S) (s_ma S) (s_sr S) (s_cp S) (s_pu S) (s_st S) (s_sl S) k (nI k) (by omega) (hsx_of (by omega)) (IN_sts hI k (by omega)) (IN_sls hI k (by omega)) hn50 (nx_s (by omega))) gL_areSubscribers_X4_lag rfl rfl rfl (by decide +kernel) ⟨by decide, by decide⟩ hN hK hP hD hS hA hE iLW rfl rfl (ci := 4) (q0 := 0) rfl rfl rfl rfl hl.1 (rest := []) (As := [.int (nI k)]) rfl (Nat.le_of_ble_eq_true rfl) dL_areSubscribers_144 ⟨by show _ ≤ 2200; omega, by show _ ≤ 13200; omega⟩) hP hD hS hA iLW [] iLW rfl rfl rfl (by decide) rfl (fun _ => rfl) (fun r144 S144 H locs hw hP hD hS => ?_)
                      obtain ⟨⟨-, -, hr9⟩, e8⟩ := hw
                      have e9 : S = S144 := (show S144 = S from e8).symm
                      subst e9
                      rw [qLag_o h12] at hr9
                      subst hr9
                      have hP : va_P D vwCl (LW cI cP cS ad la S lp lo lq lb lg) H := hP
                      have hD : va_D A (LW cI cP cS ad la S lp lo lq lb lg) := hD
                      refine lv_iload hx hb dL_areSubscribers_147 (lv_at hl 0 rfl) ?_
                      refine x_if_eq (tgt := 165) hx hb (nI_z (by omega)) dL_areSubscribers_149 (by decide) (fun c149 => ?_) (fun c149 => ?_)
                      · refine lv_iconst (v := nI 0) hx hb dL_areSubscribers_165 (by decide) ?_
                        refine x_cmp_ne (tgt := 194) hx hb (Iff.rfl) dL_areSubscribers_166 (by decide) (fun c166 => ?_) (fun c166 => ?_)
                        · exact absurd rfl c166
                        · refine lv_aload_n hx hb dL_areSubscribers_169 rfl (lv_at hl 1 rfl) ?_
                          refine lv_iload hx hb dL_areSubscribers_170 (lv_at hl 6 rfl) ?_
                          refine x_calli (w2 := fun (S172 : S4) => LW cI cP cS ad la S172 lp lo lq lb lg) (wr := []) (x_runVE (n := 1) ⟨hx, hb, hml, hown, hts⟩ (fN_lag l D cI cP cS cL hfl ad la lp lo lq lb lg (s_lim S) (s_n S) (s_rows S) (s_cc S) (s_ct S) (s_ck S) (s_nr S) (s_cr S) (s_old S) (s_rw S) (s_co S) (s_re S) (s_nu S) (s_ma S) (s_sr S) (s_cp S) (s_pu S) (s_st S) (s_sl S) k (nI k) (by omega) (hsx_of (by omega)) (IN_sts hI k (by omega)) (IN_sls hI k (by omega)) hn50 (nx_s (by omega))) gL_areSubscribers_X4_lag rfl rfl rfl (by decide +kernel) ⟨by decide, by decide⟩ hN hK hP hD hS hA hE iLW rfl rfl (ci := 4) (q0 := 0) rfl rfl rfl rfl hl.1 (rest := []) (As := [.int (nI k)]) rfl (Nat.le_of_ble_eq_true rfl) dL_areSubscribers_172 ⟨by show _ ≤ 2200; omega, by show _ ≤ 13200; omega⟩) hP hD hS hA iLW [] iLW rfl rfl rfl (by decide) rfl (fun _ => rfl) (fun r172 S172 H locs hw hP hD hS => ?_)
                          obtain ⟨⟨-, -, hr9⟩, e8⟩ := hw
                          have e9 : S = S172 := (show S172 = S from e8).symm
                          subst e9
                          rw [qLag_o h12] at hr9
                          subst hr9
                          have hP : va_P D vwCl (LW cI cP cS ad la S lp lo lq lb lg) H := hP
                          have hD : va_D A (LW cI cP cS ad la S lp lo lq lb lg) := hD
                          refine lv_iload hx hb dL_areSubscribers_175 (lv_at hl 0 rfl) ?_
                          refine x_if_eq (tgt := 186) hx hb (nI_z (by omega)) dL_areSubscribers_177 (by decide) (fun c177 => ?_) (fun c177 => ?_)
                          · refine lv_iconst (v := nI 0) hx hb dL_areSubscribers_186 (by decide) ?_
                            refine x_cmp_gt (tgt := 194) hx hb (nI_ltI (a := 0) (b := 0) (by omega) (by omega)) dL_areSubscribers_187 (by decide) (fun c187 => ?_) (fun c187 => ?_)
                            · exact absurd c187 (Nat.lt_irrefl _)
                            · refine lv_iconst (v := nI 1) hx hb dL_areSubscribers_190 (by decide) ?_
                              refine lv_goto (tgt := 195) hx hb dL_areSubscribers_191 (by decide) ?_
                              refine lv_istore (lv' := [(4, .int (nI 1)), (7, .int (nI 0)), (0, .ref (ad 0)), (1, .ref (la 2)), (2, .ref (la 3)), (3, .ref (la 4)), (5, .int (nI k)), (6, .int (nI (7 * k)))]) hx hb dL_areSubscribers_195 hl (by decide) rfl (fun ls hl => ?_)
                              refine lv_iconst (v := nI 0) hx hb dL_areSubscribers_197 (by decide) ?_
                              refine lv_istore (lv' := [(8, .int (nI 0)), (4, .int (nI 1)), (7, .int (nI 0)), (0, .ref (ad 0)), (1, .ref (la 2)), (2, .ref (la 3)), (3, .ref (la 4)), (5, .int (nI k)), (6, .int (nI (7 * k)))]) hx hb dL_areSubscribers_198 hl (by decide) rfl (fun ls hl => ?_)
                              refine x_loopc (nL := 14) (fun (t : Nat) => t ≤ 2) (fun (t : Nat) => 2 - t) (fun (t : Nat) => 20 + 660 * k + 10 + 300 * t) (fun (t : Nat) => 120 + 3960 * k + 60 + 1800 * t) (fun (t : Nat) => LW cI cP cS ad la S lp lo lq lb lg) (fun (t : Nat) => [(0, .ref (ad 0)), (1, .ref (la 2)), (2, .ref (la 3)), (3, .ref (la 4)), (4, .int (nI 1)), (5, .int (nI k)), (6, .int (nI (7 * k))), (7, .int (nI 0)), (8, .int (nI t))]) (fun (t : Nat) => []) ?_ 0 (Nat.zero_le 2) (by show _ ≤ 20 + 660 * k + 10 + 300 * 0; omega) (by show _ ≤ 120 + 3960 * k + 60 + 1800 * 0; omega) hP hD hS (lv_sub hl [3, 4, 5, 6, 1, 7, 8, 2, 0] rfl)
                              intro x9 hI200 ih200 H locs ls hP hD hS hl
                              obtain ⟨t, h9⟩ : ∃ z, z = x9 := ⟨x9, rfl⟩
                              subst h9
                              have hP : va_P D vwCl (LW cI cP cS ad la S lp lo lq lb lg) H := hP
                              have hD : va_D A (LW cI cP cS ad la S lp lo lq lb lg) := hD
                              have hl : lv_has ls 14 [(0, .ref (ad 0)), (1, .ref (la 2)), (2, .ref (la 3)), (3, .ref (la 4)), (4, .int (nI 1)), (5, .int (nI k)), (6, .int (nI (7 * k))), (7, .int (nI 0)), (8, .int (nI t))] := hl
                              show W _ _ _ _ _ _ _ _ _ _ _ _ (20 + 660 * k + 10 + 300 * t) (120 + 3960 * k + 60 + 1800 * t) _ _
                              have ht9 := hI200
                              refine lv_iload hx hb dL_areSubscribers_200 (lv_at hl 8 rfl) ?_
                              refine lv_iconst (v := nI 2) hx hb dL_areSubscribers_202 (by decide) ?_
                              refine x_cmp_ge (tgt := 532) hx hb (nI_leI (a := 2) (b := t) (by omega) (by omega)) dL_areSubscribers_203 (by decide) (fun c203 => ?_) (fun c203 => ?_)
                              · refine x_iinc (k := 5) (o := 1) (v := k + 1) (lv' := [(5, .int (nI (k + 1))), (0, .ref (ad 0)), (1, .ref (la 2)), (2, .ref (la 3)), (3, .ref (la 4)), (4, .int (nI 1)), (6, .int (nI (7 * k))), (7, .int (nI 0)), (8, .int (nI t))]) hx hb dL_areSubscribers_532 hl rfl rfl rfl (by decide) rfl (fun ls hl => ?_)
                                refine lv_goto (tgt := 81) hx hb dL_areSubscribers_535 (by decide) ?_
                                exact W.widen (by show _ ≤ 20 + 660 * (k + 1); omega) (by show _ ≤ 120 + 3960 * (k + 1); omega) (ih81 (k + 1) (by show k + 1 ≤ 3; omega) (by show 3 - (k + 1) < 3 - k; omega) _ _ _ hP hD hS (lv_sub hl [1, 2, 3, 4, 5, 0] rfl))
                              · refine lv_iload hx hb dL_areSubscribers_206 (lv_at hl 4 rfl) ?_
                                refine x_if_eq (tgt := 532) hx hb (nI_z (by omega)) dL_areSubscribers_208 (by decide) (fun c208 => ?_) (fun c208 => ?_)
                                · exfalso; omega
                                · have hft := IN_ft hI (i := k) (t := t) (by omega) (by omega)
                                  refine lv_aload_n hx hb dL_areSubscribers_211 rfl (lv_at hl 0 rfl) ?_
                                  refine lv_iload hx hb dL_areSubscribers_212 (lv_at hl 5 rfl) ?_
                                  refine lv_iload hx hb dL_areSubscribers_214 (lv_at hl 8 rfl) ?_
                                  refine x_calli (w2 := fun (S216 : S4) => LW cI cP cS ad la S216 lp lo lq lb lg) (wr := []) (x_runVE (n := 2) ⟨hx, hb, hml, hown, hts⟩ (fN_copiedAt l D cI cP cS cL hfl ad la lp lo lq lb lg (s_lim S) (s_n S) (s_rows S) (s_cc S) (s_ct S) (s_ck S) (s_nr S) (s_cr S) (s_old S) (s_rw S) (s_co S) (s_re S) (s_nu S) (s_ma S) (s_sr S) (s_cp S) (s_pu S) (s_st S) (s_sl S) k (nI k) (nI t) (by omega) (hsx_of (by omega)) (nx_st (by omega) (by omega))) gL_areSubscribers_X4_copiedAt rfl rfl rfl (by decide +kernel) ⟨by decide, by decide⟩ hN hK hP hD hS hA hE iLW rfl rfl (ci := 4) (q0 := 0) rfl rfl rfl rfl hl.1 (rest := []) (As := [.int (nI k), .int (nI t)]) rfl (Nat.le_of_ble_eq_true rfl) dL_areSubscribers_216 ⟨by show _ ≤ 2200; omega, by show _ ≤ 13200; omega⟩) hP hD hS hA iLW [] iLW rfl rfl rfl (by decide) rfl (fun _ => rfl) (fun r216 S216 H locs hw hP hD hS => ?_)
                                  obtain ⟨hr9, e8⟩ := N_copiedAt (by omega) hw
                                  have e9 : S = S216 := (show S216 = S from e8).symm
                                  subst e9
                                  rw [IN_cp hI (by omega) (by omega)] at hr9
                                  subst hr9
                                  have hP : va_P D vwCl (LW cI cP cS ad la S lp lo lq lb lg) H := hP
                                  have hD : va_D A (LW cI cP cS ad la S lp lo lq lb lg) := hD
                                  refine lv_istore (lv' := [(9, .int (eX (kc k t))), (0, .ref (ad 0)), (1, .ref (la 2)), (2, .ref (la 3)), (3, .ref (la 4)), (4, .int (nI 1)), (5, .int (nI k)), (6, .int (nI (7 * k))), (7, .int (nI 0)), (8, .int (nI t))]) hx hb dL_areSubscribers_219 hl (by decide) rfl (fun ls hl => ?_)
                                  refine lv_aload_n hx hb dL_areSubscribers_221 rfl (lv_at hl 1 rfl) ?_
                                  refine lv_iconst (v := nI 5) hx hb dL_areSubscribers_222 (by decide) ?_
                                  refine lv_iload hx hb dL_areSubscribers_223 (lv_at hl 6 rfl) ?_
                                  refine lv_iload hx hb dL_areSubscribers_225 (lv_at hl 9 rfl) ?_
                                  refine lv_iconst (v := nI 0) hx hb dL_areSubscribers_227 (by decide) ?_
                                  refine lv_iconst (v := nI 0) hx hb dL_areSubscribers_228 (by decide) ?_
                                  refine x_calli (w2 := fun (S229 : S4) => LW cI cP cS ad la S229 lp lo lq lb lg) (wr := []) (x_runL (n := 6) ⟨hx, hb, hml, hown, hts⟩ (fA_isFaithful l D cI cP cS cL hfl ad la lp lo lq lb lg (s_lim S) (s_n S) (s_rows S) (s_cc S) (s_ct S) (s_ck S) (s_nr S) (s_cr S) (s_old S) (s_rw S) (s_co S) (s_re S) (s_nu S) (s_ma S) (s_sr S) (s_cp S) (s_pu S) (s_st S) (s_sl S) k (bk k) (nI k) (nI t) (nI 0) (nI 0) (by omega) (IN_f hI (by omega : k < 3)).2.2.1 (hsx_of (by omega)) (IN_sts hI k (by omega)) (Nat.le_trans (IN_sls hI k (by omega)) hn50) (IN_pu hI (by omega)) (H_cp (IN_of hI) (by omega))) gL_areSubscribers_L_asks rfl rfl rfl (by decide +kernel) ⟨by decide, by decide⟩ hN hK hP hD hS hA hE iLW rfl rfl rfl hl.1 (rest := []) (As := [.ref (ad 0), .int (nI 5), .int (nI k), .int (nI t), .int (nI 0), .int (nI 0)]) rfl (Nat.le_of_ble_eq_true rfl) dL_areSubscribers_229 ⟨by show _ ≤ 2200; omega, by show _ ≤ 13200; omega⟩) hP hD hS hA iLW [] iLW rfl rfl rfl (by decide) rfl (fun _ => rfl) (fun r229 S229 H locs hw hP hD hS => ?_)
                                  obtain ⟨hr9, e8⟩ := (O_faith (IN_of hI) (by omega) (by omega) hw).1 (fun z => h12 z.1)
                                  have e9 : S = S229 := (show S229 = S from e8).symm
                                  subst e9
                                  subst hr9
                                  have hP : va_P D vwCl (LW cI cP cS ad la S lp lo lq lb lg) H := hP
                                  have hD : va_D A (LW cI cP cS ad la S lp lo lq lb lg) := hD
                                  refine lv_istore (lv' := [(10, .int ((-10 : Int32))), (9, .int (eX (kc k t))), (0, .ref (ad 0)), (1, .ref (la 2)), (2, .ref (la 3)), (3, .ref (la 4)), (4, .int (nI 1)), (5, .int (nI k)), (6, .int (nI (7 * k))), (7, .int (nI 0)), (8, .int (nI t))]) hx hb dL_areSubscribers_232 hl (by decide) rfl (fun ls hl => ?_)
                                  refine lv_iload hx hb dL_areSubscribers_234 (lv_at hl 1 rfl) ?_
                                  refine lv_aload_n hx hb dL_areSubscribers_236 rfl (lv_at hl 4 rfl) ?_
                                  refine lv_iload hx hb dL_areSubscribers_237 (lv_at hl 8 rfl) ?_
                                  refine lv_iconst (v := nI 3) hx hb dL_areSubscribers_239 (by decide) ?_
                                  refine x_add (k := (7 * k) + 3) hx hb dL_areSubscribers_240 rfl ?_
                                  refine lv_iload hx hb dL_areSubscribers_241 (lv_at hl 10 rfl) ?_
                                  refine x_add (k := ((7 * k) + 3) + t) hx hb dL_areSubscribers_243 rfl ?_
                                  refine x_ald (v := eX (kc k t)) hx hb hK hP 40 0 rfl rfl (by omega) (by omega) (IN_b3 hI (by omega) (by omega)) dL_areSubscribers_244 ?_
                                  refine x_cmp_ne (tgt := 296) hx hb (Iff.rfl) dL_areSubscribers_245 (by decide) (fun c245 => ?_) (fun c245 => ?_)
                                  · exact absurd rfl c245
                                  · refine lv_iload hx hb dL_areSubscribers_248 (lv_at hl 9 rfl) ?_
                                    refine x_if_eq (tgt := 285) hx hb (nI_z (by omega)) dL_areSubscribers_250 (by decide) (fun c250 => ?_) (fun c250 => ?_)
                                    · refine lv_iload hx hb dL_areSubscribers_285 (lv_at hl 0 rfl) ?_
                                      refine lv_bipush (v := (-10 : Int32)) hx hb dL_areSubscribers_287 (by decide) ?_
                                      refine x_cmp_ne (tgt := 296) hx hb (Iff.rfl) dL_areSubscribers_289 (by decide) (fun c289 => ?_) (fun c289 => ?_)
                                      · exact absurd rfl c289
                                      · refine lv_iconst (v := nI 1) hx hb dL_areSubscribers_292 (by decide) ?_
                                        refine lv_goto (tgt := 297) hx hb dL_areSubscribers_293 (by decide) ?_
                                        refine lv_istore (lv' := [(4, .int (nI 1)), (10, .int ((-10 : Int32))), (9, .int (eX (kc k t))), (0, .ref (ad 0)), (1, .ref (la 2)), (2, .ref (la 3)), (3, .ref (la 4)), (5, .int (nI k)), (6, .int (nI (7 * k))), (7, .int (nI 0)), (8, .int (nI t))]) hx hb dL_areSubscribers_297 hl (by decide) rfl (fun ls hl => ?_)
                                        refine lv_iconst (v := nI 0) hx hb dL_areSubscribers_299 (by decide) ?_
                                        refine lv_istore (lv' := [(11, .int (nI 0)), (4, .int (nI 1)), (10, .int ((-10 : Int32))), (9, .int (eX (kc k t))), (0, .ref (ad 0)), (1, .ref (la 2)), (2, .ref (la 3)), (3, .ref (la 4)), (5, .int (nI k)), (6, .int (nI (7 * k))), (7, .int (nI 0)), (8, .int (nI t))]) hx hb dL_areSubscribers_300 hl (by decide) rfl (fun ls hl => ?_)
                                        refine x_loopc (nL := 14) (fun (w : Nat) => w ≤ 12) (fun (w : Nat) => 12 - w) (fun (w : Nat) => 20 + 660 * k + 10 + 300 * t + 8 + 20 * w) (fun (w : Nat) => 120 + 3960 * k + 60 + 1800 * t + 48 + 120 * w) (fun (w : Nat) => LW cI cP cS ad la S lp lo lq lb lg) (fun (w : Nat) => [(0, .ref (ad 0)), (1, .ref (la 2)), (2, .ref (la 3)), (3, .ref (la 4)), (4, .int (nI 1)), (5, .int (nI k)), (6, .int (nI (7 * k))), (7, .int (nI 0)), (8, .int (nI t)), (9, .int (eX (kc k t))), (10, .int ((-10 : Int32))), (11, .int (nI w))]) (fun (w : Nat) => []) ?_ 0 (Nat.zero_le 12) (by show _ ≤ 20 + 660 * k + 10 + 300 * t + 8 + 20 * 0; omega) (by show _ ≤ 120 + 3960 * k + 60 + 1800 * t + 48 + 120 * 0; omega) hP hD hS (lv_sub hl [4, 5, 6, 7, 1, 8, 9, 10, 11, 3, 2, 0] rfl)
                                        intro x9 hI302 ih302 H locs ls hP hD hS hl
                                        obtain ⟨w, h9⟩ : ∃ z, z = x9 := ⟨x9, rfl⟩
                                        subst h9
                                        have hP : va_P D vwCl (LW cI cP cS ad la S lp lo lq lb lg) H := hP
                                        have hD : va_D A (LW cI cP cS ad la S lp lo lq lb lg) := hD
                                        have hl : lv_has ls 14 [(0, .ref (ad 0)), (1, .ref (la 2)), (2, .ref (la 3)), (3, .ref (la 4)), (4, .int (nI 1)), (5, .int (nI k)), (6, .int (nI (7 * k))), (7, .int (nI 0)), (8, .int (nI t)), (9, .int (eX (kc k t))), (10, .int ((-10 : Int32))), (11, .int (nI w))] := hl
                                        show W _ _ _ _ _ _ _ _ _ _ _ _ (20 + 660 * k + 10 + 300 * t + 8 + 20 * w) (120 + 3960 * k + 60 + 1800 * t + 48 + 120 * w) _ _
                                        have hw9 := hI302
                                        refine lv_iload hx hb dL_areSubscribers_302 (lv_at hl 11 rfl) ?_
                                        refine lv_bipush (v := nI 12) hx hb dL_areSubscribers_304 (by decide) ?_
                                        refine x_cmp_ge (tgt := 526) hx hb (nI_leI (a := 12) (b := w) (by omega) (by omega)) dL_areSubscribers_306 (by decide) (fun c306 => ?_) (fun c306 => ?_)
                                        · refine x_iinc (k := 8) (o := 1) (v := t + 1) (lv' := [(8, .int (nI (t + 1))), (0, .ref (ad 0)), (1, .ref (la 2)), (2, .ref (la 3)), (3, .ref (la 4)), (4, .int (nI 1)), (5, .int (nI k)), (6, .int (nI (7 * k))), (7, .int (nI 0)), (9, .int (eX (kc k t))), (10, .int ((-10 : Int32))), (11, .int (nI w))]) hx hb dL_areSubscribers_526 hl rfl rfl rfl (by decide) rfl (fun ls hl => ?_)
                                          refine lv_goto (tgt := 200) hx hb dL_areSubscribers_529 (by decide) ?_
                                          exact W.widen (by show _ ≤ 20 + 660 * k + 10 + 300 * (t + 1); omega) (by show _ ≤ 120 + 3960 * k + 60 + 1800 * (t + 1); omega) (ih200 (t + 1) (by show t + 1 ≤ 2; omega) (by show 2 - (t + 1) < 2 - t; omega) _ _ _ hP hD hS (lv_sub hl [1, 2, 3, 4, 5, 6, 7, 8, 0] rfl))
                                        · refine lv_iload hx hb dL_areSubscribers_309 (lv_at hl 4 rfl) ?_
                                          refine x_if_eq (tgt := 526) hx hb (nI_z (by omega)) dL_areSubscribers_311 (by decide) (fun c311 => ?_) (fun c311 => ?_)
                                          · exfalso; omega
                                          · rcases IN_sr hI (i := k) (j := t * 12 + w) (by omega) (by omega) with ⟨y9, ⟨he1, -⟩ | ⟨a, b, c, va9, vb9, vc9, he1, -⟩⟩
                                            · refine lv_aload_n hx hb dL_areSubscribers_314 rfl (lv_at hl 0 rfl) ?_
                                              refine lv_iload hx hb dL_areSubscribers_315 (lv_at hl 5 rfl) ?_
                                              refine lv_iload hx hb dL_areSubscribers_317 (lv_at hl 8 rfl) ?_
                                              refine lv_iload hx hb dL_areSubscribers_319 (lv_at hl 11 rfl) ?_
                                              refine lv_iconst (v := nI 0) hx hb dL_areSubscribers_321 (by decide) ?_
                                              refine x_calli (w2 := fun (S322 : S4) => LW cI cP cS ad la S322 lp lo lq lb lg) (wr := []) (x_runVE (n := 4) ⟨hx, hb, hml, hown, hts⟩ (fN_seen l D cI cP cS cL hfl ad la lp lo lq lb lg (s_lim S) (s_n S) (s_rows S) (s_cc S) (s_ct S) (s_ck S) (s_nr S) (s_cr S) (s_old S) (s_rw S) (s_co S) (s_re S) (s_nu S) (s_ma S) (s_sr S) (s_cp S) (s_pu S) (s_st S) (s_sl S) k (nI k) (nI t) (nI w) (nI 0) (by omega) (hsx_of (by omega)) (nx_seen (by omega) (by omega) (by omega) (by omega))) gL_areSubscribers_X4_seen rfl rfl rfl (by decide +kernel) ⟨by decide, by decide⟩ hN hK hP hD hS hA hE iLW rfl rfl (ci := 4) (q0 := 0) rfl rfl rfl rfl hl.1 (rest := []) (As := [.int (nI k), .int (nI t), .int (nI w), .int (nI 0)]) rfl (Nat.le_of_ble_eq_true rfl) dL_areSubscribers_322 ⟨by show _ ≤ 2200; omega, by show _ ≤ 13200; omega⟩) hP hD hS hA iLW [] iLW rfl rfl rfl (by decide) rfl (fun _ => rfl) (fun r322 S322 H locs hw hP hD hS => ?_)
                                              obtain ⟨hr9, e8⟩ := N_seen (by omega) (by omega) hw
                                              have e9 : S = S322 := (show S322 = S from e8).symm
                                              subst e9
                                              rw [he1, qNum_m] at hr9
                                              subst hr9
                                              have hP : va_P D vwCl (LW cI cP cS ad la S lp lo lq lb lg) H := hP
                                              have hD : va_D A (LW cI cP cS ad la S lp lo lq lb lg) := hD
                                              refine lv_istore (lv' := [(12, .int (-1)), (0, .ref (ad 0)), (1, .ref (la 2)), (2, .ref (la 3)), (3, .ref (la 4)), (4, .int (nI 1)), (5, .int (nI k)), (6, .int (nI (7 * k))), (7, .int (nI 0)), (8, .int (nI t)), (9, .int (eX (kc k t))), (10, .int ((-10 : Int32))), (11, .int (nI w))]) hx hb dL_areSubscribers_325 hl (by decide) rfl (fun ls hl => ?_)
                                              refine lv_iload hx hb dL_areSubscribers_327 (lv_at hl 0 rfl) ?_
                                              refine lv_iconst (v := -1) hx hb dL_areSubscribers_329 (by decide) ?_
                                              refine x_cmp_lt (tgt := 408) hx hb (Iff.rfl) dL_areSubscribers_330 (by decide) (fun c330 => ?_) (fun c330 => ?_)
                                              · exact absurd c330 (by decide)
                                              · refine lv_iload hx hb dL_areSubscribers_333 (lv_at hl 0 rfl) ?_
                                                refine lv_bipush (v := nI 100) hx hb dL_areSubscribers_335 (by decide) ?_
                                                refine x_cmp_ge (tgt := 408) hx hb (Iff.rfl) dL_areSubscribers_337 (by decide) (fun c337 => ?_) (fun c337 => ?_)
                                                · exact absurd c337 (by decide)
                                                · refine lv_iload hx hb dL_areSubscribers_340 (lv_at hl 0 rfl) ?_
                                                  refine x_if_ge (tgt := 349) hx hb (Iff.rfl) dL_areSubscribers_342 (by decide) (fun c342 => ?_) (fun c342 => ?_)
                                                  · exact absurd c342 (by decide)
                                                  · refine lv_iconst (v := nI 1) hx hb dL_areSubscribers_345 (by decide) ?_
                                                    refine lv_goto (tgt := 350) hx hb dL_areSubscribers_346 (by decide) ?_
                                                    refine lv_aload_n hx hb dL_areSubscribers_350 rfl (lv_at hl 1 rfl) ?_
                                                    refine lv_iload hx hb dL_areSubscribers_351 (lv_at hl 6 rfl) ?_
                                                    refine lv_iload hx hb dL_areSubscribers_353 (lv_at hl 9 rfl) ?_
                                                    refine lv_iload hx hb dL_areSubscribers_355 (lv_at hl 12 rfl) ?_
                                                    refine lv_iconst (v := nI 1) hx hb dL_areSubscribers_357 (by decide) ?_
                                                    refine x_calli (w2 := fun (S358 : S4) => LW cI cP cS ad la S358 lp lo lq lb lg) (wr := []) (x_runVE (n := 4) ⟨hx, hb, hml, hown, hts⟩ (fN_seen l D cI cP cS cL hfl ad la lp lo lq lb lg (s_lim S) (s_n S) (s_rows S) (s_cc S) (s_ct S) (s_ck S) (s_nr S) (s_cr S) (s_old S) (s_rw S) (s_co S) (s_re S) (s_nu S) (s_ma S) (s_sr S) (s_cp S) (s_pu S) (s_st S) (s_sl S) k (nI k) (nI t) (nI w) (nI 1) (by omega) (hsx_of (by omega)) (nx_seen (by omega) (by omega) (by omega) (by omega))) gL_areSubscribers_X4_seen rfl rfl rfl (by decide +kernel) ⟨by decide, by decide⟩ hN hK hP hD hS hA hE iLW rfl rfl (ci := 4) (q0 := 0) rfl rfl rfl rfl hl.1 (rest := [.int (nI 1)]) (As := [.int (nI k), .int (nI t), .int (nI w), .int (nI 1)]) rfl (Nat.le_of_ble_eq_true rfl) dL_areSubscribers_358 ⟨by show _ ≤ 2200; omega, by show _ ≤ 13200; omega⟩) hP hD hS hA iLW [] iLW rfl rfl rfl (by decide) rfl (fun _ => rfl) (fun r358 S358 H locs hw hP hD hS => ?_)
                                                    obtain ⟨hr9, e8⟩ := N_seen (by omega) (by omega) hw
                                                    have e9 : S = S358 := (show S358 = S from e8).symm
                                                    subst e9
                                                    rw [he1, qNum_m] at hr9
                                                    subst hr9
                                                    have hP : va_P D vwCl (LW cI cP cS ad la S lp lo lq lb lg) H := hP
                                                    have hD : va_D A (LW cI cP cS ad la S lp lo lq lb lg) := hD
                                                    refine x_if_ge (tgt := 368) hx hb (Iff.rfl) dL_areSubscribers_361 (by decide) (fun c361 => ?_) (fun c361 => ?_)
                                                    · exact absurd c361 (by decide)
                                                    · refine lv_iconst (v := nI 1) hx hb dL_areSubscribers_364 (by decide) ?_
                                                      refine lv_goto (tgt := 369) hx hb dL_areSubscribers_365 (by decide) ?_
                                                      refine x_cmp_ne (tgt := 408) hx hb (Iff.rfl) dL_areSubscribers_369 (by decide) (fun c369 => ?_) (fun c369 => ?_)
                                                      · exact absurd rfl c369
                                                      · refine lv_iload hx hb dL_areSubscribers_372 (lv_at hl 0 rfl) ?_
                                                        refine x_if_ge (tgt := 381) hx hb (Iff.rfl) dL_areSubscribers_374 (by decide) (fun c374 => ?_) (fun c374 => ?_)
                                                        · exact absurd c374 (by decide)
                                                        · refine lv_iconst (v := nI 1) hx hb dL_areSubscribers_377 (by decide) ?_
                                                          refine lv_goto (tgt := 382) hx hb dL_areSubscribers_378 (by decide) ?_
                                                          refine lv_aload_n hx hb dL_areSubscribers_382 rfl (lv_at hl 1 rfl) ?_
                                                          refine lv_iload hx hb dL_areSubscribers_383 (lv_at hl 6 rfl) ?_
                                                          refine lv_iload hx hb dL_areSubscribers_385 (lv_at hl 9 rfl) ?_
                                                          refine lv_iload hx hb dL_areSubscribers_387 (lv_at hl 12 rfl) ?_
                                                          refine lv_iconst (v := nI 2) hx hb dL_areSubscribers_389 (by decide) ?_
                                                          refine x_calli (w2 := fun (S390 : S4) => LW cI cP cS ad la S390 lp lo lq lb lg) (wr := []) (x_runVE (n := 4) ⟨hx, hb, hml, hown, hts⟩ (fN_seen l D cI cP cS cL hfl ad la lp lo lq lb lg (s_lim S) (s_n S) (s_rows S) (s_cc S) (s_ct S) (s_ck S) (s_nr S) (s_cr S) (s_old S) (s_rw S) (s_co S) (s_re S) (s_nu S) (s_ma S) (s_sr S) (s_cp S) (s_pu S) (s_st S) (s_sl S) k (nI k) (nI t) (nI w) (nI 2) (by omega) (hsx_of (by omega)) (nx_seen (by omega) (by omega) (by omega) (by omega))) gL_areSubscribers_X4_seen rfl rfl rfl (by decide +kernel) ⟨by decide, by decide⟩ hN hK hP hD hS hA hE iLW rfl rfl (ci := 4) (q0 := 0) rfl rfl rfl rfl hl.1 (rest := [.int (nI 1)]) (As := [.int (nI k), .int (nI t), .int (nI w), .int (nI 2)]) rfl (Nat.le_of_ble_eq_true rfl) dL_areSubscribers_390 ⟨by show _ ≤ 2200; omega, by show _ ≤ 13200; omega⟩) hP hD hS hA iLW [] iLW rfl rfl rfl (by decide) rfl (fun _ => rfl) (fun r390 S390 H locs hw hP hD hS => ?_)
                                                          obtain ⟨hr9, e8⟩ := N_seen (by omega) (by omega) hw
                                                          have e9 : S = S390 := (show S390 = S from e8).symm
                                                          subst e9
                                                          rw [he1, qNum_m] at hr9
                                                          subst hr9
                                                          have hP : va_P D vwCl (LW cI cP cS ad la S lp lo lq lb lg) H := hP
                                                          have hD : va_D A (LW cI cP cS ad la S lp lo lq lb lg) := hD
                                                          refine x_if_ge (tgt := 400) hx hb (Iff.rfl) dL_areSubscribers_393 (by decide) (fun c393 => ?_) (fun c393 => ?_)
                                                          · exact absurd c393 (by decide)
                                                          · refine lv_iconst (v := nI 1) hx hb dL_areSubscribers_396 (by decide) ?_
                                                            refine lv_goto (tgt := 401) hx hb dL_areSubscribers_397 (by decide) ?_
                                                            refine x_cmp_ne (tgt := 408) hx hb (Iff.rfl) dL_areSubscribers_401 (by decide) (fun c401 => ?_) (fun c401 => ?_)
                                                            · exact absurd rfl c401
                                                            · refine lv_iconst (v := nI 1) hx hb dL_areSubscribers_404 (by decide) ?_
                                                              refine lv_goto (tgt := 409) hx hb dL_areSubscribers_405 (by decide) ?_
                                                              refine lv_istore (lv' := [(4, .int (nI 1)), (12, .int (-1)), (0, .ref (ad 0)), (1, .ref (la 2)), (2, .ref (la 3)), (3, .ref (la 4)), (5, .int (nI k)), (6, .int (nI (7 * k))), (7, .int (nI 0)), (8, .int (nI t)), (9, .int (eX (kc k t))), (10, .int ((-10 : Int32))), (11, .int (nI w))]) hx hb dL_areSubscribers_409 hl (by decide) rfl (fun ls hl => ?_)
                                                              refine lv_iload hx hb dL_areSubscribers_411 (lv_at hl 0 rfl) ?_
                                                              refine x_if_eq (tgt := 520) hx hb (nI_z (by omega)) dL_areSubscribers_413 (by decide) (fun c413 => ?_) (fun c413 => ?_)
                                                              · exfalso; omega
                                                              · refine lv_iload hx hb dL_areSubscribers_416 (lv_at hl 1 rfl) ?_
                                                                refine x_if_lt (tgt := 520) hx hb (Iff.rfl) dL_areSubscribers_418 (by decide) (fun c418 => ?_) (fun c418 => ?_)
                                                                · refine x_iinc (k := 12) (o := 1) (v := w + 1) (lv' := [(11, .int (nI (w + 1))), (4, .int (nI 1)), (12, .int (-1)), (0, .ref (ad 0)), (1, .ref (la 2)), (2, .ref (la 3)), (3, .ref (la 4)), (5, .int (nI k)), (6, .int (nI (7 * k))), (7, .int (nI 0)), (8, .int (nI t)), (9, .int (eX (kc k t))), (10, .int ((-10 : Int32)))]) hx hb dL_areSubscribers_520 hl rfl rfl rfl (by decide) rfl (fun ls hl => ?_)
                                                                  refine lv_goto (tgt := 302) hx hb dL_areSubscribers_523 (by decide) ?_
                                                                  exact W.widen (by show _ ≤ 20 + 660 * k + 10 + 300 * t + 8 + 20 * (w + 1); omega) (by show _ ≤ 120 + 3960 * k + 60 + 1800 * t + 48 + 120 * (w + 1); omega) (ih302 (w + 1) (by show w + 1 ≤ 12; omega) (by show 12 - (w + 1) < 12 - w; omega) _ _ _ hP hD hS (lv_sub hl [3, 4, 5, 6, 1, 7, 8, 9, 10, 11, 12, 0] rfl))
                                                                · exact absurd (by decide) c418
                                            · refine lv_aload_n hx hb dL_areSubscribers_314 rfl (lv_at hl 0 rfl) ?_
                                              refine lv_iload hx hb dL_areSubscribers_315 (lv_at hl 5 rfl) ?_
                                              refine lv_iload hx hb dL_areSubscribers_317 (lv_at hl 8 rfl) ?_
                                              refine lv_iload hx hb dL_areSubscribers_319 (lv_at hl 11 rfl) ?_
                                              refine lv_iconst (v := nI 0) hx hb dL_areSubscribers_321 (by decide) ?_
                                              refine x_calli (w2 := fun (S322 : S4) => LW cI cP cS ad la S322 lp lo lq lb lg) (wr := []) (x_runVE (n := 4) ⟨hx, hb, hml, hown, hts⟩ (fN_seen l D cI cP cS cL hfl ad la lp lo lq lb lg (s_lim S) (s_n S) (s_rows S) (s_cc S) (s_ct S) (s_ck S) (s_nr S) (s_cr S) (s_old S) (s_rw S) (s_co S) (s_re S) (s_nu S) (s_ma S) (s_sr S) (s_cp S) (s_pu S) (s_st S) (s_sl S) k (nI k) (nI t) (nI w) (nI 0) (by omega) (hsx_of (by omega)) (nx_seen (by omega) (by omega) (by omega) (by omega))) gL_areSubscribers_X4_seen rfl rfl rfl (by decide +kernel) ⟨by decide, by decide⟩ hN hK hP hD hS hA hE iLW rfl rfl (ci := 4) (q0 := 0) rfl rfl rfl rfl hl.1 (rest := []) (As := [.int (nI k), .int (nI t), .int (nI w), .int (nI 0)]) rfl (Nat.le_of_ble_eq_true rfl) dL_areSubscribers_322 ⟨by show _ ≤ 2200; omega, by show _ ≤ 13200; omega⟩) hP hD hS hA iLW [] iLW rfl rfl rfl (by decide) rfl (fun _ => rfl) (fun r322 S322 H locs hw hP hD hS => ?_)
                                              obtain ⟨hr9, e8⟩ := N_seen (by omega) (by omega) hw
                                              have e9 : S = S322 := (show S322 = S from e8).symm
                                              subst e9
                                              rw [he1, qNum_e va9 vb9 vc9 (by omega)] at hr9
                                              have hr9 : r322 = nI a := hr9
                                              subst hr9
                                              have hP : va_P D vwCl (LW cI cP cS ad la S lp lo lq lb lg) H := hP
                                              have hD : va_D A (LW cI cP cS ad la S lp lo lq lb lg) := hD
                                              refine lv_istore (lv' := [(12, .int (nI a)), (0, .ref (ad 0)), (1, .ref (la 2)), (2, .ref (la 3)), (3, .ref (la 4)), (4, .int (nI 1)), (5, .int (nI k)), (6, .int (nI (7 * k))), (7, .int (nI 0)), (8, .int (nI t)), (9, .int (eX (kc k t))), (10, .int ((-10 : Int32))), (11, .int (nI w))]) hx hb dL_areSubscribers_325 hl (by decide) rfl (fun ls hl => ?_)
                                              refine lv_iload hx hb dL_areSubscribers_327 (lv_at hl 0 rfl) ?_
                                              refine lv_iconst (v := -1) hx hb dL_areSubscribers_329 (by decide) ?_
                                              refine x_cmp_lt (tgt := 408) hx hb (nI_nm1 (by omega)) dL_areSubscribers_330 (by decide) (fun c330 => ?_) (fun c330 => ?_)
                                              · exact c330.elim
                                              · refine lv_iload hx hb dL_areSubscribers_333 (lv_at hl 0 rfl) ?_
                                                refine lv_bipush (v := nI 100) hx hb dL_areSubscribers_335 (by decide) ?_
                                                refine x_cmp_ge (tgt := 408) hx hb (nI_leI (a := 100) (b := a) (by omega) (by omega)) dL_areSubscribers_337 (by decide) (fun c337 => ?_) (fun c337 => ?_)
                                                · exfalso; omega
                                                · refine lv_iload hx hb dL_areSubscribers_340 (lv_at hl 0 rfl) ?_
                                                  refine x_if_ge (tgt := 349) hx hb (nI_ge0 (by omega)) dL_areSubscribers_342 (by decide) (fun c342 => ?_) (fun c342 => ?_)
                                                  · refine lv_iconst (v := nI 0) hx hb dL_areSubscribers_349 (by decide) ?_
                                                    refine lv_aload_n hx hb dL_areSubscribers_350 rfl (lv_at hl 1 rfl) ?_
                                                    refine lv_iload hx hb dL_areSubscribers_351 (lv_at hl 6 rfl) ?_
                                                    refine lv_iload hx hb dL_areSubscribers_353 (lv_at hl 9 rfl) ?_
                                                    refine lv_iload hx hb dL_areSubscribers_355 (lv_at hl 12 rfl) ?_
                                                    refine lv_iconst (v := nI 1) hx hb dL_areSubscribers_357 (by decide) ?_
                                                    refine x_calli (w2 := fun (S358 : S4) => LW cI cP cS ad la S358 lp lo lq lb lg) (wr := []) (x_runVE (n := 4) ⟨hx, hb, hml, hown, hts⟩ (fN_seen l D cI cP cS cL hfl ad la lp lo lq lb lg (s_lim S) (s_n S) (s_rows S) (s_cc S) (s_ct S) (s_ck S) (s_nr S) (s_cr S) (s_old S) (s_rw S) (s_co S) (s_re S) (s_nu S) (s_ma S) (s_sr S) (s_cp S) (s_pu S) (s_st S) (s_sl S) k (nI k) (nI t) (nI w) (nI 1) (by omega) (hsx_of (by omega)) (nx_seen (by omega) (by omega) (by omega) (by omega))) gL_areSubscribers_X4_seen rfl rfl rfl (by decide +kernel) ⟨by decide, by decide⟩ hN hK hP hD hS hA hE iLW rfl rfl (ci := 4) (q0 := 0) rfl rfl rfl rfl hl.1 (rest := [.int (nI 0)]) (As := [.int (nI k), .int (nI t), .int (nI w), .int (nI 1)]) rfl (Nat.le_of_ble_eq_true rfl) dL_areSubscribers_358 ⟨by show _ ≤ 2200; omega, by show _ ≤ 13200; omega⟩) hP hD hS hA iLW [] iLW rfl rfl rfl (by decide) rfl (fun _ => rfl) (fun r358 S358 H locs hw hP hD hS => ?_)
                                                    obtain ⟨hr9, e8⟩ := N_seen (by omega) (by omega) hw
                                                    have e9 : S = S358 := (show S358 = S from e8).symm
                                                    subst e9
                                                    rw [he1, qNum_e va9 vb9 vc9 (by omega)] at hr9
                                                    have hr9 : r358 = nI b := hr9
                                                    subst hr9
                                                    have hP : va_P D vwCl (LW cI cP cS ad la S lp lo lq lb lg) H := hP
                                                    have hD : va_D A (LW cI cP cS ad la S lp lo lq lb lg) := hD
                                                    refine x_if_ge (tgt := 368) hx hb (nI_ge0 (by omega)) dL_areSubscribers_361 (by decide) (fun c361 => ?_) (fun c361 => ?_)
                                                    · refine lv_iconst (v := nI 0) hx hb dL_areSubscribers_368 (by decide) ?_
                                                      refine x_cmp_ne (tgt := 408) hx hb (Iff.rfl) dL_areSubscribers_369 (by decide) (fun c369 => ?_) (fun c369 => ?_)
                                                      · exact absurd rfl c369
                                                      · refine lv_iload hx hb dL_areSubscribers_372 (lv_at hl 0 rfl) ?_
                                                        refine x_if_ge (tgt := 381) hx hb (nI_ge0 (by omega)) dL_areSubscribers_374 (by decide) (fun c374 => ?_) (fun c374 => ?_)
                                                        · refine lv_iconst (v := nI 0) hx hb dL_areSubscribers_381 (by decide) ?_
                                                          refine lv_aload_n hx hb dL_areSubscribers_382 rfl (lv_at hl 1 rfl) ?_
                                                          refine lv_iload hx hb dL_areSubscribers_383 (lv_at hl 6 rfl) ?_
                                                          refine lv_iload hx hb dL_areSubscribers_385 (lv_at hl 9 rfl) ?_
                                                          refine lv_iload hx hb dL_areSubscribers_387 (lv_at hl 12 rfl) ?_
                                                          refine lv_iconst (v := nI 2) hx hb dL_areSubscribers_389 (by decide) ?_
                                                          refine x_calli (w2 := fun (S390 : S4) => LW cI cP cS ad la S390 lp lo lq lb lg) (wr := []) (x_runVE (n := 4) ⟨hx, hb, hml, hown, hts⟩ (fN_seen l D cI cP cS cL hfl ad la lp lo lq lb lg (s_lim S) (s_n S) (s_rows S) (s_cc S) (s_ct S) (s_ck S) (s_nr S) (s_cr S) (s_old S) (s_rw S) (s_co S) (s_re S) (s_nu S) (s_ma S) (s_sr S) (s_cp S) (s_pu S) (s_st S) (s_sl S) k (nI k) (nI t) (nI w) (nI 2) (by omega) (hsx_of (by omega)) (nx_seen (by omega) (by omega) (by omega) (by omega))) gL_areSubscribers_X4_seen rfl rfl rfl (by decide +kernel) ⟨by decide, by decide⟩ hN hK hP hD hS hA hE iLW rfl rfl (ci := 4) (q0 := 0) rfl rfl rfl rfl hl.1 (rest := [.int (nI 0)]) (As := [.int (nI k), .int (nI t), .int (nI w), .int (nI 2)]) rfl (Nat.le_of_ble_eq_true rfl) dL_areSubscribers_390 ⟨by show _ ≤ 2200; omega, by show _ ≤ 13200; omega⟩) hP hD hS hA iLW [] iLW rfl rfl rfl (by decide) rfl (fun _ => rfl) (fun r390 S390 H locs hw hP hD hS => ?_)
                                                          obtain ⟨hr9, e8⟩ := N_seen (by omega) (by omega) hw
                                                          have e9 : S = S390 := (show S390 = S from e8).symm
                                                          subst e9
                                                          rw [he1, qNum_e va9 vb9 vc9 (by omega)] at hr9
                                                          have hr9 : r390 = nI c := hr9
                                                          subst hr9
                                                          have hP : va_P D vwCl (LW cI cP cS ad la S lp lo lq lb lg) H := hP
                                                          have hD : va_D A (LW cI cP cS ad la S lp lo lq lb lg) := hD
                                                          refine x_if_ge (tgt := 400) hx hb (nI_ge0 (by omega)) dL_areSubscribers_393 (by decide) (fun c393 => ?_) (fun c393 => ?_)
                                                          · refine lv_iconst (v := nI 0) hx hb dL_areSubscribers_400 (by decide) ?_
                                                            refine x_cmp_ne (tgt := 408) hx hb (Iff.rfl) dL_areSubscribers_401 (by decide) (fun c401 => ?_) (fun c401 => ?_)
                                                            · exact absurd rfl c401
                                                            · refine lv_iconst (v := nI 1) hx hb dL_areSubscribers_404 (by decide) ?_
                                                              refine lv_goto (tgt := 409) hx hb dL_areSubscribers_405 (by decide) ?_
                                                              refine lv_istore (lv' := [(4, .int (nI 1)), (12, .int (nI a)), (0, .ref (ad 0)), (1, .ref (la 2)), (2, .ref (la 3)), (3, .ref (la 4)), (5, .int (nI k)), (6, .int (nI (7 * k))), (7, .int (nI 0)), (8, .int (nI t)), (9, .int (eX (kc k t))), (10, .int ((-10 : Int32))), (11, .int (nI w))]) hx hb dL_areSubscribers_409 hl (by decide) rfl (fun ls hl => ?_)
                                                              refine lv_iload hx hb dL_areSubscribers_411 (lv_at hl 0 rfl) ?_
                                                              refine x_if_eq (tgt := 520) hx hb (nI_z (by omega)) dL_areSubscribers_413 (by decide) (fun c413 => ?_) (fun c413 => ?_)
                                                              · exfalso; omega
                                                              · refine lv_iload hx hb dL_areSubscribers_416 (lv_at hl 1 rfl) ?_
                                                                refine x_if_lt (tgt := 520) hx hb (nI_ng (by omega)) dL_areSubscribers_418 (by decide) (fun c418 => ?_) (fun c418 => ?_)
                                                                · exact c418.elim
                                                                · refine lv_iload hx hb dL_areSubscribers_421 (lv_at hl 10 rfl) ?_
                                                                  refine x_if_lt (tgt := 520) hx hb (eX_ng (by omega)) dL_areSubscribers_423 (by decide) (fun c423 => ?_) (fun c423 => ?_)
                                                                  · refine x_iinc (k := 12) (o := 1) (v := w + 1) (lv' := [(11, .int (nI (w + 1))), (4, .int (nI 1)), (12, .int (nI a)), (0, .ref (ad 0)), (1, .ref (la 2)), (2, .ref (la 3)), (3, .ref (la 4)), (5, .int (nI k)), (6, .int (nI (7 * k))), (7, .int (nI 0)), (8, .int (nI t)), (9, .int (eX (kc k t))), (10, .int ((-10 : Int32)))]) hx hb dL_areSubscribers_520 hl rfl rfl rfl (by decide) rfl (fun ls hl => ?_)
                                                                    refine lv_goto (tgt := 302) hx hb dL_areSubscribers_523 (by decide) ?_
                                                                    exact W.widen (by show _ ≤ 20 + 660 * k + 10 + 300 * t + 8 + 20 * (w + 1); omega) (by show _ ≤ 120 + 3960 * k + 60 + 1800 * t + 48 + 120 * (w + 1); omega) (ih302 (w + 1) (by show w + 1 ≤ 12; omega) (by show 12 - (w + 1) < 12 - w; omega) _ _ _ hP hD hS (lv_sub hl [3, 4, 5, 6, 1, 7, 8, 9, 10, 11, 12, 0] rfl))
                                                                  · refine lv_iload hx hb dL_areSubscribers_426 (lv_at hl 8 rfl) ?_
                                                                    refine x_if_eq (tgt := 520) hx hb (nI_z (by omega)) dL_areSubscribers_428 (by decide) (fun c428 => ?_) (fun c428 => ?_)
                                                                    · refine x_iinc (k := 12) (o := 1) (v := w + 1) (lv' := [(11, .int (nI (w + 1))), (4, .int (nI 1)), (12, .int (nI a)), (0, .ref (ad 0)), (1, .ref (la 2)), (2, .ref (la 3)), (3, .ref (la 4)), (5, .int (nI k)), (6, .int (nI (7 * k))), (7, .int (nI 0)), (8, .int (nI t)), (9, .int (eX (kc k t))), (10, .int ((-10 : Int32)))]) hx hb dL_areSubscribers_520 hl rfl rfl rfl (by decide) rfl (fun ls hl => ?_)
                                                                      refine lv_goto (tgt := 302) hx hb dL_areSubscribers_523 (by decide) ?_
                                                                      exact W.widen (by show _ ≤ 20 + 660 * k + 10 + 300 * t + 8 + 20 * (w + 1); omega) (by show _ ≤ 120 + 3960 * k + 60 + 1800 * t + 48 + 120 * (w + 1); omega) (ih302 (w + 1) (by show w + 1 ≤ 12; omega) (by show 12 - (w + 1) < 12 - w; omega) _ _ _ hP hD hS (lv_sub hl [3, 4, 5, 6, 1, 7, 8, 9, 10, 11, 12, 0] rfl))
                                                                    · exfalso; omega
                                                          · exact absurd trivial c393
                                                        · exact absurd trivial c374
                                                    · exact absurd trivial c361
                                                  · exact absurd trivial c342
                                    · exfalso; omega
                          · exfalso; omega
                      · exfalso; omega
                intro kj124
                refine lv_aload_n hx hb dL_areSubscribers_99 rfl (lv_at hl 3 rfl) ?_
                refine lv_iload hx hb dL_areSubscribers_100 (lv_at hl 0 rfl) ?_
                refine lv_iconst (v := nI 1) hx hb dL_areSubscribers_102 (by decide) ?_
                refine x_add (k := (7 * k) + 1) hx hb dL_areSubscribers_103 rfl ?_
                refine x_ald (v := nI (s_st S k)) hx hb hK hP 40 0 rfl rfl (by omega) (by omega) (IN_b1 hI (by omega)) dL_areSubscribers_104 ?_
                refine lv_iconst (v := nI 1) hx hb dL_areSubscribers_105 (by decide) ?_
                refine x_cmp_eq (tgt := 119) hx hb (nI_eq (a := (s_st S k)) (b := 1) (by omega) (by omega)) dL_areSubscribers_106 (by decide) (fun c106 => ?_) (fun c106 => ?_)
                · refine lv_iconst (v := nI 1) hx hb dL_areSubscribers_119 (by decide) ?_
                  refine lv_goto (tgt := 124) hx hb dL_areSubscribers_120 (by decide) ?_
                  exact W.widen (by show _ ≤ 20 + 660 * k; omega) (by show _ ≤ 120 + 3960 * k; omega) (kj124 1 (by first | exact Or.inl ⟨rfl, by omega⟩ | exact Or.inr ⟨rfl, by omega⟩) _ _ _ hP hD hS (lv_sub hl [1, 2, 3, 4, 5, 6, 0] rfl))
                · refine lv_aload_n hx hb dL_areSubscribers_109 rfl (lv_at hl 3 rfl) ?_
                  refine lv_iload hx hb dL_areSubscribers_110 (lv_at hl 0 rfl) ?_
                  refine lv_iconst (v := nI 1) hx hb dL_areSubscribers_112 (by decide) ?_
                  refine x_add (k := (7 * k) + 1) hx hb dL_areSubscribers_113 rfl ?_
                  refine x_ald (v := nI (s_st S k)) hx hb hK hP 40 0 rfl rfl (by omega) (by omega) (IN_b1 hI (by omega)) dL_areSubscribers_114 ?_
                  refine lv_iconst (v := nI 2) hx hb dL_areSubscribers_115 (by decide) ?_
                  refine x_cmp_ne (tgt := 123) hx hb (nI_eq (a := (s_st S k)) (b := 2) (by omega) (by omega)) dL_areSubscribers_116 (by decide) (fun c116 => ?_) (fun c116 => ?_)
                  · refine lv_iconst (v := nI 0) hx hb dL_areSubscribers_123 (by decide) ?_
                    exact W.widen (by show _ ≤ 20 + 660 * k; omega) (by show _ ≤ 120 + 3960 * k; omega) (kj124 0 (by first | exact Or.inl ⟨rfl, by omega⟩ | exact Or.inr ⟨rfl, by omega⟩) _ _ _ hP hD hS (lv_sub hl [1, 2, 3, 4, 5, 6, 0] rfl))
                  · refine lv_iconst (v := nI 1) hx hb dL_areSubscribers_119 (by decide) ?_
                    refine lv_goto (tgt := 124) hx hb dL_areSubscribers_120 (by decide) ?_
                    exact W.widen (by show _ ≤ 20 + 660 * k; omega) (by show _ ≤ 120 + 3960 * k; omega) (kj124 1 (by first | exact Or.inl ⟨rfl, by omega⟩ | exact Or.inr ⟨rfl, by omega⟩) _ _ _ hP hD hS (lv_sub hl [1, 2, 3, 4, 5, 6, 0] rfl))
