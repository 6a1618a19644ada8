theorem a_1 {w : Nat} (h : w < 8) : nI w &&& nI 1 = nI (w % 2) := by rw [pk_andN (by omega) 1 (by decide)]
theorem a_2 {w : Nat} (h : w < 8) : nI w &&& nI 2 = nI (w / 2 % 2 * 2) := by revert w; decide
theorem a_4 {w : Nat} (h : w < 8) : nI w &&& nI 4 = nI (w / 4 % 2 * 4) := by revert w; decide

set_option maxHeartbeats 8000000 in
set_option maxRecDepth 100000 in
theorem zL_isPublisher (l : Launch) (D : va_G) (cI cP cS cL : ClassId) (hfl : l.stackTraces = false) (ad la : Nat → Nat) (hinj : ∀ x y, x < 3 → y < 3 → ad (13 + 5 * x) = ad (13 + 5 * y) → x = y) (S : S4) (lp lo lq lb lg : qF)  (hI0 : INE ad S lp lo lq lb lg) : xWi l yL_isPublisher wsL_isPublisher (rmD 11 300 1800) D [(cI, .int), (cP, .object RX0), (cS, .object RX2)] [.ref (ad 0), .ref (la 0), .ref (la 4)] (LW cI cP cS ad la S lp lo lq lb lg) (fun (r : Int32) (_ : Unit) => r = nI 1) (fun (_ : Unit) => LW cI cP cS ad la S lp lo lq lb lg) 300 1800 := by
  refine xe_N (cc := cL_isPublisher) (maxL := 6) (ret := (some .boolean)) (by decide) rfl (Nat.le_of_ble_eq_true rfl) ?_
  intro zp ze s zm below meth zc A ls B hE
  obtain ⟨hx, hb, hml, hrt, hts, hown, hnm, hlk, hK, hP, hD, hA, hS, hN, hl⟩ := B
  have hown : s.vm.findClass RL = some zm.cls := hown
  have hl : lv_has ls 6 [(0, .ref (ad 0)), (1, .ref (la 0)), (2, .ref (la 4))] := hl
  have hA : ∀ q, s.heap.size ≤ q → A q := hA
  obtain ⟨bk, kc, mi, cn, hI⟩ := hI0
  have hn50 := IN_n hI
  have hlim50 := IN_lim hI
  have hcn12 := IN_cn hI
  refine lv_aload_n hx hb dL_isPublisher_0 rfl (lv_at hl 0 rfl) ?_
  refine x_calli (w2 := fun (S1 : S4) => LW cI cP cS ad la S1 lp lo lq lb lg) (wr := []) (x_runVE (n := 0) ⟨hx, hb, hml, hown, hts⟩ (fN_commits l D cI cP cS cL hfl ad la lp lo lq lb lg (s_lim S) (s_n S) (s_rows S) (s_cc S) (s_ct S) (s_ck S) (s_nr S) (s_cr S) (s_old S) (s_rw S) (s_co S) (s_re S) (s_nu S) (s_ma S) (s_sr S) (s_cp S) (s_pu S) (s_st S) (s_sl S) ) gL_isPublisher_X4_commits rfl rfl rfl (by decide +kernel) ⟨by decide, by decide⟩ hN hK hP hD hS hA hE iLW rfl rfl (ci := 4) (q0 := 0) rfl rfl rfl rfl hl.1 (rest := []) (As := []) rfl (Nat.le_of_ble_eq_true rfl) dL_isPublisher_1 ⟨by show _ ≤ 300; omega, by show _ ≤ 1800; omega⟩) hP hD hS hA iLW [] iLW rfl rfl rfl (by decide) rfl (fun _ => rfl) (fun r1 S1 H locs hw hP hD hS => ?_)
  obtain ⟨hr9, e8⟩ := hw
  have e9 : S = S1 := (show S1 = S from e8).symm
  subst e9
  subst hr9
  have hP : va_P D vwCl (LW cI cP cS ad la S lp lo lq lb lg) H := hP
  have hD : va_D A (LW cI cP cS ad la S lp lo lq lb lg) := hD
  refine lv_aload_n hx hb dL_isPublisher_4 rfl (lv_at hl 2 rfl) ?_
  refine lv_iconst (v := nI 0) hx hb dL_isPublisher_5 (by decide) ?_
  refine x_ald (v := nI (s_n S)) hx hb hK hP 41 0 rfl rfl (by omega) (by omega) (IN_g0 hI) dL_isPublisher_6 ?_
  refine x_cmp_ne (tgt := 57) hx hb (Iff.rfl) dL_isPublisher_7 (by decide) (fun c7 => ?_) (fun c7 => ?_)
  · exact absurd rfl c7
  · refine lv_aload_n hx hb dL_isPublisher_10 rfl (lv_at hl 0 rfl) ?_
    refine lv_iconst (v := nI 0) hx hb dL_isPublisher_11 (by decide) ?_
    refine lv_iconst (v := nI 2) hx hb dL_isPublisher_12 (by decide) ?_
    refine lv_iconst (v := nI 0) hx hb dL_isPublisher_13 (by decide) ?_
    refine lv_iconst (v := nI 0) hx hb dL_isPublisher_14 (by decide) ?_
    refine lv_iconst (v := nI 0) hx hb dL_isPublisher_15 (by decide) ?_
    refine x_calli (w2 := fun (S16 : S4) => LW cI cP cS ad la S16 lp lo lq lb lg) (wr := []) (x_runL (n := 6) ⟨hx, hb, hml, hown, hts⟩ (fA_at l D cI cP cS cL hfl ad la lp lo lq lb lg (s_lim S) (s_n S) (s_rows S) (s_cc S) (s_ct S) (s_ck S) (s_nr S) (s_cr S) (s_old S) (s_rw S) (s_co S) (s_re S) (s_nu S) (s_ma S) (s_sr S) (s_cp S) (s_pu S) (s_st S) (s_sl S) (nI 2) (nI 0) (nI 0) (nI 0)) gL_isPublisher_L_asks rfl rfl rfl (by decide +kernel) ⟨by decide, by decide⟩ hN hK hP hD hS hA hE iLW rfl rfl rfl hl.1 (rest := []) (As := [.ref (ad 0), .int (nI 0), .int (nI 2), .int (nI 0), .int (nI 0), .int (nI 0)]) rfl (Nat.le_of_ble_eq_true rfl) dL_isPublisher_16 ⟨by show _ ≤ 300; omega, by show _ ≤ 1800; omega⟩) hP hD hS hA iLW [] iLW rfl rfl rfl (by decide) rfl (fun _ => rfl) (fun r16 S16 H locs hw hP hD hS => ?_)
    obtain ⟨hr9, e8⟩ := O_atx (by omega) (by omega) (by omega) (by omega) hw
    have e9 : S = S16 := (show S16 = S from e8).symm
    subst e9
    subst hr9
    have hP : va_P D vwCl (LW cI cP cS ad la S lp lo lq lb lg) H := hP
    have hD : va_D A (LW cI cP cS ad la S lp lo lq lb lg) := hD
    refine lv_bipush (v := (-30 : Int32)) hx hb dL_isPublisher_19 (by decide) ?_
    refine x_cmp_ne (tgt := 57) hx hb (Iff.rfl) dL_isPublisher_21 (by decide) (fun c21 => ?_) (fun c21 => ?_)
    · exact absurd rfl c21
    · refine lv_aload_n hx hb dL_isPublisher_24 rfl (lv_at hl 0 rfl) ?_
      refine lv_iconst (v := nI 0) hx hb dL_isPublisher_25 (by decide) ?_
      refine lv_iconst (v := nI 0) hx hb dL_isPublisher_26 (by decide) ?_
      refine lv_bipush (v := nI 12) hx hb dL_isPublisher_27 (by decide) ?_
      refine lv_iconst (v := nI 0) hx hb dL_isPublisher_29 (by decide) ?_
      refine lv_iconst (v := nI 0) hx hb dL_isPublisher_30 (by decide) ?_
      refine x_calli (w2 := fun (S31 : S4) => LW cI cP cS ad la S31 lp lo lq lb lg) (wr := []) (x_runL (n := 6) ⟨hx, hb, hml, hown, hts⟩ (fA_at l D cI cP cS cL hfl ad la lp lo lq lb lg (s_lim S) (s_n S) (s_rows S) (s_cc S) (s_ct S) (s_ck S) (s_nr S) (s_cr S) (s_old S) (s_rw S) (s_co S) (s_re S) (s_nu S) (s_ma S) (s_sr S) (s_cp S) (s_pu S) (s_st S) (s_sl S) (nI 0) (nI 12) (nI 0) (nI 0)) gL_isPublisher_L_asks rfl rfl rfl (by decide +kernel) ⟨by decide, by decide⟩ hN hK hP hD hS hA hE iLW rfl rfl rfl hl.1 (rest := []) (As := [.ref (ad 0), .int (nI 0), .int (nI 0), .int (nI 12), .int (nI 0), .int (nI 0)]) rfl (Nat.le_of_ble_eq_true rfl) dL_isPublisher_31 ⟨by show _ ≤ 300; omega, by show _ ≤ 1800; omega⟩) hP hD hS hA iLW [] iLW rfl rfl rfl (by decide) rfl (fun _ => rfl) (fun r31 S31 H locs hw hP hD hS => ?_)
      obtain ⟨hr9, e8⟩ := O_atx (by omega) (by omega) (by omega) (by omega) hw
      have e9 : S = S31 := (show S31 = S from e8).symm
      subst e9
      subst hr9
      have hP : va_P D vwCl (LW cI cP cS ad la S lp lo lq lb lg) H := hP
      have hD : va_D A (LW cI cP cS ad la S lp lo lq lb lg) := hD
      refine lv_bipush (v := (-30 : Int32)) hx hb dL_isPublisher_34 (by decide) ?_
      refine x_cmp_ne (tgt := 57) hx hb (Iff.rfl) dL_isPublisher_36 (by decide) (fun c36 => ?_) (fun c36 => ?_)
      · exact absurd rfl c36
      · refine lv_aload_n hx hb dL_isPublisher_39 rfl (lv_at hl 0 rfl) ?_
        refine lv_iconst (v := nI 0) hx hb dL_isPublisher_40 (by decide) ?_
        refine lv_iconst (v := nI 0) hx hb dL_isPublisher_41 (by decide) ?_
        refine lv_iconst (v := nI 0) hx hb dL_isPublisher_42 (by decide) ?_
        refine lv_iconst (v := nI 3) hx hb dL_isPublisher_43 (by decide) ?_
        refine lv_iconst (v := nI 0) hx hb dL_isPublisher_44 (by decide) ?_
        refine x_calli (w2 := fun (S45 : S4) => LW cI cP cS ad la S45 lp lo lq lb lg) (wr := []) (x_runL (n := 6) ⟨hx, hb, hml, hown, hts⟩ (fA_at l D cI cP cS cL hfl ad la lp lo lq lb lg (s_lim S) (s_n S) (s_rows S) (s_cc S) (s_ct S) (s_ck S) (s_nr S) (s_cr S) (s_old S) (s_rw S) (s_co S) (s_re S) (s_nu S) (s_ma S) (s_sr S) (s_cp S) (s_pu S) (s_st S) (s_sl S) (nI 0) (nI 0) (nI 3) (nI 0)) gL_isPublisher_L_asks rfl rfl rfl (by decide +kernel) ⟨by decide, by decide⟩ hN hK hP hD hS hA hE iLW rfl rfl rfl hl.1 (rest := []) (As := [.ref (ad 0), .int (nI 0), .int (nI 0), .int (nI 0), .int (nI 3), .int (nI 0)]) rfl (Nat.le_of_ble_eq_true rfl) dL_isPublisher_45 ⟨by show _ ≤ 300; omega, by show _ ≤ 1800; omega⟩) hP hD hS hA iLW [] iLW rfl rfl rfl (by decide) rfl (fun _ => rfl) (fun r45 S45 H locs hw hP hD hS => ?_)
        obtain ⟨hr9, e8⟩ := O_atx (by omega) (by omega) (by omega) (by omega) hw
        have e9 : S = S45 := (show S45 = S from e8).symm
        subst e9
        subst hr9
        have hP : va_P D vwCl (LW cI cP cS ad la S lp lo lq lb lg) H := hP
        have hD : va_D A (LW cI cP cS ad la S lp lo lq lb lg) := hD
        refine lv_bipush (v := (-30 : Int32)) hx hb dL_isPublisher_48 (by decide) ?_
        refine x_cmp_ne (tgt := 57) hx hb (Iff.rfl) dL_isPublisher_50 (by decide) (fun c50 => ?_) (fun c50 => ?_)
        · exact absurd rfl c50
        · refine lv_iconst (v := nI 1) hx hb dL_isPublisher_53 (by decide) ?_
          refine lv_goto (tgt := 58) hx hb dL_isPublisher_54 (by decide) ?_
          refine lv_istore_n (lv' := [(3, .int (nI 1)), (0, .ref (ad 0)), (1, .ref (la 0)), (2, .ref (la 4))]) hx hb dL_isPublisher_58 rfl hl (by decide) rfl (fun ls hl => ?_)
          refine lv_iconst (v := nI 0) hx hb dL_isPublisher_59 (by decide) ?_
          refine lv_istore (lv' := [(4, .int (nI 0)), (3, .int (nI 1)), (0, .ref (ad 0)), (1, .ref (la 0)), (2, .ref (la 4))]) hx hb dL_isPublisher_60 hl (by decide) rfl (fun ls hl => ?_)
          refine x_loopc (nL := 6) (fun (k : Nat) => k ≤ 24) (fun (k : Nat) => 24 - k) (fun (k : Nat) => 12 + 9 * k) (fun (k : Nat) => 72 + 54 * k) (fun (k : Nat) => LW cI cP cS ad la S lp lo lq lb lg) (fun (k : Nat) => [(0, .ref (ad 0)), (1, .ref (la 0)), (2, .ref (la 4)), (3, .int (nI 1)), (4, .int (nI k))]) (fun (k : Nat) => []) ?_ 0 (Nat.zero_le 24) (by show _ ≤ 12 + 9 * 0; omega) (by show _ ≤ 72 + 54 * 0; omega) hP hD hS (lv_sub hl [2, 3, 4, 1, 0] rfl)
          intro x9 hI62 ih62 H locs ls hP hD hS hl
          obtain ⟨k, h9⟩ : ∃ z, z = x9 := ⟨x9, rfl⟩
          subst h9
          have hP : va_P D vwCl (LW cI cP cS ad la S lp lo lq lb lg) H := hP
          have hD : va_D A (LW cI cP cS ad la S lp lo lq lb lg) := hD
          have hl : lv_has ls 6 [(0, .ref (ad 0)), (1, .ref (la 0)), (2, .ref (la 4)), (3, .int (nI 1)), (4, .int (nI k))] := hl
          show W _ _ _ _ _ _ _ _ _ _ _ _ (12 + 9 * k) (72 + 54 * k) _ _
          have hk := hI62
          refine lv_iload hx hb dL_isPublisher_62 (lv_at hl 4 rfl) ?_
          refine lv_bipush (v := nI 24) hx hb dL_isPublisher_64 (by decide) ?_
          refine x_cmp_ge (tgt := 190) hx hb (nI_leI (a := 24) (b := k) (by omega) (by omega)) dL_isPublisher_66 (by decide) (fun c66 => ?_) (fun c66 => ?_)
          · refine lv_iload_n hx hb dL_isPublisher_190 rfl (lv_at hl 3 rfl) ?_
            exact x_ret_z hx hb hrt (by first | exact Or.inl rfl | exact Or.inr rfl) hlk hP hD hS dL_isPublisher_191 ⟨by omega, by omega⟩ (()) rfl rfl
          · refine lv_iload_n hx hb dL_isPublisher_69 rfl (lv_at hl 3 rfl) ?_
            refine x_if_eq (tgt := 190) hx hb (nI_z (by omega)) dL_isPublisher_70 (by decide) (fun c70 => ?_) (fun c70 => ?_)
            · exfalso; omega
            · rcases IN_p hI k (by omega) with ⟨he1, he2⟩ | ⟨a, b, c, va9, vb9, vc9, he1, he2⟩
              · refine lv_aload_n hx hb dL_isPublisher_73 rfl (lv_at hl 0 rfl) ?_
                refine lv_iload hx hb dL_isPublisher_74 (lv_at hl 4 rfl) ?_
                refine lv_bipush (v := nI 12) hx hb dL_isPublisher_76 (by decide) ?_
                refine x_div (k := k / 12) hx hb dL_isPublisher_78 (by omega) (by omega) (by omega) rfl ?_
                refine lv_iload hx hb dL_isPublisher_79 (lv_at hl 4 rfl) ?_
                refine lv_bipush (v := nI 12) hx hb dL_isPublisher_81 (by decide) ?_
                refine x_rem (k := k % 12) hx hb dL_isPublisher_83 (by omega) (by omega) (by omega) rfl ?_
                refine lv_iconst (v := nI 0) hx hb dL_isPublisher_84 (by decide) ?_
                refine x_calli (w2 := fun (S85 : S4) => LW cI cP cS ad la S85 lp lo lq lb lg) (wr := []) (x_runVE (n := 3) ⟨hx, hb, hml, hown, hts⟩ (fN_at l D cI cP cS cL hfl ad la lp lo lq lb lg (s_lim S) (s_n S) (s_rows S) (s_cc S) (s_ct S) (s_ck S) (s_nr S) (s_cr S) (s_old S) (s_rw S) (s_co S) (s_re S) (s_nu S) (s_ma S) (s_sr S) (s_cp S) (s_pu S) (s_st S) (s_sl S) (nI (k / 12)) (nI (k % 12)) (nI 0) (nx_at (by omega) (by omega) (by omega))) gL_isPublisher_X4_at rfl rfl rfl (by decide +kernel) ⟨by decide, by decide⟩ hN hK hP hD hS hA hE iLW rfl rfl (ci := 4) (q0 := 0) rfl rfl rfl rfl hl.1 (rest := []) (As := [.int (nI (k / 12)), .int (nI (k % 12)), .int (nI 0)]) rfl (Nat.le_of_ble_eq_true rfl) dL_isPublisher_85 ⟨by show _ ≤ 300; omega, by show _ ≤ 1800; omega⟩) hP hD hS hA iLW [] iLW rfl rfl rfl (by decide) rfl (fun _ => rfl) (fun r85 S85 H locs hw hP hD hS => ?_)
                obtain ⟨hr9, e8⟩ := N_at (by omega) (by omega) hw
                have e9 : S = S85 := (show S85 = S from e8).symm
                subst e9
                rw [show k / 12 * 12 + k % 12 = k by omega, he1, qNum_m] at hr9
                subst hr9
                have hP : va_P D vwCl (LW cI cP cS ad la S lp lo lq lb lg) H := hP
                have hD : va_D A (LW cI cP cS ad la S lp lo lq lb lg) := hD
                refine lv_istore (lv' := [(5, .int (-1)), (0, .ref (ad 0)), (1, .ref (la 0)), (2, .ref (la 4)), (3, .int (nI 1)), (4, .int (nI k))]) hx hb dL_isPublisher_88 hl (by decide) rfl (fun ls hl => ?_)
                refine lv_aload_n hx hb dL_isPublisher_90 rfl (lv_at hl 2 rfl) ?_
                refine lv_iload hx hb dL_isPublisher_91 (lv_at hl 5 rfl) ?_
                refine x_ald (v := -1) hx hb hK hP 37 0 rfl rfl (by omega) (by omega) he2 dL_isPublisher_93 ?_
                refine x_if_ge (tgt := 130) hx hb (Iff.rfl) dL_isPublisher_94 (by decide) (fun c94 => ?_) (fun c94 => ?_)
                · exact absurd c94 (by decide)
                · refine lv_iload hx hb dL_isPublisher_97 (lv_at hl 0 rfl) ?_
                  refine lv_iconst (v := -1) hx hb dL_isPublisher_99 (by decide) ?_
                  refine x_cmp_ne (tgt := 126) hx hb (Iff.rfl) dL_isPublisher_100 (by decide) (fun c100 => ?_) (fun c100 => ?_)
                  · exact absurd rfl c100
                  · refine lv_aload_n hx hb dL_isPublisher_103 rfl (lv_at hl 1 rfl) ?_
                    refine lv_iload hx hb dL_isPublisher_104 (lv_at hl 5 rfl) ?_
                    refine lv_bipush (v := nI 12) hx hb dL_isPublisher_106 (by decide) ?_
                    refine x_div (k := k / 12) hx hb dL_isPublisher_108 (by omega) (by omega) (by omega) rfl ?_
                    refine lv_iload hx hb dL_isPublisher_109 (lv_at hl 5 rfl) ?_
                    refine lv_bipush (v := nI 12) hx hb dL_isPublisher_111 (by decide) ?_
                    refine x_rem (k := k % 12) hx hb dL_isPublisher_113 (by omega) (by omega) (by omega) rfl ?_
                    refine lv_iconst (v := nI 2) hx hb dL_isPublisher_114 (by decide) ?_
                    refine x_calli (w2 := fun (S115 : S4) => LW cI cP cS ad la S115 lp lo lq lb lg) (wr := []) (x_runVE (n := 3) ⟨hx, hb, hml, hown, hts⟩ (fN_at l D cI cP cS cL hfl ad la lp lo lq lb lg (s_lim S) (s_n S) (s_rows S) (s_cc S) (s_ct S) (s_ck S) (s_nr S) (s_cr S) (s_old S) (s_rw S) (s_co S) (s_re S) (s_nu S) (s_ma S) (s_sr S) (s_cp S) (s_pu S) (s_st S) (s_sl S) (nI (k / 12)) (nI (k % 12)) (nI 2) (nx_at (by omega) (by omega) (by omega))) gL_isPublisher_X4_at rfl rfl rfl (by decide +kernel) ⟨by decide, by decide⟩ hN hK hP hD hS hA hE iLW rfl rfl (ci := 4) (q0 := 0) rfl rfl rfl rfl hl.1 (rest := []) (As := [.int (nI (k / 12)), .int (nI (k % 12)), .int (nI 2)]) rfl (Nat.le_of_ble_eq_true rfl) dL_isPublisher_115 ⟨by show _ ≤ 300; omega, by show _ ≤ 1800; omega⟩) hP hD hS hA iLW [] iLW rfl rfl rfl (by decide) rfl (fun _ => rfl) (fun r115 S115 H locs hw hP hD hS => ?_)
                    obtain ⟨hr9, e8⟩ := N_at (by omega) (by omega) hw
                    have e9 : S = S115 := (show S115 = S from e8).symm
                    subst e9
                    rw [show k / 12 * 12 + k % 12 = k by omega, he1, qNum_m] at hr9
                    subst hr9
                    have hP : va_P D vwCl (LW cI cP cS ad la S lp lo lq lb lg) H := hP
                    have hD : va_D A (LW cI cP cS ad la S lp lo lq lb lg) := hD
                    refine lv_iconst (v := -1) hx hb dL_isPublisher_118 (by decide) ?_
                    refine x_cmp_ne (tgt := 126) hx hb (Iff.rfl) dL_isPublisher_119 (by decide) (fun c119 => ?_) (fun c119 => ?_)
                    · exact absurd rfl c119
                    · refine lv_iconst (v := nI 1) hx hb dL_isPublisher_122 (by decide) ?_
                      refine lv_goto (tgt := 183) hx hb dL_isPublisher_123 (by decide) ?_
                      refine lv_istore_n (lv' := [(3, .int (nI 1)), (5, .int (-1)), (0, .ref (ad 0)), (1, .ref (la 0)), (2, .ref (la 4)), (4, .int (nI k))]) hx hb dL_isPublisher_183 rfl hl (by decide) rfl (fun ls hl => ?_)
                      refine x_iinc (k := 5) (o := 1) (v := k + 1) (lv' := [(4, .int (nI (k + 1))), (3, .int (nI 1)), (5, .int (-1)), (0, .ref (ad 0)), (1, .ref (la 0)), (2, .ref (la 4))]) hx hb dL_isPublisher_184 hl rfl rfl rfl (by decide) rfl (fun ls hl => ?_)
                      refine lv_goto (tgt := 62) hx hb dL_isPublisher_187 (by decide) ?_
                      exact W.widen (by show _ ≤ 12 + 9 * (k + 1); omega) (by show _ ≤ 72 + 54 * (k + 1); omega) (ih62 (k + 1) (by show k + 1 ≤ 24; omega) (by show 24 - (k + 1) < 24 - k; omega) _ _ _ hP hD hS (lv_sub hl [3, 4, 5, 1, 0] rfl))
              · refine lv_aload_n hx hb dL_isPublisher_73 rfl (lv_at hl 0 rfl) ?_
                refine lv_iload hx hb dL_isPublisher_74 (lv_at hl 4 rfl) ?_
                refine lv_bipush (v := nI 12) hx hb dL_isPublisher_76 (by decide) ?_
                refine x_div (k := k / 12) hx hb dL_isPublisher_78 (by omega) (by omega) (by omega) rfl ?_
                refine lv_iload hx hb dL_isPublisher_79 (lv_at hl 4 rfl) ?_
                refine lv_bipush (v := nI 12) hx hb dL_isPublisher_81 (by decide) ?_
                refine x_rem (k := k % 12) hx hb dL_isPublisher_83 (by omega) (by omega) (by omega) rfl ?_
                refine lv_iconst (v := nI 0) hx hb dL_isPublisher_84 (by decide) ?_
                refine x_calli (w2 := fun (S85 : S4) => LW cI cP cS ad la S85 lp lo lq lb lg) (wr := []) (x_runVE (n := 3) ⟨hx, hb, hml, hown, hts⟩ (fN_at l D cI cP cS cL hfl ad la lp lo lq lb lg (s_lim S) (s_n S) (s_rows S) (s_cc S) (s_ct S) (s_ck S) (s_nr S) (s_cr S) (s_old S) (s_rw S) (s_co S) (s_re S) (s_nu S) (s_ma S) (s_sr S) (s_cp S) (s_pu S) (s_st S) (s_sl S) (nI (k / 12)) (nI (k % 12)) (nI 0) (nx_at (by omega) (by omega) (by omega))) gL_isPublisher_X4_at rfl rfl rfl (by decide +kernel) ⟨by decide, by decide⟩ hN hK hP hD hS hA hE iLW rfl rfl (ci := 4) (q0 := 0) rfl rfl rfl rfl hl.1 (rest := []) (As := [.int (nI (k / 12)), .int (nI (k % 12)), .int (nI 0)]) rfl (Nat.le_of_ble_eq_true rfl) dL_isPublisher_85 ⟨by show _ ≤ 300; omega, by show _ ≤ 1800; omega⟩) hP hD hS hA iLW [] iLW rfl rfl rfl (by decide) rfl (fun _ => rfl) (fun r85 S85 H locs hw hP hD hS => ?_)
                obtain ⟨hr9, e8⟩ := N_at (by omega) (by omega) hw
                have e9 : S = S85 := (show S85 = S from e8).symm
                subst e9
                rw [show k / 12 * 12 + k % 12 = k by omega, he1, qNum_e va9 vb9 vc9 (by omega)] at hr9
                have hr9 : r85 = nI a := hr9
                subst hr9
                have hP : va_P D vwCl (LW cI cP cS ad la S lp lo lq lb lg) H := hP
                have hD : va_D A (LW cI cP cS ad la S lp lo lq lb lg) := hD
                refine lv_istore (lv' := [(5, .int (nI a)), (0, .ref (ad 0)), (1, .ref (la 0)), (2, .ref (la 4)), (3, .int (nI 1)), (4, .int (nI k))]) hx hb dL_isPublisher_88 hl (by decide) rfl (fun ls hl => ?_)
                refine lv_aload_n hx hb dL_isPublisher_90 rfl (lv_at hl 2 rfl) ?_
                refine lv_iload hx hb dL_isPublisher_91 (lv_at hl 5 rfl) ?_
                refine x_ald (v := nI ((a + (100 * b)) + (10000 * c))) hx hb hK hP 37 0 rfl rfl (by omega) (by omega) he2 dL_isPublisher_93 ?_
                refine x_if_ge (tgt := 130) hx hb (nI_ge0 (by omega)) dL_isPublisher_94 (by decide) (fun c94 => ?_) (fun c94 => ?_)
                · refine lv_iload hx hb dL_isPublisher_130 (lv_at hl 0 rfl) ?_
                  refine lv_bipush (v := nI 100) hx hb dL_isPublisher_132 (by decide) ?_
                  refine lv_aload_n hx hb dL_isPublisher_134 rfl (lv_at hl 1 rfl) ?_
                  refine lv_iload hx hb dL_isPublisher_135 (lv_at hl 5 rfl) ?_
                  refine lv_bipush (v := nI 12) hx hb dL_isPublisher_137 (by decide) ?_
                  refine x_div (k := k / 12) hx hb dL_isPublisher_139 (by omega) (by omega) (by omega) rfl ?_
                  refine lv_iload hx hb dL_isPublisher_140 (lv_at hl 5 rfl) ?_
                  refine lv_bipush (v := nI 12) hx hb dL_isPublisher_142 (by decide) ?_
                  refine x_rem (k := k % 12) hx hb dL_isPublisher_144 (by omega) (by omega) (by omega) rfl ?_
                  refine lv_iconst (v := nI 1) hx hb dL_isPublisher_145 (by decide) ?_
                  refine x_calli (w2 := fun (S146 : S4) => LW cI cP cS ad la S146 lp lo lq lb lg) (wr := []) (x_runVE (n := 3) ⟨hx, hb, hml, hown, hts⟩ (fN_at l D cI cP cS cL hfl ad la lp lo lq lb lg (s_lim S) (s_n S) (s_rows S) (s_cc S) (s_ct S) (s_ck S) (s_nr S) (s_cr S) (s_old S) (s_rw S) (s_co S) (s_re S) (s_nu S) (s_ma S) (s_sr S) (s_cp S) (s_pu S) (s_st S) (s_sl S) (nI (k / 12)) (nI (k % 12)) (nI 1) (nx_at (by omega) (by omega) (by omega))) gL_isPublisher_X4_at rfl rfl rfl (by decide +kernel) ⟨by decide, by decide⟩ hN hK hP hD hS hA hE iLW rfl rfl (ci := 4) (q0 := 0) rfl rfl rfl rfl hl.1 (rest := [.int (nI 100), .int (nI a)]) (As := [.int (nI (k / 12)), .int (nI (k % 12)), .int (nI 1)]) rfl (Nat.le_of_ble_eq_true rfl) dL_isPublisher_146 ⟨by show _ ≤ 300; omega, by show _ ≤ 1800; omega⟩) hP hD hS hA iLW [] iLW rfl rfl rfl (by decide) rfl (fun _ => rfl) (fun r146 S146 H locs hw hP hD hS => ?_)
                  obtain ⟨hr9, e8⟩ := N_at (by omega) (by omega) hw
                  have e9 : S = S146 := (show S146 = S from e8).symm
                  subst e9
                  rw [show k / 12 * 12 + k % 12 = k by omega, he1, qNum_e va9 vb9 vc9 (by omega)] at hr9
                  have hr9 : r146 = nI b := hr9
                  subst hr9
                  have hP : va_P D vwCl (LW cI cP cS ad la S lp lo lq lb lg) H := hP
                  have hD : va_D A (LW cI cP cS ad la S lp lo lq lb lg) := hD
                  refine x_mul (k := 100 * b) hx hb dL_isPublisher_149 rfl ?_
                  refine x_add (k := a + (100 * b)) hx hb dL_isPublisher_150 rfl ?_
                  refine lv_sipush (v := nI 10000) hx hb dL_isPublisher_151 (by decide) ?_
                  refine lv_aload_n hx hb dL_isPublisher_154 rfl (lv_at hl 1 rfl) ?_
                  refine lv_iload hx hb dL_isPublisher_155 (lv_at hl 5 rfl) ?_
                  refine lv_bipush (v := nI 12) hx hb dL_isPublisher_157 (by decide) ?_
                  refine x_div (k := k / 12) hx hb dL_isPublisher_159 (by omega) (by omega) (by omega) rfl ?_
                  refine lv_iload hx hb dL_isPublisher_160 (lv_at hl 5 rfl) ?_
                  refine lv_bipush (v := nI 12) hx hb dL_isPublisher_162 (by decide) ?_
                  refine x_rem (k := k % 12) hx hb dL_isPublisher_164 (by omega) (by omega) (by omega) rfl ?_
                  refine lv_iconst (v := nI 2) hx hb dL_isPublisher_165 (by decide) ?_
                  refine x_calli (w2 := fun (S166 : S4) => LW cI cP cS ad la S166 lp lo lq lb lg) (wr := []) (x_runVE (n := 3) ⟨hx, hb, hml, hown, hts⟩ (fN_at l D cI cP cS cL hfl ad la lp lo lq lb lg (s_lim S) (s_n S) (s_rows S) (s_cc S) (s_ct S) (s_ck S) (s_nr S) (s_cr S) (s_old S) (s_rw S) (s_co S) (s_re S) (s_nu S) (s_ma S) (s_sr S) (s_cp S) (s_pu S) (s_st S) (s_sl S) (nI (k / 12)) (nI (k % 12)) (nI 2) (nx_at (by omega) (by omega) (by omega))) gL_isPublisher_X4_at rfl rfl rfl (by decide +kernel) ⟨by decide, by decide⟩ hN hK hP hD hS hA hE iLW rfl rfl (ci := 4) (q0 := 0) rfl rfl rfl rfl hl.1 (rest := [.int (nI 10000), .int (nI (a + (100 * b)))]) (As := [.int (nI (k / 12)), .int (nI (k % 12)), .int (nI 2)]) rfl (Nat.le_of_ble_eq_true rfl) dL_isPublisher_166 ⟨by show _ ≤ 300; omega, by show _ ≤ 1800; omega⟩) hP hD hS hA iLW [] iLW rfl rfl rfl (by decide) rfl (fun _ => rfl) (fun r166 S166 H locs hw hP hD hS => ?_)
                  obtain ⟨hr9, e8⟩ := N_at (by omega) (by omega) hw
                  have e9 : S = S166 := (show S166 = S from e8).symm
                  subst e9
                  rw [show k / 12 * 12 + k % 12 = k by omega, he1, qNum_e va9 vb9 vc9 (by omega)] at hr9
                  have hr9 : r166 = nI c := hr9
                  subst hr9
                  have hP : va_P D vwCl (LW cI cP cS ad la S lp lo lq lb lg) H := hP
                  have hD : va_D A (LW cI cP cS ad la S lp lo lq lb lg) := hD
                  refine x_mul (k := 10000 * c) hx hb dL_isPublisher_169 rfl ?_
                  refine x_add (k := (a + (100 * b)) + (10000 * c)) hx hb dL_isPublisher_170 rfl ?_
                  refine lv_aload_n hx hb dL_isPublisher_171 rfl (lv_at hl 2 rfl) ?_
                  refine lv_iload hx hb dL_isPublisher_172 (lv_at hl 5 rfl) ?_
                  refine x_ald (v := nI ((a + (100 * b)) + (10000 * c))) hx hb hK hP 37 0 rfl rfl (by omega) (by omega) he2 dL_isPublisher_174 ?_
                  refine x_cmp_ne (tgt := 182) hx hb (Iff.rfl) dL_isPublisher_175 (by decide) (fun c175 => ?_) (fun c175 => ?_)
                  · exact absurd rfl c175
                  · refine lv_iconst (v := nI 1) hx hb dL_isPublisher_178 (by decide) ?_
                    refine lv_goto (tgt := 183) hx hb dL_isPublisher_179 (by decide) ?_
                    refine lv_istore_n (lv' := [(3, .int (nI 1)), (5, .int (nI a)), (0, .ref (ad 0)), (1, .ref (la 0)), (2, .ref (la 4)), (4, .int (nI k))]) hx hb dL_isPublisher_183 rfl hl (by decide) rfl (fun ls hl => ?_)
                    refine x_iinc (k := 5) (o := 1) (v := k + 1) (lv' := [(4, .int (nI (k + 1))), (3, .int (nI 1)), (5, .int (nI a)), (0, .ref (ad 0)), (1, .ref (la 0)), (2, .ref (la 4))]) hx hb dL_isPublisher_184 hl rfl rfl rfl (by decide) rfl (fun ls hl => ?_)
                    refine lv_goto (tgt := 62) hx hb dL_isPublisher_187 (by decide) ?_
                    exact W.widen (by show _ ≤ 12 + 9 * (k + 1); omega) (by show _ ≤ 72 + 54 * (k + 1); omega) (ih62 (k + 1) (by show k + 1 ≤ 24; omega) (by show 24 - (k + 1) < 24 - k; omega) _ _ _ hP hD hS (lv_sub hl [3, 4, 5, 1, 0] rfl))
                · exact absurd trivial c94
