set_option maxHeartbeats 8000000 in
set_option maxRecDepth 100000 in
theorem zL_isReceived (l : Launch) (D : va_G) (cI cP cS cL : ClassId) (hfl : l.stackTraces = false) (ad la : Nat → Nat) (hinj : ∀ x y, x < 3 → y < 3 → ad (13 + 5 * x) = ad (13 + 5 * y) → x = y) (S : S4) (lp lo lq lb lg : qF) (its m : Nat) (h1 : its ≤ 3) (h2 : 1 ≤ m) (h3 : m ≤ 51) (hI0 : INE ad S lp lo lq lb lg) : xWi l yL_isReceived wsL_isReceived (rmD 11 20 120) D [(cI, .int), (cP, .object RX0), (cS, .object RX2)] [.ref (ad 0), .ref (la 3), .ref (la 4), .int (nI its), .int (nI m)] (LW cI cP cS ad la S lp lo lq lb lg) (fun (r : Int32) (T : LT) => r = nI 1 ∧ INT ad T) (fun (T : LT) => LWt cI cP cS ad la T) 20 120 := by
  refine xe_N (cc := cL_isReceived) (maxL := 10) (ret := (some .boolean)) (by decide) rfl (Nat.le_of_ble_eq_true rfl) ?_
  intro zp ze s zm below meth zc A ls B hE
  obtain ⟨hx, hb, hml, hrt, hts, hown, hnm, hlk, hK, hP, hD, hA, hS, hN, hl⟩ := B
  have hown : s.vm.findClass RL = some zm.cls := hown
  have hl : lv_has ls 10 [(0, .ref (ad 0)), (1, .ref (la 3)), (2, .ref (la 4)), (3, .int (nI its)), (4, .int (nI m))] := hl
  have hA : ∀ q, s.heap.size ≤ q → A q := hA
  obtain ⟨bk, kc, mi, cn, hI⟩ := hI0
  have hn50 := IN_n hI
  have hlim50 := IN_lim hI
  have hcn12 := IN_cn hI
  refine lv_iload_n hx hb dL_isReceived_0 rfl (lv_at hl 3 rfl) ?_
  refine lv_iconst (v := nI 3) hx hb dL_isReceived_1 (by decide) ?_
  refine x_cmp_eq (tgt := 18) hx hb (nI_eq (a := its) (b := 3) (by omega) (by omega)) dL_isReceived_2 (by decide) (fun c2 => ?_) (fun c2 => ?_)
  · refine lv_aload_n hx hb dL_isReceived_18 rfl (lv_at hl 0 rfl) ?_
    refine lv_bipush (v := nI 10) hx hb dL_isReceived_19 (by decide) ?_
    refine lv_iload_n hx hb dL_isReceived_21 rfl (lv_at hl 3 rfl) ?_
    refine lv_iload hx hb dL_isReceived_22 (lv_at hl 4 rfl) ?_
    refine lv_iconst (v := nI 0) hx hb dL_isReceived_24 (by decide) ?_
    refine lv_iconst (v := nI 0) hx hb dL_isReceived_25 (by decide) ?_
    refine lv_iconst (v := nI 0) hx hb dL_isReceived_26 (by decide) ?_
    refine x_calli (w2 := fun (S1 : S4) => LW cI cP cS ad la S1 lp lo lq lb lg) (wr := []) (x_runL (n := 7) ⟨hx, hb, hml, hown, hts⟩ (fD_receive l D cI cP cS cL hfl ad la lp lo lq lb lg (s_lim S) (s_n S) (s_rows S) (s_cc S) (s_ct S) (s_ck S) (s_nr S) (s_cr S) (s_old S) (s_rw S) (s_co S) (s_re S) (s_nu S) (s_ma S) (s_sr S) (s_cp S) (s_pu S) (s_st S) (s_sl S) (cl its) (bk (cl its)) (nI its) (nI m) (nI 0) (nI 0) (nI 0) (cl_lt its) (IN_f hI (cl_lt its)).2.2.1 (hsx_cl (by omega)) hn50 (IN_sts hI _ (cl_lt its)) (IN_sls hI _ (cl_lt its)) (IN_pu hI (cl_lt its)) (H_log (IN_of hI))) gL_isReceived_L_does rfl rfl rfl (by decide +kernel) ⟨by decide, by decide⟩ hN hK hP hD hS hA hE iLW rfl rfl rfl hl.1 (rest := []) (As := [.ref (ad 0), .int (nI 10), .int (nI its), .int (nI m), .int (nI 0), .int (nI 0), .int (nI 0)]) rfl (Nat.le_of_ble_eq_true rfl) dL_isReceived_27 ⟨by show _ ≤ 20; omega, by show _ ≤ 120; omega⟩) hP hD hS hA iLW [] iLW rfl rfl rfl (by decide) rfl (fun _ => rfl) (fun r27 S1 H locs hw hP hD hS => ?_)
    obtain ⟨hr9, e8⟩ := (O_receive (IN_of hI) cl_of (by omega) (by omega) (by omega) hw).1 (by omega)
    have e9 : S = S1 := (show S1 = S from e8).symm
    subst e9
    subst hr9
    have hP : va_P D vwCl (LW cI cP cS ad la S lp lo lq lb lg) H := hP
    have hD : va_D A (LW cI cP cS ad la S lp lo lq lb lg) := hD
    refine lv_iload_n hx hb dL_isReceived_30 rfl (lv_at hl 3 rfl) ?_
    refine lv_iconst (v := nI 3) hx hb dL_isReceived_31 (by decide) ?_
    refine x_cmp_ne (tgt := 40) hx hb (nI_eq (a := its) (b := 3) (by omega) (by omega)) dL_isReceived_32 (by decide) (fun c32 => ?_) (fun c32 => ?_)
    · exfalso; omega
    · refine lv_bipush (v := (-30 : Int32)) hx hb dL_isReceived_35 (by decide) ?_
      refine lv_goto (tgt := 42) hx hb dL_isReceived_37 (by decide) ?_
      refine x_cmp_ne (tgt := 49) hx hb (Iff.rfl) dL_isReceived_42 (by decide) (fun c42 => ?_) (fun c42 => ?_)
      · exact absurd rfl c42
      · refine lv_iconst (v := nI 1) hx hb dL_isReceived_45 (by decide) ?_
        refine lv_goto (tgt := 50) hx hb dL_isReceived_46 (by decide) ?_
        exact x_ret_z hx hb hrt (by first | exact Or.inl rfl | exact Or.inr rfl) hlk hP hD hS dL_isReceived_50 ⟨by omega, by omega⟩ ((S, lp, lo, lq, lb, lg)) ⟨rfl, ⟨bk, kc, mi, cn, hI⟩⟩ rfl
  · refine lv_iload hx hb dL_isReceived_5 (lv_at hl 4 rfl) ?_
    refine lv_iconst (v := nI 1) hx hb dL_isReceived_7 (by decide) ?_
    refine x_cmp_lt (tgt := 18) hx hb (nI_ltI (a := m) (b := 1) (by omega) (by omega)) dL_isReceived_8 (by decide) (fun c8 => ?_) (fun c8 => ?_)
    · exfalso; omega
    · refine lv_iload hx hb dL_isReceived_11 (lv_at hl 4 rfl) ?_
      refine lv_bipush (v := nI 50) hx hb dL_isReceived_13 (by decide) ?_
      refine x_cmp_le (tgt := 51) hx hb (nI_leI (a := m) (b := 50) (by omega) (by omega)) dL_isReceived_15 (by decide) (fun c15 => ?_) (fun c15 => ?_)
      · obtain ⟨hf1, hf2, hf3, hf4, hf5⟩ := IN_f hI (i := its) (by omega)
        rcases Classical.em (s_st S its = 1) with hgo | hgo
        · refine lv_bipush (v := nI 7) hx hb dL_isReceived_51 (by decide) ?_
          refine lv_iload_n hx hb dL_isReceived_53 rfl (lv_at hl 3 rfl) ?_
          refine x_mul (k := 7 * its) hx hb dL_isReceived_54 rfl ?_
          refine lv_istore (lv' := [(5, .int (nI (7 * its))), (0, .ref (ad 0)), (1, .ref (la 3)), (2, .ref (la 4)), (3, .int (nI its)), (4, .int (nI m))]) hx hb dL_isReceived_55 hl (by decide) rfl (fun ls hl => ?_)
          refine lv_aload_n hx hb dL_isReceived_57 rfl (lv_at hl 1 rfl) ?_
          refine lv_bipush (v := nI 10) hx hb dL_isReceived_58 (by decide) ?_
          refine lv_iload_n hx hb dL_isReceived_60 rfl (lv_at hl 4 rfl) ?_
          refine lv_iload hx hb dL_isReceived_61 (lv_at hl 5 rfl) ?_
          refine lv_iconst (v := nI 0) hx hb dL_isReceived_63 (by decide) ?_
          refine lv_iconst (v := nI 0) hx hb dL_isReceived_64 (by decide) ?_
          refine lv_iconst (v := nI 0) hx hb dL_isReceived_65 (by decide) ?_
          refine x_calli (w2 := fun (S1 : S4) => LW cI cP cS ad la S1 lp lo lq lb lg) (wr := []) (x_runL (n := 7) ⟨hx, hb, hml, hown, hts⟩ (fD_receive l D cI cP cS cL hfl ad la lp lo lq lb lg (s_lim S) (s_n S) (s_rows S) (s_cc S) (s_ct S) (s_ck S) (s_nr S) (s_cr S) (s_old S) (s_rw S) (s_co S) (s_re S) (s_nu S) (s_ma S) (s_sr S) (s_cp S) (s_pu S) (s_st S) (s_sl S) (cl its) (bk (cl its)) (nI its) (nI m) (nI 0) (nI 0) (nI 0) (cl_lt its) (IN_f hI (cl_lt its)).2.2.1 (hsx_cl (by omega)) hn50 (IN_sts hI _ (cl_lt its)) (IN_sls hI _ (cl_lt its)) (IN_pu hI (cl_lt its)) (H_log (IN_of hI))) gL_isReceived_L_does rfl rfl rfl (by decide +kernel) ⟨by decide, by decide⟩ hN hK hP hD hS hA hE iLW rfl rfl rfl hl.1 (rest := []) (As := [.ref (ad 0), .int (nI 10), .int (nI its), .int (nI m), .int (nI 0), .int (nI 0), .int (nI 0)]) rfl (Nat.le_of_ble_eq_true rfl) dL_isReceived_66 ⟨by show _ ≤ 20; omega, by show _ ≤ 120; omega⟩) hP hD hS hA iLW [] iLW rfl rfl rfl (by decide) rfl (fun _ => rfl) (fun r66 S1 H locs hw hP hD hS => ?_)
          obtain ⟨k, sq, hr9, hk1, hk2, hsq, en9, hz, hI1⟩ := (O_receive (IN_of hI) cl_of (by omega) (by omega) (by omega) hw).2.2.2 (by omega) (by omega) hgo
          have hI1 := hI1 (upd (upd lb (7 * its + 2) (nI (s_sl S its + k))) (7 * its + 1) (nI sq)) (fun i hi j hj h => by rw [upd_ne (by omega), upd_ne (by omega)]) (upd_same _ _ _) (by rw [upd_ne (by omega), upd_same])
          obtain ⟨hmi0, hmi1⟩ : mi its 0 ≤ 1 ∧ mi its 1 ≤ 1 := ⟨(IN_ft hI (by omega) (by omega)).2, (IN_ft hI (by omega) (by omega)).2⟩
          subst hr9
          have hP : va_P D vwCl (LW cI cP cS ad la S1 lp lo lq lb lg) H := hP
          have hD : va_D A (LW cI cP cS ad la S1 lp lo lq lb lg) := hD
          rcases hz with ⟨rfl, hz⟩ | ⟨rfl, hz1, hz2, hz3⟩
          · refine lv_istore (lv' := [(6, .int (nI k)), (5, .int (nI (7 * its))), (0, .ref (ad 0)), (1, .ref (la 3)), (2, .ref (la 4)), (3, .int (nI its)), (4, .int (nI m))]) hx hb dL_isReceived_69 hl (by decide) rfl (fun ls hl => ?_)
            refine lv_aload_n hx hb dL_isReceived_71 rfl (lv_at hl 3 rfl) ?_
            refine lv_iload hx hb dL_isReceived_72 (lv_at hl 1 rfl) ?_
            refine lv_iconst (v := nI 1) hx hb dL_isReceived_74 (by decide) ?_
            refine x_add (k := (7 * its) + 1) hx hb dL_isReceived_75 rfl ?_
            refine x_ald (v := nI (s_st S its)) hx hb hK hP 40 0 rfl rfl (by omega) (by omega) (IN_b1 hI (by omega)) dL_isReceived_76 ?_
            refine lv_iconst (v := nI 1) hx hb dL_isReceived_77 (by decide) ?_
            refine x_cmp_eq (tgt := 94) hx hb (nI_eq (a := (s_st S its)) (b := 1) (by omega) (by omega)) dL_isReceived_78 (by decide) (fun c78 => ?_) (fun c78 => ?_)
            · refine lv_aload_n hx hb dL_isReceived_94 rfl (lv_at hl 4 rfl) ?_
              refine lv_iconst (v := nI 0) hx hb dL_isReceived_95 (by decide) ?_
              refine x_ald (v := nI (s_n S)) hx hb hK hP 41 0 rfl rfl (by omega) (by omega) (IN_g0 hI) dL_isReceived_96 ?_
              refine lv_aload_n hx hb dL_isReceived_97 rfl (lv_at hl 3 rfl) ?_
              refine lv_iload hx hb dL_isReceived_98 (lv_at hl 1 rfl) ?_
              refine lv_iconst (v := nI 2) hx hb dL_isReceived_100 (by decide) ?_
              refine x_add (k := (7 * its) + 2) hx hb dL_isReceived_101 rfl ?_
              refine x_ald (v := nI (s_sl S its)) hx hb hK hP 40 0 rfl rfl (by omega) (by omega) (IN_b2 hI (by omega)) dL_isReceived_102 ?_
              refine x_sub (k := (s_n S) - (s_sl S its)) hx hb dL_isReceived_103 (by omega) rfl ?_
              refine lv_istore (lv' := [(7, .int (nI ((s_n S) - (s_sl S its)))), (6, .int (nI k)), (5, .int (nI (7 * its))), (0, .ref (ad 0)), (1, .ref (la 3)), (2, .ref (la 4)), (3, .int (nI its)), (4, .int (nI m))]) hx hb dL_isReceived_104 hl (by decide) rfl (fun ls hl => ?_)
              refine lv_aload_n hx hb dL_isReceived_106 rfl (lv_at hl 4 rfl) ?_
              refine lv_iload hx hb dL_isReceived_107 (lv_at hl 2 rfl) ?_
              refine lv_iconst (v := nI 2) hx hb dL_isReceived_109 (by decide) ?_
              refine x_add (k := (7 * its) + 2) hx hb dL_isReceived_110 rfl ?_
              refine lv_dup2_11 hx hb dL_isReceived_111 rfl rfl ?_
              refine x_ald (v := nI (s_sl S its)) hx hb hK hP 40 0 rfl rfl (by omega) (by omega) (IN_b2 hI (by omega)) dL_isReceived_112 ?_
              refine lv_iload hx hb dL_isReceived_113 (lv_at hl 1 rfl) ?_
              refine x_add (k := (s_sl S its) + k) hx hb dL_isReceived_115 rfl ?_
              refine x_ast (g := upd lb (7 * its + 2) (nI (s_sl S its + k))) (ws' := LW cI cP cS ad la S1 lp lo lq (upd lb (7 * its + 2) (nI (s_sl S its + k))) lg) hx hb hK hP hD hS 40 0 rfl rfl (by omega) (by omega) (rfl) rfl dL_isReceived_116 (fun H locs hP hD hS => ?_)
              refine lv_aload_n hx hb dL_isReceived_117 rfl (lv_at hl 3 rfl) ?_
              refine lv_iload_n hx hb dL_isReceived_118 rfl (lv_at hl 6 rfl) ?_
              refine x_calli (w2 := fun (S119 : S4) => LW cI cP cS ad la S119 lp lo lq (upd lb (7 * its + 2) (nI (s_sl S its + k))) lg) (wr := []) (x_runVE (n := 1) ⟨hx, hb, hml, hown, hts⟩ (fN_state l D cI cP cS cL hfl ad la lp lo lq (upd lb (7 * its + 2) (nI (s_sl S its + k))) lg (s_lim S1) (s_n S1) (s_rows S1) (s_cc S1) (s_ct S1) (s_ck S1) (s_nr S1) (s_cr S1) (s_old S1) (s_rw S1) (s_co S1) (s_re S1) (s_nu S1) (s_ma S1) (s_sr S1) (s_cp S1) (s_pu S1) (s_st S1) (s_sl S1) its (nI its) (by omega) (hsx_of (by omega)) (nx_s (by omega))) gL_isReceived_X4_state rfl rfl rfl (by decide +kernel) ⟨by decide, by decide⟩ hN hK hP hD hS hA hE iLW rfl rfl (ci := 4) (q0 := 0) rfl rfl rfl rfl hl.1 (rest := []) (As := [.int (nI its)]) rfl (Nat.le_of_ble_eq_true rfl) dL_isReceived_119 ⟨by show _ ≤ 20; omega, by show _ ≤ 120; omega⟩) hP hD hS hA iLW [] iLW rfl rfl rfl (by decide) rfl (fun _ => rfl) (fun r119 S119 H locs hw hP hD hS => ?_)
              obtain ⟨⟨-, -, hr9⟩, e8⟩ := hw
              have e9 : S1 = S119 := (show S119 = S1 from e8).symm
              subst e9
              rw [hsq] at hr9
              subst hr9
              have hP : va_P D vwCl (LW cI cP cS ad la S1 lp lo lq (upd lb (7 * its + 2) (nI (s_sl S its + k))) lg) H := hP
              have hD : va_D A (LW cI cP cS ad la S1 lp lo lq (upd lb (7 * its + 2) (nI (s_sl S its + k))) lg) := hD
              refine lv_iconst (v := nI 2) hx hb dL_isReceived_122 (by decide) ?_
              refine x_cmp_ne (tgt := 130) hx hb (nI_eq (a := 1) (b := 2) (by omega) (by omega)) dL_isReceived_123 (by decide) (fun c123 => ?_) (fun c123 => ?_)
              · refine lv_iconst (v := nI 0) hx hb dL_isReceived_130 (by decide) ?_
                refine lv_istore (lv' := [(8, .int (nI 0)), (7, .int (nI ((s_n S) - (s_sl S its)))), (6, .int (nI k)), (5, .int (nI (7 * its))), (0, .ref (ad 0)), (1, .ref (la 3)), (2, .ref (la 4)), (3, .int (nI its)), (4, .int (nI m))]) hx hb dL_isReceived_131 hl (by decide) rfl (fun ls hl => ?_)
                refine lv_aload_n hx hb dL_isReceived_133 rfl (lv_at hl 5 rfl) ?_
                refine lv_iload hx hb dL_isReceived_134 (lv_at hl 3 rfl) ?_
                refine lv_iconst (v := nI 1) hx hb dL_isReceived_136 (by decide) ?_
                refine x_add (k := (7 * its) + 1) hx hb dL_isReceived_137 rfl ?_
                refine lv_iload hx hb dL_isReceived_138 (lv_at hl 0 rfl) ?_
                refine x_if_eq (tgt := 147) hx hb (nI_z (by omega)) dL_isReceived_140 (by decide) (fun c140 => ?_) (fun c140 => ?_)
                · refine lv_iconst (v := nI 1) hx hb dL_isReceived_147 (by decide) ?_
                  refine x_ast (g := upd (upd lb (7 * its + 2) (nI (s_sl S its + k))) (7 * its + 1) (nI 1)) (ws' := LW cI cP cS ad la S1 lp lo lq (upd (upd lb (7 * its + 2) (nI (s_sl S its + k))) (7 * its + 1) (nI 1)) lg) hx hb hK hP hD hS 40 0 rfl rfl (by omega) (by omega) (rfl) rfl dL_isReceived_148 (fun H locs hP hD hS => ?_)
                  refine lv_aload_n hx hb dL_isReceived_149 rfl (lv_at hl 5 rfl) ?_
                  refine lv_iload hx hb dL_isReceived_150 (lv_at hl 3 rfl) ?_
                  refine lv_iconst (v := nI 5) hx hb dL_isReceived_152 (by decide) ?_
                  refine x_add (k := (7 * its) + 5) hx hb dL_isReceived_153 rfl ?_
                  refine x_ald (v := nI (mi its 0)) hx hb hK hP 40 0 rfl rfl (by omega) (by omega) (IN_b50 hI1 (by omega)) dL_isReceived_154 ?_
                  refine lv_aload_n hx hb dL_isReceived_155 rfl (lv_at hl 5 rfl) ?_
                  refine lv_iload hx hb dL_isReceived_156 (lv_at hl 3 rfl) ?_
                  refine lv_bipush (v := nI 6) hx hb dL_isReceived_158 (by decide) ?_
                  refine x_add (k := (7 * its) + 6) hx hb dL_isReceived_160 rfl ?_
                  refine x_ald (v := nI (mi its 1)) hx hb hK hP 40 0 rfl rfl (by omega) (by omega) (IN_b51 hI1 (by omega)) dL_isReceived_161 ?_
                  refine x_add (k := (mi its 0) + (mi its 1)) hx hb dL_isReceived_162 rfl ?_
                  refine x_if_le (tgt := 170) hx hb (nI_lez (by omega)) dL_isReceived_163 (by decide) (fun c163 => ?_) (fun c163 => ?_)
                  · refine lv_iconst (v := nI 0) hx hb dL_isReceived_170 (by decide) ?_
                    refine lv_istore (lv' := [(9, .int (nI 0)), (8, .int (nI 0)), (7, .int (nI ((s_n S) - (s_sl S its)))), (6, .int (nI k)), (5, .int (nI (7 * its))), (0, .ref (ad 0)), (1, .ref (la 3)), (2, .ref (la 4)), (3, .int (nI its)), (4, .int (nI m))]) hx hb dL_isReceived_171 hl (by decide) rfl (fun ls hl => ?_)
                    refine lv_iload hx hb dL_isReceived_173 (lv_at hl 3 rfl) ?_
                    refine x_if_lt (tgt := 242) hx hb (nI_ng (by omega)) dL_isReceived_175 (by decide) (fun c175 => ?_) (fun c175 => ?_)
                    · exact c175.elim
                    · refine lv_iload hx hb dL_isReceived_178 (lv_at hl 3 rfl) ?_
                      refine lv_iload hx hb dL_isReceived_180 (lv_at hl 9 rfl) ?_
                      refine x_cmp_gt (tgt := 242) hx hb (nI_ltI (a := m) (b := k) (by omega) (by omega)) dL_isReceived_182 (by decide) (fun c182 => ?_) (fun c182 => ?_)
                      · exfalso; omega
                      · refine lv_iload hx hb dL_isReceived_185 (lv_at hl 3 rfl) ?_
                        refine lv_iload hx hb dL_isReceived_187 (lv_at hl 2 rfl) ?_
                        refine x_cmp_gt (tgt := 242) hx hb (nI_ltI (a := ((s_n S) - (s_sl S its))) (b := k) (by omega) (by omega)) dL_isReceived_189 (by decide) (fun c189 => ?_) (fun c189 => ?_)
                        · exfalso; omega
                        · refine lv_iload hx hb dL_isReceived_192 (lv_at hl 1 rfl) ?_
                          refine x_if_eq (tgt := 219) hx hb (nI_z (by omega)) dL_isReceived_194 (by decide) (fun c194 => ?_) (fun c194 => ?_)
                          · refine lv_iload hx hb dL_isReceived_219 (lv_at hl 3 rfl) ?_
                            refine lv_iload hx hb dL_isReceived_221 (lv_at hl 9 rfl) ?_
                            refine lv_iload hx hb dL_isReceived_223 (lv_at hl 2 rfl) ?_
                            refine x_cmp_ge (tgt := 233) hx hb (nI_leI (a := ((s_n S) - (s_sl S its))) (b := m) (by omega) (by omega)) dL_isReceived_225 (by decide) (fun c225 => ?_) (fun c225 => ?_)
                            · refine lv_iload hx hb dL_isReceived_233 (lv_at hl 2 rfl) ?_
                              refine x_cmp_ne (tgt := 242) hx hb (nI_eq (a := k) (b := ((s_n S) - (s_sl S its))) (by omega) (by omega)) dL_isReceived_235 (by decide) (fun c235 => ?_) (fun c235 => ?_)
                              · exfalso; omega
                              · refine lv_iconst (v := nI 1) hx hb dL_isReceived_238 (by decide) ?_
                                refine lv_goto (tgt := 243) hx hb dL_isReceived_239 (by decide) ?_
                                exact x_ret_z hx hb hrt (by first | exact Or.inl rfl | exact Or.inr rfl) hlk hP hD hS dL_isReceived_243 ⟨by omega, by omega⟩ ((S1, lp, lo, lq, upd (upd lb (7 * its + 2) (nI (s_sl S its + k))) (7 * its + 1) (nI 1), lg)) ⟨rfl, ⟨_, _, _, _, hI1⟩⟩ rfl
                            · refine lv_iload hx hb dL_isReceived_228 (lv_at hl 9 rfl) ?_
                              refine lv_goto (tgt := 235) hx hb dL_isReceived_230 (by decide) ?_
                              refine x_cmp_ne (tgt := 242) hx hb (nI_eq (a := k) (b := m) (by omega) (by omega)) dL_isReceived_235 (by decide) (fun c235 => ?_) (fun c235 => ?_)
                              · exfalso; omega
                              · refine lv_iconst (v := nI 1) hx hb dL_isReceived_238 (by decide) ?_
                                refine lv_goto (tgt := 243) hx hb dL_isReceived_239 (by decide) ?_
                                exact x_ret_z hx hb hrt (by first | exact Or.inl rfl | exact Or.inr rfl) hlk hP hD hS dL_isReceived_243 ⟨by omega, by omega⟩ ((S1, lp, lo, lq, upd (upd lb (7 * its + 2) (nI (s_sl S its + k))) (7 * its + 1) (nI 1), lg)) ⟨rfl, ⟨_, _, _, _, hI1⟩⟩ rfl
                          · exfalso; omega
                  · refine lv_iconst (v := nI 1) hx hb dL_isReceived_166 (by decide) ?_
                    refine lv_goto (tgt := 171) hx hb dL_isReceived_167 (by decide) ?_
                    refine lv_istore (lv' := [(9, .int (nI 1)), (8, .int (nI 0)), (7, .int (nI ((s_n S) - (s_sl S its)))), (6, .int (nI k)), (5, .int (nI (7 * its))), (0, .ref (ad 0)), (1, .ref (la 3)), (2, .ref (la 4)), (3, .int (nI its)), (4, .int (nI m))]) hx hb dL_isReceived_171 hl (by decide) rfl (fun ls hl => ?_)
                    refine lv_iload hx hb dL_isReceived_173 (lv_at hl 3 rfl) ?_
                    refine x_if_lt (tgt := 242) hx hb (nI_ng (by omega)) dL_isReceived_175 (by decide) (fun c175 => ?_) (fun c175 => ?_)
                    · exact c175.elim
                    · refine lv_iload hx hb dL_isReceived_178 (lv_at hl 3 rfl) ?_
                      refine lv_iload hx hb dL_isReceived_180 (lv_at hl 9 rfl) ?_
                      refine x_cmp_gt (tgt := 242) hx hb (nI_ltI (a := m) (b := k) (by omega) (by omega)) dL_isReceived_182 (by decide) (fun c182 => ?_) (fun c182 => ?_)
                      · exfalso; omega
                      · refine lv_iload hx hb dL_isReceived_185 (lv_at hl 3 rfl) ?_
                        refine lv_iload hx hb dL_isReceived_187 (lv_at hl 2 rfl) ?_
                        refine x_cmp_gt (tgt := 242) hx hb (nI_ltI (a := ((s_n S) - (s_sl S its))) (b := k) (by omega) (by omega)) dL_isReceived_189 (by decide) (fun c189 => ?_) (fun c189 => ?_)
                        · exfalso; omega
                        · refine lv_iload hx hb dL_isReceived_192 (lv_at hl 1 rfl) ?_
                          refine x_if_eq (tgt := 219) hx hb (nI_z (by omega)) dL_isReceived_194 (by decide) (fun c194 => ?_) (fun c194 => ?_)
                          · refine lv_iload hx hb dL_isReceived_219 (lv_at hl 3 rfl) ?_
                            refine lv_iload hx hb dL_isReceived_221 (lv_at hl 9 rfl) ?_
                            refine lv_iload hx hb dL_isReceived_223 (lv_at hl 2 rfl) ?_
                            refine x_cmp_ge (tgt := 233) hx hb (nI_leI (a := ((s_n S) - (s_sl S its))) (b := m) (by omega) (by omega)) dL_isReceived_225 (by decide) (fun c225 => ?_) (fun c225 => ?_)
                            · refine lv_iload hx hb dL_isReceived_233 (lv_at hl 2 rfl) ?_
                              refine x_cmp_ne (tgt := 242) hx hb (nI_eq (a := k) (b := ((s_n S) - (s_sl S its))) (by omega) (by omega)) dL_isReceived_235 (by decide) (fun c235 => ?_) (fun c235 => ?_)
                              · exfalso; omega
                              · refine lv_iconst (v := nI 1) hx hb dL_isReceived_238 (by decide) ?_
                                refine lv_goto (tgt := 243) hx hb dL_isReceived_239 (by decide) ?_
                                exact x_ret_z hx hb hrt (by first | exact Or.inl rfl | exact Or.inr rfl) hlk hP hD hS dL_isReceived_243 ⟨by omega, by omega⟩ ((S1, lp, lo, lq, upd (upd lb (7 * its + 2) (nI (s_sl S its + k))) (7 * its + 1) (nI 1), lg)) ⟨rfl, ⟨_, _, _, _, hI1⟩⟩ rfl
                            · refine lv_iload hx hb dL_isReceived_228 (lv_at hl 9 rfl) ?_
                              refine lv_goto (tgt := 235) hx hb dL_isReceived_230 (by decide) ?_
                              refine x_cmp_ne (tgt := 242) hx hb (nI_eq (a := k) (b := m) (by omega) (by omega)) dL_isReceived_235 (by decide) (fun c235 => ?_) (fun c235 => ?_)
                              · exfalso; omega
                              · refine lv_iconst (v := nI 1) hx hb dL_isReceived_238 (by decide) ?_
                                refine lv_goto (tgt := 243) hx hb dL_isReceived_239 (by decide) ?_
                                exact x_ret_z hx hb hrt (by first | exact Or.inl rfl | exact Or.inr rfl) hlk hP hD hS dL_isReceived_243 ⟨by omega, by omega⟩ ((S1, lp, lo, lq, upd (upd lb (7 * its + 2) (nI (s_sl S its + k))) (7 * its + 1) (nI 1), lg)) ⟨rfl, ⟨_, _, _, _, hI1⟩⟩ rfl
                          · exfalso; omega
                · exfalso; omega
              · exfalso; omega
            · exfalso; omega
          · refine lv_istore (lv' := [(6, .int (nI k)), (5, .int (nI (7 * its))), (0, .ref (ad 0)), (1, .ref (la 3)), (2, .ref (la 4)), (3, .int (nI its)), (4, .int (nI m))]) hx hb dL_isReceived_69 hl (by decide) rfl (fun ls hl => ?_)
            refine lv_aload_n hx hb dL_isReceived_71 rfl (lv_at hl 3 rfl) ?_
            refine lv_iload hx hb dL_isReceived_72 (lv_at hl 1 rfl) ?_
            refine lv_iconst (v := nI 1) hx hb dL_isReceived_74 (by decide) ?_
            refine x_add (k := (7 * its) + 1) hx hb dL_isReceived_75 rfl ?_
            refine x_ald (v := nI (s_st S its)) hx hb hK hP 40 0 rfl rfl (by omega) (by omega) (IN_b1 hI (by omega)) dL_isReceived_76 ?_
            refine lv_iconst (v := nI 1) hx hb dL_isReceived_77 (by decide) ?_
            refine x_cmp_eq (tgt := 94) hx hb (nI_eq (a := (s_st S its)) (b := 1) (by omega) (by omega)) dL_isReceived_78 (by decide) (fun c78 => ?_) (fun c78 => ?_)
            · refine lv_aload_n hx hb dL_isReceived_94 rfl (lv_at hl 4 rfl) ?_
              refine lv_iconst (v := nI 0) hx hb dL_isReceived_95 (by decide) ?_
              refine x_ald (v := nI (s_n S)) hx hb hK hP 41 0 rfl rfl (by omega) (by omega) (IN_g0 hI) dL_isReceived_96 ?_
              refine lv_aload_n hx hb dL_isReceived_97 rfl (lv_at hl 3 rfl) ?_
              refine lv_iload hx hb dL_isReceived_98 (lv_at hl 1 rfl) ?_
              refine lv_iconst (v := nI 2) hx hb dL_isReceived_100 (by decide) ?_
              refine x_add (k := (7 * its) + 2) hx hb dL_isReceived_101 rfl ?_
              refine x_ald (v := nI (s_sl S its)) hx hb hK hP 40 0 rfl rfl (by omega) (by omega) (IN_b2 hI (by omega)) dL_isReceived_102 ?_
              refine x_sub (k := (s_n S) - (s_sl S its)) hx hb dL_isReceived_103 (by omega) rfl ?_
              refine lv_istore (lv' := [(7, .int (nI ((s_n S) - (s_sl S its)))), (6, .int (nI k)), (5, .int (nI (7 * its))), (0, .ref (ad 0)), (1, .ref (la 3)), (2, .ref (la 4)), (3, .int (nI its)), (4, .int (nI m))]) hx hb dL_isReceived_104 hl (by decide) rfl (fun ls hl => ?_)
              refine lv_aload_n hx hb dL_isReceived_106 rfl (lv_at hl 4 rfl) ?_
              refine lv_iload hx hb dL_isReceived_107 (lv_at hl 2 rfl) ?_
              refine lv_iconst (v := nI 2) hx hb dL_isReceived_109 (by decide) ?_
              refine x_add (k := (7 * its) + 2) hx hb dL_isReceived_110 rfl ?_
              refine lv_dup2_11 hx hb dL_isReceived_111 rfl rfl ?_
              refine x_ald (v := nI (s_sl S its)) hx hb hK hP 40 0 rfl rfl (by omega) (by omega) (IN_b2 hI (by omega)) dL_isReceived_112 ?_
              refine lv_iload hx hb dL_isReceived_113 (lv_at hl 1 rfl) ?_
              refine x_add (k := (s_sl S its) + k) hx hb dL_isReceived_115 rfl ?_
              refine x_ast (g := upd lb (7 * its + 2) (nI (s_sl S its + k))) (ws' := LW cI cP cS ad la S1 lp lo lq (upd lb (7 * its + 2) (nI (s_sl S its + k))) lg) hx hb hK hP hD hS 40 0 rfl rfl (by omega) (by omega) (rfl) rfl dL_isReceived_116 (fun H locs hP hD hS => ?_)
              refine lv_aload_n hx hb dL_isReceived_117 rfl (lv_at hl 3 rfl) ?_
              refine lv_iload_n hx hb dL_isReceived_118 rfl (lv_at hl 6 rfl) ?_
              refine x_calli (w2 := fun (S119 : S4) => LW cI cP cS ad la S119 lp lo lq (upd lb (7 * its + 2) (nI (s_sl S its + k))) lg) (wr := []) (x_runVE (n := 1) ⟨hx, hb, hml, hown, hts⟩ (fN_state l D cI cP cS cL hfl ad la lp lo lq (upd lb (7 * its + 2) (nI (s_sl S its + k))) lg (s_lim S1) (s_n S1) (s_rows S1) (s_cc S1) (s_ct S1) (s_ck S1) (s_nr S1) (s_cr S1) (s_old S1) (s_rw S1) (s_co S1) (s_re S1) (s_nu S1) (s_ma S1) (s_sr S1) (s_cp S1) (s_pu S1) (s_st S1) (s_sl S1) its (nI its) (by omega) (hsx_of (by omega)) (nx_s (by omega))) gL_isReceived_X4_state rfl rfl rfl (by decide +kernel) ⟨by decide, by decide⟩ hN hK hP hD hS hA hE iLW rfl rfl (ci := 4) (q0 := 0) rfl rfl rfl rfl hl.1 (rest := []) (As := [.int (nI its)]) rfl (Nat.le_of_ble_eq_true rfl) dL_isReceived_119 ⟨by show _ ≤ 20; omega, by show _ ≤ 120; omega⟩) hP hD hS hA iLW [] iLW rfl rfl rfl (by decide) rfl (fun _ => rfl) (fun r119 S119 H locs hw hP hD hS => ?_)
              obtain ⟨⟨-, -, hr9⟩, e8⟩ := hw
              have e9 : S1 = S119 := (show S119 = S1 from e8).symm
              subst e9
              rw [hsq] at hr9
              subst hr9
              have hP : va_P D vwCl (LW cI cP cS ad la S1 lp lo lq (upd lb (7 * its + 2) (nI (s_sl S its + k))) lg) H := hP
              have hD : va_D A (LW cI cP cS ad la S1 lp lo lq (upd lb (7 * its + 2) (nI (s_sl S its + k))) lg) := hD
              refine lv_iconst (v := nI 2) hx hb dL_isReceived_122 (by decide) ?_
              refine x_cmp_ne (tgt := 130) hx hb (Iff.rfl) dL_isReceived_123 (by decide) (fun c123 => ?_) (fun c123 => ?_)
              · exact absurd rfl c123
              · refine lv_iconst (v := nI 1) hx hb dL_isReceived_126 (by decide) ?_
                refine lv_goto (tgt := 131) hx hb dL_isReceived_127 (by decide) ?_
                refine lv_istore (lv' := [(8, .int (nI 1)), (7, .int (nI ((s_n S) - (s_sl S its)))), (6, .int (nI k)), (5, .int (nI (7 * its))), (0, .ref (ad 0)), (1, .ref (la 3)), (2, .ref (la 4)), (3, .int (nI its)), (4, .int (nI m))]) hx hb dL_isReceived_131 hl (by decide) rfl (fun ls hl => ?_)
                refine lv_aload_n hx hb dL_isReceived_133 rfl (lv_at hl 5 rfl) ?_
                refine lv_iload hx hb dL_isReceived_134 (lv_at hl 3 rfl) ?_
                refine lv_iconst (v := nI 1) hx hb dL_isReceived_136 (by decide) ?_
                refine x_add (k := (7 * its) + 1) hx hb dL_isReceived_137 rfl ?_
                refine lv_iload hx hb dL_isReceived_138 (lv_at hl 0 rfl) ?_
                refine x_if_eq (tgt := 147) hx hb (nI_z (by omega)) dL_isReceived_140 (by decide) (fun c140 => ?_) (fun c140 => ?_)
                · exfalso; omega
                · refine lv_iconst (v := nI 2) hx hb dL_isReceived_143 (by decide) ?_
                  refine lv_goto (tgt := 148) hx hb dL_isReceived_144 (by decide) ?_
                  refine x_ast (g := upd (upd lb (7 * its + 2) (nI (s_sl S its + k))) (7 * its + 1) (nI 2)) (ws' := LW cI cP cS ad la S1 lp lo lq (upd (upd lb (7 * its + 2) (nI (s_sl S its + k))) (7 * its + 1) (nI 2)) lg) hx hb hK hP hD hS 40 0 rfl rfl (by omega) (by omega) (rfl) rfl dL_isReceived_148 (fun H locs hP hD hS => ?_)
                  refine lv_aload_n hx hb dL_isReceived_149 rfl (lv_at hl 5 rfl) ?_
                  refine lv_iload hx hb dL_isReceived_150 (lv_at hl 3 rfl) ?_
                  refine lv_iconst (v := nI 5) hx hb dL_isReceived_152 (by decide) ?_
                  refine x_add (k := (7 * its) + 5) hx hb dL_isReceived_153 rfl ?_
                  refine x_ald (v := nI (mi its 0)) hx hb hK hP 40 0 rfl rfl (by omega) (by omega) (IN_b50 hI1 (by omega)) dL_isReceived_154 ?_
                  refine lv_aload_n hx hb dL_isReceived_155 rfl (lv_at hl 5 rfl) ?_
                  refine lv_iload hx hb dL_isReceived_156 (lv_at hl 3 rfl) ?_
                  refine lv_bipush (v := nI 6) hx hb dL_isReceived_158 (by decide) ?_
                  refine x_add (k := (7 * its) + 6) hx hb dL_isReceived_160 rfl ?_
                  refine x_ald (v := nI (mi its 1)) hx hb hK hP 40 0 rfl rfl (by omega) (by omega) (IN_b51 hI1 (by omega)) dL_isReceived_161 ?_
                  refine x_add (k := (mi its 0) + (mi its 1)) hx hb dL_isReceived_162 rfl ?_
                  refine x_if_le (tgt := 170) hx hb (nI_lez (by omega)) dL_isReceived_163 (by decide) (fun c163 => ?_) (fun c163 => ?_)
                  · exfalso; exact hz3 (by omega)
                  · refine lv_iconst (v := nI 1) hx hb dL_isReceived_166 (by decide) ?_
                    refine lv_goto (tgt := 171) hx hb dL_isReceived_167 (by decide) ?_
                    refine lv_istore (lv' := [(9, .int (nI 1)), (8, .int (nI 1)), (7, .int (nI ((s_n S) - (s_sl S its)))), (6, .int (nI k)), (5, .int (nI (7 * its))), (0, .ref (ad 0)), (1, .ref (la 3)), (2, .ref (la 4)), (3, .int (nI its)), (4, .int (nI m))]) hx hb dL_isReceived_171 hl (by decide) rfl (fun ls hl => ?_)
                    refine lv_iload hx hb dL_isReceived_173 (lv_at hl 3 rfl) ?_
                    refine x_if_lt (tgt := 242) hx hb (nI_ng (by omega)) dL_isReceived_175 (by decide) (fun c175 => ?_) (fun c175 => ?_)
                    · exact c175.elim
                    · refine lv_iload hx hb dL_isReceived_178 (lv_at hl 3 rfl) ?_
                      refine lv_iload hx hb dL_isReceived_180 (lv_at hl 9 rfl) ?_
                      refine x_cmp_gt (tgt := 242) hx hb (nI_ltI (a := m) (b := k) (by omega) (by omega)) dL_isReceived_182 (by decide) (fun c182 => ?_) (fun c182 => ?_)
                      · exfalso; omega
                      · refine lv_iload hx hb dL_isReceived_185 (lv_at hl 3 rfl) ?_
                        refine lv_iload hx hb dL_isReceived_187 (lv_at hl 2 rfl) ?_
                        refine x_cmp_gt (tgt := 242) hx hb (nI_ltI (a := ((s_n S) - (s_sl S its))) (b := k) (by omega) (by omega)) dL_isReceived_189 (by decide) (fun c189 => ?_) (fun c189 => ?_)
                        · exfalso; omega
                        · refine lv_iload hx hb dL_isReceived_192 (lv_at hl 1 rfl) ?_
                          refine x_if_eq (tgt := 219) hx hb (nI_z (by omega)) dL_isReceived_194 (by decide) (fun c194 => ?_) (fun c194 => ?_)
                          · exfalso; omega
                          · refine lv_iload hx hb dL_isReceived_197 (lv_at hl 3 rfl) ?_
                            refine lv_iload hx hb dL_isReceived_199 (lv_at hl 2 rfl) ?_
                            refine x_cmp_ge (tgt := 242) hx hb (nI_leI (a := ((s_n S) - (s_sl S its))) (b := k) (by omega) (by omega)) dL_isReceived_201 (by decide) (fun c201 => ?_) (fun c201 => ?_)
                            · exfalso; omega
                            · refine lv_iload hx hb dL_isReceived_204 (lv_at hl 3 rfl) ?_
                              refine lv_iload hx hb dL_isReceived_206 (lv_at hl 9 rfl) ?_
                              refine x_cmp_ge (tgt := 242) hx hb (nI_leI (a := m) (b := k) (by omega) (by omega)) dL_isReceived_208 (by decide) (fun c208 => ?_) (fun c208 => ?_)
                              · exfalso; omega
                              · refine lv_iload hx hb dL_isReceived_211 (lv_at hl 0 rfl) ?_
                                refine x_if_eq (tgt := 242) hx hb (nI_z (by omega)) dL_isReceived_213 (by decide) (fun c213 => ?_) (fun c213 => ?_)
                                · exfalso; omega
                                · refine lv_goto (tgt := 238) hx hb dL_isReceived_216 (by decide) ?_
                                  refine lv_iconst (v := nI 1) hx hb dL_isReceived_238 (by decide) ?_
                                  refine lv_goto (tgt := 243) hx hb dL_isReceived_239 (by decide) ?_
                                  exact x_ret_z hx hb hrt (by first | exact Or.inl rfl | exact Or.inr rfl) hlk hP hD hS dL_isReceived_243 ⟨by omega, by omega⟩ ((S1, lp, lo, lq, upd (upd lb (7 * its + 2) (nI (s_sl S its + k))) (7 * its + 1) (nI 2), lg)) ⟨rfl, ⟨_, _, _, _, hI1⟩⟩ rfl
            · exfalso; omega
        · refine lv_bipush (v := nI 7) hx hb dL_isReceived_51 (by decide) ?_
          refine lv_iload_n hx hb dL_isReceived_53 rfl (lv_at hl 3 rfl) ?_
          refine x_mul (k := 7 * its) hx hb dL_isReceived_54 rfl ?_
          refine lv_istore (lv' := [(5, .int (nI (7 * its))), (0, .ref (ad 0)), (1, .ref (la 3)), (2, .ref (la 4)), (3, .int (nI its)), (4, .int (nI m))]) hx hb dL_isReceived_55 hl (by decide) rfl (fun ls hl => ?_)
          refine lv_aload_n hx hb dL_isReceived_57 rfl (lv_at hl 1 rfl) ?_
          refine lv_bipush (v := nI 10) hx hb dL_isReceived_58 (by decide) ?_
          refine lv_iload_n hx hb dL_isReceived_60 rfl (lv_at hl 4 rfl) ?_
          refine lv_iload hx hb dL_isReceived_61 (lv_at hl 5 rfl) ?_
          refine lv_iconst (v := nI 0) hx hb dL_isReceived_63 (by decide) ?_
          refine lv_iconst (v := nI 0) hx hb dL_isReceived_64 (by decide) ?_
          refine lv_iconst (v := nI 0) hx hb dL_isReceived_65 (by decide) ?_
          refine x_calli (w2 := fun (S1 : S4) => LW cI cP cS ad la S1 lp lo lq lb lg) (wr := []) (x_runL (n := 7) ⟨hx, hb, hml, hown, hts⟩ (fD_receive l D cI cP cS cL hfl ad la lp lo lq lb lg (s_lim S) (s_n S) (s_rows S) (s_cc S) (s_ct S) (s_ck S) (s_nr S) (s_cr S) (s_old S) (s_rw S) (s_co S) (s_re S) (s_nu S) (s_ma S) (s_sr S) (s_cp S) (s_pu S) (s_st S) (s_sl S) (cl its) (bk (cl its)) (nI its) (nI m) (nI 0) (nI 0) (nI 0) (cl_lt its) (IN_f hI (cl_lt its)).2.2.1 (hsx_cl (by omega)) hn50 (IN_sts hI _ (cl_lt its)) (IN_sls hI _ (cl_lt its)) (IN_pu hI (cl_lt its)) (H_log (IN_of hI))) gL_isReceived_L_does rfl rfl rfl (by decide +kernel) ⟨by decide, by decide⟩ hN hK hP hD hS hA hE iLW rfl rfl rfl hl.1 (rest := []) (As := [.ref (ad 0), .int (nI 10), .int (nI its), .int (nI m), .int (nI 0), .int (nI 0), .int (nI 0)]) rfl (Nat.le_of_ble_eq_true rfl) dL_isReceived_66 ⟨by show _ ≤ 20; omega, by show _ ≤ 120; omega⟩) hP hD hS hA iLW [] iLW rfl rfl rfl (by decide) rfl (fun _ => rfl) (fun r66 S1 H locs hw hP hD hS => ?_)
          obtain ⟨hr9, e8⟩ := (O_receive (IN_of hI) cl_of (by omega) (by omega) (by omega) hw).2.2.1 (by omega) (by omega) hgo
          have e9 : S = S1 := (show S1 = S from e8).symm
          subst e9
          subst hr9
          have hP : va_P D vwCl (LW cI cP cS ad la S lp lo lq lb lg) H := hP
          have hD : va_D A (LW cI cP cS ad la S lp lo lq lb lg) := hD
          refine lv_istore (lv' := [(6, .int ((-10 : Int32))), (5, .int (nI (7 * its))), (0, .ref (ad 0)), (1, .ref (la 3)), (2, .ref (la 4)), (3, .int (nI its)), (4, .int (nI m))]) hx hb dL_isReceived_69 hl (by decide) rfl (fun ls hl => ?_)
          refine lv_aload_n hx hb dL_isReceived_71 rfl (lv_at hl 3 rfl) ?_
          refine lv_iload hx hb dL_isReceived_72 (lv_at hl 1 rfl) ?_
          refine lv_iconst (v := nI 1) hx hb dL_isReceived_74 (by decide) ?_
          refine x_add (k := (7 * its) + 1) hx hb dL_isReceived_75 rfl ?_
          refine x_ald (v := nI (s_st S its)) hx hb hK hP 40 0 rfl rfl (by omega) (by omega) (IN_b1 hI (by omega)) dL_isReceived_76 ?_
          refine lv_iconst (v := nI 1) hx hb dL_isReceived_77 (by decide) ?_
          refine x_cmp_eq (tgt := 94) hx hb (nI_eq (a := (s_st S its)) (b := 1) (by omega) (by omega)) dL_isReceived_78 (by decide) (fun c78 => ?_) (fun c78 => ?_)
          · exfalso; omega
          · refine lv_iload hx hb dL_isReceived_81 (lv_at hl 0 rfl) ?_
            refine lv_bipush (v := (-10 : Int32)) hx hb dL_isReceived_83 (by decide) ?_
            refine x_cmp_ne (tgt := 92) hx hb (Iff.rfl) dL_isReceived_85 (by decide) (fun c85 => ?_) (fun c85 => ?_)
            · exact absurd rfl c85
            · refine lv_iconst (v := nI 1) hx hb dL_isReceived_88 (by decide) ?_
              refine lv_goto (tgt := 93) hx hb dL_isReceived_89 (by decide) ?_
              exact x_ret_z hx hb hrt (by first | exact Or.inl rfl | exact Or.inr rfl) hlk hP hD hS dL_isReceived_93 ⟨by omega, by omega⟩ ((S, lp, lo, lq, lb, lg)) ⟨rfl, ⟨bk, kc, mi, cn, hI⟩⟩ rfl
      · refine lv_aload_n hx hb dL_isReceived_18 rfl (lv_at hl 0 rfl) ?_
        refine lv_bipush (v := nI 10) hx hb dL_isReceived_19 (by decide) ?_
        refine lv_iload_n hx hb dL_isReceived_21 rfl (lv_at hl 3 rfl) ?_
        refine lv_iload hx hb dL_isReceived_22 (lv_at hl 4 rfl) ?_
        refine lv_iconst (v := nI 0) hx hb dL_isReceived_24 (by decide) ?_
        refine lv_iconst (v := nI 0) hx hb dL_isReceived_25 (by decide) ?_
        refine lv_iconst (v := nI 0) hx hb dL_isReceived_26 (by decide) ?_
        refine x_calli (w2 := fun (S1 : S4) => LW cI cP cS ad la S1 lp lo lq lb lg) (wr := []) (x_runL (n := 7) ⟨hx, hb, hml, hown, hts⟩ (fD_receive l D cI cP cS cL hfl ad la lp lo lq lb lg (s_lim S) (s_n S) (s_rows S) (s_cc S) (s_ct S) (s_ck S) (s_nr S) (s_cr S) (s_old S) (s_rw S) (s_co S) (s_re S) (s_nu S) (s_ma S) (s_sr S) (s_cp S) (s_pu S) (s_st S) (s_sl S) (cl its) (bk (cl its)) (nI its) (nI m) (nI 0) (nI 0) (nI 0) (cl_lt its) (IN_f hI (cl_lt its)).2.2.1 (hsx_cl (by omega)) hn50 (IN_sts hI _ (cl_lt its)) (IN_sls hI _ (cl_lt its)) (IN_pu hI (cl_lt its)) (H_log (IN_of hI))) gL_isReceived_L_does rfl rfl rfl (by decide +kernel) ⟨by decide, by decide⟩ hN hK hP hD hS hA hE iLW rfl rfl rfl hl.1 (rest := []) (As := [.ref (ad 0), .int (nI 10), .int (nI its), .int (nI m), .int (nI 0), .int (nI 0), .int (nI 0)]) rfl (Nat.le_of_ble_eq_true rfl) dL_isReceived_27 ⟨by show _ ≤ 20; omega, by show _ ≤ 120; omega⟩) hP hD hS hA iLW [] iLW rfl rfl rfl (by decide) rfl (fun _ => rfl) (fun r27 S1 H locs hw hP hD hS => ?_)
        obtain ⟨hr9, e8⟩ := (O_receive (IN_of hI) cl_of (by omega) (by omega) (by omega) hw).2.1 (by omega) (by omega)
        have e9 : S = S1 := (show S1 = S from e8).symm
        subst e9
        subst hr9
        have hP : va_P D vwCl (LW cI cP cS ad la S lp lo lq lb lg) H := hP
        have hD : va_D A (LW cI cP cS ad la S lp lo lq lb lg) := hD
        refine lv_iload_n hx hb dL_isReceived_30 rfl (lv_at hl 3 rfl) ?_
        refine lv_iconst (v := nI 3) hx hb dL_isReceived_31 (by decide) ?_
        refine x_cmp_ne (tgt := 40) hx hb (nI_eq (a := its) (b := 3) (by omega) (by omega)) dL_isReceived_32 (by decide) (fun c32 => ?_) (fun c32 => ?_)
        · refine lv_bipush (v := (-20 : Int32)) hx hb dL_isReceived_40 (by decide) ?_
          refine x_cmp_ne (tgt := 49) hx hb (Iff.rfl) dL_isReceived_42 (by decide) (fun c42 => ?_) (fun c42 => ?_)
          · exact absurd rfl c42
          · refine lv_iconst (v := nI 1) hx hb dL_isReceived_45 (by decide) ?_
            refine lv_goto (tgt := 50) hx hb dL_isReceived_46 (by decide) ?_
            exact x_ret_z hx hb hrt (by first | exact Or.inl rfl | exact Or.inr rfl) hlk hP hD hS dL_isReceived_50 ⟨by omega, by omega⟩ ((S, lp, lo, lq, lb, lg)) ⟨rfl, ⟨bk, kc, mi, cn, hI⟩⟩ rfl
        · exfalso; omega
