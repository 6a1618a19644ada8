theorem e_copy {ad : Nat → Nat} {lim n cn si pi s : Nat} {rows cc ct ck nr cr old rw : qF} {co re nu ma sr cp : Nat → qF} {pu : Nat → Option Nat} {st sl : Nat → Nat} {r : Int32} {q : S4} {sx tx : Int32} (hw : PD_copy ad lim n rows cc ct ck nr cr old rw co re nu ma sr cp pu st sl si pi cn sx tx r q) (h : st s = 1) : s_st q s = 1 := by
  rcases hw with ⟨tn, r0, -, rfl⟩ | ⟨-, rfl⟩
  · exact h
  · exact h
theorem nx_faith {s t st : Nat} {cp : qF} {k : Nat} (hs : s < 3) (ht : t < 2) (hst : st = 1 ∨ st = 2) (vc9 : cp t = eX k) (hk : 0 < k) (hk2 : k ≤ 51) : ∀ E : String, ¬ ((E = nIO ∧ ¬ (vp_in (nI s) 3 ∧ vp_in (nI t) 2)) ∨ (E = nIS ∧ (vp_in (nI s) 3 ∧ ∃ tn, nI t = nI tn ∧ tn < 2 ∧ (¬ (st = 1 ∨ st = 2) ∨ cp tn = -1)))) := fun E h => by
  rcases h with ⟨-, h⟩ | ⟨-, -, tn, e, h2, h⟩
  · exact h ⟨vp_in_nI hs (by decide), vp_in_nI ht (by decide)⟩
  · have e := nI_j e (by omega) (by omega)
    subst e
    rcases h with h | h
    · exact h hst
    · rw [vc9, eX_m1 (by omega)] at h
      omega
set_option maxHeartbeats 8000000 in
set_option maxRecDepth 100000 in
theorem zL_isCopied (l : Launch) (D : va_G) (cI cP cS cL : ClassId) (hfl : l.stackTraces = false) (ad la : Nat → Nat) (hinj : ∀ x y, x < 3 → y < 3 → ad (13 + 5 * x) = ad (13 + 5 * y) → x = y) (S : S4) (lp lo lq lb lg : qF) (its t : Nat) (h1 : its ≤ 3) (h2 : t ≤ 2) (hI0 : INE ad S lp lo lq lb lg) : xWi l yL_isCopied wsL_isCopied (rmD 11 600 3600) D [(cI, .int), (cP, .object RX0), (cS, .object RX2)] [.ref (ad 0), .ref (la 2), .ref (la 3), .ref (la 4), .int (nI its), .int (nI t)] (LW cI cP cS ad la S lp lo lq lb lg) (fun (r : Int32) (T : LT) => r = nI 1 ∧ INT ad T) (fun (T : LT) => LWt cI cP cS ad la T) 600 3600 := by
  refine xe_N (cc := cL_isCopied) (maxL := 15) (ret := (some .boolean)) (by decide) rfl (Nat.le_of_ble_eq_true rfl) ?_
  intro zp ze s zm below meth zc A ls B hE
  obtain ⟨hx, hb, hml, hrt, hts, hown, hnm, hlk, hK, hP, hD, hA, hS, hN, hl⟩ := B
  have hown : s.vm.findClass RL = some zm.cls := hown
  have hl : lv_has ls 15 [(0, .ref (ad 0)), (1, .ref (la 2)), (2, .ref (la 3)), (3, .ref (la 4)), (4, .int (nI its)), (5, .int (nI t))] := hl
  have hA : ∀ q, s.heap.size ≤ q → A q := hA
  obtain ⟨bk, kc, mi, cn, hI⟩ := hI0
  have hn50 := IN_n hI
  have hlim50 := IN_lim hI
  have hcn12 := IN_cn hI
  rcases Classical.em (its < 3 ∧ t < 2) with hth | hth
  · obtain ⟨hf1, hf2, hf3, hf4, hf5⟩ := IN_f hI hth.1
    refine lv_iload hx hb dL_isCopied_0 (lv_at hl 4 rfl) ?_
    refine lv_iconst (v := nI 3) hx hb dL_isCopied_2 (by decide) ?_
    refine x_cmp_ge (tgt := 16) hx hb (nI_leI (a := 3) (b := its) (by omega) (by omega)) dL_isCopied_3 (by decide) (fun c3 => ?_) (fun c3 => ?_)
    · exfalso; omega
    · refine lv_iload hx hb dL_isCopied_6 (lv_at hl 5 rfl) ?_
      refine lv_iconst (v := nI 2) hx hb dL_isCopied_8 (by decide) ?_
      refine x_cmp_ge (tgt := 16) hx hb (nI_leI (a := 2) (b := t) (by omega) (by omega)) dL_isCopied_9 (by decide) (fun c9 => ?_) (fun c9 => ?_)
      · exfalso; omega
      · refine lv_iconst (v := nI 1) hx hb dL_isCopied_12 (by decide) ?_
        refine lv_goto (tgt := 17) hx hb dL_isCopied_13 (by decide) ?_
        refine lv_istore (lv' := [(6, .int (nI 1)), (0, .ref (ad 0)), (1, .ref (la 2)), (2, .ref (la 3)), (3, .ref (la 4)), (4, .int (nI its)), (5, .int (nI t))]) hx hb dL_isCopied_17 hl (by decide) rfl (fun ls hl => ?_)
        rcases Classical.em (s_st S its = 1 ∧ cn = 0) with hcan | hcan
        · refine lv_iload hx hb dL_isCopied_19 (lv_at hl 0 rfl) ?_
          refine x_if_eq (tgt := 47) hx hb (nI_z (by omega)) dL_isCopied_21 (by decide) (fun c21 => ?_) (fun c21 => ?_)
          · exfalso; omega
          · refine lv_aload_n hx hb dL_isCopied_24 rfl (lv_at hl 3 rfl) ?_
            refine lv_bipush (v := nI 7) hx hb dL_isCopied_25 (by decide) ?_
            refine lv_iload hx hb dL_isCopied_27 (lv_at hl 5 rfl) ?_
            refine x_mul (k := 7 * its) hx hb dL_isCopied_29 rfl ?_
            refine lv_iconst (v := nI 1) hx hb dL_isCopied_30 (by decide) ?_
            refine x_add (k := (7 * its) + 1) hx hb dL_isCopied_31 rfl ?_
            refine x_ald (v := nI (s_st S its)) hx hb hK hP 40 0 rfl rfl (by omega) (by omega) (IN_b1 hI (by omega)) dL_isCopied_32 ?_
            refine lv_iconst (v := nI 1) hx hb dL_isCopied_33 (by decide) ?_
            refine x_cmp_ne (tgt := 47) hx hb (nI_eq (a := (s_st S its)) (b := 1) (by omega) (by omega)) dL_isCopied_34 (by decide) (fun c34 => ?_) (fun c34 => ?_)
            · exfalso; omega
            · refine lv_aload_n hx hb dL_isCopied_37 rfl (lv_at hl 4 rfl) ?_
              refine lv_iconst (v := nI 1) hx hb dL_isCopied_38 (by decide) ?_
              refine x_ald (v := nI cn) hx hb hK hP 41 0 rfl rfl (by omega) (by omega) (IN_g1 hI) dL_isCopied_39 ?_
              refine x_if_ne (tgt := 47) hx hb (nI_z (by omega)) dL_isCopied_40 (by decide) (fun c40 => ?_) (fun c40 => ?_)
              · exfalso; omega
              · refine lv_iconst (v := nI 1) hx hb dL_isCopied_43 (by decide) ?_
                refine lv_goto (tgt := 48) hx hb dL_isCopied_44 (by decide) ?_
                refine lv_istore (lv' := [(7, .int (nI 1)), (6, .int (nI 1)), (0, .ref (ad 0)), (1, .ref (la 2)), (2, .ref (la 3)), (3, .ref (la 4)), (4, .int (nI its)), (5, .int (nI t))]) hx hb dL_isCopied_48 hl (by decide) rfl (fun ls hl => ?_)
                refine lv_aload_n hx hb dL_isCopied_50 rfl (lv_at hl 2 rfl) ?_
                refine lv_bipush (v := nI 9) hx hb dL_isCopied_51 (by decide) ?_
                refine lv_iload hx hb dL_isCopied_53 (lv_at hl 6 rfl) ?_
                refine lv_iload hx hb dL_isCopied_55 (lv_at hl 7 rfl) ?_
                refine lv_iconst (v := nI 0) hx hb dL_isCopied_57 (by decide) ?_
                refine lv_iconst (v := nI 0) hx hb dL_isCopied_58 (by decide) ?_
                refine lv_iconst (v := nI 0) hx hb dL_isCopied_59 (by decide) ?_
                refine x_calli (w2 := fun (S1 : S4) => LW cI cP cS ad la S1 lp lo lq lb lg) (wr := []) (x_runL (n := 7) ⟨hx, hb, hml, hown, hts⟩ (fD_copy l D cI cP cS cL hfl ad la lp lo lq lb lg (s_lim S) (s_n S) (s_rows S) (s_cc S) (s_ct S) (s_ck S) (s_nr S) (s_cr S) (s_old S) (s_rw S) (s_co S) (s_re S) (s_nu S) (s_ma S) (s_sr S) (s_cp S) (s_pu S) (s_st S) (s_sl S) (cl its) (bk (cl its)) cn (nI its) (nI t) (nI 0) (nI 0) (nI 0) (cl_lt its) (IN_f hI (cl_lt its)).2.2.1 hn50 (IN_cc hI) hcn12 (hsx_cl (by omega)) (IN_sts hI _ (cl_lt its)) (IN_pu hI (cl_lt its))) gL_isCopied_L_does rfl rfl rfl (by decide +kernel) ⟨by decide, by decide⟩ hN hK hP hD hS hA hE iLW rfl rfl rfl hl.1 (rest := []) (As := [.ref (ad 0), .int (nI 9), .int (nI its), .int (nI t), .int (nI 0), .int (nI 0), .int (nI 0)]) rfl (Nat.le_of_ble_eq_true rfl) dL_isCopied_60 ⟨by show _ ≤ 600; omega, by show _ ≤ 3600; omega⟩) hP hD hS hA iLW [] iLW rfl rfl rfl (by decide) rfl (fun _ => rfl) (fun r60 S1 H locs hw hP hD hS => ?_)
                obtain ⟨hr9, er9, en9, hI1⟩ := (O_copy (IN_of hI) cl_of (by omega) (by omega) hw).2.2 hth.1 hth.2 hcan.1 hcan.2
                have hI1 := hI1 (upd (upd lb (7 * its + 3 + t) (nI (s_n S))) (7 * its + 5 + t) (nI 0)) (fun i hi j hj h => by rw [upd_ne (by omega), upd_ne (by omega)]) (by rw [upd_ne (by omega), show 7 * its + (3 + t) = 7 * its + 3 + t by omega, upd_same]) (by rw [show 7 * its + (5 + t) = 7 * its + 5 + t by omega, upd_same])
                have hst1 := e_copy hw hcan.1
                have hkc1 : va_up kc its (fun u => if u = t then s_n S + 1 else kc its u) its t = s_n S + 1 := by rw [up_same]; exact if_pos rfl
                have hmi1 : va_up mi its (fun u => if u = t then 0 else mi its u) its t = 0 := by rw [up_same]; exact if_pos rfl
                have hqc := qCnt_le (s_sr S1 its) (t * 12) 12
                subst hr9
                have hP : va_P D vwCl (LW cI cP cS ad la S1 lp lo lq lb lg) H := hP
                have hD : va_D A (LW cI cP cS ad la S1 lp lo lq lb lg) := hD
                refine lv_istore (lv' := [(8, .int (nI (qCnt (s_sr S1 its) (t * 12) 12))), (7, .int (nI 1)), (6, .int (nI 1)), (0, .ref (ad 0)), (1, .ref (la 2)), (2, .ref (la 3)), (3, .ref (la 4)), (4, .int (nI its)), (5, .int (nI t))]) hx hb dL_isCopied_63 hl (by decide) rfl (fun ls hl => ?_)
                refine lv_iload hx hb dL_isCopied_65 (lv_at hl 1 rfl) ?_
                refine x_if_ne (tgt := 93) hx hb (nI_z (by omega)) dL_isCopied_67 (by decide) (fun c67 => ?_) (fun c67 => ?_)
                · refine lv_aload_n hx hb dL_isCopied_93 rfl (lv_at hl 5 rfl) ?_
                  refine lv_bipush (v := nI 7) hx hb dL_isCopied_94 (by decide) ?_
                  refine lv_iload hx hb dL_isCopied_96 (lv_at hl 7 rfl) ?_
                  refine x_mul (k := 7 * its) hx hb dL_isCopied_98 rfl ?_
                  refine lv_iconst (v := nI 3) hx hb dL_isCopied_99 (by decide) ?_
                  refine x_add (k := (7 * its) + 3) hx hb dL_isCopied_100 rfl ?_
                  refine lv_iload hx hb dL_isCopied_101 (lv_at hl 8 rfl) ?_
                  refine x_add (k := ((7 * its) + 3) + t) hx hb dL_isCopied_103 rfl ?_
                  refine lv_aload_n hx hb dL_isCopied_104 rfl (lv_at hl 6 rfl) ?_
                  refine lv_iconst (v := nI 0) hx hb dL_isCopied_105 (by decide) ?_
                  refine x_ald (v := nI (s_n S)) hx hb hK hP 41 0 rfl rfl (by omega) (by omega) (IN_g0 hI) dL_isCopied_106 ?_
                  refine x_ast (g := upd lb (7 * its + 3 + t) (nI (s_n S))) (ws' := LW cI cP cS ad la S1 lp lo lq (upd lb (7 * its + 3 + t) (nI (s_n S))) lg) hx hb hK hP hD hS 40 0 rfl rfl (by omega) (by omega) (rfl) rfl dL_isCopied_107 (fun H locs hP hD hS => ?_)
                  refine lv_aload_n hx hb dL_isCopied_108 rfl (lv_at hl 5 rfl) ?_
                  refine lv_bipush (v := nI 7) hx hb dL_isCopied_109 (by decide) ?_
                  refine lv_iload hx hb dL_isCopied_111 (lv_at hl 7 rfl) ?_
                  refine x_mul (k := 7 * its) hx hb dL_isCopied_113 rfl ?_
                  refine lv_iconst (v := nI 5) hx hb dL_isCopied_114 (by decide) ?_
                  refine x_add (k := (7 * its) + 5) hx hb dL_isCopied_115 rfl ?_
                  refine lv_iload hx hb dL_isCopied_116 (lv_at hl 8 rfl) ?_
                  refine x_add (k := ((7 * its) + 5) + t) hx hb dL_isCopied_118 rfl ?_
                  refine lv_iconst (v := nI 0) hx hb dL_isCopied_119 (by decide) ?_
                  refine x_ast (g := upd (upd lb (7 * its + 3 + t) (nI (s_n S))) (7 * its + 5 + t) (nI 0)) (ws' := LW cI cP cS ad la S1 lp lo lq (upd (upd lb (7 * its + 3 + t) (nI (s_n S))) (7 * its + 5 + t) (nI 0)) lg) hx hb hK hP hD hS 40 0 rfl rfl (by omega) (by omega) (rfl) rfl dL_isCopied_120 (fun H locs hP hD hS => ?_)
                  refine lv_iconst (v := nI 0) hx hb dL_isCopied_121 (by decide) ?_
                  refine lv_istore (lv' := [(9, .int (nI 0)), (8, .int (nI (qCnt (s_sr S1 its) (t * 12) 12))), (7, .int (nI 1)), (6, .int (nI 1)), (0, .ref (ad 0)), (1, .ref (la 2)), (2, .ref (la 3)), (3, .ref (la 4)), (4, .int (nI its)), (5, .int (nI t))]) hx hb dL_isCopied_122 hl (by decide) rfl (fun ls hl => ?_)
                  refine lv_iconst (v := nI 1) hx hb dL_isCopied_124 (by decide) ?_
                  refine lv_istore (lv' := [(10, .int (nI 1)), (9, .int (nI 0)), (8, .int (nI (qCnt (s_sr S1 its) (t * 12) 12))), (7, .int (nI 1)), (6, .int (nI 1)), (0, .ref (ad 0)), (1, .ref (la 2)), (2, .ref (la 3)), (3, .ref (la 4)), (4, .int (nI its)), (5, .int (nI t))]) hx hb dL_isCopied_125 hl (by decide) rfl (fun ls hl => ?_)
                  refine lv_iconst (v := nI 0) hx hb dL_isCopied_127 (by decide) ?_
                  refine lv_istore (lv' := [(11, .int (nI 0)), (10, .int (nI 1)), (9, .int (nI 0)), (8, .int (nI (qCnt (s_sr S1 its) (t * 12) 12))), (7, .int (nI 1)), (6, .int (nI 1)), (0, .ref (ad 0)), (1, .ref (la 2)), (2, .ref (la 3)), (3, .ref (la 4)), (4, .int (nI its)), (5, .int (nI t))]) hx hb dL_isCopied_128 hl (by decide) rfl (fun ls hl => ?_)
                  refine x_loopc (nL := 15) (fun (x : Nat × Nat) => match x with | (w, cq) => w ≤ 12 ∧ cq = qCnt (s_sr S1 its) (t * 12) w) (fun (x : Nat × Nat) => match x with | (w, cq) => 12 - w) (fun (x : Nat × Nat) => match x with | (w, cq) => 3 + 40 * w) (fun (x : Nat × Nat) => match x with | (w, cq) => 18 + 240 * w) (fun (x : Nat × Nat) => match x with | (w, cq) => LW cI cP cS ad la S1 lp lo lq (upd (upd lb (7 * its + 3 + t) (nI (s_n S))) (7 * its + 5 + t) (nI 0)) lg) (fun (x : Nat × Nat) => match x with | (w, cq) => [(0, .ref (ad 0)), (1, .ref (la 2)), (2, .ref (la 3)), (3, .ref (la 4)), (4, .int (nI its)), (5, .int (nI t)), (6, .int (nI 1)), (7, .int (nI 1)), (8, .int (nI (qCnt (s_sr S1 its) (t * 12) 12))), (9, .int (nI cq)), (10, .int (nI 1)), (11, .int (nI w))]) (fun (x : Nat × Nat) => match x with | (w, cq) => []) ?_ (0, 0) ⟨Nat.zero_le 12, rfl⟩ (by show _ ≤ 3 + 40 * 0; omega) (by show _ ≤ 18 + 240 * 0; omega) hP hD hS (lv_sub hl [6, 7, 8, 9, 10, 11, 5, 4, 3, 2, 1, 0] rfl)
                  intro x9 hI130 ih130 H locs ls hP hD hS hl
                  obtain ⟨w, cq⟩ := x9
                  have hP : va_P D vwCl (LW cI cP cS ad la S1 lp lo lq (upd (upd lb (7 * its + 3 + t) (nI (s_n S))) (7 * its + 5 + t) (nI 0)) lg) H := hP
                  have hD : va_D A (LW cI cP cS ad la S1 lp lo lq (upd (upd lb (7 * its + 3 + t) (nI (s_n S))) (7 * its + 5 + t) (nI 0)) lg) := hD
                  have hl : lv_has ls 15 [(0, .ref (ad 0)), (1, .ref (la 2)), (2, .ref (la 3)), (3, .ref (la 4)), (4, .int (nI its)), (5, .int (nI t)), (6, .int (nI 1)), (7, .int (nI 1)), (8, .int (nI (qCnt (s_sr S1 its) (t * 12) 12))), (9, .int (nI cq)), (10, .int (nI 1)), (11, .int (nI w))] := hl
                  show W _ _ _ _ _ _ _ _ _ _ _ _ (3 + 40 * w) (18 + 240 * w) _ _
                  obtain ⟨hw9, hq9⟩ := hI130
                  have hqi := qCnt_le (s_sr S1 its) (t * 12) w
                  refine lv_iload hx hb dL_isCopied_130 (lv_at hl 11 rfl) ?_
                  refine lv_bipush (v := nI 12) hx hb dL_isCopied_132 (by decide) ?_
                  refine x_cmp_ge (tgt := 285) hx hb (nI_leI (a := 12) (b := w) (by omega) (by omega)) dL_isCopied_134 (by decide) (fun c134 => ?_) (fun c134 => ?_)
                  · obtain rfl : w = 12 := by omega
                    subst hq9
                    have hP : va_P D vwCl (LW cI cP cS ad la S1 lp lo lq (upd (upd lb (7 * its + 3 + t) (nI (s_n S))) (7 * its + 5 + t) (nI 0)) lg) H := hP
                    have hD : va_D A (LW cI cP cS ad la S1 lp lo lq (upd (upd lb (7 * its + 3 + t) (nI (s_n S))) (7 * its + 5 + t) (nI 0)) lg) := hD
                    have hl : lv_has ls 15 [(0, .ref (ad 0)), (1, .ref (la 2)), (2, .ref (la 3)), (3, .ref (la 4)), (4, .int (nI its)), (5, .int (nI t)), (6, .int (nI 1)), (7, .int (nI 1)), (8, .int (nI (qCnt (s_sr S1 its) (t * 12) 12))), (9, .int (nI (qCnt (s_sr S1 its) (t * 12) 12))), (10, .int (nI 1)), (11, .int (nI 12))] := hl
                    refine lv_iload hx hb dL_isCopied_285 (lv_at hl 10 rfl) ?_
                    refine x_if_eq (tgt := 312) hx hb (nI_z (by omega)) dL_isCopied_287 (by decide) (fun c287 => ?_) (fun c287 => ?_)
                    · exfalso; omega
                    · refine lv_iload hx hb dL_isCopied_290 (lv_at hl 8 rfl) ?_
                      refine lv_iload hx hb dL_isCopied_292 (lv_at hl 9 rfl) ?_
                      refine x_cmp_ne (tgt := 312) hx hb (Iff.rfl) dL_isCopied_294 (by decide) (fun c294 => ?_) (fun c294 => ?_)
                      · exact absurd rfl c294
                      · refine lv_aload_n hx hb dL_isCopied_297 rfl (lv_at hl 0 rfl) ?_
                        refine lv_iload hx hb dL_isCopied_298 (lv_at hl 4 rfl) ?_
                        refine lv_iload hx hb dL_isCopied_300 (lv_at hl 5 rfl) ?_
                        refine x_calli (w2 := fun (S302 : S4) => LW cI cP cS ad la S302 lp lo lq (upd (upd lb (7 * its + 3 + t) (nI (s_n S))) (7 * its + 5 + t) (nI 0)) lg) (wr := []) (x_runVE (n := 2) ⟨hx, hb, hml, hown, hts⟩ (fN_isFaithful l D cI cP cS cL hfl ad la lp lo lq (upd (upd lb (7 * its + 3 + t) (nI (s_n S))) (7 * its + 5 + t) (nI 0)) lg (s_lim S1) (s_n S1) (s_rows S1) (s_cc S1) (s_ct S1) (s_ck S1) (s_nr S1) (s_cr S1) (s_old S1) (s_rw S1) (s_co S1) (s_re S1) (s_nu S1) (s_ma S1) (s_sr S1) (s_cp S1) (s_pu S1) (s_st S1) (s_sl S1) its (bk its) (nI its) (nI t) hth.1 hf3 (hsx_of (by omega)) (IN_sts hI1 its hth.1) (Nat.le_trans (IN_sls hI1 its hth.1) (IN_n hI1)) (IN_pu hI1 hth.1) (H_cp (IN_of hI1) hth.1) (nx_faith hth.1 hth.2 (Or.inl hst1) (IN_cp hI1 hth.1 hth.2) (by rw [hkc1]; omega) (by rw [hkc1]; omega))) gL_isCopied_X4_isFaithful rfl rfl rfl (by decide +kernel) ⟨by decide, by decide⟩ hN hK hP hD hS hA hE iLW rfl rfl (ci := 4) (q0 := 0) rfl rfl rfl rfl hl.1 (rest := []) (As := [.int (nI its), .int (nI t)]) rfl (Nat.le_of_ble_eq_true rfl) dL_isCopied_302 ⟨by show _ ≤ 600; omega, by show _ ≤ 3600; omega⟩) hP hD hS hA iLW [] iLW rfl rfl rfl (by decide) rfl (fun _ => rfl) (fun r302 S302 H locs hw hP hD hS => ?_)
                        obtain ⟨hr9, e8⟩ := N_faith (IN_of hI1) (c := s_n S) hth.1 hth.2 hmi1 hkc1 hw
                        have e9 : S1 = S302 := (show S302 = S1 from e8).symm
                        subst e9
                        subst hr9
                        have hP : va_P D vwCl (LW cI cP cS ad la S1 lp lo lq (upd (upd lb (7 * its + 3 + t) (nI (s_n S))) (7 * its + 5 + t) (nI 0)) lg) H := hP
                        have hD : va_D A (LW cI cP cS ad la S1 lp lo lq (upd (upd lb (7 * its + 3 + t) (nI (s_n S))) (7 * its + 5 + t) (nI 0)) lg) := hD
                        refine x_if_eq (tgt := 312) hx hb (nI_z (by omega)) dL_isCopied_305 (by decide) (fun c305 => ?_) (fun c305 => ?_)
                        · exfalso; omega
                        · refine lv_iconst (v := nI 1) hx hb dL_isCopied_308 (by decide) ?_
                          refine lv_goto (tgt := 313) hx hb dL_isCopied_309 (by decide) ?_
                          exact x_ret_z hx hb hrt (by first | exact Or.inl rfl | exact Or.inr rfl) hlk hP hD hS dL_isCopied_313 ⟨by omega, by omega⟩ ((S1, lp, lo, lq, upd (upd lb (7 * its + 3 + t) (nI (s_n S))) (7 * its + 5 + t) (nI 0), lg)) ⟨rfl, ⟨_, _, _, _, hI1⟩⟩ rfl
                  · refine lv_iload hx hb dL_isCopied_137 (lv_at hl 10 rfl) ?_
                    refine x_if_eq (tgt := 285) hx hb (nI_z (by omega)) dL_isCopied_139 (by decide) (fun c139 => ?_) (fun c139 => ?_)
                    · exfalso; omega
                    · obtain ⟨li, hli, eli, hrow⟩ := C_row (IN_of hI1) (s := its) (t := t) (k := w) hth.1 hth.2 (by omega) hst1 hcan.2 hmi1 (hkc1.trans (by rw [en9]))
                      rcases hrow with he1 | ⟨a, b, c, va9, vb9, vc9, he0, he1⟩
                      · refine lv_aload_n hx hb dL_isCopied_142 rfl (lv_at hl 1 rfl) ?_
                        refine lv_iconst (v := nI 2) hx hb dL_isCopied_143 (by decide) ?_
                        refine lv_aload_n hx hb dL_isCopied_144 rfl (lv_at hl 2 rfl) ?_
                        refine lv_bipush (v := nI 7) hx hb dL_isCopied_145 (by decide) ?_
                        refine lv_iload hx hb dL_isCopied_147 (lv_at hl 4 rfl) ?_
                        refine x_mul (k := 7 * its) hx hb dL_isCopied_149 rfl ?_
                        refine x_ald (v := nI (bk its)) hx hb hK hP 40 0 rfl rfl (by omega) (by omega) (IN_b0 hI1 hth.1) dL_isCopied_150 ?_
                        refine x_mul (k := 2 * (bk its)) hx hb dL_isCopied_151 rfl ?_
                        refine lv_iload hx hb dL_isCopied_152 (lv_at hl 5 rfl) ?_
                        refine x_add (k := (2 * (bk its)) + t) hx hb dL_isCopied_154 rfl ?_
                        refine x_ald (v := nI li) hx hb hK hP 39 0 rfl rfl (by omega) (by omega) eli dL_isCopied_155 ?_
                        refine lv_istore (lv' := [(12, .int (nI li)), (0, .ref (ad 0)), (1, .ref (la 2)), (2, .ref (la 3)), (3, .ref (la 4)), (4, .int (nI its)), (5, .int (nI t)), (6, .int (nI 1)), (7, .int (nI 1)), (8, .int (nI (qCnt (s_sr S1 its) (t * 12) 12))), (9, .int (nI cq)), (10, .int (nI 1)), (11, .int (nI w))]) hx hb dL_isCopied_156 hl (by decide) rfl (fun ls hl => ?_)
                        refine lv_aload_n hx hb dL_isCopied_158 rfl (lv_at hl 1 rfl) ?_
                        refine lv_iload hx hb dL_isCopied_159 (lv_at hl 5 rfl) ?_
                        refine lv_iload hx hb dL_isCopied_161 (lv_at hl 6 rfl) ?_
                        refine lv_iload hx hb dL_isCopied_163 (lv_at hl 12 rfl) ?_
                        refine lv_iconst (v := nI 0) hx hb dL_isCopied_165 (by decide) ?_
                        refine x_calli (w2 := fun (S166 : S4) => LW cI cP cS ad la S166 lp lo lq (upd (upd lb (7 * its + 3 + t) (nI (s_n S))) (7 * its + 5 + t) (nI 0)) lg) (wr := []) (x_runVE (n := 4) ⟨hx, hb, hml, hown, hts⟩ (fN_seen l D cI cP cS cL hfl ad la lp lo lq (upd (upd lb (7 * its + 3 + t) (nI (s_n S))) (7 * its + 5 + t) (nI 0)) lg (s_lim S1) (s_n S1) (s_rows S1) (s_cc S1) (s_ct S1) (s_ck S1) (s_nr S1) (s_cr S1) (s_old S1) (s_rw S1) (s_co S1) (s_re S1) (s_nu S1) (s_ma S1) (s_sr S1) (s_cp S1) (s_pu S1) (s_st S1) (s_sl S1) its (nI its) (nI t) (nI w) (nI 0) hth.1 (hsx_of (by omega)) (nx_seen hth.1 hth.2 (by omega) (by omega))) gL_isCopied_X4_seen rfl rfl rfl (by decide +kernel) ⟨by decide, by decide⟩ hN hK hP hD hS hA hE iLW rfl rfl (ci := 4) (q0 := 0) rfl rfl rfl rfl hl.1 (rest := []) (As := [.int (nI its), .int (nI t), .int (nI w), .int (nI 0)]) rfl (Nat.le_of_ble_eq_true rfl) dL_isCopied_166 ⟨by show _ ≤ 600; omega, by show _ ≤ 3600; omega⟩) hP hD hS hA iLW [] iLW rfl rfl rfl (by decide) rfl (fun _ => rfl) (fun r166 S166 H locs hw hP hD hS => ?_)
                        obtain ⟨hr9, e8⟩ := N_seen hth.2 (by omega) hw
                        have e9 : S1 = S166 := (show S166 = S1 from e8).symm
                        subst e9
                        rw [he1, qNum_m] at hr9
                        subst hr9
                        have hP : va_P D vwCl (LW cI cP cS ad la S1 lp lo lq (upd (upd lb (7 * its + 3 + t) (nI (s_n S))) (7 * its + 5 + t) (nI 0)) lg) H := hP
                        have hD : va_D A (LW cI cP cS ad la S1 lp lo lq (upd (upd lb (7 * its + 3 + t) (nI (s_n S))) (7 * its + 5 + t) (nI 0)) lg) := hD
                        refine x_if_lt (tgt := 176) hx hb (Iff.rfl) dL_isCopied_169 (by decide) (fun c169 => ?_) (fun c169 => ?_)
                        · refine lv_iconst (v := nI 0) hx hb dL_isCopied_176 (by decide) ?_
                          refine lv_istore (lv' := [(13, .int (nI 0)), (12, .int (nI li)), (0, .ref (ad 0)), (1, .ref (la 2)), (2, .ref (la 3)), (3, .ref (la 4)), (4, .int (nI its)), (5, .int (nI t)), (6, .int (nI 1)), (7, .int (nI 1)), (8, .int (nI (qCnt (s_sr S1 its) (t * 12) 12))), (9, .int (nI cq)), (10, .int (nI 1)), (11, .int (nI w))]) hx hb dL_isCopied_177 hl (by decide) rfl (fun ls hl => ?_)
                          refine lv_iload hx hb dL_isCopied_179 (lv_at hl 11 rfl) ?_
                          refine lv_iload hx hb dL_isCopied_181 (lv_at hl 0 rfl) ?_
                          refine x_if_eq (tgt := 190) hx hb (nI_z (by omega)) dL_isCopied_183 (by decide) (fun c183 => ?_) (fun c183 => ?_)
                          · refine lv_iconst (v := nI 0) hx hb dL_isCopied_190 (by decide) ?_
                            refine x_add (k := cq + 0) hx hb dL_isCopied_191 rfl ?_
                            refine lv_istore (lv' := [(9, .int (nI (cq + 0))), (13, .int (nI 0)), (12, .int (nI li)), (0, .ref (ad 0)), (1, .ref (la 2)), (2, .ref (la 3)), (3, .ref (la 4)), (4, .int (nI its)), (5, .int (nI t)), (6, .int (nI 1)), (7, .int (nI 1)), (8, .int (nI (qCnt (s_sr S1 its) (t * 12) 12))), (10, .int (nI 1)), (11, .int (nI w))]) hx hb dL_isCopied_192 hl (by decide) rfl (fun ls hl => ?_)
                            refine lv_iconst (v := nI 0) hx hb dL_isCopied_194 (by decide) ?_
                            refine lv_istore (lv' := [(14, .int (nI 0)), (9, .int (nI (cq + 0))), (13, .int (nI 0)), (12, .int (nI li)), (0, .ref (ad 0)), (1, .ref (la 2)), (2, .ref (la 3)), (3, .ref (la 4)), (4, .int (nI its)), (5, .int (nI t)), (6, .int (nI 1)), (7, .int (nI 1)), (8, .int (nI (qCnt (s_sr S1 its) (t * 12) 12))), (10, .int (nI 1)), (11, .int (nI w))]) hx hb dL_isCopied_195 hl (by decide) rfl (fun ls hl => ?_)
                            refine lv_iload hx hb dL_isCopied_197 (lv_at hl 0 rfl) ?_
                            refine lv_iconst (v := nI 3) hx hb dL_isCopied_199 (by decide) ?_
                            refine x_cmp_ge (tgt := 279) hx hb (nI_leI (a := 3) (b := 0) (by omega) (by omega)) dL_isCopied_200 (by decide) (fun c200 => ?_) (fun c200 => ?_)
                            · exfalso; omega
                            · refine lv_iload hx hb dL_isCopied_203 (lv_at hl 2 rfl) ?_
                              refine x_if_eq (tgt := 279) hx hb (nI_z (by omega)) dL_isCopied_205 (by decide) (fun c205 => ?_) (fun c205 => ?_)
                              · refine x_iinc (k := 14) (o := 1) (v := w + 1) (lv' := [(11, .int (nI (w + 1))), (14, .int (nI 0)), (9, .int (nI (cq + 0))), (13, .int (nI 0)), (12, .int (nI li)), (0, .ref (ad 0)), (1, .ref (la 2)), (2, .ref (la 3)), (3, .ref (la 4)), (4, .int (nI its)), (5, .int (nI t)), (6, .int (nI 1)), (7, .int (nI 1)), (8, .int (nI (qCnt (s_sr S1 its) (t * 12) 12))), (10, .int (nI 1))]) hx hb dL_isCopied_279 hl rfl rfl rfl (by decide) rfl (fun ls hl => ?_)
                                refine lv_goto (tgt := 130) hx hb dL_isCopied_282 (by decide) ?_
                                exact W.widen (by show _ ≤ 3 + 40 * (w + 1); omega) (by show _ ≤ 18 + 240 * (w + 1); omega) (ih130 (w + 1, cq + 0) ⟨by omega, (by rw [hq9]; exact (qCnt_y (f := s_sr S1 its) he1).symm)⟩ (by show 12 - (w + 1) < 12 - w; omega) _ _ _ hP hD hS (lv_sub hl [5, 6, 7, 8, 9, 10, 11, 12, 13, 2, 14, 0] rfl))
                              · exfalso; omega
                          · exfalso; omega
                        · exact absurd (by decide) c169
                      · have hb0 := bo_lt (w := li) (k := 0) (dig_lt (j := 0) va9 vb9 vc9)
                        refine lv_aload_n hx hb dL_isCopied_142 rfl (lv_at hl 1 rfl) ?_
                        refine lv_iconst (v := nI 2) hx hb dL_isCopied_143 (by decide) ?_
                        refine lv_aload_n hx hb dL_isCopied_144 rfl (lv_at hl 2 rfl) ?_
                        refine lv_bipush (v := nI 7) hx hb dL_isCopied_145 (by decide) ?_
                        refine lv_iload hx hb dL_isCopied_147 (lv_at hl 4 rfl) ?_
                        refine x_mul (k := 7 * its) hx hb dL_isCopied_149 rfl ?_
                        refine x_ald (v := nI (bk its)) hx hb hK hP 40 0 rfl rfl (by omega) (by omega) (IN_b0 hI1 hth.1) dL_isCopied_150 ?_
                        refine x_mul (k := 2 * (bk its)) hx hb dL_isCopied_151 rfl ?_
                        refine lv_iload hx hb dL_isCopied_152 (lv_at hl 5 rfl) ?_
                        refine x_add (k := (2 * (bk its)) + t) hx hb dL_isCopied_154 rfl ?_
                        refine x_ald (v := nI li) hx hb hK hP 39 0 rfl rfl (by omega) (by omega) eli dL_isCopied_155 ?_
                        refine lv_istore (lv' := [(12, .int (nI li)), (0, .ref (ad 0)), (1, .ref (la 2)), (2, .ref (la 3)), (3, .ref (la 4)), (4, .int (nI its)), (5, .int (nI t)), (6, .int (nI 1)), (7, .int (nI 1)), (8, .int (nI (qCnt (s_sr S1 its) (t * 12) 12))), (9, .int (nI cq)), (10, .int (nI 1)), (11, .int (nI w))]) hx hb dL_isCopied_156 hl (by decide) rfl (fun ls hl => ?_)
                        refine lv_aload_n hx hb dL_isCopied_158 rfl (lv_at hl 1 rfl) ?_
                        refine lv_iload hx hb dL_isCopied_159 (lv_at hl 5 rfl) ?_
                        refine lv_iload hx hb dL_isCopied_161 (lv_at hl 6 rfl) ?_
                        refine lv_iload hx hb dL_isCopied_163 (lv_at hl 12 rfl) ?_
                        refine lv_iconst (v := nI 0) hx hb dL_isCopied_165 (by decide) ?_
                        refine x_calli (w2 := fun (S166 : S4) => LW cI cP cS ad la S166 lp lo lq (upd (upd lb (7 * its + 3 + t) (nI (s_n S))) (7 * its + 5 + t) (nI 0)) lg) (wr := []) (x_runVE (n := 4) ⟨hx, hb, hml, hown, hts⟩ (fN_seen l D cI cP cS cL hfl ad la lp lo lq (upd (upd lb (7 * its + 3 + t) (nI (s_n S))) (7 * its + 5 + t) (nI 0)) lg (s_lim S1) (s_n S1) (s_rows S1) (s_cc S1) (s_ct S1) (s_ck S1) (s_nr S1) (s_cr S1) (s_old S1) (s_rw S1) (s_co S1) (s_re S1) (s_nu S1) (s_ma S1) (s_sr S1) (s_cp S1) (s_pu S1) (s_st S1) (s_sl S1) its (nI its) (nI t) (nI w) (nI 0) hth.1 (hsx_of (by omega)) (nx_seen hth.1 hth.2 (by omega) (by omega))) gL_isCopied_X4_seen rfl rfl rfl (by decide +kernel) ⟨by decide, by decide⟩ hN hK hP hD hS hA hE iLW rfl rfl (ci := 4) (q0 := 0) rfl rfl rfl rfl hl.1 (rest := []) (As := [.int (nI its), .int (nI t), .int (nI w), .int (nI 0)]) rfl (Nat.le_of_ble_eq_true rfl) dL_isCopied_166 ⟨by show _ ≤ 600; omega, by show _ ≤ 3600; omega⟩) hP hD hS hA iLW [] iLW rfl rfl rfl (by decide) rfl (fun _ => rfl) (fun r166 S166 H locs hw hP hD hS => ?_)
                        obtain ⟨hr9, e8⟩ := N_seen hth.2 (by omega) hw
                        have e9 : S1 = S166 := (show S166 = S1 from e8).symm
                        subst e9
                        rw [he1, qNum_e (bo_lt va9) (bo_lt vb9) (bo_lt vc9) (by omega), dig_bo (by omega)] at hr9
                        subst hr9
                        have hP : va_P D vwCl (LW cI cP cS ad la S1 lp lo lq (upd (upd lb (7 * its + 3 + t) (nI (s_n S))) (7 * its + 5 + t) (nI 0)) lg) H := hP
                        have hD : va_D A (LW cI cP cS ad la S1 lp lo lq (upd (upd lb (7 * its + 3 + t) (nI (s_n S))) (7 * its + 5 + t) (nI 0)) lg) := hD
                        refine x_if_lt (tgt := 176) hx hb (nI_ng (by omega)) dL_isCopied_169 (by decide) (fun c169 => ?_) (fun c169 => ?_)
                        · exact c169.elim
                        · refine lv_iconst (v := nI 1) hx hb dL_isCopied_172 (by decide) ?_
                          refine lv_goto (tgt := 177) hx hb dL_isCopied_173 (by decide) ?_
                          refine lv_istore (lv' := [(13, .int (nI 1)), (12, .int (nI li)), (0, .ref (ad 0)), (1, .ref (la 2)), (2, .ref (la 3)), (3, .ref (la 4)), (4, .int (nI its)), (5, .int (nI t)), (6, .int (nI 1)), (7, .int (nI 1)), (8, .int (nI (qCnt (s_sr S1 its) (t * 12) 12))), (9, .int (nI cq)), (10, .int (nI 1)), (11, .int (nI w))]) hx hb dL_isCopied_177 hl (by decide) rfl (fun ls hl => ?_)
                          refine lv_iload hx hb dL_isCopied_179 (lv_at hl 11 rfl) ?_
                          refine lv_iload hx hb dL_isCopied_181 (lv_at hl 0 rfl) ?_
                          refine x_if_eq (tgt := 190) hx hb (nI_z (by omega)) dL_isCopied_183 (by decide) (fun c183 => ?_) (fun c183 => ?_)
                          · exfalso; omega
                          · refine lv_iconst (v := nI 1) hx hb dL_isCopied_186 (by decide) ?_
                            refine lv_goto (tgt := 191) hx hb dL_isCopied_187 (by decide) ?_
                            refine x_add (k := cq + 1) hx hb dL_isCopied_191 rfl ?_
                            refine lv_istore (lv' := [(9, .int (nI (cq + 1))), (13, .int (nI 1)), (12, .int (nI li)), (0, .ref (ad 0)), (1, .ref (la 2)), (2, .ref (la 3)), (3, .ref (la 4)), (4, .int (nI its)), (5, .int (nI t)), (6, .int (nI 1)), (7, .int (nI 1)), (8, .int (nI (qCnt (s_sr S1 its) (t * 12) 12))), (10, .int (nI 1)), (11, .int (nI w))]) hx hb dL_isCopied_192 hl (by decide) rfl (fun ls hl => ?_)
                            refine lv_iconst (v := nI 0) hx hb dL_isCopied_194 (by decide) ?_
                            refine lv_istore (lv' := [(14, .int (nI 0)), (9, .int (nI (cq + 1))), (13, .int (nI 1)), (12, .int (nI li)), (0, .ref (ad 0)), (1, .ref (la 2)), (2, .ref (la 3)), (3, .ref (la 4)), (4, .int (nI its)), (5, .int (nI t)), (6, .int (nI 1)), (7, .int (nI 1)), (8, .int (nI (qCnt (s_sr S1 its) (t * 12) 12))), (10, .int (nI 1)), (11, .int (nI w))]) hx hb dL_isCopied_195 hl (by decide) rfl (fun ls hl => ?_)
                            refine x_loopc (nL := 15) (fun (d : Nat) => d ≤ 3) (fun (d : Nat) => 3 - d) (fun (d : Nat) => 3 + 40 * w + 4 + 10 * d) (fun (d : Nat) => 18 + 240 * w + 24 + 60 * d) (fun (d : Nat) => LW cI cP cS ad la S1 lp lo lq (upd (upd lb (7 * its + 3 + t) (nI (s_n S))) (7 * its + 5 + t) (nI 0)) lg) (fun (d : Nat) => [(0, .ref (ad 0)), (1, .ref (la 2)), (2, .ref (la 3)), (3, .ref (la 4)), (4, .int (nI its)), (5, .int (nI t)), (6, .int (nI 1)), (7, .int (nI 1)), (8, .int (nI (qCnt (s_sr S1 its) (t * 12) 12))), (9, .int (nI (cq + 1))), (10, .int (nI 1)), (11, .int (nI w)), (12, .int (nI li)), (13, .int (nI 1)), (14, .int (nI d))]) (fun (d : Nat) => []) ?_ 0 (Nat.zero_le 3) (by show _ ≤ 3 + 40 * w + 4 + 10 * 0; omega) (by show _ ≤ 18 + 240 * w + 24 + 60 * 0; omega) hP hD hS (lv_sub hl [4, 5, 6, 7, 8, 9, 10, 11, 12, 1, 13, 14, 3, 2, 0] rfl)
                            intro x9 hI197 ih197 H locs ls hP hD hS hl
                            obtain ⟨d, h9⟩ : ∃ z, z = x9 := ⟨x9, rfl⟩
                            subst h9
                            have hP : va_P D vwCl (LW cI cP cS ad la S1 lp lo lq (upd (upd lb (7 * its + 3 + t) (nI (s_n S))) (7 * its + 5 + t) (nI 0)) lg) H := hP
                            have hD : va_D A (LW cI cP cS ad la S1 lp lo lq (upd (upd lb (7 * its + 3 + t) (nI (s_n S))) (7 * its + 5 + t) (nI 0)) lg) := hD
                            have hl : lv_has ls 15 [(0, .ref (ad 0)), (1, .ref (la 2)), (2, .ref (la 3)), (3, .ref (la 4)), (4, .int (nI its)), (5, .int (nI t)), (6, .int (nI 1)), (7, .int (nI 1)), (8, .int (nI (qCnt (s_sr S1 its) (t * 12) 12))), (9, .int (nI (cq + 1))), (10, .int (nI 1)), (11, .int (nI w)), (12, .int (nI li)), (13, .int (nI 1)), (14, .int (nI d))] := hl
                            show W _ _ _ _ _ _ _ _ _ _ _ _ (3 + 40 * w + 4 + 10 * d) (18 + 240 * w + 24 + 60 * d) _ _
                            have hd9 := hI197
                            have hdg := dig_lt (j := d) va9 vb9 vc9
                            have hdb := bo_lt (w := li) (k := d) hdg
                            refine lv_iload hx hb dL_isCopied_197 (lv_at hl 14 rfl) ?_
                            refine lv_iconst (v := nI 3) hx hb dL_isCopied_199 (by decide) ?_
                            refine x_cmp_ge (tgt := 279) hx hb (nI_leI (a := 3) (b := d) (by omega) (by omega)) dL_isCopied_200 (by decide) (fun c200 => ?_) (fun c200 => ?_)
                            · refine x_iinc (k := 11) (o := 1) (v := w + 1) (lv' := [(11, .int (nI (w + 1))), (0, .ref (ad 0)), (1, .ref (la 2)), (2, .ref (la 3)), (3, .ref (la 4)), (4, .int (nI its)), (5, .int (nI t)), (6, .int (nI 1)), (7, .int (nI 1)), (8, .int (nI (qCnt (s_sr S1 its) (t * 12) 12))), (9, .int (nI (cq + 1))), (10, .int (nI 1)), (12, .int (nI li)), (13, .int (nI 1)), (14, .int (nI d))]) hx hb dL_isCopied_279 hl rfl rfl rfl (by decide) rfl (fun ls hl => ?_)
                              refine lv_goto (tgt := 130) hx hb dL_isCopied_282 (by decide) ?_
                              exact W.widen (by show _ ≤ 3 + 40 * (w + 1); omega) (by show _ ≤ 18 + 240 * (w + 1); omega) (ih130 (w + 1, cq + 1) ⟨by omega, (by rw [hq9]; exact (qCnt_n (f := s_sr S1 its) (by rw [he1]; exact fun z => (nI_m1 (by have := k3_lt (bo_lt (w := li) (k := 0) va9) (bo_lt (w := li) (k := 1) vb9) (bo_lt (w := li) (k := 2) vc9); omega)).mp z)).symm)⟩ (by show 12 - (w + 1) < 12 - w; omega) _ _ _ hP hD hS (lv_sub hl [1, 2, 3, 4, 5, 6, 7, 8, 9, 10, 11, 0] rfl))
                            · refine lv_iload hx hb dL_isCopied_203 (lv_at hl 13 rfl) ?_
                              refine x_if_eq (tgt := 279) hx hb (nI_z (by omega)) dL_isCopied_205 (by decide) (fun c205 => ?_) (fun c205 => ?_)
                              · exfalso; omega
                              · refine lv_iload hx hb dL_isCopied_208 (lv_at hl 10 rfl) ?_
                                refine x_if_eq (tgt := 279) hx hb (nI_z (by omega)) dL_isCopied_210 (by decide) (fun c210 => ?_) (fun c210 => ?_)
                                · exfalso; omega
                                · refine lv_aload_n hx hb dL_isCopied_213 rfl (lv_at hl 0 rfl) ?_
                                  refine lv_iload hx hb dL_isCopied_214 (lv_at hl 4 rfl) ?_
                                  refine lv_iload hx hb dL_isCopied_216 (lv_at hl 5 rfl) ?_
                                  refine lv_iload hx hb dL_isCopied_218 (lv_at hl 11 rfl) ?_
                                  refine lv_iload hx hb dL_isCopied_220 (lv_at hl 14 rfl) ?_
                                  refine x_calli (w2 := fun (S222 : S4) => LW cI cP cS ad la S222 lp lo lq (upd (upd lb (7 * its + 3 + t) (nI (s_n S))) (7 * its + 5 + t) (nI 0)) lg) (wr := []) (x_runVE (n := 4) ⟨hx, hb, hml, hown, hts⟩ (fN_seen l D cI cP cS cL hfl ad la lp lo lq (upd (upd lb (7 * its + 3 + t) (nI (s_n S))) (7 * its + 5 + t) (nI 0)) lg (s_lim S1) (s_n S1) (s_rows S1) (s_cc S1) (s_ct S1) (s_ck S1) (s_nr S1) (s_cr S1) (s_old S1) (s_rw S1) (s_co S1) (s_re S1) (s_nu S1) (s_ma S1) (s_sr S1) (s_cp S1) (s_pu S1) (s_st S1) (s_sl S1) its (nI its) (nI t) (nI w) (nI d) hth.1 (hsx_of (by omega)) (nx_seen hth.1 hth.2 (by omega) (by omega))) gL_isCopied_X4_seen rfl rfl rfl (by decide +kernel) ⟨by decide, by decide⟩ hN hK hP hD hS hA hE iLW rfl rfl (ci := 4) (q0 := 0) rfl rfl rfl rfl hl.1 (rest := []) (As := [.int (nI its), .int (nI t), .int (nI w), .int (nI d)]) rfl (Nat.le_of_ble_eq_true rfl) dL_isCopied_222 ⟨by show _ ≤ 600; omega, by show _ ≤ 3600; omega⟩) hP hD hS hA iLW [] iLW rfl rfl rfl (by decide) rfl (fun _ => rfl) (fun r222 S222 H locs hw hP hD hS => ?_)
                                  obtain ⟨hr9, e8⟩ := N_seen hth.2 (by omega) hw
                                  have e9 : S1 = S222 := (show S222 = S1 from e8).symm
                                  subst e9
                                  rw [he1, qNum_e (bo_lt va9) (bo_lt vb9) (bo_lt vc9) (by omega), dig_bo (by omega)] at hr9
                                  subst hr9
                                  have hP : va_P D vwCl (LW cI cP cS ad la S1 lp lo lq (upd (upd lb (7 * its + 3 + t) (nI (s_n S))) (7 * its + 5 + t) (nI 0)) lg) H := hP
                                  have hD : va_D A (LW cI cP cS ad la S1 lp lo lq (upd (upd lb (7 * its + 3 + t) (nI (s_n S))) (7 * its + 5 + t) (nI 0)) lg) := hD
                                  refine lv_iload hx hb dL_isCopied_225 (lv_at hl 12 rfl) ?_
                                  refine lv_iload hx hb dL_isCopied_227 (lv_at hl 14 rfl) ?_
                                  refine lv_ishr hx hb dL_isCopied_229 ?_
                                  refine lv_iconst (v := nI 1) hx hb dL_isCopied_230 (by decide) ?_
                                  refine lv_iand hx hb dL_isCopied_231 ?_
                                  refine x_top (y := nI (li / 2 ^ d % 2)) (bit_v hli (by omega)) ?_
                                  refine lv_iconst (v := nI 1) hx hb dL_isCopied_232 (by decide) ?_
                                  refine x_cmp_ne (tgt := 249) hx hb (nI_eq (a := (li / 2 ^ d % 2)) (b := 1) (by omega) (by omega)) dL_isCopied_233 (by decide) (fun c233 => ?_) (fun c233 => ?_)
                                  · refine lv_iconst (v := nI 0) hx hb dL_isCopied_249 (by decide) ?_
                                    refine x_cmp_ne (tgt := 270) hx hb (nI_eq (a := (bo li d (dig d a b c))) (b := 0) (by omega) (by omega)) dL_isCopied_250 (by decide) (fun c250 => ?_) (fun c250 => ?_)
                                    · exact absurd (bo_n c233) c250
                                    · refine lv_aload_n hx hb dL_isCopied_253 rfl (lv_at hl 0 rfl) ?_
                                      refine lv_iload hx hb dL_isCopied_254 (lv_at hl 5 rfl) ?_
                                      refine lv_iload hx hb dL_isCopied_256 (lv_at hl 11 rfl) ?_
                                      refine lv_iload hx hb dL_isCopied_258 (lv_at hl 14 rfl) ?_
                                      refine x_calli (w2 := fun (S260 : S4) => LW cI cP cS ad la S260 lp lo lq (upd (upd lb (7 * its + 3 + t) (nI (s_n S))) (7 * its + 5 + t) (nI 0)) lg) (wr := []) (x_runVE (n := 3) ⟨hx, hb, hml, hown, hts⟩ (fN_at l D cI cP cS cL hfl ad la lp lo lq (upd (upd lb (7 * its + 3 + t) (nI (s_n S))) (7 * its + 5 + t) (nI 0)) lg (s_lim S1) (s_n S1) (s_rows S1) (s_cc S1) (s_ct S1) (s_ck S1) (s_nr S1) (s_cr S1) (s_old S1) (s_rw S1) (s_co S1) (s_re S1) (s_nu S1) (s_ma S1) (s_sr S1) (s_cp S1) (s_pu S1) (s_st S1) (s_sl S1) (nI t) (nI w) (nI d) (nx_at hth.2 (by omega) (by omega))) gL_isCopied_X4_at rfl rfl rfl (by decide +kernel) ⟨by decide, by decide⟩ hN hK hP hD hS hA hE iLW rfl rfl (ci := 4) (q0 := 0) rfl rfl rfl rfl hl.1 (rest := []) (As := [.int (nI t), .int (nI w), .int (nI d)]) rfl (Nat.le_of_ble_eq_true rfl) dL_isCopied_260 ⟨by show _ ≤ 600; omega, by show _ ≤ 3600; omega⟩) hP hD hS hA iLW [] iLW rfl rfl rfl (by decide) rfl (fun _ => rfl) (fun r260 S260 H locs hw hP hD hS => ?_)
                                      obtain ⟨hr9, e8⟩ := N_at hth.2 (by omega) hw
                                      have e9 : S1 = S260 := (show S260 = S1 from e8).symm
                                      subst e9
                                      rw [he0, qNum_e va9 vb9 vc9 (by omega)] at hr9
                                      subst hr9
                                      have hP : va_P D vwCl (LW cI cP cS ad la S1 lp lo lq (upd (upd lb (7 * its + 3 + t) (nI (s_n S))) (7 * its + 5 + t) (nI 0)) lg) H := hP
                                      have hD : va_D A (LW cI cP cS ad la S1 lp lo lq (upd (upd lb (7 * its + 3 + t) (nI (s_n S))) (7 * its + 5 + t) (nI 0)) lg) := hD
                                      refine x_if_lt (tgt := 270) hx hb (nI_ng (by omega)) dL_isCopied_263 (by decide) (fun c263 => ?_) (fun c263 => ?_)
                                      · exact c263.elim
                                      · refine lv_iconst (v := nI 1) hx hb dL_isCopied_266 (by decide) ?_
                                        refine lv_goto (tgt := 271) hx hb dL_isCopied_267 (by decide) ?_
                                        refine lv_istore (lv' := [(10, .int (nI 1)), (0, .ref (ad 0)), (1, .ref (la 2)), (2, .ref (la 3)), (3, .ref (la 4)), (4, .int (nI its)), (5, .int (nI t)), (6, .int (nI 1)), (7, .int (nI 1)), (8, .int (nI (qCnt (s_sr S1 its) (t * 12) 12))), (9, .int (nI (cq + 1))), (11, .int (nI w)), (12, .int (nI li)), (13, .int (nI 1)), (14, .int (nI d))]) hx hb dL_isCopied_271 hl (by decide) rfl (fun ls hl => ?_)
                                        refine x_iinc (k := 14) (o := 1) (v := d + 1) (lv' := [(14, .int (nI (d + 1))), (10, .int (nI 1)), (0, .ref (ad 0)), (1, .ref (la 2)), (2, .ref (la 3)), (3, .ref (la 4)), (4, .int (nI its)), (5, .int (nI t)), (6, .int (nI 1)), (7, .int (nI 1)), (8, .int (nI (qCnt (s_sr S1 its) (t * 12) 12))), (9, .int (nI (cq + 1))), (11, .int (nI w)), (12, .int (nI li)), (13, .int (nI 1))]) hx hb dL_isCopied_273 hl rfl rfl rfl (by decide) rfl (fun ls hl => ?_)
                                        refine lv_goto (tgt := 197) hx hb dL_isCopied_276 (by decide) ?_
                                        exact W.widen (by show _ ≤ 3 + 40 * w + 4 + 10 * (d + 1); omega) (by show _ ≤ 18 + 240 * w + 24 + 60 * (d + 1); omega) (ih197 (d + 1) (by show d + 1 ≤ 3; omega) (by show 3 - (d + 1) < 3 - d; omega) _ _ _ hP hD hS (lv_sub hl [2, 3, 4, 5, 6, 7, 8, 9, 10, 11, 1, 12, 13, 14, 0] rfl))
                                  · refine lv_aload_n hx hb dL_isCopied_236 rfl (lv_at hl 0 rfl) ?_
                                    refine lv_iload hx hb dL_isCopied_237 (lv_at hl 5 rfl) ?_
                                    refine lv_iload hx hb dL_isCopied_239 (lv_at hl 11 rfl) ?_
                                    refine lv_iload hx hb dL_isCopied_241 (lv_at hl 14 rfl) ?_
                                    refine x_calli (w2 := fun (S243 : S4) => LW cI cP cS ad la S243 lp lo lq (upd (upd lb (7 * its + 3 + t) (nI (s_n S))) (7 * its + 5 + t) (nI 0)) lg) (wr := []) (x_runVE (n := 3) ⟨hx, hb, hml, hown, hts⟩ (fN_at l D cI cP cS cL hfl ad la lp lo lq (upd (upd lb (7 * its + 3 + t) (nI (s_n S))) (7 * its + 5 + t) (nI 0)) lg (s_lim S1) (s_n S1) (s_rows S1) (s_cc S1) (s_ct S1) (s_ck S1) (s_nr S1) (s_cr S1) (s_old S1) (s_rw S1) (s_co S1) (s_re S1) (s_nu S1) (s_ma S1) (s_sr S1) (s_cp S1) (s_pu S1) (s_st S1) (s_sl S1) (nI t) (nI w) (nI d) (nx_at hth.2 (by omega) (by omega))) gL_isCopied_X4_at rfl rfl rfl (by decide +kernel) ⟨by decide, by decide⟩ hN hK hP hD hS hA hE iLW rfl rfl (ci := 4) (q0 := 0) rfl rfl rfl rfl hl.1 (rest := [.int (nI (bo li d (dig d a b c)))]) (As := [.int (nI t), .int (nI w), .int (nI d)]) rfl (Nat.le_of_ble_eq_true rfl) dL_isCopied_243 ⟨by show _ ≤ 600; omega, by show _ ≤ 3600; omega⟩) hP hD hS hA iLW [] iLW rfl rfl rfl (by decide) rfl (fun _ => rfl) (fun r243 S243 H locs hw hP hD hS => ?_)
                                    obtain ⟨hr9, e8⟩ := N_at hth.2 (by omega) hw
                                    have e9 : S1 = S243 := (show S243 = S1 from e8).symm
                                    subst e9
                                    rw [he0, qNum_e va9 vb9 vc9 (by omega)] at hr9
                                    subst hr9
                                    have hP : va_P D vwCl (LW cI cP cS ad la S1 lp lo lq (upd (upd lb (7 * its + 3 + t) (nI (s_n S))) (7 * its + 5 + t) (nI 0)) lg) H := hP
                                    have hD : va_D A (LW cI cP cS ad la S1 lp lo lq (upd (upd lb (7 * its + 3 + t) (nI (s_n S))) (7 * its + 5 + t) (nI 0)) lg) := hD
                                    refine lv_goto (tgt := 250) hx hb dL_isCopied_246 (by decide) ?_
                                    refine x_cmp_ne (tgt := 270) hx hb (nI_eq (a := (bo li d (dig d a b c))) (b := (dig d a b c)) (by omega) (by omega)) dL_isCopied_250 (by decide) (fun c250 => ?_) (fun c250 => ?_)
                                    · exact absurd (bo_y c233) c250
                                    · refine lv_aload_n hx hb dL_isCopied_253 rfl (lv_at hl 0 rfl) ?_
                                      refine lv_iload hx hb dL_isCopied_254 (lv_at hl 5 rfl) ?_
                                      refine lv_iload hx hb dL_isCopied_256 (lv_at hl 11 rfl) ?_
                                      refine lv_iload hx hb dL_isCopied_258 (lv_at hl 14 rfl) ?_
                                      refine x_calli (w2 := fun (S260 : S4) => LW cI cP cS ad la S260 lp lo lq (upd (upd lb (7 * its + 3 + t) (nI (s_n S))) (7 * its + 5 + t) (nI 0)) lg) (wr := []) (x_runVE (n := 3) ⟨hx, hb, hml, hown, hts⟩ (fN_at l D cI cP cS cL hfl ad la lp lo lq (upd (upd lb (7 * its + 3 + t) (nI (s_n S))) (7 * its + 5 + t) (nI 0)) lg (s_lim S1) (s_n S1) (s_rows S1) (s_cc S1) (s_ct S1) (s_ck S1) (s_nr S1) (s_cr S1) (s_old S1) (s_rw S1) (s_co S1) (s_re S1) (s_nu S1) (s_ma S1) (s_sr S1) (s_cp S1) (s_pu S1) (s_st S1) (s_sl S1) (nI t) (nI w) (nI d) (nx_at hth.2 (by omega) (by omega))) gL_isCopied_X4_at rfl rfl rfl (by decide +kernel) ⟨by decide, by decide⟩ hN hK hP hD hS hA hE iLW rfl rfl (ci := 4) (q0 := 0) rfl rfl rfl rfl hl.1 (rest := []) (As := [.int (nI t), .int (nI w), .int (nI d)]) rfl (Nat.le_of_ble_eq_true rfl) dL_isCopied_260 ⟨by show _ ≤ 600; omega, by show _ ≤ 3600; omega⟩) hP hD hS hA iLW [] iLW rfl rfl rfl (by decide) rfl (fun _ => rfl) (fun r260 S260 H locs hw hP hD hS => ?_)
                                      obtain ⟨hr9, e8⟩ := N_at hth.2 (by omega) hw
                                      have e9 : S1 = S260 := (show S260 = S1 from e8).symm
                                      subst e9
                                      rw [he0, qNum_e va9 vb9 vc9 (by omega)] at hr9
                                      subst hr9
                                      have hP : va_P D vwCl (LW cI cP cS ad la S1 lp lo lq (upd (upd lb (7 * its + 3 + t) (nI (s_n S))) (7 * its + 5 + t) (nI 0)) lg) H := hP
                                      have hD : va_D A (LW cI cP cS ad la S1 lp lo lq (upd (upd lb (7 * its + 3 + t) (nI (s_n S))) (7 * its + 5 + t) (nI 0)) lg) := hD
                                      refine x_if_lt (tgt := 270) hx hb (nI_ng (by omega)) dL_isCopied_263 (by decide) (fun c263 => ?_) (fun c263 => ?_)
                                      · exact c263.elim
                                      · refine lv_iconst (v := nI 1) hx hb dL_isCopied_266 (by decide) ?_
                                        refine lv_goto (tgt := 271) hx hb dL_isCopied_267 (by decide) ?_
                                        refine lv_istore (lv' := [(10, .int (nI 1)), (0, .ref (ad 0)), (1, .ref (la 2)), (2, .ref (la 3)), (3, .ref (la 4)), (4, .int (nI its)), (5, .int (nI t)), (6, .int (nI 1)), (7, .int (nI 1)), (8, .int (nI (qCnt (s_sr S1 its) (t * 12) 12))), (9, .int (nI (cq + 1))), (11, .int (nI w)), (12, .int (nI li)), (13, .int (nI 1)), (14, .int (nI d))]) hx hb dL_isCopied_271 hl (by decide) rfl (fun ls hl => ?_)
                                        refine x_iinc (k := 14) (o := 1) (v := d + 1) (lv' := [(14, .int (nI (d + 1))), (10, .int (nI 1)), (0, .ref (ad 0)), (1, .ref (la 2)), (2, .ref (la 3)), (3, .ref (la 4)), (4, .int (nI its)), (5, .int (nI t)), (6, .int (nI 1)), (7, .int (nI 1)), (8, .int (nI (qCnt (s_sr S1 its) (t * 12) 12))), (9, .int (nI (cq + 1))), (11, .int (nI w)), (12, .int (nI li)), (13, .int (nI 1))]) hx hb dL_isCopied_273 hl rfl rfl rfl (by decide) rfl (fun ls hl => ?_)
                                        refine lv_goto (tgt := 197) hx hb dL_isCopied_276 (by decide) ?_
                                        exact W.widen (by show _ ≤ 3 + 40 * w + 4 + 10 * (d + 1); omega) (by show _ ≤ 18 + 240 * w + 24 + 60 * (d + 1); omega) (ih197 (d + 1) (by show d + 1 ≤ 3; omega) (by show 3 - (d + 1) < 3 - d; omega) _ _ _ hP hD hS (lv_sub hl [2, 3, 4, 5, 6, 7, 8, 9, 10, 11, 1, 12, 13, 14, 0] rfl))
                · exfalso; omega
        · refine lv_iload hx hb dL_isCopied_19 (lv_at hl 0 rfl) ?_
          refine x_if_eq (tgt := 47) hx hb (nI_z (by omega)) dL_isCopied_21 (by decide) (fun c21 => ?_) (fun c21 => ?_)
          · exfalso; omega
          · refine lv_aload_n hx hb dL_isCopied_24 rfl (lv_at hl 3 rfl) ?_
            refine lv_bipush (v := nI 7) hx hb dL_isCopied_25 (by decide) ?_
            refine lv_iload hx hb dL_isCopied_27 (lv_at hl 5 rfl) ?_
            refine x_mul (k := 7 * its) hx hb dL_isCopied_29 rfl ?_
            refine lv_iconst (v := nI 1) hx hb dL_isCopied_30 (by decide) ?_
            refine x_add (k := (7 * its) + 1) hx hb dL_isCopied_31 rfl ?_
            refine x_ald (v := nI (s_st S its)) hx hb hK hP 40 0 rfl rfl (by omega) (by omega) (IN_b1 hI (by omega)) dL_isCopied_32 ?_
            refine lv_iconst (v := nI 1) hx hb dL_isCopied_33 (by decide) ?_
            refine x_cmp_ne (tgt := 47) hx hb (nI_eq (a := (s_st S its)) (b := 1) (by omega) (by omega)) dL_isCopied_34 (by decide) (fun c34 => ?_) (fun c34 => ?_)
            · refine lv_iconst (v := nI 0) hx hb dL_isCopied_47 (by decide) ?_
              refine lv_istore (lv' := [(7, .int (nI 0)), (6, .int (nI 1)), (0, .ref (ad 0)), (1, .ref (la 2)), (2, .ref (la 3)), (3, .ref (la 4)), (4, .int (nI its)), (5, .int (nI t))]) hx hb dL_isCopied_48 hl (by decide) rfl (fun ls hl => ?_)
              refine lv_aload_n hx hb dL_isCopied_50 rfl (lv_at hl 2 rfl) ?_
              refine lv_bipush (v := nI 9) hx hb dL_isCopied_51 (by decide) ?_
              refine lv_iload hx hb dL_isCopied_53 (lv_at hl 6 rfl) ?_
              refine lv_iload hx hb dL_isCopied_55 (lv_at hl 7 rfl) ?_
              refine lv_iconst (v := nI 0) hx hb dL_isCopied_57 (by decide) ?_
              refine lv_iconst (v := nI 0) hx hb dL_isCopied_58 (by decide) ?_
              refine lv_iconst (v := nI 0) hx hb dL_isCopied_59 (by decide) ?_
              refine x_calli (w2 := fun (S1 : S4) => LW cI cP cS ad la S1 lp lo lq lb lg) (wr := []) (x_runL (n := 7) ⟨hx, hb, hml, hown, hts⟩ (fD_copy l D cI cP cS cL hfl ad la lp lo lq lb lg (s_lim S) (s_n S) (s_rows S) (s_cc S) (s_ct S) (s_ck S) (s_nr S) (s_cr S) (s_old S) (s_rw S) (s_co S) (s_re S) (s_nu S) (s_ma S) (s_sr S) (s_cp S) (s_pu S) (s_st S) (s_sl S) (cl its) (bk (cl its)) cn (nI its) (nI t) (nI 0) (nI 0) (nI 0) (cl_lt its) (IN_f hI (cl_lt its)).2.2.1 hn50 (IN_cc hI) hcn12 (hsx_cl (by omega)) (IN_sts hI _ (cl_lt its)) (IN_pu hI (cl_lt its))) gL_isCopied_L_does rfl rfl rfl (by decide +kernel) ⟨by decide, by decide⟩ hN hK hP hD hS hA hE iLW rfl rfl rfl hl.1 (rest := []) (As := [.ref (ad 0), .int (nI 9), .int (nI its), .int (nI t), .int (nI 0), .int (nI 0), .int (nI 0)]) rfl (Nat.le_of_ble_eq_true rfl) dL_isCopied_60 ⟨by show _ ≤ 600; omega, by show _ ≤ 3600; omega⟩) hP hD hS hA iLW [] iLW rfl rfl rfl (by decide) rfl (fun _ => rfl) (fun r60 S1 H locs hw hP hD hS => ?_)
              obtain ⟨hr9, e8⟩ := (O_copy (IN_of hI) cl_of (by omega) (by omega) hw).2.1 hth.1 hth.2 hcan
              have e9 : S = S1 := (show S1 = S from e8).symm
              subst e9
              subst hr9
              have hP : va_P D vwCl (LW cI cP cS ad la S lp lo lq lb lg) H := hP
              have hD : va_D A (LW cI cP cS ad la S lp lo lq lb lg) := hD
              refine lv_istore (lv' := [(8, .int ((-10 : Int32))), (7, .int (nI 0)), (6, .int (nI 1)), (0, .ref (ad 0)), (1, .ref (la 2)), (2, .ref (la 3)), (3, .ref (la 4)), (4, .int (nI its)), (5, .int (nI t))]) hx hb dL_isCopied_63 hl (by decide) rfl (fun ls hl => ?_)
              refine lv_iload hx hb dL_isCopied_65 (lv_at hl 1 rfl) ?_
              refine x_if_ne (tgt := 93) hx hb (nI_z (by omega)) dL_isCopied_67 (by decide) (fun c67 => ?_) (fun c67 => ?_)
              · exfalso; omega
              · refine lv_iload hx hb dL_isCopied_70 (lv_at hl 0 rfl) ?_
                refine lv_iload hx hb dL_isCopied_72 (lv_at hl 2 rfl) ?_
                refine x_if_eq (tgt := 82) hx hb (nI_z (by omega)) dL_isCopied_74 (by decide) (fun c74 => ?_) (fun c74 => ?_)
                · exfalso; omega
                · refine lv_bipush (v := (-10 : Int32)) hx hb dL_isCopied_77 (by decide) ?_
                  refine lv_goto (tgt := 84) hx hb dL_isCopied_79 (by decide) ?_
                  refine x_cmp_ne (tgt := 91) hx hb (Iff.rfl) dL_isCopied_84 (by decide) (fun c84 => ?_) (fun c84 => ?_)
                  · exact absurd rfl c84
                  · refine lv_iconst (v := nI 1) hx hb dL_isCopied_87 (by decide) ?_
                    refine lv_goto (tgt := 92) hx hb dL_isCopied_88 (by decide) ?_
                    exact x_ret_z hx hb hrt (by first | exact Or.inl rfl | exact Or.inr rfl) hlk hP hD hS dL_isCopied_92 ⟨by omega, by omega⟩ ((S, lp, lo, lq, lb, lg)) ⟨rfl, ⟨bk, kc, mi, cn, hI⟩⟩ rfl
            · refine lv_aload_n hx hb dL_isCopied_37 rfl (lv_at hl 4 rfl) ?_
              refine lv_iconst (v := nI 1) hx hb dL_isCopied_38 (by decide) ?_
              refine x_ald (v := nI cn) hx hb hK hP 41 0 rfl rfl (by omega) (by omega) (IN_g1 hI) dL_isCopied_39 ?_
              refine x_if_ne (tgt := 47) hx hb (nI_z (by omega)) dL_isCopied_40 (by decide) (fun c40 => ?_) (fun c40 => ?_)
              · refine lv_iconst (v := nI 0) hx hb dL_isCopied_47 (by decide) ?_
                refine lv_istore (lv' := [(7, .int (nI 0)), (6, .int (nI 1)), (0, .ref (ad 0)), (1, .ref (la 2)), (2, .ref (la 3)), (3, .ref (la 4)), (4, .int (nI its)), (5, .int (nI t))]) hx hb dL_isCopied_48 hl (by decide) rfl (fun ls hl => ?_)
                refine lv_aload_n hx hb dL_isCopied_50 rfl (lv_at hl 2 rfl) ?_
                refine lv_bipush (v := nI 9) hx hb dL_isCopied_51 (by decide) ?_
                refine lv_iload hx hb dL_isCopied_53 (lv_at hl 6 rfl) ?_
                refine lv_iload hx hb dL_isCopied_55 (lv_at hl 7 rfl) ?_
                refine lv_iconst (v := nI 0) hx hb dL_isCopied_57 (by decide) ?_
                refine lv_iconst (v := nI 0) hx hb dL_isCopied_58 (by decide) ?_
                refine lv_iconst (v := nI 0) hx hb dL_isCopied_59 (by decide) ?_
                refine x_calli (w2 := fun (S1 : S4) => LW cI cP cS ad la S1 lp lo lq lb lg) (wr := []) (x_runL (n := 7) ⟨hx, hb, hml, hown, hts⟩ (fD_copy l D cI cP cS cL hfl ad la lp lo lq lb lg (s_lim S) (s_n S) (s_rows S) (s_cc S) (s_ct S) (s_ck S) (s_nr S) (s_cr S) (s_old S) (s_rw S) (s_co S) (s_re S) (s_nu S) (s_ma S) (s_sr S) (s_cp S) (s_pu S) (s_st S) (s_sl S) (cl its) (bk (cl its)) cn (nI its) (nI t) (nI 0) (nI 0) (nI 0) (cl_lt its) (IN_f hI (cl_lt its)).2.2.1 hn50 (IN_cc hI) hcn12 (hsx_cl (by omega)) (IN_sts hI _ (cl_lt its)) (IN_pu hI (cl_lt its))) gL_isCopied_L_does rfl rfl rfl (by decide +kernel) ⟨by decide, by decide⟩ hN hK hP hD hS hA hE iLW rfl rfl rfl hl.1 (rest := []) (As := [.ref (ad 0), .int (nI 9), .int (nI its), .int (nI t), .int (nI 0), .int (nI 0), .int (nI 0)]) rfl (Nat.le_of_ble_eq_true rfl) dL_isCopied_60 ⟨by show _ ≤ 600; omega, by show _ ≤ 3600; omega⟩) hP hD hS hA iLW [] iLW rfl rfl rfl (by decide) rfl (fun _ => rfl) (fun r60 S1 H locs hw hP hD hS => ?_)
                obtain ⟨hr9, e8⟩ := (O_copy (IN_of hI) cl_of (by omega) (by omega) hw).2.1 hth.1 hth.2 hcan
                have e9 : S = S1 := (show S1 = S from e8).symm
                subst e9
                subst hr9
                have hP : va_P D vwCl (LW cI cP cS ad la S lp lo lq lb lg) H := hP
                have hD : va_D A (LW cI cP cS ad la S lp lo lq lb lg) := hD
                refine lv_istore (lv' := [(8, .int ((-10 : Int32))), (7, .int (nI 0)), (6, .int (nI 1)), (0, .ref (ad 0)), (1, .ref (la 2)), (2, .ref (la 3)), (3, .ref (la 4)), (4, .int (nI its)), (5, .int (nI t))]) hx hb dL_isCopied_63 hl (by decide) rfl (fun ls hl => ?_)
                refine lv_iload hx hb dL_isCopied_65 (lv_at hl 1 rfl) ?_
                refine x_if_ne (tgt := 93) hx hb (nI_z (by omega)) dL_isCopied_67 (by decide) (fun c67 => ?_) (fun c67 => ?_)
                · exfalso; omega
                · refine lv_iload hx hb dL_isCopied_70 (lv_at hl 0 rfl) ?_
                  refine lv_iload hx hb dL_isCopied_72 (lv_at hl 2 rfl) ?_
                  refine x_if_eq (tgt := 82) hx hb (nI_z (by omega)) dL_isCopied_74 (by decide) (fun c74 => ?_) (fun c74 => ?_)
                  · exfalso; omega
                  · refine lv_bipush (v := (-10 : Int32)) hx hb dL_isCopied_77 (by decide) ?_
                    refine lv_goto (tgt := 84) hx hb dL_isCopied_79 (by decide) ?_
                    refine x_cmp_ne (tgt := 91) hx hb (Iff.rfl) dL_isCopied_84 (by decide) (fun c84 => ?_) (fun c84 => ?_)
                    · exact absurd rfl c84
                    · refine lv_iconst (v := nI 1) hx hb dL_isCopied_87 (by decide) ?_
                      refine lv_goto (tgt := 92) hx hb dL_isCopied_88 (by decide) ?_
                      exact x_ret_z hx hb hrt (by first | exact Or.inl rfl | exact Or.inr rfl) hlk hP hD hS dL_isCopied_92 ⟨by omega, by omega⟩ ((S, lp, lo, lq, lb, lg)) ⟨rfl, ⟨bk, kc, mi, cn, hI⟩⟩ rfl
              · exfalso; omega
  · refine lv_iload hx hb dL_isCopied_0 (lv_at hl 4 rfl) ?_
    refine lv_iconst (v := nI 3) hx hb dL_isCopied_2 (by decide) ?_
    refine x_cmp_ge (tgt := 16) hx hb (nI_leI (a := 3) (b := its) (by omega) (by omega)) dL_isCopied_3 (by decide) (fun c3 => ?_) (fun c3 => ?_)
    · refine lv_iconst (v := nI 0) hx hb dL_isCopied_16 (by decide) ?_
      refine lv_istore (lv' := [(6, .int (nI 0)), (0, .ref (ad 0)), (1, .ref (la 2)), (2, .ref (la 3)), (3, .ref (la 4)), (4, .int (nI its)), (5, .int (nI t))]) hx hb dL_isCopied_17 hl (by decide) rfl (fun ls hl => ?_)
      refine lv_iload hx hb dL_isCopied_19 (lv_at hl 0 rfl) ?_
      refine x_if_eq (tgt := 47) hx hb (nI_z (by omega)) dL_isCopied_21 (by decide) (fun c21 => ?_) (fun c21 => ?_)
      · refine lv_iconst (v := nI 0) hx hb dL_isCopied_47 (by decide) ?_
        refine lv_istore (lv' := [(7, .int (nI 0)), (6, .int (nI 0)), (0, .ref (ad 0)), (1, .ref (la 2)), (2, .ref (la 3)), (3, .ref (la 4)), (4, .int (nI its)), (5, .int (nI t))]) hx hb dL_isCopied_48 hl (by decide) rfl (fun ls hl => ?_)
        refine lv_aload_n hx hb dL_isCopied_50 rfl (lv_at hl 2 rfl) ?_
        refine lv_bipush (v := nI 9) hx hb dL_isCopied_51 (by decide) ?_
        refine lv_iload hx hb dL_isCopied_53 (lv_at hl 6 rfl) ?_
        refine lv_iload hx hb dL_isCopied_55 (lv_at hl 7 rfl) ?_
        refine lv_iconst (v := nI 0) hx hb dL_isCopied_57 (by decide) ?_
        refine lv_iconst (v := nI 0) hx hb dL_isCopied_58 (by decide) ?_
        refine lv_iconst (v := nI 0) hx hb dL_isCopied_59 (by decide) ?_
        refine x_calli (w2 := fun (S1 : S4) => LW cI cP cS ad la S1 lp lo lq lb lg) (wr := []) (x_runL (n := 7) ⟨hx, hb, hml, hown, hts⟩ (fD_copy l D cI cP cS cL hfl ad la lp lo lq lb lg (s_lim S) (s_n S) (s_rows S) (s_cc S) (s_ct S) (s_ck S) (s_nr S) (s_cr S) (s_old S) (s_rw S) (s_co S) (s_re S) (s_nu S) (s_ma S) (s_sr S) (s_cp S) (s_pu S) (s_st S) (s_sl S) (cl its) (bk (cl its)) cn (nI its) (nI t) (nI 0) (nI 0) (nI 0) (cl_lt its) (IN_f hI (cl_lt its)).2.2.1 hn50 (IN_cc hI) hcn12 (hsx_cl (by omega)) (IN_sts hI _ (cl_lt its)) (IN_pu hI (cl_lt its))) gL_isCopied_L_does rfl rfl rfl (by decide +kernel) ⟨by decide, by decide⟩ hN hK hP hD hS hA hE iLW rfl rfl rfl hl.1 (rest := []) (As := [.ref (ad 0), .int (nI 9), .int (nI its), .int (nI t), .int (nI 0), .int (nI 0), .int (nI 0)]) rfl (Nat.le_of_ble_eq_true rfl) dL_isCopied_60 ⟨by show _ ≤ 600; omega, by show _ ≤ 3600; omega⟩) hP hD hS hA iLW [] iLW rfl rfl rfl (by decide) rfl (fun _ => rfl) (fun r60 S1 H locs hw hP hD hS => ?_)
        obtain ⟨hr9, e8⟩ := (O_copy (IN_of hI) cl_of (by omega) (by omega) hw).1 hth
        have e9 : S = S1 := (show S1 = S from e8).symm
        subst e9
        subst hr9
        have hP : va_P D vwCl (LW cI cP cS ad la S lp lo lq lb lg) H := hP
        have hD : va_D A (LW cI cP cS ad la S lp lo lq lb lg) := hD
        refine lv_istore (lv' := [(8, .int ((-30 : Int32))), (7, .int (nI 0)), (6, .int (nI 0)), (0, .ref (ad 0)), (1, .ref (la 2)), (2, .ref (la 3)), (3, .ref (la 4)), (4, .int (nI its)), (5, .int (nI t))]) hx hb dL_isCopied_63 hl (by decide) rfl (fun ls hl => ?_)
        refine lv_iload hx hb dL_isCopied_65 (lv_at hl 1 rfl) ?_
        refine x_if_ne (tgt := 93) hx hb (nI_z (by omega)) dL_isCopied_67 (by decide) (fun c67 => ?_) (fun c67 => ?_)
        · exfalso; omega
        · refine lv_iload hx hb dL_isCopied_70 (lv_at hl 0 rfl) ?_
          refine lv_iload hx hb dL_isCopied_72 (lv_at hl 2 rfl) ?_
          refine x_if_eq (tgt := 82) hx hb (nI_z (by omega)) dL_isCopied_74 (by decide) (fun c74 => ?_) (fun c74 => ?_)
          · refine lv_bipush (v := (-30 : Int32)) hx hb dL_isCopied_82 (by decide) ?_
            refine x_cmp_ne (tgt := 91) hx hb (Iff.rfl) dL_isCopied_84 (by decide) (fun c84 => ?_) (fun c84 => ?_)
            · exact absurd rfl c84
            · refine lv_iconst (v := nI 1) hx hb dL_isCopied_87 (by decide) ?_
              refine lv_goto (tgt := 92) hx hb dL_isCopied_88 (by decide) ?_
              exact x_ret_z hx hb hrt (by first | exact Or.inl rfl | exact Or.inr rfl) hlk hP hD hS dL_isCopied_92 ⟨by omega, by omega⟩ ((S, lp, lo, lq, lb, lg)) ⟨rfl, ⟨bk, kc, mi, cn, hI⟩⟩ rfl
          · exfalso; omega
      · exfalso; omega
    · refine lv_iload hx hb dL_isCopied_6 (lv_at hl 5 rfl) ?_
      refine lv_iconst (v := nI 2) hx hb dL_isCopied_8 (by decide) ?_
      refine x_cmp_ge (tgt := 16) hx hb (nI_leI (a := 2) (b := t) (by omega) (by omega)) dL_isCopied_9 (by decide) (fun c9 => ?_) (fun c9 => ?_)
      · refine lv_iconst (v := nI 0) hx hb dL_isCopied_16 (by decide) ?_
        refine lv_istore (lv' := [(6, .int (nI 0)), (0, .ref (ad 0)), (1, .ref (la 2)), (2, .ref (la 3)), (3, .ref (la 4)), (4, .int (nI its)), (5, .int (nI t))]) hx hb dL_isCopied_17 hl (by decide) rfl (fun ls hl => ?_)
        refine lv_iload hx hb dL_isCopied_19 (lv_at hl 0 rfl) ?_
        refine x_if_eq (tgt := 47) hx hb (nI_z (by omega)) dL_isCopied_21 (by decide) (fun c21 => ?_) (fun c21 => ?_)
        · refine lv_iconst (v := nI 0) hx hb dL_isCopied_47 (by decide) ?_
          refine lv_istore (lv' := [(7, .int (nI 0)), (6, .int (nI 0)), (0, .ref (ad 0)), (1, .ref (la 2)), (2, .ref (la 3)), (3, .ref (la 4)), (4, .int (nI its)), (5, .int (nI t))]) hx hb dL_isCopied_48 hl (by decide) rfl (fun ls hl => ?_)
          refine lv_aload_n hx hb dL_isCopied_50 rfl (lv_at hl 2 rfl) ?_
          refine lv_bipush (v := nI 9) hx hb dL_isCopied_51 (by decide) ?_
          refine lv_iload hx hb dL_isCopied_53 (lv_at hl 6 rfl) ?_
          refine lv_iload hx hb dL_isCopied_55 (lv_at hl 7 rfl) ?_
          refine lv_iconst (v := nI 0) hx hb dL_isCopied_57 (by decide) ?_
          refine lv_iconst (v := nI 0) hx hb dL_isCopied_58 (by decide) ?_
          refine lv_iconst (v := nI 0) hx hb dL_isCopied_59 (by decide) ?_
          refine x_calli (w2 := fun (S1 : S4) => LW cI cP cS ad la S1 lp lo lq lb lg) (wr := []) (x_runL (n := 7) ⟨hx, hb, hml, hown, hts⟩ (fD_copy l D cI cP cS cL hfl ad la lp lo lq lb lg (s_lim S) (s_n S) (s_rows S) (s_cc S) (s_ct S) (s_ck S) (s_nr S) (s_cr S) (s_old S) (s_rw S) (s_co S) (s_re S) (s_nu S) (s_ma S) (s_sr S) (s_cp S) (s_pu S) (s_st S) (s_sl S) (cl its) (bk (cl its)) cn (nI its) (nI t) (nI 0) (nI 0) (nI 0) (cl_lt its) (IN_f hI (cl_lt its)).2.2.1 hn50 (IN_cc hI) hcn12 (hsx_cl (by omega)) (IN_sts hI _ (cl_lt its)) (IN_pu hI (cl_lt its))) gL_isCopied_L_does rfl rfl rfl (by decide +kernel) ⟨by decide, by decide⟩ hN hK hP hD hS hA hE iLW rfl rfl rfl hl.1 (rest := []) (As := [.ref (ad 0), .int (nI 9), .int (nI its), .int (nI t), .int (nI 0), .int (nI 0), .int (nI 0)]) rfl (Nat.le_of_ble_eq_true rfl) dL_isCopied_60 ⟨by show _ ≤ 600; omega, by show _ ≤ 3600; omega⟩) hP hD hS hA iLW [] iLW rfl rfl rfl (by decide) rfl (fun _ => rfl) (fun r60 S1 H locs hw hP hD hS => ?_)
          obtain ⟨hr9, e8⟩ := (O_copy (IN_of hI) cl_of (by omega) (by omega) hw).1 hth
          have e9 : S = S1 := (show S1 = S from e8).symm
          subst e9
          subst hr9
          have hP : va_P D vwCl (LW cI cP cS ad la S lp lo lq lb lg) H := hP
          have hD : va_D A (LW cI cP cS ad la S lp lo lq lb lg) := hD
          refine lv_istore (lv' := [(8, .int ((-30 : Int32))), (7, .int (nI 0)), (6, .int (nI 0)), (0, .ref (ad 0)), (1, .ref (la 2)), (2, .ref (la 3)), (3, .ref (la 4)), (4, .int (nI its)), (5, .int (nI t))]) hx hb dL_isCopied_63 hl (by decide) rfl (fun ls hl => ?_)
          refine lv_iload hx hb dL_isCopied_65 (lv_at hl 1 rfl) ?_
          refine x_if_ne (tgt := 93) hx hb (nI_z (by omega)) dL_isCopied_67 (by decide) (fun c67 => ?_) (fun c67 => ?_)
          · exfalso; omega
          · refine lv_iload hx hb dL_isCopied_70 (lv_at hl 0 rfl) ?_
            refine lv_iload hx hb dL_isCopied_72 (lv_at hl 2 rfl) ?_
            refine x_if_eq (tgt := 82) hx hb (nI_z (by omega)) dL_isCopied_74 (by decide) (fun c74 => ?_) (fun c74 => ?_)
            · refine lv_bipush (v := (-30 : Int32)) hx hb dL_isCopied_82 (by decide) ?_
              refine x_cmp_ne (tgt := 91) hx hb (Iff.rfl) dL_isCopied_84 (by decide) (fun c84 => ?_) (fun c84 => ?_)
              · exact absurd rfl c84
              · refine lv_iconst (v := nI 1) hx hb dL_isCopied_87 (by decide) ?_
                refine lv_goto (tgt := 92) hx hb dL_isCopied_88 (by decide) ?_
                exact x_ret_z hx hb hrt (by first | exact Or.inl rfl | exact Or.inr rfl) hlk hP hD hS dL_isCopied_92 ⟨by omega, by omega⟩ ((S, lp, lo, lq, lb, lg)) ⟨rfl, ⟨bk, kc, mi, cn, hI⟩⟩ rfl
            · exfalso; omega
        · exfalso; omega
      · exfalso; omega
