theorem bI_k3 {a b c : Nat} (ha : a < 100) (hb : b < 100) (hc : c < 100) : bI (decide (¬ nI (k3 a b c) = -1)) = nI 1 := bI_d (fun z => (nI_m1 (by have := k3_lt ha hb hc; omega)).mp z)
set_option maxHeartbeats 8000000 in
set_option maxRecDepth 100000 in
theorem zL_isDone (l : Launch) (D : va_G) (cI cP cS cL : ClassId) (hfl : l.stackTraces = false) (ad la : Nat → Nat) (hinj : ∀ x y, x < 3 → y < 3 → ad (13 + 5 * x) = ad (13 + 5 * y) → x = y) (S : S4) (lp lo lq lb lg : qF) (sb L a9 : Nat) (xs : Nat → Int32) (hL : L ≤ 260) (ha9 : a9 < 900) (hI0 : INE ad S lp lo lq lb lg) : xRi l yL_isDone wsL_isDone (rmD 13 700 4200) D [(cI, .int), (cP, .object RX0), (cS, .object RX2)] sb L xs [.ref (ad 0), .ref sb, .int (nI a9), .ref (la 0), .ref (la 1), .ref (la 2), .ref (la 3), .ref (la 4)] (LW cI cP cS ad la S lp lo lq lb lg) (fun (r : Int32) (T : LT) => r = nI 1 ∧ INT ad T) (fun (T : LT) => LWt cI cP cS ad la T) 700 4200 := by
  refine xe_R (cc := cL_isDone) (maxL := 18) (ret := (some .boolean)) (by decide) rfl (Nat.le_of_ble_eq_true rfl) ?_
  intro zp ze s zm below meth zc A ls B hE hX hbl hbA
  obtain ⟨hx, hb, hml, hrt, hts, hown, hnm, hlk, hK, hP, hD, hA, hS, hN, hl⟩ := B
  have hown : s.vm.findClass RL = some zm.cls := hown
  have hl : lv_has ls 18 [(0, .ref (ad 0)), (1, .ref sb), (2, .int (nI a9)), (3, .ref (la 0)), (4, .ref (la 1)), (5, .ref (la 2)), (6, .ref (la 3)), (7, .ref (la 4))] := hl
  have hA : ∀ q, s.heap.size ≤ q → A q := hA
  obtain ⟨bk, kc, mi, cn, hI⟩ := hI0
  have hn50 := IN_n hI
  have hlim50 := IN_lim hI
  have hcn12 := IN_cn hI
  refine lv_aload_n hx hb dL_isDone_0 rfl (lv_at hl 1 rfl) ?_
  refine lv_iload_n hx hb dL_isDone_1 rfl (lv_at hl 2 rfl) ?_
  refine lv_bipush (v := nI 40) hx hb dL_isDone_2 (by decide) ?_
  refine x_calli (w2 := fun (u9 : Unit) => LW cI cP cS ad la S lp lo lq lb lg) (wr := []) (x_runR (n := 3) ⟨hx, hb, hml, hown, hts⟩ (zL_part l D cI cP cS cL hfl ad la hinj S lp lo lq lb lg sb L a9 40 xs hL (by omega) (by omega) (by omega)) gL_isDone_L_part rfl rfl rfl (by decide +kernel) ⟨by decide, by decide⟩ hN hK hP hD hS hA hE iLW rfl rfl hX hbl hbA rfl hl.1 (rest := []) (As := [.ref sb, .int (nI a9), .int (nI 40)]) rfl (Nat.le_of_ble_eq_true rfl) dL_isDone_4 ⟨by show _ ≤ 700; omega, by show _ ≤ 4200; omega⟩) hP hD hS hA iLW [] iLW rfl rfl rfl (by decide) rfl (fun _ => rfl) (fun r4 u9 H locs hw hP hD hS => ?_)
  obtain ⟨wh, hw1, hr9⟩ := hw
  subst hr9
  have hP : va_P D vwCl (LW cI cP cS ad la S lp lo lq lb lg) H := hP
  have hD : va_D A (LW cI cP cS ad la S lp lo lq lb lg) := hD
  refine lv_istore (lv' := [(8, .int (nI wh)), (0, .ref (ad 0)), (1, .ref sb), (2, .int (nI a9)), (3, .ref (la 0)), (4, .ref (la 1)), (5, .ref (la 2)), (6, .ref (la 3)), (7, .ref (la 4))]) hx hb dL_isDone_7 hl (by decide) rfl (fun ls hl => ?_)
  refine lv_aload_n hx hb dL_isDone_9 rfl (lv_at hl 2 rfl) ?_
  refine lv_iload_n hx hb dL_isDone_10 rfl (lv_at hl 3 rfl) ?_
  refine lv_iconst (v := nI 1) hx hb dL_isDone_11 (by decide) ?_
  refine x_add (k := a9 + 1) hx hb dL_isDone_12 rfl ?_
  refine lv_sipush (v := nI 6000) hx hb dL_isDone_13 (by decide) ?_
  refine x_calli (w2 := fun (u9 : Unit) => LW cI cP cS ad la S lp lo lq lb lg) (wr := []) (x_runR (n := 3) ⟨hx, hb, hml, hown, hts⟩ (zL_part l D cI cP cS cL hfl ad la hinj S lp lo lq lb lg sb L (a9 + 1) 6000 xs hL (by omega) (by omega) (by omega)) gL_isDone_L_part rfl rfl rfl (by decide +kernel) ⟨by decide, by decide⟩ hN hK hP hD hS hA hE iLW rfl rfl hX hbl hbA rfl hl.1 (rest := []) (As := [.ref sb, .int (nI (a9 + 1)), .int (nI 6000)]) rfl (Nat.le_of_ble_eq_true rfl) dL_isDone_16 ⟨by show _ ≤ 700; omega, by show _ ≤ 4200; omega⟩) hP hD hS hA iLW [] iLW rfl rfl rfl (by decide) rfl (fun _ => rfl) (fun r16 u9 H locs hw hP hD hS => ?_)
  obtain ⟨one, hw2, hr9⟩ := hw
  subst hr9
  have hP : va_P D vwCl (LW cI cP cS ad la S lp lo lq lb lg) H := hP
  have hD : va_D A (LW cI cP cS ad la S lp lo lq lb lg) := hD
  refine lv_istore (lv' := [(9, .int (nI one)), (8, .int (nI wh)), (0, .ref (ad 0)), (1, .ref sb), (2, .int (nI a9)), (3, .ref (la 0)), (4, .ref (la 1)), (5, .ref (la 2)), (6, .ref (la 3)), (7, .ref (la 4))]) hx hb dL_isDone_19 hl (by decide) rfl (fun ls hl => ?_)
  refine lv_aload_n hx hb dL_isDone_21 rfl (lv_at hl 3 rfl) ?_
  refine lv_iload_n hx hb dL_isDone_22 rfl (lv_at hl 4 rfl) ?_
  refine lv_iconst (v := nI 2) hx hb dL_isDone_23 (by decide) ?_
  refine x_add (k := a9 + 2) hx hb dL_isDone_24 rfl ?_
  refine lv_sipush (v := nI 7000) hx hb dL_isDone_25 (by decide) ?_
  refine x_calli (w2 := fun (u9 : Unit) => LW cI cP cS ad la S lp lo lq lb lg) (wr := []) (x_runR (n := 3) ⟨hx, hb, hml, hown, hts⟩ (zL_part l D cI cP cS cL hfl ad la hinj S lp lo lq lb lg sb L (a9 + 2) 7000 xs hL (by omega) (by omega) (by omega)) gL_isDone_L_part rfl rfl rfl (by decide +kernel) ⟨by decide, by decide⟩ hN hK hP hD hS hA hE iLW rfl rfl hX hbl hbA rfl hl.1 (rest := []) (As := [.ref sb, .int (nI (a9 + 2)), .int (nI 7000)]) rfl (Nat.le_of_ble_eq_true rfl) dL_isDone_28 ⟨by show _ ≤ 700; omega, by show _ ≤ 4200; omega⟩) hP hD hS hA iLW [] iLW rfl rfl rfl (by decide) rfl (fun _ => rfl) (fun r28 u9 H locs hw hP hD hS => ?_)
  obtain ⟨two, hw3, hr9⟩ := hw
  subst hr9
  have hP : va_P D vwCl (LW cI cP cS ad la S lp lo lq lb lg) H := hP
  have hD : va_D A (LW cI cP cS ad la S lp lo lq lb lg) := hD
  refine lv_istore (lv' := [(10, .int (nI two)), (9, .int (nI one)), (8, .int (nI wh)), (0, .ref (ad 0)), (1, .ref sb), (2, .int (nI a9)), (3, .ref (la 0)), (4, .ref (la 1)), (5, .ref (la 2)), (6, .ref (la 3)), (7, .ref (la 4))]) hx hb dL_isDone_31 hl (by decide) rfl (fun ls hl => ?_)
  refine lv_aload_n hx hb dL_isDone_33 rfl (lv_at hl 4 rfl) ?_
  refine lv_iload_n hx hb dL_isDone_34 rfl (lv_at hl 5 rfl) ?_
  refine lv_iconst (v := nI 3) hx hb dL_isDone_35 (by decide) ?_
  refine x_add (k := a9 + 3) hx hb dL_isDone_36 rfl ?_
  refine lv_sipush (v := nI 8000) hx hb dL_isDone_37 (by decide) ?_
  refine x_calli (w2 := fun (u9 : Unit) => LW cI cP cS ad la S lp lo lq lb lg) (wr := []) (x_runR (n := 3) ⟨hx, hb, hml, hown, hts⟩ (zL_part l D cI cP cS cL hfl ad la hinj S lp lo lq lb lg sb L (a9 + 3) 8000 xs hL (by omega) (by omega) (by omega)) gL_isDone_L_part rfl rfl rfl (by decide +kernel) ⟨by decide, by decide⟩ hN hK hP hD hS hA hE iLW rfl rfl hX hbl hbA rfl hl.1 (rest := []) (As := [.ref sb, .int (nI (a9 + 3)), .int (nI 8000)]) rfl (Nat.le_of_ble_eq_true rfl) dL_isDone_40 ⟨by show _ ≤ 700; omega, by show _ ≤ 4200; omega⟩) hP hD hS hA iLW [] iLW rfl rfl rfl (by decide) rfl (fun _ => rfl) (fun r40 u9 H locs hw hP hD hS => ?_)
  obtain ⟨three, hw4, hr9⟩ := hw
  subst hr9
  have hP : va_P D vwCl (LW cI cP cS ad la S lp lo lq lb lg) H := hP
  have hD : va_D A (LW cI cP cS ad la S lp lo lq lb lg) := hD
  refine lv_istore (lv' := [(11, .int (nI three)), (10, .int (nI two)), (9, .int (nI one)), (8, .int (nI wh)), (0, .ref (ad 0)), (1, .ref sb), (2, .int (nI a9)), (3, .ref (la 0)), (4, .ref (la 1)), (5, .ref (la 2)), (6, .ref (la 3)), (7, .ref (la 4))]) hx hb dL_isDone_43 hl (by decide) rfl (fun ls hl => ?_)
  refine x_join (nL := 18) (D := D) (A := A) (H0 := s.heap) (fun (its : Nat) => its ≤ 3) 61 (fun (its : Nat) => 0) (fun (its : Nat) => 0) (fun (its : Nat) => LW cI cP cS ad la S lp lo lq lb lg) (fun (its : Nat) => [(0, .ref (ad 0)), (1, .ref sb), (2, .int (nI a9)), (3, .ref (la 0)), (4, .ref (la 1)), (5, .ref (la 2)), (6, .ref (la 3)), (7, .ref (la 4)), (8, .int (nI wh)), (9, .int (nI one)), (10, .int (nI two)), (11, .int (nI three))]) (fun (its : Nat) => [.int (nI its)]) ?_ ?_
  · intro x9 hj9 H locs ls hP hD hS hl
    obtain ⟨its, h9⟩ : ∃ z, z = x9 := ⟨x9, rfl⟩
    subst h9
    have hP : va_P D vwCl (LW cI cP cS ad la S lp lo lq lb lg) H := hP
    have hD : va_D A (LW cI cP cS ad la S lp lo lq lb lg) := hD
    have hl : lv_has ls 18 [(0, .ref (ad 0)), (1, .ref sb), (2, .int (nI a9)), (3, .ref (la 0)), (4, .ref (la 1)), (5, .ref (la 2)), (6, .ref (la 3)), (7, .ref (la 4)), (8, .int (nI wh)), (9, .int (nI one)), (10, .int (nI two)), (11, .int (nI three))] := hl
    show W _ _ _ _ _ _ _ _ _ _ _ _ (0) (0) _ _
    have hi9 := hj9
    refine lv_istore (lv' := [(12, .int (nI its)), (0, .ref (ad 0)), (1, .ref sb), (2, .int (nI a9)), (3, .ref (la 0)), (4, .ref (la 1)), (5, .ref (la 2)), (6, .ref (la 3)), (7, .ref (la 4)), (8, .int (nI wh)), (9, .int (nI one)), (10, .int (nI two)), (11, .int (nI three))]) hx hb dL_isDone_61 hl (by decide) rfl (fun ls hl => ?_)
    refine x_join (nL := 18) (D := D) (A := A) (H0 := s.heap) (fun (t : Nat) => t ≤ 2) 79 (fun (t : Nat) => 0) (fun (t : Nat) => 0) (fun (t : Nat) => LW cI cP cS ad la S lp lo lq lb lg) (fun (t : Nat) => [(0, .ref (ad 0)), (1, .ref sb), (2, .int (nI a9)), (3, .ref (la 0)), (4, .ref (la 1)), (5, .ref (la 2)), (6, .ref (la 3)), (7, .ref (la 4)), (8, .int (nI wh)), (9, .int (nI one)), (10, .int (nI two)), (11, .int (nI three)), (12, .int (nI its))]) (fun (t : Nat) => [.int (nI t)]) ?_ ?_
    · intro x9 hj9 H locs ls hP hD hS hl
      obtain ⟨t, h9⟩ : ∃ z, z = x9 := ⟨x9, rfl⟩
      subst h9
      have hP : va_P D vwCl (LW cI cP cS ad la S lp lo lq lb lg) H := hP
      have hD : va_D A (LW cI cP cS ad la S lp lo lq lb lg) := hD
      have hl : lv_has ls 18 [(0, .ref (ad 0)), (1, .ref sb), (2, .int (nI a9)), (3, .ref (la 0)), (4, .ref (la 1)), (5, .ref (la 2)), (6, .ref (la 3)), (7, .ref (la 4)), (8, .int (nI wh)), (9, .int (nI one)), (10, .int (nI two)), (11, .int (nI three)), (12, .int (nI its))] := hl
      show W _ _ _ _ _ _ _ _ _ _ _ _ (0) (0) _ _
      have ht9 := hj9
      refine lv_istore (lv' := [(13, .int (nI t)), (0, .ref (ad 0)), (1, .ref sb), (2, .int (nI a9)), (3, .ref (la 0)), (4, .ref (la 1)), (5, .ref (la 2)), (6, .ref (la 3)), (7, .ref (la 4)), (8, .int (nI wh)), (9, .int (nI one)), (10, .int (nI two)), (11, .int (nI three)), (12, .int (nI its))]) hx hb dL_isDone_79 hl (by decide) rfl (fun ls hl => ?_)
      refine lv_iload hx hb dL_isDone_81 (lv_at hl 9 rfl) ?_
      refine lv_bipush (v := nI 13) hx hb dL_isDone_83 (by decide) ?_
      refine x_cmp_ge (tgt := 125) hx hb (nI_leI (a := 13) (b := wh) (by omega) (by omega)) dL_isDone_85 (by decide) (fun c85 => ?_) (fun c85 => ?_)
      · refine lv_iload hx hb dL_isDone_125 (lv_at hl 9 rfl) ?_
        refine lv_bipush (v := nI 18) hx hb dL_isDone_127 (by decide) ?_
        refine x_cmp_ge (tgt := 226) hx hb (nI_leI (a := 18) (b := wh) (by omega) (by omega)) dL_isDone_129 (by decide) (fun c129 => ?_) (fun c129 => ?_)
        · refine lv_iload hx hb dL_isDone_226 (lv_at hl 9 rfl) ?_
          refine lv_bipush (v := nI 18) hx hb dL_isDone_228 (by decide) ?_
          refine x_cmp_ne (tgt := 284) hx hb (nI_eq (a := wh) (b := 18) (by omega) (by omega)) dL_isDone_230 (by decide) (fun c230 => ?_) (fun c230 => ?_)
          · refine lv_iload hx hb dL_isDone_284 (lv_at hl 9 rfl) ?_
            refine lv_bipush (v := nI 19) hx hb dL_isDone_286 (by decide) ?_
            refine x_cmp_ne (tgt := 357) hx hb (nI_eq (a := wh) (b := 19) (by omega) (by omega)) dL_isDone_288 (by decide) (fun c288 => ?_) (fun c288 => ?_)
            · refine lv_iload hx hb dL_isDone_357 (lv_at hl 9 rfl) ?_
              refine lv_bipush (v := nI 23) hx hb dL_isDone_359 (by decide) ?_
              refine x_cmp_ge (tgt := 392) hx hb (nI_leI (a := 23) (b := wh) (by omega) (by omega)) dL_isDone_361 (by decide) (fun c361 => ?_) (fun c361 => ?_)
              · refine lv_iload hx hb dL_isDone_392 (lv_at hl 9 rfl) ?_
                refine lv_bipush (v := nI 26) hx hb dL_isDone_394 (by decide) ?_
                refine x_cmp_ge (tgt := 532) hx hb (nI_leI (a := 26) (b := wh) (by omega) (by omega)) dL_isDone_396 (by decide) (fun c396 => ?_) (fun c396 => ?_)
                · refine lv_iload hx hb dL_isDone_532 (lv_at hl 9 rfl) ?_
                  refine lv_bipush (v := nI 26) hx hb dL_isDone_534 (by decide) ?_
                  refine x_cmp_ne (tgt := 623) hx hb (nI_eq (a := wh) (b := 26) (by omega) (by omega)) dL_isDone_536 (by decide) (fun c536 => ?_) (fun c536 => ?_)
                  · refine lv_iload hx hb dL_isDone_623 (lv_at hl 9 rfl) ?_
                    refine lv_bipush (v := nI 31) hx hb dL_isDone_625 (by decide) ?_
                    refine x_cmp_ge (tgt := 645) hx hb (nI_leI (a := 31) (b := wh) (by omega) (by omega)) dL_isDone_627 (by decide) (fun c627 => ?_) (fun c627 => ?_)
                    · refine lv_iload hx hb dL_isDone_645 (lv_at hl 9 rfl) ?_
                      refine lv_bipush (v := nI 36) hx hb dL_isDone_647 (by decide) ?_
                      refine x_cmp_ge (tgt := 683) hx hb (nI_leI (a := 36) (b := wh) (by omega) (by omega)) dL_isDone_649 (by decide) (fun c649 => ?_) (fun c649 => ?_)
                      · refine lv_iload hx hb dL_isDone_683 (lv_at hl 9 rfl) ?_
                        refine lv_bipush (v := nI 36) hx hb dL_isDone_685 (by decide) ?_
                        refine x_cmp_ne (tgt := 869) hx hb (nI_eq (a := wh) (b := 36) (by omega) (by omega)) dL_isDone_687 (by decide) (fun c687 => ?_) (fun c687 => ?_)
                        · refine x_join (nL := 18) (D := D) (A := A) (H0 := s.heap) (fun (key : Nat) => key ≤ 12) 887 (fun (key : Nat) => 0) (fun (key : Nat) => 0) (fun (key : Nat) => LW cI cP cS ad la S lp lo lq lb lg) (fun (key : Nat) => [(0, .ref (ad 0)), (1, .ref sb), (2, .int (nI a9)), (3, .ref (la 0)), (4, .ref (la 1)), (5, .ref (la 2)), (6, .ref (la 3)), (7, .ref (la 4)), (8, .int (nI wh)), (9, .int (nI one)), (10, .int (nI two)), (11, .int (nI three)), (12, .int (nI its)), (13, .int (nI t))]) (fun (key : Nat) => [.int (nI key)]) ?_ ?_
                          · intro x9 hj9 H locs ls hP hD hS hl
                            obtain ⟨key, h9⟩ : ∃ z, z = x9 := ⟨x9, rfl⟩
                            subst h9
                            have hP : va_P D vwCl (LW cI cP cS ad la S lp lo lq lb lg) H := hP
                            have hD : va_D A (LW cI cP cS ad la S lp lo lq lb lg) := hD
                            have hl : lv_has ls 18 [(0, .ref (ad 0)), (1, .ref sb), (2, .int (nI a9)), (3, .ref (la 0)), (4, .ref (la 1)), (5, .ref (la 2)), (6, .ref (la 3)), (7, .ref (la 4)), (8, .int (nI wh)), (9, .int (nI one)), (10, .int (nI two)), (11, .int (nI three)), (12, .int (nI its)), (13, .int (nI t))] := hl
                            show W _ _ _ _ _ _ _ _ _ _ _ _ (0) (0) _ _
                            have hky9 := hj9
                            refine lv_istore (lv' := [(14, .int (nI key)), (0, .ref (ad 0)), (1, .ref sb), (2, .int (nI a9)), (3, .ref (la 0)), (4, .ref (la 1)), (5, .ref (la 2)), (6, .ref (la 3)), (7, .ref (la 4)), (8, .int (nI wh)), (9, .int (nI one)), (10, .int (nI two)), (11, .int (nI three)), (12, .int (nI its)), (13, .int (nI t))]) hx hb dL_isDone_887 hl (by decide) rfl (fun ls hl => ?_)
                            refine x_join (nL := 18) (D := D) (A := A) (H0 := s.heap) (fun (num : Nat) => num ≤ 101) 909 (fun (num : Nat) => 0) (fun (num : Nat) => 0) (fun (num : Nat) => LW cI cP cS ad la S lp lo lq lb lg) (fun (num : Nat) => [(0, .ref (ad 0)), (1, .ref sb), (2, .int (nI a9)), (3, .ref (la 0)), (4, .ref (la 1)), (5, .ref (la 2)), (6, .ref (la 3)), (7, .ref (la 4)), (8, .int (nI wh)), (9, .int (nI one)), (10, .int (nI two)), (11, .int (nI three)), (12, .int (nI its)), (13, .int (nI t)), (14, .int (nI key))]) (fun (num : Nat) => [.int (eX num)]) ?_ ?_
                            · intro x9 hj9 H locs ls hP hD hS hl
                              obtain ⟨num, h9⟩ : ∃ z, z = x9 := ⟨x9, rfl⟩
                              subst h9
                              have hP : va_P D vwCl (LW cI cP cS ad la S lp lo lq lb lg) H := hP
                              have hD : va_D A (LW cI cP cS ad la S lp lo lq lb lg) := hD
                              have hl : lv_has ls 18 [(0, .ref (ad 0)), (1, .ref sb), (2, .int (nI a9)), (3, .ref (la 0)), (4, .ref (la 1)), (5, .ref (la 2)), (6, .ref (la 3)), (7, .ref (la 4)), (8, .int (nI wh)), (9, .int (nI one)), (10, .int (nI two)), (11, .int (nI three)), (12, .int (nI its)), (13, .int (nI t)), (14, .int (nI key))] := hl
                              show W _ _ _ _ _ _ _ _ _ _ _ _ (0) (0) _ _
                              have hnm9 := hj9
                              refine lv_istore (lv' := [(15, .int (eX num)), (0, .ref (ad 0)), (1, .ref sb), (2, .int (nI a9)), (3, .ref (la 0)), (4, .ref (la 1)), (5, .ref (la 2)), (6, .ref (la 3)), (7, .ref (la 4)), (8, .int (nI wh)), (9, .int (nI one)), (10, .int (nI two)), (11, .int (nI three)), (12, .int (nI its)), (13, .int (nI t)), (14, .int (nI key))]) hx hb dL_isDone_909 hl (by decide) rfl (fun ls hl => ?_)
                              rcases Classical.em (its < 3 ∧ t < 2 ∧ key < 12) with hth | hth
                              · refine lv_iload hx hb dL_isDone_911 (lv_at hl 13 rfl) ?_
                                refine lv_iconst (v := nI 3) hx hb dL_isDone_913 (by decide) ?_
                                refine x_cmp_ge (tgt := 934) hx hb (nI_leI (a := 3) (b := its) (by omega) (by omega)) dL_isDone_914 (by decide) (fun c914 => ?_) (fun c914 => ?_)
                                · exfalso; omega
                                · refine lv_iload hx hb dL_isDone_917 (lv_at hl 14 rfl) ?_
                                  refine lv_iconst (v := nI 2) hx hb dL_isDone_919 (by decide) ?_
                                  refine x_cmp_ge (tgt := 934) hx hb (nI_leI (a := 2) (b := t) (by omega) (by omega)) dL_isDone_920 (by decide) (fun c920 => ?_) (fun c920 => ?_)
                                  · exfalso; omega
                                  · refine lv_iload hx hb dL_isDone_923 (lv_at hl 15 rfl) ?_
                                    refine lv_bipush (v := nI 12) hx hb dL_isDone_925 (by decide) ?_
                                    refine x_cmp_ge (tgt := 934) hx hb (nI_leI (a := 12) (b := key) (by omega) (by omega)) dL_isDone_927 (by decide) (fun c927 => ?_) (fun c927 => ?_)
                                    · exfalso; omega
                                    · refine lv_iconst (v := nI 1) hx hb dL_isDone_930 (by decide) ?_
                                      refine lv_goto (tgt := 935) hx hb dL_isDone_931 (by decide) ?_
                                      refine lv_istore (lv' := [(16, .int (nI 1)), (15, .int (eX num)), (0, .ref (ad 0)), (1, .ref sb), (2, .int (nI a9)), (3, .ref (la 0)), (4, .ref (la 1)), (5, .ref (la 2)), (6, .ref (la 3)), (7, .ref (la 4)), (8, .int (nI wh)), (9, .int (nI one)), (10, .int (nI two)), (11, .int (nI three)), (12, .int (nI its)), (13, .int (nI t)), (14, .int (nI key))]) hx hb dL_isDone_935 hl (by decide) rfl (fun ls hl => ?_)
                                      refine lv_iload hx hb dL_isDone_937 (lv_at hl 0 rfl) ?_
                                      refine x_if_ne (tgt := 947) hx hb (nI_z (by omega)) dL_isDone_939 (by decide) (fun c939 => ?_) (fun c939 => ?_)
                                      · refine lv_iload hx hb dL_isDone_947 (lv_at hl 1 rfl) ?_
                                        refine lv_bipush (v := nI 99) hx hb dL_isDone_949 (by decide) ?_
                                        refine x_cmp_le (tgt := 959) hx hb (eX_le_n (by omega) (by omega)) dL_isDone_951 (by decide) (fun c951 => ?_) (fun c951 => ?_)
                                        · refine lv_aload_n hx hb dL_isDone_959 rfl (lv_at hl 2 rfl) ?_
                                          refine lv_iload hx hb dL_isDone_960 (lv_at hl 14 rfl) ?_
                                          refine lv_iload hx hb dL_isDone_962 (lv_at hl 15 rfl) ?_
                                          refine lv_iload hx hb dL_isDone_964 (lv_at hl 16 rfl) ?_
                                          refine lv_iconst (v := nI 0) hx hb dL_isDone_966 (by decide) ?_
                                          refine x_calli (w2 := fun (S967 : S4) => LW cI cP cS ad la S967 lp lo lq lb lg) (wr := []) (x_runVE (n := 4) ⟨hx, hb, hml, hown, hts⟩ (fN_seen l D cI cP cS cL hfl ad la lp lo lq lb lg (s_lim S) (s_n S) (s_rows S) (s_cc S) (s_ct S) (s_ck S) (s_nr S) (s_cr S) (s_old S) (s_rw S) (s_co S) (s_re S) (s_nu S) (s_ma S) (s_sr S) (s_cp S) (s_pu S) (s_st S) (s_sl S) its (nI its) (nI t) (nI key) (nI 0) hth.1 (hsx_of (by omega)) (nx_seen hth.1 hth.2.1 hth.2.2 (by omega))) gL_isDone_X4_seen rfl rfl rfl (by decide +kernel) ⟨by decide, by decide⟩ hN hK hP hD hS hA hE iLW rfl rfl (ci := 4) (q0 := 0) rfl rfl rfl rfl hl.1 (rest := []) (As := [.int (nI its), .int (nI t), .int (nI key), .int (nI 0)]) rfl (Nat.le_of_ble_eq_true rfl) dL_isDone_967 ⟨by show _ ≤ 700; omega, by show _ ≤ 4200; omega⟩) hP hD hS hA iLW [] iLW rfl rfl rfl (by decide) rfl (fun _ => rfl) (fun r967 S967 H locs hw hP hD hS => ?_)
                                          obtain ⟨hr9, e8⟩ := N_seen hth.2.1 hth.2.2 hw
                                          have e9 : S = S967 := (show S967 = S from e8).symm
                                          subst e9
                                          have hP : va_P D vwCl (LW cI cP cS ad la S lp lo lq lb lg) H := hP
                                          have hD : va_D A (LW cI cP cS ad la S lp lo lq lb lg) := hD
                                          rcases IN_sr hI (i := its) (j := t * 12 + key) hth.1 (by omega) with ⟨y9, ⟨he1, -⟩ | ⟨a, b, c, va9, vb9, vc9, he1, -⟩⟩
                                          · rw [he1, qNum_m] at hr9
                                            subst hr9
                                            refine x_if_lt (tgt := 977) hx hb (Iff.rfl) dL_isDone_970 (by decide) (fun c970 => ?_) (fun c970 => ?_)
                                            · refine lv_iconst (v := nI 0) hx hb dL_isDone_977 (by decide) ?_
                                              refine lv_istore (lv' := [(17, .int (nI 0)), (16, .int (nI 1)), (15, .int (eX num)), (0, .ref (ad 0)), (1, .ref sb), (2, .int (nI a9)), (3, .ref (la 0)), (4, .ref (la 1)), (5, .ref (la 2)), (6, .ref (la 3)), (7, .ref (la 4)), (8, .int (nI wh)), (9, .int (nI one)), (10, .int (nI two)), (11, .int (nI three)), (12, .int (nI its)), (13, .int (nI t)), (14, .int (nI key))]) hx hb dL_isDone_978 hl (by decide) rfl (fun ls hl => ?_)
                                              refine lv_iload hx hb dL_isDone_980 (lv_at hl 0 rfl) ?_
                                              refine x_if_lt (tgt := 999) hx hb (nI_ng (by omega)) dL_isDone_982 (by decide) (fun c982 => ?_) (fun c982 => ?_)
                                              · exact c982.elim
                                              · refine lv_aload hx hb dL_isDone_985 (lv_at hl 9 rfl) ?_
                                                refine lv_bipush (v := nI 7) hx hb dL_isDone_987 (by decide) ?_
                                                refine lv_iload hx hb dL_isDone_989 (lv_at hl 15 rfl) ?_
                                                refine x_mul (k := 7 * its) hx hb dL_isDone_991 rfl ?_
                                                refine lv_iconst (v := nI 5) hx hb dL_isDone_992 (by decide) ?_
                                                refine x_add (k := (7 * its) + 5) hx hb dL_isDone_993 rfl ?_
                                                refine lv_iload hx hb dL_isDone_994 (lv_at hl 16 rfl) ?_
                                                refine x_add (k := ((7 * its) + 5) + t) hx hb dL_isDone_996 rfl ?_
                                                refine lv_iconst (v := nI 1) hx hb dL_isDone_997 (by decide) ?_
                                                refine x_ast (g := upd lb (((7 * its) + 5) + t) (nI 1)) (ws' := LW cI cP cS ad la S lp lo lq (upd lb (((7 * its) + 5) + t) (nI 1)) lg) hx hb hK hP hD hS 40 0 rfl rfl (by omega) (by omega) (rfl) rfl dL_isDone_998 (fun H locs hP hD hS => ?_)
                                                refine lv_aload_n hx hb dL_isDone_999 rfl (lv_at hl 3 rfl) ?_
                                                refine lv_bipush (v := nI 12) hx hb dL_isDone_1000 (by decide) ?_
                                                refine lv_iload hx hb dL_isDone_1002 (lv_at hl 15 rfl) ?_
                                                refine lv_iload hx hb dL_isDone_1004 (lv_at hl 16 rfl) ?_
                                                refine lv_iload hx hb dL_isDone_1006 (lv_at hl 17 rfl) ?_
                                                refine lv_iload hx hb dL_isDone_1008 (lv_at hl 2 rfl) ?_
                                                refine lv_iconst (v := nI 0) hx hb dL_isDone_1010 (by decide) ?_
                                                refine x_calli (w2 := fun (S1 : S4) => LW cI cP cS ad la S1 lp lo lq (upd lb (((7 * its) + 5) + t) (nI 1)) lg) (wr := []) (x_runL (n := 7) ⟨hx, hb, hml, hown, hts⟩ (fD_own l D cI cP cS cL hfl ad la lp lo lq (upd lb (((7 * its) + 5) + t) (nI 1)) lg (s_lim S) (s_n S) (s_rows S) (s_cc S) (s_ct S) (s_ck S) (s_nr S) (s_cr S) (s_old S) (s_rw S) (s_co S) (s_re S) (s_nu S) (s_ma S) (s_sr S) (s_cp S) (s_pu S) (s_st S) (s_sl S) (cl its) (nI its) (nI t) (nI key) (eX num) (nI 0) (cl_lt its) (hsx_cl (by omega))) gL_isDone_L_does rfl rfl rfl (by decide +kernel) ⟨by decide, by decide⟩ hN hK hP hD hS hA hE iLW rfl rfl rfl hl.1 (rest := []) (As := [.ref (ad 0), .int (nI 12), .int (nI its), .int (nI t), .int (nI key), .int (eX num), .int (nI 0)]) rfl (Nat.le_of_ble_eq_true rfl) dL_isDone_1011 ⟨by show _ ≤ 700; omega, by show _ ≤ 4200; omega⟩) hP hD hS hA iLW [] iLW rfl rfl rfl (by decide) rfl (fun _ => rfl) (fun r1011 S1 H locs hw hP hD hS => ?_)
                                                obtain ⟨hr9, hq0, hq2, hI1⟩ := (O_own (IN_of hI) (by omega) (by omega) (by omega) (by omega) hw).2.2 hth.1 hth.2.1 hth.2.2 (by omega)
                                                have hI1 := hI1 (upd lb (((7 * its) + 5) + t) (nI 1)) (fun i hi j hj h => by rw [upd_ne (by omega)]) (by rw [show 7 * its + (5 + t) = 7 * its + 5 + t by omega, upd_same])
                                                rw [he1, bI_n (fun q => q rfl)] at hr9
                                                subst hr9
                                                have hP : va_P D vwCl (LW cI cP cS ad la S1 lp lo lq (upd lb (((7 * its) + 5) + t) (nI 1)) lg) H := hP
                                                have hD : va_D A (LW cI cP cS ad la S1 lp lo lq (upd lb (((7 * its) + 5) + t) (nI 1)) lg) := hD
                                                refine lv_iload hx hb dL_isDone_1014 (lv_at hl 0 rfl) ?_
                                                refine x_cmp_ne (tgt := 1060) hx hb (Iff.rfl) dL_isDone_1016 (by decide) (fun c1016 => ?_) (fun c1016 => ?_)
                                                · exact absurd rfl c1016
                                                · refine lv_iload hx hb dL_isDone_1019 (lv_at hl 0 rfl) ?_
                                                  refine x_if_lt (tgt := 1056) hx hb (nI_ng (by omega)) dL_isDone_1021 (by decide) (fun c1021 => ?_) (fun c1021 => ?_)
                                                  · exact c1021.elim
                                                  · refine lv_aload_n hx hb dL_isDone_1024 rfl (lv_at hl 3 rfl) ?_
                                                    refine lv_iload hx hb dL_isDone_1025 (lv_at hl 15 rfl) ?_
                                                    refine lv_iload hx hb dL_isDone_1027 (lv_at hl 16 rfl) ?_
                                                    refine lv_iload hx hb dL_isDone_1029 (lv_at hl 17 rfl) ?_
                                                    refine lv_iconst (v := nI 0) hx hb dL_isDone_1031 (by decide) ?_
                                                    refine x_calli (w2 := fun (S1032 : S4) => LW cI cP cS ad la S1032 lp lo lq (upd lb (((7 * its) + 5) + t) (nI 1)) lg) (wr := []) (x_runVE (n := 4) ⟨hx, hb, hml, hown, hts⟩ (fN_seen l D cI cP cS cL hfl ad la lp lo lq (upd lb (((7 * its) + 5) + t) (nI 1)) lg (s_lim S1) (s_n S1) (s_rows S1) (s_cc S1) (s_ct S1) (s_ck S1) (s_nr S1) (s_cr S1) (s_old S1) (s_rw S1) (s_co S1) (s_re S1) (s_nu S1) (s_ma S1) (s_sr S1) (s_cp S1) (s_pu S1) (s_st S1) (s_sl S1) its (nI its) (nI t) (nI key) (nI 0) hth.1 (hsx_of (by omega)) (nx_seen hth.1 hth.2.1 hth.2.2 (by omega))) gL_isDone_X4_seen rfl rfl rfl (by decide +kernel) ⟨by decide, by decide⟩ hN hK hP hD hS hA hE iLW rfl rfl (ci := 4) (q0 := 0) rfl rfl rfl rfl hl.1 (rest := []) (As := [.int (nI its), .int (nI t), .int (nI key), .int (nI 0)]) rfl (Nat.le_of_ble_eq_true rfl) dL_isDone_1032 ⟨by show _ ≤ 700; omega, by show _ ≤ 4200; omega⟩) hP hD hS hA iLW [] iLW rfl rfl rfl (by decide) rfl (fun _ => rfl) (fun r1032 S1032 H locs hw hP hD hS => ?_)
                                                    obtain ⟨hr9, e8⟩ := N_seen hth.2.1 hth.2.2 hw
                                                    have e9 : S1 = S1032 := (show S1032 = S1 from e8).symm
                                                    subst e9
                                                    rw [hq0] at hr9
                                                    subst hr9
                                                    have hP : va_P D vwCl (LW cI cP cS ad la S1 lp lo lq (upd lb (((7 * its) + 5) + t) (nI 1)) lg) H := hP
                                                    have hD : va_D A (LW cI cP cS ad la S1 lp lo lq (upd lb (((7 * its) + 5) + t) (nI 1)) lg) := hD
                                                    refine lv_iload hx hb dL_isDone_1035 (lv_at hl 2 rfl) ?_
                                                    refine x_cmp_ne (tgt := 1060) hx hb (Iff.rfl) dL_isDone_1037 (by decide) (fun c1037 => ?_) (fun c1037 => ?_)
                                                    · exact absurd rfl c1037
                                                    · refine lv_aload_n hx hb dL_isDone_1040 rfl (lv_at hl 3 rfl) ?_
                                                      refine lv_iload hx hb dL_isDone_1041 (lv_at hl 15 rfl) ?_
                                                      refine lv_iload hx hb dL_isDone_1043 (lv_at hl 16 rfl) ?_
                                                      refine lv_iload hx hb dL_isDone_1045 (lv_at hl 17 rfl) ?_
                                                      refine lv_iconst (v := nI 2) hx hb dL_isDone_1047 (by decide) ?_
                                                      refine x_calli (w2 := fun (S1048 : S4) => LW cI cP cS ad la S1048 lp lo lq (upd lb (((7 * its) + 5) + t) (nI 1)) lg) (wr := []) (x_runVE (n := 4) ⟨hx, hb, hml, hown, hts⟩ (fN_seen l D cI cP cS cL hfl ad la lp lo lq (upd lb (((7 * its) + 5) + t) (nI 1)) lg (s_lim S1) (s_n S1) (s_rows S1) (s_cc S1) (s_ct S1) (s_ck S1) (s_nr S1) (s_cr S1) (s_old S1) (s_rw S1) (s_co S1) (s_re S1) (s_nu S1) (s_ma S1) (s_sr S1) (s_cp S1) (s_pu S1) (s_st S1) (s_sl S1) its (nI its) (nI t) (nI key) (nI 2) hth.1 (hsx_of (by omega)) (nx_seen hth.1 hth.2.1 hth.2.2 (by omega))) gL_isDone_X4_seen rfl rfl rfl (by decide +kernel) ⟨by decide, by decide⟩ hN hK hP hD hS hA hE iLW rfl rfl (ci := 4) (q0 := 0) rfl rfl rfl rfl hl.1 (rest := []) (As := [.int (nI its), .int (nI t), .int (nI key), .int (nI 2)]) rfl (Nat.le_of_ble_eq_true rfl) dL_isDone_1048 ⟨by show _ ≤ 700; omega, by show _ ≤ 4200; omega⟩) hP hD hS hA iLW [] iLW rfl rfl rfl (by decide) rfl (fun _ => rfl) (fun r1048 S1048 H locs hw hP hD hS => ?_)
                                                      obtain ⟨hr9, e8⟩ := N_seen hth.2.1 hth.2.2 hw
                                                      have e9 : S1 = S1048 := (show S1048 = S1 from e8).symm
                                                      subst e9
                                                      rw [hq2] at hr9
                                                      subst hr9
                                                      have hP : va_P D vwCl (LW cI cP cS ad la S1 lp lo lq (upd lb (((7 * its) + 5) + t) (nI 1)) lg) H := hP
                                                      have hD : va_D A (LW cI cP cS ad la S1 lp lo lq (upd lb (((7 * its) + 5) + t) (nI 1)) lg) := hD
                                                      refine lv_iload hx hb dL_isDone_1051 (lv_at hl 2 rfl) ?_
                                                      refine x_cmp_ne (tgt := 1060) hx hb (Iff.rfl) dL_isDone_1053 (by decide) (fun c1053 => ?_) (fun c1053 => ?_)
                                                      · exact absurd rfl c1053
                                                      · refine lv_iconst (v := nI 1) hx hb dL_isDone_1056 (by decide) ?_
                                                        refine lv_goto (tgt := 1061) hx hb dL_isDone_1057 (by decide) ?_
                                                        exact x_ret_z hx hb hrt (by first | exact Or.inl rfl | exact Or.inr rfl) hlk hP hD hS dL_isDone_1061 ⟨by omega, by omega⟩ ((S1, lp, lo, lq, upd lb (((7 * its) + 5) + t) (nI 1), lg)) ⟨rfl, ⟨_, _, _, _, hI1⟩⟩ rfl
                                            · exact absurd (by decide) c970
                                          · rw [he1, qNum_e va9 vb9 vc9 (by omega)] at hr9
                                            have hr9 : r967 = nI a := hr9
                                            subst hr9
                                            refine x_if_lt (tgt := 977) hx hb (nI_ng (by omega)) dL_isDone_970 (by decide) (fun c970 => ?_) (fun c970 => ?_)
                                            · exact c970.elim
                                            · refine lv_iconst (v := nI 1) hx hb dL_isDone_973 (by decide) ?_
                                              refine lv_goto (tgt := 978) hx hb dL_isDone_974 (by decide) ?_
                                              refine lv_istore (lv' := [(17, .int (nI 1)), (16, .int (nI 1)), (15, .int (eX num)), (0, .ref (ad 0)), (1, .ref sb), (2, .int (nI a9)), (3, .ref (la 0)), (4, .ref (la 1)), (5, .ref (la 2)), (6, .ref (la 3)), (7, .ref (la 4)), (8, .int (nI wh)), (9, .int (nI one)), (10, .int (nI two)), (11, .int (nI three)), (12, .int (nI its)), (13, .int (nI t)), (14, .int (nI key))]) hx hb dL_isDone_978 hl (by decide) rfl (fun ls hl => ?_)
                                              refine lv_iload hx hb dL_isDone_980 (lv_at hl 0 rfl) ?_
                                              refine x_if_lt (tgt := 999) hx hb (nI_ng (by omega)) dL_isDone_982 (by decide) (fun c982 => ?_) (fun c982 => ?_)
                                              · exact c982.elim
                                              · refine lv_aload hx hb dL_isDone_985 (lv_at hl 9 rfl) ?_
                                                refine lv_bipush (v := nI 7) hx hb dL_isDone_987 (by decide) ?_
                                                refine lv_iload hx hb dL_isDone_989 (lv_at hl 15 rfl) ?_
                                                refine x_mul (k := 7 * its) hx hb dL_isDone_991 rfl ?_
                                                refine lv_iconst (v := nI 5) hx hb dL_isDone_992 (by decide) ?_
                                                refine x_add (k := (7 * its) + 5) hx hb dL_isDone_993 rfl ?_
                                                refine lv_iload hx hb dL_isDone_994 (lv_at hl 16 rfl) ?_
                                                refine x_add (k := ((7 * its) + 5) + t) hx hb dL_isDone_996 rfl ?_
                                                refine lv_iconst (v := nI 1) hx hb dL_isDone_997 (by decide) ?_
                                                refine x_ast (g := upd lb (((7 * its) + 5) + t) (nI 1)) (ws' := LW cI cP cS ad la S lp lo lq (upd lb (((7 * its) + 5) + t) (nI 1)) lg) hx hb hK hP hD hS 40 0 rfl rfl (by omega) (by omega) (rfl) rfl dL_isDone_998 (fun H locs hP hD hS => ?_)
                                                refine lv_aload_n hx hb dL_isDone_999 rfl (lv_at hl 3 rfl) ?_
                                                refine lv_bipush (v := nI 12) hx hb dL_isDone_1000 (by decide) ?_
                                                refine lv_iload hx hb dL_isDone_1002 (lv_at hl 15 rfl) ?_
                                                refine lv_iload hx hb dL_isDone_1004 (lv_at hl 16 rfl) ?_
                                                refine lv_iload hx hb dL_isDone_1006 (lv_at hl 17 rfl) ?_
                                                refine lv_iload hx hb dL_isDone_1008 (lv_at hl 2 rfl) ?_
                                                refine lv_iconst (v := nI 0) hx hb dL_isDone_1010 (by decide) ?_
                                                refine x_calli (w2 := fun (S1 : S4) => LW cI cP cS ad la S1 lp lo lq (upd lb (((7 * its) + 5) + t) (nI 1)) lg) (wr := []) (x_runL (n := 7) ⟨hx, hb, hml, hown, hts⟩ (fD_own l D cI cP cS cL hfl ad la lp lo lq (upd lb (((7 * its) + 5) + t) (nI 1)) lg (s_lim S) (s_n S) (s_rows S) (s_cc S) (s_ct S) (s_ck S) (s_nr S) (s_cr S) (s_old S) (s_rw S) (s_co S) (s_re S) (s_nu S) (s_ma S) (s_sr S) (s_cp S) (s_pu S) (s_st S) (s_sl S) (cl its) (nI its) (nI t) (nI key) (eX num) (nI 0) (cl_lt its) (hsx_cl (by omega))) gL_isDone_L_does rfl rfl rfl (by decide +kernel) ⟨by decide, by decide⟩ hN hK hP hD hS hA hE iLW rfl rfl rfl hl.1 (rest := []) (As := [.ref (ad 0), .int (nI 12), .int (nI its), .int (nI t), .int (nI key), .int (eX num), .int (nI 0)]) rfl (Nat.le_of_ble_eq_true rfl) dL_isDone_1011 ⟨by show _ ≤ 700; omega, by show _ ≤ 4200; omega⟩) hP hD hS hA iLW [] iLW rfl rfl rfl (by decide) rfl (fun _ => rfl) (fun r1011 S1 H locs hw hP hD hS => ?_)
                                                obtain ⟨hr9, hq0, hq2, hI1⟩ := (O_own (IN_of hI) (by omega) (by omega) (by omega) (by omega) hw).2.2 hth.1 hth.2.1 hth.2.2 (by omega)
                                                have hI1 := hI1 (upd lb (((7 * its) + 5) + t) (nI 1)) (fun i hi j hj h => by rw [upd_ne (by omega)]) (by rw [show 7 * its + (5 + t) = 7 * its + 5 + t by omega, upd_same])
                                                rw [he1, bI_k3 va9 vb9 vc9] at hr9
                                                subst hr9
                                                have hP : va_P D vwCl (LW cI cP cS ad la S1 lp lo lq (upd lb (((7 * its) + 5) + t) (nI 1)) lg) H := hP
                                                have hD : va_D A (LW cI cP cS ad la S1 lp lo lq (upd lb (((7 * its) + 5) + t) (nI 1)) lg) := hD
                                                refine lv_iload hx hb dL_isDone_1014 (lv_at hl 0 rfl) ?_
                                                refine x_cmp_ne (tgt := 1060) hx hb (Iff.rfl) dL_isDone_1016 (by decide) (fun c1016 => ?_) (fun c1016 => ?_)
                                                · exact absurd rfl c1016
                                                · refine lv_iload hx hb dL_isDone_1019 (lv_at hl 0 rfl) ?_
                                                  refine x_if_lt (tgt := 1056) hx hb (nI_ng (by omega)) dL_isDone_1021 (by decide) (fun c1021 => ?_) (fun c1021 => ?_)
                                                  · exact c1021.elim
                                                  · refine lv_aload_n hx hb dL_isDone_1024 rfl (lv_at hl 3 rfl) ?_
                                                    refine lv_iload hx hb dL_isDone_1025 (lv_at hl 15 rfl) ?_
                                                    refine lv_iload hx hb dL_isDone_1027 (lv_at hl 16 rfl) ?_
                                                    refine lv_iload hx hb dL_isDone_1029 (lv_at hl 17 rfl) ?_
                                                    refine lv_iconst (v := nI 0) hx hb dL_isDone_1031 (by decide) ?_
                                                    refine x_calli (w2 := fun (S1032 : S4) => LW cI cP cS ad la S1032 lp lo lq (upd lb (((7 * its) + 5) + t) (nI 1)) lg) (wr := []) (x_runVE (n := 4) ⟨hx, hb, hml, hown, hts⟩ (fN_seen l D cI cP cS cL hfl ad la lp lo lq (upd lb (((7 * its) + 5) + t) (nI 1)) lg (s_lim S1) (s_n S1) (s_rows S1) (s_cc S1) (s_ct S1) (s_ck S1) (s_nr S1) (s_cr S1) (s_old S1) (s_rw S1) (s_co S1) (s_re S1) (s_nu S1) (s_ma S1) (s_sr S1) (s_cp S1) (s_pu S1) (s_st S1) (s_sl S1) its (nI its) (nI t) (nI key) (nI 0) hth.1 (hsx_of (by omega)) (nx_seen hth.1 hth.2.1 hth.2.2 (by omega))) gL_isDone_X4_seen rfl rfl rfl (by decide +kernel) ⟨by decide, by decide⟩ hN hK hP hD hS hA hE iLW rfl rfl (ci := 4) (q0 := 0) rfl rfl rfl rfl hl.1 (rest := []) (As := [.int (nI its), .int (nI t), .int (nI key), .int (nI 0)]) rfl (Nat.le_of_ble_eq_true rfl) dL_isDone_1032 ⟨by show _ ≤ 700; omega, by show _ ≤ 4200; omega⟩) hP hD hS hA iLW [] iLW rfl rfl rfl (by decide) rfl (fun _ => rfl) (fun r1032 S1032 H locs hw hP hD hS => ?_)
                                                    obtain ⟨hr9, e8⟩ := N_seen hth.2.1 hth.2.2 hw
                                                    have e9 : S1 = S1032 := (show S1032 = S1 from e8).symm
                                                    subst e9
                                                    rw [hq0] at hr9
                                                    subst hr9
                                                    have hP : va_P D vwCl (LW cI cP cS ad la S1 lp lo lq (upd lb (((7 * its) + 5) + t) (nI 1)) lg) H := hP
                                                    have hD : va_D A (LW cI cP cS ad la S1 lp lo lq (upd lb (((7 * its) + 5) + t) (nI 1)) lg) := hD
                                                    refine lv_iload hx hb dL_isDone_1035 (lv_at hl 2 rfl) ?_
                                                    refine x_cmp_ne (tgt := 1060) hx hb (Iff.rfl) dL_isDone_1037 (by decide) (fun c1037 => ?_) (fun c1037 => ?_)
                                                    · exact absurd rfl c1037
                                                    · refine lv_aload_n hx hb dL_isDone_1040 rfl (lv_at hl 3 rfl) ?_
                                                      refine lv_iload hx hb dL_isDone_1041 (lv_at hl 15 rfl) ?_
                                                      refine lv_iload hx hb dL_isDone_1043 (lv_at hl 16 rfl) ?_
                                                      refine lv_iload hx hb dL_isDone_1045 (lv_at hl 17 rfl) ?_
                                                      refine lv_iconst (v := nI 2) hx hb dL_isDone_1047 (by decide) ?_
                                                      refine x_calli (w2 := fun (S1048 : S4) => LW cI cP cS ad la S1048 lp lo lq (upd lb (((7 * its) + 5) + t) (nI 1)) lg) (wr := []) (x_runVE (n := 4) ⟨hx, hb, hml, hown, hts⟩ (fN_seen l D cI cP cS cL hfl ad la lp lo lq (upd lb (((7 * its) + 5) + t) (nI 1)) lg (s_lim S1) (s_n S1) (s_rows S1) (s_cc S1) (s_ct S1) (s_ck S1) (s_nr S1) (s_cr S1) (s_old S1) (s_rw S1) (s_co S1) (s_re S1) (s_nu S1) (s_ma S1) (s_sr S1) (s_cp S1) (s_pu S1) (s_st S1) (s_sl S1) its (nI its) (nI t) (nI key) (nI 2) hth.1 (hsx_of (by omega)) (nx_seen hth.1 hth.2.1 hth.2.2 (by omega))) gL_isDone_X4_seen rfl rfl rfl (by decide +kernel) ⟨by decide, by decide⟩ hN hK hP hD hS hA hE iLW rfl rfl (ci := 4) (q0 := 0) rfl rfl rfl rfl hl.1 (rest := []) (As := [.int (nI its), .int (nI t), .int (nI key), .int (nI 2)]) rfl (Nat.le_of_ble_eq_true rfl) dL_isDone_1048 ⟨by show _ ≤ 700; omega, by show _ ≤ 4200; omega⟩) hP hD hS hA iLW [] iLW rfl rfl rfl (by decide) rfl (fun _ => rfl) (fun r1048 S1048 H locs hw hP hD hS => ?_)
                                                      obtain ⟨hr9, e8⟩ := N_seen hth.2.1 hth.2.2 hw
                                                      have e9 : S1 = S1048 := (show S1048 = S1 from e8).symm
                                                      subst e9
                                                      rw [hq2] at hr9
                                                      subst hr9
                                                      have hP : va_P D vwCl (LW cI cP cS ad la S1 lp lo lq (upd lb (((7 * its) + 5) + t) (nI 1)) lg) H := hP
                                                      have hD : va_D A (LW cI cP cS ad la S1 lp lo lq (upd lb (((7 * its) + 5) + t) (nI 1)) lg) := hD
                                                      refine lv_iload hx hb dL_isDone_1051 (lv_at hl 2 rfl) ?_
                                                      refine x_cmp_ne (tgt := 1060) hx hb (Iff.rfl) dL_isDone_1053 (by decide) (fun c1053 => ?_) (fun c1053 => ?_)
                                                      · exact absurd rfl c1053
                                                      · refine lv_iconst (v := nI 1) hx hb dL_isDone_1056 (by decide) ?_
                                                        refine lv_goto (tgt := 1061) hx hb dL_isDone_1057 (by decide) ?_
                                                        exact x_ret_z hx hb hrt (by first | exact Or.inl rfl | exact Or.inr rfl) hlk hP hD hS dL_isDone_1061 ⟨by omega, by omega⟩ ((S1, lp, lo, lq, upd lb (((7 * its) + 5) + t) (nI 1), lg)) ⟨rfl, ⟨_, _, _, _, hI1⟩⟩ rfl
                                        · refine lv_bipush (v := (-20 : Int32)) hx hb dL_isDone_954 (by decide) ?_
                                          refine lv_goto (tgt := 978) hx hb dL_isDone_956 (by decide) ?_
                                          refine lv_istore (lv' := [(17, .int ((-20 : Int32))), (16, .int (nI 1)), (15, .int (eX num)), (0, .ref (ad 0)), (1, .ref sb), (2, .int (nI a9)), (3, .ref (la 0)), (4, .ref (la 1)), (5, .ref (la 2)), (6, .ref (la 3)), (7, .ref (la 4)), (8, .int (nI wh)), (9, .int (nI one)), (10, .int (nI two)), (11, .int (nI three)), (12, .int (nI its)), (13, .int (nI t)), (14, .int (nI key))]) hx hb dL_isDone_978 hl (by decide) rfl (fun ls hl => ?_)
                                          refine lv_iload hx hb dL_isDone_980 (lv_at hl 0 rfl) ?_
                                          refine x_if_lt (tgt := 999) hx hb (Iff.rfl) dL_isDone_982 (by decide) (fun c982 => ?_) (fun c982 => ?_)
                                          · refine lv_aload_n hx hb dL_isDone_999 rfl (lv_at hl 3 rfl) ?_
                                            refine lv_bipush (v := nI 12) hx hb dL_isDone_1000 (by decide) ?_
                                            refine lv_iload hx hb dL_isDone_1002 (lv_at hl 15 rfl) ?_
                                            refine lv_iload hx hb dL_isDone_1004 (lv_at hl 16 rfl) ?_
                                            refine lv_iload hx hb dL_isDone_1006 (lv_at hl 17 rfl) ?_
                                            refine lv_iload hx hb dL_isDone_1008 (lv_at hl 2 rfl) ?_
                                            refine lv_iconst (v := nI 0) hx hb dL_isDone_1010 (by decide) ?_
                                            refine x_calli (w2 := fun (S1 : S4) => LW cI cP cS ad la S1 lp lo lq lb lg) (wr := []) (x_runL (n := 7) ⟨hx, hb, hml, hown, hts⟩ (fD_own l D cI cP cS cL hfl ad la lp lo lq lb lg (s_lim S) (s_n S) (s_rows S) (s_cc S) (s_ct S) (s_ck S) (s_nr S) (s_cr S) (s_old S) (s_rw S) (s_co S) (s_re S) (s_nu S) (s_ma S) (s_sr S) (s_cp S) (s_pu S) (s_st S) (s_sl S) (cl its) (nI its) (nI t) (nI key) (eX num) (nI 0) (cl_lt its) (hsx_cl (by omega))) gL_isDone_L_does rfl rfl rfl (by decide +kernel) ⟨by decide, by decide⟩ hN hK hP hD hS hA hE iLW rfl rfl rfl hl.1 (rest := []) (As := [.ref (ad 0), .int (nI 12), .int (nI its), .int (nI t), .int (nI key), .int (eX num), .int (nI 0)]) rfl (Nat.le_of_ble_eq_true rfl) dL_isDone_1011 ⟨by show _ ≤ 700; omega, by show _ ≤ 4200; omega⟩) hP hD hS hA iLW [] iLW rfl rfl rfl (by decide) rfl (fun _ => rfl) (fun r1011 S1 H locs hw hP hD hS => ?_)
                                            obtain ⟨hr9, e8⟩ := (O_own (IN_of hI) (by omega) (by omega) (by omega) (by omega) hw).2.1 hth.1 hth.2.1 hth.2.2 (by omega)
                                            have e9 : S = S1 := (show S1 = S from e8).symm
                                            subst e9
                                            subst hr9
                                            have hP : va_P D vwCl (LW cI cP cS ad la S lp lo lq lb lg) H := hP
                                            have hD : va_D A (LW cI cP cS ad la S lp lo lq lb lg) := hD
                                            refine lv_iload hx hb dL_isDone_1014 (lv_at hl 0 rfl) ?_
                                            refine x_cmp_ne (tgt := 1060) hx hb (Iff.rfl) dL_isDone_1016 (by decide) (fun c1016 => ?_) (fun c1016 => ?_)
                                            · exact absurd rfl c1016
                                            · refine lv_iload hx hb dL_isDone_1019 (lv_at hl 0 rfl) ?_
                                              refine x_if_lt (tgt := 1056) hx hb (Iff.rfl) dL_isDone_1021 (by decide) (fun c1021 => ?_) (fun c1021 => ?_)
                                              · refine lv_iconst (v := nI 1) hx hb dL_isDone_1056 (by decide) ?_
                                                refine lv_goto (tgt := 1061) hx hb dL_isDone_1057 (by decide) ?_
                                                exact x_ret_z hx hb hrt (by first | exact Or.inl rfl | exact Or.inr rfl) hlk hP hD hS dL_isDone_1061 ⟨by omega, by omega⟩ ((S, lp, lo, lq, lb, lg)) ⟨rfl, ⟨bk, kc, mi, cn, hI⟩⟩ rfl
                                              · exact absurd (by decide) c1021
                                          · exact absurd (by decide) c982
                                      · exfalso; omega
                              · refine lv_iload hx hb dL_isDone_911 (lv_at hl 13 rfl) ?_
                                refine lv_iconst (v := nI 3) hx hb dL_isDone_913 (by decide) ?_
                                refine x_cmp_ge (tgt := 934) hx hb (nI_leI (a := 3) (b := its) (by omega) (by omega)) dL_isDone_914 (by decide) (fun c914 => ?_) (fun c914 => ?_)
                                · refine lv_iconst (v := nI 0) hx hb dL_isDone_934 (by decide) ?_
                                  refine lv_istore (lv' := [(16, .int (nI 0)), (15, .int (eX num)), (0, .ref (ad 0)), (1, .ref sb), (2, .int (nI a9)), (3, .ref (la 0)), (4, .ref (la 1)), (5, .ref (la 2)), (6, .ref (la 3)), (7, .ref (la 4)), (8, .int (nI wh)), (9, .int (nI one)), (10, .int (nI two)), (11, .int (nI three)), (12, .int (nI its)), (13, .int (nI t)), (14, .int (nI key))]) hx hb dL_isDone_935 hl (by decide) rfl (fun ls hl => ?_)
                                  refine lv_iload hx hb dL_isDone_937 (lv_at hl 0 rfl) ?_
                                  refine x_if_ne (tgt := 947) hx hb (nI_z (by omega)) dL_isDone_939 (by decide) (fun c939 => ?_) (fun c939 => ?_)
                                  · exfalso; omega
                                  · refine lv_bipush (v := (-30 : Int32)) hx hb dL_isDone_942 (by decide) ?_
                                    refine lv_goto (tgt := 978) hx hb dL_isDone_944 (by decide) ?_
                                    refine lv_istore (lv' := [(17, .int ((-30 : Int32))), (16, .int (nI 0)), (15, .int (eX num)), (0, .ref (ad 0)), (1, .ref sb), (2, .int (nI a9)), (3, .ref (la 0)), (4, .ref (la 1)), (5, .ref (la 2)), (6, .ref (la 3)), (7, .ref (la 4)), (8, .int (nI wh)), (9, .int (nI one)), (10, .int (nI two)), (11, .int (nI three)), (12, .int (nI its)), (13, .int (nI t)), (14, .int (nI key))]) hx hb dL_isDone_978 hl (by decide) rfl (fun ls hl => ?_)
                                    refine lv_iload hx hb dL_isDone_980 (lv_at hl 0 rfl) ?_
                                    refine x_if_lt (tgt := 999) hx hb (Iff.rfl) dL_isDone_982 (by decide) (fun c982 => ?_) (fun c982 => ?_)
                                    · refine lv_aload_n hx hb dL_isDone_999 rfl (lv_at hl 3 rfl) ?_
                                      refine lv_bipush (v := nI 12) hx hb dL_isDone_1000 (by decide) ?_
                                      refine lv_iload hx hb dL_isDone_1002 (lv_at hl 15 rfl) ?_
                                      refine lv_iload hx hb dL_isDone_1004 (lv_at hl 16 rfl) ?_
                                      refine lv_iload hx hb dL_isDone_1006 (lv_at hl 17 rfl) ?_
                                      refine lv_iload hx hb dL_isDone_1008 (lv_at hl 2 rfl) ?_
                                      refine lv_iconst (v := nI 0) hx hb dL_isDone_1010 (by decide) ?_
                                      refine x_calli (w2 := fun (S1 : S4) => LW cI cP cS ad la S1 lp lo lq lb lg) (wr := []) (x_runL (n := 7) ⟨hx, hb, hml, hown, hts⟩ (fD_own l D cI cP cS cL hfl ad la lp lo lq lb lg (s_lim S) (s_n S) (s_rows S) (s_cc S) (s_ct S) (s_ck S) (s_nr S) (s_cr S) (s_old S) (s_rw S) (s_co S) (s_re S) (s_nu S) (s_ma S) (s_sr S) (s_cp S) (s_pu S) (s_st S) (s_sl S) (cl its) (nI its) (nI t) (nI key) (eX num) (nI 0) (cl_lt its) (hsx_cl (by omega))) gL_isDone_L_does rfl rfl rfl (by decide +kernel) ⟨by decide, by decide⟩ hN hK hP hD hS hA hE iLW rfl rfl rfl hl.1 (rest := []) (As := [.ref (ad 0), .int (nI 12), .int (nI its), .int (nI t), .int (nI key), .int (eX num), .int (nI 0)]) rfl (Nat.le_of_ble_eq_true rfl) dL_isDone_1011 ⟨by show _ ≤ 700; omega, by show _ ≤ 4200; omega⟩) hP hD hS hA iLW [] iLW rfl rfl rfl (by decide) rfl (fun _ => rfl) (fun r1011 S1 H locs hw hP hD hS => ?_)
                                      obtain ⟨hr9, e8⟩ := (O_own (IN_of hI) (by omega) (by omega) (by omega) (by omega) hw).1 hth
                                      have e9 : S = S1 := (show S1 = S from e8).symm
                                      subst e9
                                      subst hr9
                                      have hP : va_P D vwCl (LW cI cP cS ad la S lp lo lq lb lg) H := hP
                                      have hD : va_D A (LW cI cP cS ad la S lp lo lq lb lg) := hD
                                      refine lv_iload hx hb dL_isDone_1014 (lv_at hl 0 rfl) ?_
                                      refine x_cmp_ne (tgt := 1060) hx hb (Iff.rfl) dL_isDone_1016 (by decide) (fun c1016 => ?_) (fun c1016 => ?_)
                                      · exact absurd rfl c1016
                                      · refine lv_iload hx hb dL_isDone_1019 (lv_at hl 0 rfl) ?_
                                        refine x_if_lt (tgt := 1056) hx hb (Iff.rfl) dL_isDone_1021 (by decide) (fun c1021 => ?_) (fun c1021 => ?_)
                                        · refine lv_iconst (v := nI 1) hx hb dL_isDone_1056 (by decide) ?_
                                          refine lv_goto (tgt := 1061) hx hb dL_isDone_1057 (by decide) ?_
                                          exact x_ret_z hx hb hrt (by first | exact Or.inl rfl | exact Or.inr rfl) hlk hP hD hS dL_isDone_1061 ⟨by omega, by omega⟩ ((S, lp, lo, lq, lb, lg)) ⟨rfl, ⟨bk, kc, mi, cn, hI⟩⟩ rfl
                                        · exact absurd (by decide) c1021
                                    · exact absurd (by decide) c982
                                · refine lv_iload hx hb dL_isDone_917 (lv_at hl 14 rfl) ?_
                                  refine lv_iconst (v := nI 2) hx hb dL_isDone_919 (by decide) ?_
                                  refine x_cmp_ge (tgt := 934) hx hb (nI_leI (a := 2) (b := t) (by omega) (by omega)) dL_isDone_920 (by decide) (fun c920 => ?_) (fun c920 => ?_)
                                  · refine lv_iconst (v := nI 0) hx hb dL_isDone_934 (by decide) ?_
                                    refine lv_istore (lv' := [(16, .int (nI 0)), (15, .int (eX num)), (0, .ref (ad 0)), (1, .ref sb), (2, .int (nI a9)), (3, .ref (la 0)), (4, .ref (la 1)), (5, .ref (la 2)), (6, .ref (la 3)), (7, .ref (la 4)), (8, .int (nI wh)), (9, .int (nI one)), (10, .int (nI two)), (11, .int (nI three)), (12, .int (nI its)), (13, .int (nI t)), (14, .int (nI key))]) hx hb dL_isDone_935 hl (by decide) rfl (fun ls hl => ?_)
                                    refine lv_iload hx hb dL_isDone_937 (lv_at hl 0 rfl) ?_
                                    refine x_if_ne (tgt := 947) hx hb (nI_z (by omega)) dL_isDone_939 (by decide) (fun c939 => ?_) (fun c939 => ?_)
                                    · exfalso; omega
                                    · refine lv_bipush (v := (-30 : Int32)) hx hb dL_isDone_942 (by decide) ?_
                                      refine lv_goto (tgt := 978) hx hb dL_isDone_944 (by decide) ?_
                                      refine lv_istore (lv' := [(17, .int ((-30 : Int32))), (16, .int (nI 0)), (15, .int (eX num)), (0, .ref (ad 0)), (1, .ref sb), (2, .int (nI a9)), (3, .ref (la 0)), (4, .ref (la 1)), (5, .ref (la 2)), (6, .ref (la 3)), (7, .ref (la 4)), (8, .int (nI wh)), (9, .int (nI one)), (10, .int (nI two)), (11, .int (nI three)), (12, .int (nI its)), (13, .int (nI t)), (14, .int (nI key))]) hx hb dL_isDone_978 hl (by decide) rfl (fun ls hl => ?_)
                                      refine lv_iload hx hb dL_isDone_980 (lv_at hl 0 rfl) ?_
                                      refine x_if_lt (tgt := 999) hx hb (Iff.rfl) dL_isDone_982 (by decide) (fun c982 => ?_) (fun c982 => ?_)
                                      · refine lv_aload_n hx hb dL_isDone_999 rfl (lv_at hl 3 rfl) ?_
                                        refine lv_bipush (v := nI 12) hx hb dL_isDone_1000 (by decide) ?_
                                        refine lv_iload hx hb dL_isDone_1002 (lv_at hl 15 rfl) ?_
                                        refine lv_iload hx hb dL_isDone_1004 (lv_at hl 16 rfl) ?_
                                        refine lv_iload hx hb dL_isDone_1006 (lv_at hl 17 rfl) ?_
                                        refine lv_iload hx hb dL_isDone_1008 (lv_at hl 2 rfl) ?_
                                        refine lv_iconst (v := nI 0) hx hb dL_isDone_1010 (by decide) ?_
                                        refine x_calli (w2 := fun (S1 : S4) => LW cI cP cS ad la S1 lp lo lq lb lg) (wr := []) (x_runL (n := 7) ⟨hx, hb, hml, hown, hts⟩ (fD_own l D cI cP cS cL hfl ad la lp lo lq lb lg (s_lim S) (s_n S) (s_rows S) (s_cc S) (s_ct S) (s_ck S) (s_nr S) (s_cr S) (s_old S) (s_rw S) (s_co S) (s_re S) (s_nu S) (s_ma S) (s_sr S) (s_cp S) (s_pu S) (s_st S) (s_sl S) (cl its) (nI its) (nI t) (nI key) (eX num) (nI 0) (cl_lt its) (hsx_cl (by omega))) gL_isDone_L_does rfl rfl rfl (by decide +kernel) ⟨by decide, by decide⟩ hN hK hP hD hS hA hE iLW rfl rfl rfl hl.1 (rest := []) (As := [.ref (ad 0), .int (nI 12), .int (nI its), .int (nI t), .int (nI key), .int (eX num), .int (nI 0)]) rfl (Nat.le_of_ble_eq_true rfl) dL_isDone_1011 ⟨by show _ ≤ 700; omega, by show _ ≤ 4200; omega⟩) hP hD hS hA iLW [] iLW rfl rfl rfl (by decide) rfl (fun _ => rfl) (fun r1011 S1 H locs hw hP hD hS => ?_)
                                        obtain ⟨hr9, e8⟩ := (O_own (IN_of hI) (by omega) (by omega) (by omega) (by omega) hw).1 hth
                                        have e9 : S = S1 := (show S1 = S from e8).symm
                                        subst e9
                                        subst hr9
                                        have hP : va_P D vwCl (LW cI cP cS ad la S lp lo lq lb lg) H := hP
                                        have hD : va_D A (LW cI cP cS ad la S lp lo lq lb lg) := hD
                                        refine lv_iload hx hb dL_isDone_1014 (lv_at hl 0 rfl) ?_
                                        refine x_cmp_ne (tgt := 1060) hx hb (Iff.rfl) dL_isDone_1016 (by decide) (fun c1016 => ?_) (fun c1016 => ?_)
                                        · exact absurd rfl c1016
                                        · refine lv_iload hx hb dL_isDone_1019 (lv_at hl 0 rfl) ?_
                                          refine x_if_lt (tgt := 1056) hx hb (Iff.rfl) dL_isDone_1021 (by decide) (fun c1021 => ?_) (fun c1021 => ?_)
                                          · refine lv_iconst (v := nI 1) hx hb dL_isDone_1056 (by decide) ?_
                                            refine lv_goto (tgt := 1061) hx hb dL_isDone_1057 (by decide) ?_
                                            exact x_ret_z hx hb hrt (by first | exact Or.inl rfl | exact Or.inr rfl) hlk hP hD hS dL_isDone_1061 ⟨by omega, by omega⟩ ((S, lp, lo, lq, lb, lg)) ⟨rfl, ⟨bk, kc, mi, cn, hI⟩⟩ rfl
                                          · exact absurd (by decide) c1021
                                      · exact absurd (by decide) c982
                                  · refine lv_iload hx hb dL_isDone_923 (lv_at hl 15 rfl) ?_
                                    refine lv_bipush (v := nI 12) hx hb dL_isDone_925 (by decide) ?_
                                    refine x_cmp_ge (tgt := 934) hx hb (nI_leI (a := 12) (b := key) (by omega) (by omega)) dL_isDone_927 (by decide) (fun c927 => ?_) (fun c927 => ?_)
                                    · refine lv_iconst (v := nI 0) hx hb dL_isDone_934 (by decide) ?_
                                      refine lv_istore (lv' := [(16, .int (nI 0)), (15, .int (eX num)), (0, .ref (ad 0)), (1, .ref sb), (2, .int (nI a9)), (3, .ref (la 0)), (4, .ref (la 1)), (5, .ref (la 2)), (6, .ref (la 3)), (7, .ref (la 4)), (8, .int (nI wh)), (9, .int (nI one)), (10, .int (nI two)), (11, .int (nI three)), (12, .int (nI its)), (13, .int (nI t)), (14, .int (nI key))]) hx hb dL_isDone_935 hl (by decide) rfl (fun ls hl => ?_)
                                      refine lv_iload hx hb dL_isDone_937 (lv_at hl 0 rfl) ?_
                                      refine x_if_ne (tgt := 947) hx hb (nI_z (by omega)) dL_isDone_939 (by decide) (fun c939 => ?_) (fun c939 => ?_)
                                      · exfalso; omega
                                      · refine lv_bipush (v := (-30 : Int32)) hx hb dL_isDone_942 (by decide) ?_
                                        refine lv_goto (tgt := 978) hx hb dL_isDone_944 (by decide) ?_
                                        refine lv_istore (lv' := [(17, .int ((-30 : Int32))), (16, .int (nI 0)), (15, .int (eX num)), (0, .ref (ad 0)), (1, .ref sb), (2, .int (nI a9)), (3, .ref (la 0)), (4, .ref (la 1)), (5, .ref (la 2)), (6, .ref (la 3)), (7, .ref (la 4)), (8, .int (nI wh)), (9, .int (nI one)), (10, .int (nI two)), (11, .int (nI three)), (12, .int (nI its)), (13, .int (nI t)), (14, .int (nI key))]) hx hb dL_isDone_978 hl (by decide) rfl (fun ls hl => ?_)
                                        refine lv_iload hx hb dL_isDone_980 (lv_at hl 0 rfl) ?_
                                        refine x_if_lt (tgt := 999) hx hb (Iff.rfl) dL_isDone_982 (by decide) (fun c982 => ?_) (fun c982 => ?_)
                                        · refine lv_aload_n hx hb dL_isDone_999 rfl (lv_at hl 3 rfl) ?_
                                          refine lv_bipush (v := nI 12) hx hb dL_isDone_1000 (by decide) ?_
                                          refine lv_iload hx hb dL_isDone_1002 (lv_at hl 15 rfl) ?_
                                          refine lv_iload hx hb dL_isDone_1004 (lv_at hl 16 rfl) ?_
                                          refine lv_iload hx hb dL_isDone_1006 (lv_at hl 17 rfl) ?_
                                          refine lv_iload hx hb dL_isDone_1008 (lv_at hl 2 rfl) ?_
                                          refine lv_iconst (v := nI 0) hx hb dL_isDone_1010 (by decide) ?_
                                          refine x_calli (w2 := fun (S1 : S4) => LW cI cP cS ad la S1 lp lo lq lb lg) (wr := []) (x_runL (n := 7) ⟨hx, hb, hml, hown, hts⟩ (fD_own l D cI cP cS cL hfl ad la lp lo lq lb lg (s_lim S) (s_n S) (s_rows S) (s_cc S) (s_ct S) (s_ck S) (s_nr S) (s_cr S) (s_old S) (s_rw S) (s_co S) (s_re S) (s_nu S) (s_ma S) (s_sr S) (s_cp S) (s_pu S) (s_st S) (s_sl S) (cl its) (nI its) (nI t) (nI key) (eX num) (nI 0) (cl_lt its) (hsx_cl (by omega))) gL_isDone_L_does rfl rfl rfl (by decide +kernel) ⟨by decide, by decide⟩ hN hK hP hD hS hA hE iLW rfl rfl rfl hl.1 (rest := []) (As := [.ref (ad 0), .int (nI 12), .int (nI its), .int (nI t), .int (nI key), .int (eX num), .int (nI 0)]) rfl (Nat.le_of_ble_eq_true rfl) dL_isDone_1011 ⟨by show _ ≤ 700; omega, by show _ ≤ 4200; omega⟩) hP hD hS hA iLW [] iLW rfl rfl rfl (by decide) rfl (fun _ => rfl) (fun r1011 S1 H locs hw hP hD hS => ?_)
                                          obtain ⟨hr9, e8⟩ := (O_own (IN_of hI) (by omega) (by omega) (by omega) (by omega) hw).1 hth
                                          have e9 : S = S1 := (show S1 = S from e8).symm
                                          subst e9
                                          subst hr9
                                          have hP : va_P D vwCl (LW cI cP cS ad la S lp lo lq lb lg) H := hP
                                          have hD : va_D A (LW cI cP cS ad la S lp lo lq lb lg) := hD
                                          refine lv_iload hx hb dL_isDone_1014 (lv_at hl 0 rfl) ?_
                                          refine x_cmp_ne (tgt := 1060) hx hb (Iff.rfl) dL_isDone_1016 (by decide) (fun c1016 => ?_) (fun c1016 => ?_)
                                          · exact absurd rfl c1016
                                          · refine lv_iload hx hb dL_isDone_1019 (lv_at hl 0 rfl) ?_
                                            refine x_if_lt (tgt := 1056) hx hb (Iff.rfl) dL_isDone_1021 (by decide) (fun c1021 => ?_) (fun c1021 => ?_)
                                            · refine lv_iconst (v := nI 1) hx hb dL_isDone_1056 (by decide) ?_
                                              refine lv_goto (tgt := 1061) hx hb dL_isDone_1057 (by decide) ?_
                                              exact x_ret_z hx hb hrt (by first | exact Or.inl rfl | exact Or.inr rfl) hlk hP hD hS dL_isDone_1061 ⟨by omega, by omega⟩ ((S, lp, lo, lq, lb, lg)) ⟨rfl, ⟨bk, kc, mi, cn, hI⟩⟩ rfl
                                            · exact absurd (by decide) c1021
                                        · exact absurd (by decide) c982
                                    · exfalso; omega
                            intro kj909
                            refine lv_iload hx hb dL_isDone_889 (lv_at hl 12 rfl) ?_
                            refine lv_bipush (v := nI 33) hx hb dL_isDone_891 (by decide) ?_
                            refine x_rem (k := three % 33) hx hb dL_isDone_893 (by omega) (by omega) (by omega) rfl ?_
                            refine x_if_ne (tgt := 902) hx hb (nI_z (by omega)) dL_isDone_894 (by decide) (fun c894 => ?_) (fun c894 => ?_)
                            · refine lv_iload hx hb dL_isDone_902 (lv_at hl 10 rfl) ?_
                              refine lv_bipush (v := nI 11) hx hb dL_isDone_904 (by decide) ?_
                              refine x_rem (k := one % 11) hx hb dL_isDone_906 (by omega) (by omega) (by omega) rfl ?_
                              refine lv_iconst (v := nI 1) hx hb dL_isDone_907 (by decide) ?_
                              refine lv_isub hx hb dL_isDone_908 ?_
                              refine x_top (y := eX (one % 11)) (rfl) ?_
                              exact W.widen (by show _ ≤ 0; omega) (by show _ ≤ 0; omega) (kj909 (one % 11) (by show _ ≤ 101; omega) _ _ _ hP hD hS (lv_sub hl [1, 2, 3, 4, 5, 6, 7, 8, 9, 10, 11, 12, 13, 14, 0] rfl))
                            · refine lv_bipush (v := nI 100) hx hb dL_isDone_897 (by decide) ?_
                              refine lv_goto (tgt := 909) hx hb dL_isDone_899 (by decide) ?_
                              exact W.widen (by show _ ≤ 0; omega) (by show _ ≤ 0; omega) (kj909 101 (by show _ ≤ 101; omega) _ _ _ hP hD hS (lv_sub hl [1, 2, 3, 4, 5, 6, 7, 8, 9, 10, 11, 12, 13, 14, 0] rfl))
                          intro kj887
                          refine lv_iload hx hb dL_isDone_869 (lv_at hl 12 rfl) ?_
                          refine lv_bipush (v := nI 20) hx hb dL_isDone_871 (by decide) ?_
                          refine x_rem (k := three % 20) hx hb dL_isDone_873 (by omega) (by omega) (by omega) rfl ?_
                          refine x_if_ne (tgt := 882) hx hb (nI_z (by omega)) dL_isDone_874 (by decide) (fun c874 => ?_) (fun c874 => ?_)
                          · refine lv_iload hx hb dL_isDone_882 (lv_at hl 12 rfl) ?_
                            refine lv_bipush (v := nI 6) hx hb dL_isDone_884 (by decide) ?_
                            refine x_rem (k := three % 6) hx hb dL_isDone_886 (by omega) (by omega) (by omega) rfl ?_
                            exact W.widen (by show _ ≤ 0; omega) (by show _ ≤ 0; omega) (kj887 (three % 6) (by show _ ≤ 12; omega) _ _ _ hP hD hS (lv_sub hl [1, 2, 3, 4, 5, 6, 7, 8, 9, 10, 11, 12, 13, 0] rfl))
                          · refine lv_bipush (v := nI 12) hx hb dL_isDone_877 (by decide) ?_
                            refine lv_goto (tgt := 887) hx hb dL_isDone_879 (by decide) ?_
                            exact W.widen (by show _ ≤ 0; omega) (by show _ ≤ 0; omega) (kj887 12 (by show _ ≤ 12; omega) _ _ _ hP hD hS (lv_sub hl [1, 2, 3, 4, 5, 6, 7, 8, 9, 10, 11, 12, 13, 0] rfl))
                        · rcases Classical.em (its < 3 ∧ s_st S its = 2) with hcan | hcan
                          · refine lv_iload hx hb dL_isDone_690 (lv_at hl 13 rfl) ?_
                            refine lv_iconst (v := nI 3) hx hb dL_isDone_692 (by decide) ?_
                            refine x_cmp_ge (tgt := 714) hx hb (nI_leI (a := 3) (b := its) (by omega) (by omega)) dL_isDone_693 (by decide) (fun c693 => ?_) (fun c693 => ?_)
                            · exfalso; omega
                            · obtain ⟨hf1, hf2, hf3, hf4, hf5⟩ := IN_f hI (i := its) (by omega)
                              refine lv_aload hx hb dL_isDone_696 (lv_at hl 7 rfl) ?_
                              refine lv_bipush (v := nI 7) hx hb dL_isDone_698 (by decide) ?_
                              refine lv_iload hx hb dL_isDone_700 (lv_at hl 13 rfl) ?_
                              refine x_mul (k := 7 * its) hx hb dL_isDone_702 rfl ?_
                              refine lv_iconst (v := nI 1) hx hb dL_isDone_703 (by decide) ?_
                              refine x_add (k := (7 * its) + 1) hx hb dL_isDone_704 rfl ?_
                              refine x_ald (v := nI (s_st S its)) hx hb hK hP 40 0 rfl rfl (by omega) (by omega) (IN_b1 hI (by omega)) dL_isDone_705 ?_
                              refine lv_iconst (v := nI 2) hx hb dL_isDone_706 (by decide) ?_
                              refine x_cmp_ne (tgt := 714) hx hb (nI_eq (a := (s_st S its)) (b := 2) (by omega) (by omega)) dL_isDone_707 (by decide) (fun c707 => ?_) (fun c707 => ?_)
                              · exfalso; omega
                              · refine lv_iconst (v := nI 1) hx hb dL_isDone_710 (by decide) ?_
                                refine lv_goto (tgt := 715) hx hb dL_isDone_711 (by decide) ?_
                                refine lv_istore (lv' := [(14, .int (nI 1)), (13, .int (nI t)), (0, .ref (ad 0)), (1, .ref sb), (2, .int (nI a9)), (3, .ref (la 0)), (4, .ref (la 1)), (5, .ref (la 2)), (6, .ref (la 3)), (7, .ref (la 4)), (8, .int (nI wh)), (9, .int (nI one)), (10, .int (nI two)), (11, .int (nI three)), (12, .int (nI its))]) hx hb dL_isDone_715 hl (by decide) rfl (fun ls hl => ?_)
                                rcases (show three % 2 = 0 ∨ three % 2 = 1 by omega) with hz | hz
                                · refine lv_iload hx hb dL_isDone_717 (lv_at hl 13 rfl) ?_
                                  refine lv_iconst (v := nI 2) hx hb dL_isDone_719 (by decide) ?_
                                  refine lv_irem hx hb dL_isDone_720 (by decide) ?_
                                  refine x_top (y := nI 0) ((by rw [pk_rem (by omega) (by omega) (by omega), hz])) ?_
                                  refine lv_istore (lv' := [(15, .int (nI 0)), (14, .int (nI 1)), (13, .int (nI t)), (0, .ref (ad 0)), (1, .ref sb), (2, .int (nI a9)), (3, .ref (la 0)), (4, .ref (la 1)), (5, .ref (la 2)), (6, .ref (la 3)), (7, .ref (la 4)), (8, .int (nI wh)), (9, .int (nI one)), (10, .int (nI two)), (11, .int (nI three)), (12, .int (nI its))]) hx hb dL_isDone_721 hl (by decide) rfl (fun ls hl => ?_)
                                  refine lv_iload hx hb dL_isDone_723 (lv_at hl 1 rfl) ?_
                                  refine x_if_eq (tgt := 816) hx hb (nI_z (by omega)) dL_isDone_725 (by decide) (fun c725 => ?_) (fun c725 => ?_)
                                  · exfalso; omega
                                  · refine lv_aload hx hb dL_isDone_728 (lv_at hl 9 rfl) ?_
                                    refine lv_bipush (v := nI 7) hx hb dL_isDone_730 (by decide) ?_
                                    refine lv_iload hx hb dL_isDone_732 (lv_at hl 15 rfl) ?_
                                    refine x_mul (k := 7 * its) hx hb dL_isDone_734 rfl ?_
                                    refine lv_iconst (v := nI 1) hx hb dL_isDone_735 (by decide) ?_
                                    refine x_add (k := (7 * its) + 1) hx hb dL_isDone_736 rfl ?_
                                    refine lv_iconst (v := nI 1) hx hb dL_isDone_737 (by decide) ?_
                                    refine x_ast (g := upd lb ((7 * its) + 1) (nI 1)) (ws' := LW cI cP cS ad la S lp lo lq (upd lb ((7 * its) + 1) (nI 1)) lg) hx hb hK hP hD hS 40 0 rfl rfl (by omega) (by omega) (rfl) rfl dL_isDone_738 (fun H locs hP hD hS => ?_)
                                    refine lv_aload hx hb dL_isDone_739 (lv_at hl 9 rfl) ?_
                                    refine lv_bipush (v := nI 7) hx hb dL_isDone_741 (by decide) ?_
                                    refine lv_iload hx hb dL_isDone_743 (lv_at hl 15 rfl) ?_
                                    refine x_mul (k := 7 * its) hx hb dL_isDone_745 rfl ?_
                                    refine lv_iconst (v := nI 2) hx hb dL_isDone_746 (by decide) ?_
                                    refine x_add (k := (7 * its) + 2) hx hb dL_isDone_747 rfl ?_
                                    refine lv_dup2_11 hx hb dL_isDone_748 rfl rfl ?_
                                    refine x_ald (v := nI (s_sl S its)) hx hb hK hP 40 0 rfl rfl (by omega) (by omega) (by rw [upd_ne (by omega)]; exact IN_b2 hI (by omega)) dL_isDone_749 ?_
                                    refine lv_iload hx hb dL_isDone_750 (lv_at hl 0 rfl) ?_
                                    refine x_add (k := (s_sl S its) + 0) hx hb dL_isDone_752 rfl ?_
                                    refine x_ast (g := upd (upd lb ((7 * its) + 1) (nI 1)) ((7 * its) + 2) (nI ((s_sl S its) + 0))) (ws' := LW cI cP cS ad la S lp lo lq (upd (upd lb ((7 * its) + 1) (nI 1)) ((7 * its) + 2) (nI ((s_sl S its) + 0))) lg) hx hb hK hP hD hS 40 0 rfl rfl (by omega) (by omega) (rfl) rfl dL_isDone_753 (fun H locs hP hD hS => ?_)
                                    refine lv_aload hx hb dL_isDone_754 (lv_at hl 9 rfl) ?_
                                    refine lv_bipush (v := nI 7) hx hb dL_isDone_756 (by decide) ?_
                                    refine lv_iload hx hb dL_isDone_758 (lv_at hl 15 rfl) ?_
                                    refine x_mul (k := 7 * its) hx hb dL_isDone_760 rfl ?_
                                    refine lv_iconst (v := nI 5) hx hb dL_isDone_761 (by decide) ?_
                                    refine x_add (k := (7 * its) + 5) hx hb dL_isDone_762 rfl ?_
                                    refine lv_iload hx hb dL_isDone_763 (lv_at hl 0 rfl) ?_
                                    refine lv_iconst (v := nI 1) hx hb dL_isDone_765 (by decide) ?_
                                    refine x_cmp_ne (tgt := 773) hx hb (nI_eq (a := 0) (b := 1) (by omega) (by omega)) dL_isDone_766 (by decide) (fun c766 => ?_) (fun c766 => ?_)
                                    · refine lv_aload hx hb dL_isDone_773 (lv_at hl 9 rfl) ?_
                                      refine lv_bipush (v := nI 7) hx hb dL_isDone_775 (by decide) ?_
                                      refine lv_iload hx hb dL_isDone_777 (lv_at hl 15 rfl) ?_
                                      refine x_mul (k := 7 * its) hx hb dL_isDone_779 rfl ?_
                                      refine lv_iconst (v := nI 5) hx hb dL_isDone_780 (by decide) ?_
                                      refine x_add (k := (7 * its) + 5) hx hb dL_isDone_781 rfl ?_
                                      refine x_ald (v := nI (mi its 0)) hx hb hK hP 40 0 rfl rfl (by omega) (by omega) (by rw [upd_ne (by omega), upd_ne (by omega)]; exact IN_b50 hI (by omega)) dL_isDone_782 ?_
                                      refine x_ast (g := upd (upd (upd lb ((7 * its) + 1) (nI 1)) ((7 * its) + 2) (nI ((s_sl S its) + 0))) ((7 * its) + 5) (nI (mi its 0))) (ws' := LW cI cP cS ad la S lp lo lq (upd (upd (upd lb ((7 * its) + 1) (nI 1)) ((7 * its) + 2) (nI ((s_sl S its) + 0))) ((7 * its) + 5) (nI (mi its 0))) lg) hx hb hK hP hD hS 40 0 rfl rfl (by omega) (by omega) (rfl) rfl dL_isDone_783 (fun H locs hP hD hS => ?_)
                                      refine lv_aload hx hb dL_isDone_784 (lv_at hl 9 rfl) ?_
                                      refine lv_bipush (v := nI 7) hx hb dL_isDone_786 (by decide) ?_
                                      refine lv_iload hx hb dL_isDone_788 (lv_at hl 15 rfl) ?_
                                      refine x_mul (k := 7 * its) hx hb dL_isDone_790 rfl ?_
                                      refine lv_bipush (v := nI 6) hx hb dL_isDone_791 (by decide) ?_
                                      refine x_add (k := (7 * its) + 6) hx hb dL_isDone_793 rfl ?_
                                      refine lv_iload hx hb dL_isDone_794 (lv_at hl 0 rfl) ?_
                                      refine lv_iconst (v := nI 1) hx hb dL_isDone_796 (by decide) ?_
                                      refine x_cmp_ne (tgt := 804) hx hb (nI_eq (a := 0) (b := 1) (by omega) (by omega)) dL_isDone_797 (by decide) (fun c797 => ?_) (fun c797 => ?_)
                                      · refine lv_aload hx hb dL_isDone_804 (lv_at hl 9 rfl) ?_
                                        refine lv_bipush (v := nI 7) hx hb dL_isDone_806 (by decide) ?_
                                        refine lv_iload hx hb dL_isDone_808 (lv_at hl 15 rfl) ?_
                                        refine x_mul (k := 7 * its) hx hb dL_isDone_810 rfl ?_
                                        refine lv_bipush (v := nI 6) hx hb dL_isDone_811 (by decide) ?_
                                        refine x_add (k := (7 * its) + 6) hx hb dL_isDone_813 rfl ?_
                                        refine x_ald (v := nI (mi its 1)) hx hb hK hP 40 0 rfl rfl (by omega) (by omega) (by rw [upd_ne (by omega), upd_ne (by omega), upd_ne (by omega)]; exact IN_b51 hI (by omega)) dL_isDone_814 ?_
                                        refine x_ast (g := upd (upd (upd (upd lb ((7 * its) + 1) (nI 1)) ((7 * its) + 2) (nI ((s_sl S its) + 0))) ((7 * its) + 5) (nI (mi its 0))) ((7 * its) + 6) (nI (mi its 1))) (ws' := LW cI cP cS ad la S lp lo lq (upd (upd (upd (upd lb ((7 * its) + 1) (nI 1)) ((7 * its) + 2) (nI ((s_sl S its) + 0))) ((7 * its) + 5) (nI (mi its 0))) ((7 * its) + 6) (nI (mi its 1))) lg) hx hb hK hP hD hS 40 0 rfl rfl (by omega) (by omega) (rfl) rfl dL_isDone_815 (fun H locs hP hD hS => ?_)
                                        refine lv_aload_n hx hb dL_isDone_816 rfl (lv_at hl 3 rfl) ?_
                                        refine lv_bipush (v := nI 11) hx hb dL_isDone_817 (by decide) ?_
                                        refine lv_iload hx hb dL_isDone_819 (lv_at hl 15 rfl) ?_
                                        refine lv_iload hx hb dL_isDone_821 (lv_at hl 0 rfl) ?_
                                        refine lv_iconst (v := nI 0) hx hb dL_isDone_823 (by decide) ?_
                                        refine lv_iconst (v := nI 0) hx hb dL_isDone_824 (by decide) ?_
                                        refine lv_iconst (v := nI 0) hx hb dL_isDone_825 (by decide) ?_
                                        refine x_calli (w2 := fun (S1 : S4) => LW cI cP cS ad la S1 lp lo lq (upd (upd (upd (upd lb ((7 * its) + 1) (nI 1)) ((7 * its) + 2) (nI ((s_sl S its) + 0))) ((7 * its) + 5) (nI (mi its 0))) ((7 * its) + 6) (nI (mi its 1))) lg) (wr := []) (x_runL (n := 7) ⟨hx, hb, hml, hown, hts⟩ (fD_goOn0 l D cI cP cS cL hfl ad la lp lo lq (upd (upd (upd (upd lb ((7 * its) + 1) (nI 1)) ((7 * its) + 2) (nI ((s_sl S its) + 0))) ((7 * its) + 5) (nI (mi its 0))) ((7 * its) + 6) (nI (mi its 1))) lg (s_lim S) (s_n S) (s_rows S) (s_cc S) (s_ct S) (s_ck S) (s_nr S) (s_cr S) (s_old S) (s_rw S) (s_co S) (s_re S) (s_nu S) (s_ma S) (s_sr S) (s_cp S) (s_pu S) (s_st S) (s_sl S) (cl its) (nI its) (nI 0) (nI 0) (nI 0) (cl_lt its) (hsx_cl (by omega)) (IN_sts hI _ (cl_lt its)) (IN_sls hI _ (cl_lt its)) hn50 (IN_f hI (cl_lt its)).2.2.2.1) gL_isDone_L_does rfl rfl rfl (by decide +kernel) ⟨by decide, by decide⟩ hN hK hP hD hS hA hE iLW rfl rfl rfl hl.1 (rest := []) (As := [.ref (ad 0), .int (nI 11), .int (nI its), .int (nI 0), .int (nI 0), .int (nI 0), .int (nI 0)]) rfl (Nat.le_of_ble_eq_true rfl) dL_isDone_826 ⟨by show _ ≤ 700; omega, by show _ ≤ 4200; omega⟩) hP hD hS hA iLW [] iLW rfl rfl rfl (by decide) rfl (fun _ => rfl) (fun r826 S1 H locs hw hP hD hS => ?_)
                                        obtain ⟨hr9, hI1⟩ := (O_goOn0 (IN_of hI) cl_of (by omega) hw).2.2 hcan.1 hcan.2
                                        have hI1 := hI1 (upd (upd (upd (upd lb ((7 * its) + 1) (nI 1)) ((7 * its) + 2) (nI ((s_sl S its) + 0))) ((7 * its) + 5) (nI (mi its 0))) ((7 * its) + 6) (nI (mi its 1))) (fun i hi h j hj => by rw [upd_ne (by omega), upd_ne (by omega), upd_ne (by omega), upd_ne (by omega)]) (by rw [upd_ne (by omega), upd_ne (by omega), upd_ne (by omega), upd_ne (by omega)]) (by rw [upd_ne (by omega), upd_ne (by omega), upd_ne (by omega), upd_same]) (by rw [upd_ne (by omega), upd_ne (by omega), upd_same]) (by rw [upd_ne (by omega), upd_ne (by omega), upd_ne (by omega), upd_ne (by omega)]) (by rw [upd_ne (by omega), upd_ne (by omega), upd_ne (by omega), upd_ne (by omega)]) (by rw [if_neg (by decide), upd_ne (by omega), upd_same]; exact (IN_b50 hI (by omega)).symm) (by rw [if_neg (by decide), upd_same]; exact (IN_b51 hI (by omega)).symm)
                                        subst hr9
                                        have hP : va_P D vwCl (LW cI cP cS ad la S1 lp lo lq (upd (upd (upd (upd lb ((7 * its) + 1) (nI 1)) ((7 * its) + 2) (nI ((s_sl S its) + 0))) ((7 * its) + 5) (nI (mi its 0))) ((7 * its) + 6) (nI (mi its 1))) lg) H := hP
                                        have hD : va_D A (LW cI cP cS ad la S1 lp lo lq (upd (upd (upd (upd lb ((7 * its) + 1) (nI 1)) ((7 * its) + 2) (nI ((s_sl S its) + 0))) ((7 * its) + 5) (nI (mi its 0))) ((7 * its) + 6) (nI (mi its 1))) lg) := hD
                                        refine lv_iload hx hb dL_isDone_829 (lv_at hl 15 rfl) ?_
                                        refine lv_iconst (v := nI 3) hx hb dL_isDone_831 (by decide) ?_
                                        refine x_cmp_ne (tgt := 840) hx hb (nI_eq (a := its) (b := 3) (by omega) (by omega)) dL_isDone_832 (by decide) (fun c832 => ?_) (fun c832 => ?_)
                                        · refine lv_iload hx hb dL_isDone_840 (lv_at hl 1 rfl) ?_
                                          refine x_if_eq (tgt := 858) hx hb (nI_z (by omega)) dL_isDone_842 (by decide) (fun c842 => ?_) (fun c842 => ?_)
                                          · exfalso; omega
                                          · refine lv_aload hx hb dL_isDone_845 (lv_at hl 9 rfl) ?_
                                            refine lv_bipush (v := nI 7) hx hb dL_isDone_847 (by decide) ?_
                                            refine lv_iload hx hb dL_isDone_849 (lv_at hl 15 rfl) ?_
                                            refine x_mul (k := 7 * its) hx hb dL_isDone_851 rfl ?_
                                            refine lv_iconst (v := nI 2) hx hb dL_isDone_852 (by decide) ?_
                                            refine x_add (k := (7 * its) + 2) hx hb dL_isDone_853 rfl ?_
                                            refine x_ald (v := nI (s_sl S its + 0)) hx hb hK hP 40 0 rfl rfl (by omega) (by omega) (by rw [upd_ne (by omega), upd_ne (by omega), upd_same]) dL_isDone_854 ?_
                                            refine lv_goto (tgt := 860) hx hb dL_isDone_855 (by decide) ?_
                                            refine x_cmp_ne (tgt := 867) hx hb (Iff.rfl) dL_isDone_860 (by decide) (fun c860 => ?_) (fun c860 => ?_)
                                            · exact absurd rfl c860
                                            · refine lv_iconst (v := nI 1) hx hb dL_isDone_863 (by decide) ?_
                                              refine lv_goto (tgt := 868) hx hb dL_isDone_864 (by decide) ?_
                                              exact x_ret_z hx hb hrt (by first | exact Or.inl rfl | exact Or.inr rfl) hlk hP hD hS dL_isDone_868 ⟨by omega, by omega⟩ ((S1, lp, lo, lq, upd (upd (upd (upd lb ((7 * its) + 1) (nI 1)) ((7 * its) + 2) (nI ((s_sl S its) + 0))) ((7 * its) + 5) (nI (mi its 0))) ((7 * its) + 6) (nI (mi its 1)), lg)) ⟨rfl, ⟨_, _, _, _, hI1⟩⟩ rfl
                                        · exfalso; omega
                                      · exfalso; omega
                                    · exfalso; omega
                                · refine lv_iload hx hb dL_isDone_717 (lv_at hl 13 rfl) ?_
                                  refine lv_iconst (v := nI 2) hx hb dL_isDone_719 (by decide) ?_
                                  refine lv_irem hx hb dL_isDone_720 (by decide) ?_
                                  refine x_top (y := nI 1) ((by rw [pk_rem (by omega) (by omega) (by omega), hz])) ?_
                                  refine lv_istore (lv' := [(15, .int (nI 1)), (14, .int (nI 1)), (13, .int (nI t)), (0, .ref (ad 0)), (1, .ref sb), (2, .int (nI a9)), (3, .ref (la 0)), (4, .ref (la 1)), (5, .ref (la 2)), (6, .ref (la 3)), (7, .ref (la 4)), (8, .int (nI wh)), (9, .int (nI one)), (10, .int (nI two)), (11, .int (nI three)), (12, .int (nI its))]) hx hb dL_isDone_721 hl (by decide) rfl (fun ls hl => ?_)
                                  refine lv_iload hx hb dL_isDone_723 (lv_at hl 1 rfl) ?_
                                  refine x_if_eq (tgt := 816) hx hb (nI_z (by omega)) dL_isDone_725 (by decide) (fun c725 => ?_) (fun c725 => ?_)
                                  · exfalso; omega
                                  · refine lv_aload hx hb dL_isDone_728 (lv_at hl 9 rfl) ?_
                                    refine lv_bipush (v := nI 7) hx hb dL_isDone_730 (by decide) ?_
                                    refine lv_iload hx hb dL_isDone_732 (lv_at hl 15 rfl) ?_
                                    refine x_mul (k := 7 * its) hx hb dL_isDone_734 rfl ?_
                                    refine lv_iconst (v := nI 1) hx hb dL_isDone_735 (by decide) ?_
                                    refine x_add (k := (7 * its) + 1) hx hb dL_isDone_736 rfl ?_
                                    refine lv_iconst (v := nI 1) hx hb dL_isDone_737 (by decide) ?_
                                    refine x_ast (g := upd lb ((7 * its) + 1) (nI 1)) (ws' := LW cI cP cS ad la S lp lo lq (upd lb ((7 * its) + 1) (nI 1)) lg) hx hb hK hP hD hS 40 0 rfl rfl (by omega) (by omega) (rfl) rfl dL_isDone_738 (fun H locs hP hD hS => ?_)
                                    refine lv_aload hx hb dL_isDone_739 (lv_at hl 9 rfl) ?_
                                    refine lv_bipush (v := nI 7) hx hb dL_isDone_741 (by decide) ?_
                                    refine lv_iload hx hb dL_isDone_743 (lv_at hl 15 rfl) ?_
                                    refine x_mul (k := 7 * its) hx hb dL_isDone_745 rfl ?_
                                    refine lv_iconst (v := nI 2) hx hb dL_isDone_746 (by decide) ?_
                                    refine x_add (k := (7 * its) + 2) hx hb dL_isDone_747 rfl ?_
                                    refine lv_dup2_11 hx hb dL_isDone_748 rfl rfl ?_
                                    refine x_ald (v := nI (s_sl S its)) hx hb hK hP 40 0 rfl rfl (by omega) (by omega) (by rw [upd_ne (by omega)]; exact IN_b2 hI (by omega)) dL_isDone_749 ?_
                                    refine lv_iload hx hb dL_isDone_750 (lv_at hl 0 rfl) ?_
                                    refine x_add (k := (s_sl S its) + 1) hx hb dL_isDone_752 rfl ?_
                                    refine x_ast (g := upd (upd lb ((7 * its) + 1) (nI 1)) ((7 * its) + 2) (nI ((s_sl S its) + 1))) (ws' := LW cI cP cS ad la S lp lo lq (upd (upd lb ((7 * its) + 1) (nI 1)) ((7 * its) + 2) (nI ((s_sl S its) + 1))) lg) hx hb hK hP hD hS 40 0 rfl rfl (by omega) (by omega) (rfl) rfl dL_isDone_753 (fun H locs hP hD hS => ?_)
                                    refine lv_aload hx hb dL_isDone_754 (lv_at hl 9 rfl) ?_
                                    refine lv_bipush (v := nI 7) hx hb dL_isDone_756 (by decide) ?_
                                    refine lv_iload hx hb dL_isDone_758 (lv_at hl 15 rfl) ?_
                                    refine x_mul (k := 7 * its) hx hb dL_isDone_760 rfl ?_
                                    refine lv_iconst (v := nI 5) hx hb dL_isDone_761 (by decide) ?_
                                    refine x_add (k := (7 * its) + 5) hx hb dL_isDone_762 rfl ?_
                                    refine lv_iload hx hb dL_isDone_763 (lv_at hl 0 rfl) ?_
                                    refine lv_iconst (v := nI 1) hx hb dL_isDone_765 (by decide) ?_
                                    refine x_cmp_ne (tgt := 773) hx hb (Iff.rfl) dL_isDone_766 (by decide) (fun c766 => ?_) (fun c766 => ?_)
                                    · exact absurd rfl c766
                                    · refine lv_iconst (v := nI 1) hx hb dL_isDone_769 (by decide) ?_
                                      refine lv_goto (tgt := 783) hx hb dL_isDone_770 (by decide) ?_
                                      refine x_ast (g := upd (upd (upd lb ((7 * its) + 1) (nI 1)) ((7 * its) + 2) (nI ((s_sl S its) + 1))) ((7 * its) + 5) (nI 1)) (ws' := LW cI cP cS ad la S lp lo lq (upd (upd (upd lb ((7 * its) + 1) (nI 1)) ((7 * its) + 2) (nI ((s_sl S its) + 1))) ((7 * its) + 5) (nI 1)) lg) hx hb hK hP hD hS 40 0 rfl rfl (by omega) (by omega) (rfl) rfl dL_isDone_783 (fun H locs hP hD hS => ?_)
                                      refine lv_aload hx hb dL_isDone_784 (lv_at hl 9 rfl) ?_
                                      refine lv_bipush (v := nI 7) hx hb dL_isDone_786 (by decide) ?_
                                      refine lv_iload hx hb dL_isDone_788 (lv_at hl 15 rfl) ?_
                                      refine x_mul (k := 7 * its) hx hb dL_isDone_790 rfl ?_
                                      refine lv_bipush (v := nI 6) hx hb dL_isDone_791 (by decide) ?_
                                      refine x_add (k := (7 * its) + 6) hx hb dL_isDone_793 rfl ?_
                                      refine lv_iload hx hb dL_isDone_794 (lv_at hl 0 rfl) ?_
                                      refine lv_iconst (v := nI 1) hx hb dL_isDone_796 (by decide) ?_
                                      refine x_cmp_ne (tgt := 804) hx hb (Iff.rfl) dL_isDone_797 (by decide) (fun c797 => ?_) (fun c797 => ?_)
                                      · exact absurd rfl c797
                                      · refine lv_iconst (v := nI 1) hx hb dL_isDone_800 (by decide) ?_
                                        refine lv_goto (tgt := 815) hx hb dL_isDone_801 (by decide) ?_
                                        refine x_ast (g := upd (upd (upd (upd lb ((7 * its) + 1) (nI 1)) ((7 * its) + 2) (nI ((s_sl S its) + 1))) ((7 * its) + 5) (nI 1)) ((7 * its) + 6) (nI 1)) (ws' := LW cI cP cS ad la S lp lo lq (upd (upd (upd (upd lb ((7 * its) + 1) (nI 1)) ((7 * its) + 2) (nI ((s_sl S its) + 1))) ((7 * its) + 5) (nI 1)) ((7 * its) + 6) (nI 1)) lg) hx hb hK hP hD hS 40 0 rfl rfl (by omega) (by omega) (rfl) rfl dL_isDone_815 (fun H locs hP hD hS => ?_)
                                        refine lv_aload_n hx hb dL_isDone_816 rfl (lv_at hl 3 rfl) ?_
                                        refine lv_bipush (v := nI 11) hx hb dL_isDone_817 (by decide) ?_
                                        refine lv_iload hx hb dL_isDone_819 (lv_at hl 15 rfl) ?_
                                        refine lv_iload hx hb dL_isDone_821 (lv_at hl 0 rfl) ?_
                                        refine lv_iconst (v := nI 0) hx hb dL_isDone_823 (by decide) ?_
                                        refine lv_iconst (v := nI 0) hx hb dL_isDone_824 (by decide) ?_
                                        refine lv_iconst (v := nI 0) hx hb dL_isDone_825 (by decide) ?_
                                        refine x_calli (w2 := fun (S1 : S4) => LW cI cP cS ad la S1 lp lo lq (upd (upd (upd (upd lb ((7 * its) + 1) (nI 1)) ((7 * its) + 2) (nI ((s_sl S its) + 1))) ((7 * its) + 5) (nI 1)) ((7 * its) + 6) (nI 1)) lg) (wr := []) (x_runL (n := 7) ⟨hx, hb, hml, hown, hts⟩ (fD_goOn1 l D cI cP cS cL hfl ad la lp lo lq (upd (upd (upd (upd lb ((7 * its) + 1) (nI 1)) ((7 * its) + 2) (nI ((s_sl S its) + 1))) ((7 * its) + 5) (nI 1)) ((7 * its) + 6) (nI 1)) lg (s_lim S) (s_n S) (s_rows S) (s_cc S) (s_ct S) (s_ck S) (s_nr S) (s_cr S) (s_old S) (s_rw S) (s_co S) (s_re S) (s_nu S) (s_ma S) (s_sr S) (s_cp S) (s_pu S) (s_st S) (s_sl S) (cl its) (nI its) (nI 0) (nI 0) (nI 0) (cl_lt its) (hsx_cl (by omega)) (IN_sts hI _ (cl_lt its)) (IN_sls hI _ (cl_lt its)) hn50 (IN_f hI (cl_lt its)).2.2.2.1) gL_isDone_L_does rfl rfl rfl (by decide +kernel) ⟨by decide, by decide⟩ hN hK hP hD hS hA hE iLW rfl rfl rfl hl.1 (rest := []) (As := [.ref (ad 0), .int (nI 11), .int (nI its), .int (nI 1), .int (nI 0), .int (nI 0), .int (nI 0)]) rfl (Nat.le_of_ble_eq_true rfl) dL_isDone_826 ⟨by show _ ≤ 700; omega, by show _ ≤ 4200; omega⟩) hP hD hS hA iLW [] iLW rfl rfl rfl (by decide) rfl (fun _ => rfl) (fun r826 S1 H locs hw hP hD hS => ?_)
                                        obtain ⟨hr9, hI1⟩ := (O_goOn1 (IN_of hI) cl_of (by omega) hw).2.2 hcan.1 hcan.2
                                        have hI1 := hI1 (upd (upd (upd (upd lb ((7 * its) + 1) (nI 1)) ((7 * its) + 2) (nI ((s_sl S its) + 1))) ((7 * its) + 5) (nI 1)) ((7 * its) + 6) (nI 1)) (fun i hi h j hj => by rw [upd_ne (by omega), upd_ne (by omega), upd_ne (by omega), upd_ne (by omega)]) (by rw [upd_ne (by omega), upd_ne (by omega), upd_ne (by omega), upd_ne (by omega)]) (by rw [upd_ne (by omega), upd_ne (by omega), upd_ne (by omega), upd_same]) (by rw [upd_ne (by omega), upd_ne (by omega), upd_same]) (by rw [upd_ne (by omega), upd_ne (by omega), upd_ne (by omega), upd_ne (by omega)]) (by rw [upd_ne (by omega), upd_ne (by omega), upd_ne (by omega), upd_ne (by omega)]) (by rw [if_pos rfl, upd_ne (by omega), upd_same]) (by rw [if_pos rfl, upd_same])
                                        subst hr9
                                        have hP : va_P D vwCl (LW cI cP cS ad la S1 lp lo lq (upd (upd (upd (upd lb ((7 * its) + 1) (nI 1)) ((7 * its) + 2) (nI ((s_sl S its) + 1))) ((7 * its) + 5) (nI 1)) ((7 * its) + 6) (nI 1)) lg) H := hP
                                        have hD : va_D A (LW cI cP cS ad la S1 lp lo lq (upd (upd (upd (upd lb ((7 * its) + 1) (nI 1)) ((7 * its) + 2) (nI ((s_sl S its) + 1))) ((7 * its) + 5) (nI 1)) ((7 * its) + 6) (nI 1)) lg) := hD
                                        refine lv_iload hx hb dL_isDone_829 (lv_at hl 15 rfl) ?_
                                        refine lv_iconst (v := nI 3) hx hb dL_isDone_831 (by decide) ?_
                                        refine x_cmp_ne (tgt := 840) hx hb (nI_eq (a := its) (b := 3) (by omega) (by omega)) dL_isDone_832 (by decide) (fun c832 => ?_) (fun c832 => ?_)
                                        · refine lv_iload hx hb dL_isDone_840 (lv_at hl 1 rfl) ?_
                                          refine x_if_eq (tgt := 858) hx hb (nI_z (by omega)) dL_isDone_842 (by decide) (fun c842 => ?_) (fun c842 => ?_)
                                          · exfalso; omega
                                          · refine lv_aload hx hb dL_isDone_845 (lv_at hl 9 rfl) ?_
                                            refine lv_bipush (v := nI 7) hx hb dL_isDone_847 (by decide) ?_
                                            refine lv_iload hx hb dL_isDone_849 (lv_at hl 15 rfl) ?_
                                            refine x_mul (k := 7 * its) hx hb dL_isDone_851 rfl ?_
                                            refine lv_iconst (v := nI 2) hx hb dL_isDone_852 (by decide) ?_
                                            refine x_add (k := (7 * its) + 2) hx hb dL_isDone_853 rfl ?_
                                            refine x_ald (v := nI (s_sl S its + 1)) hx hb hK hP 40 0 rfl rfl (by omega) (by omega) (by rw [upd_ne (by omega), upd_ne (by omega), upd_same]) dL_isDone_854 ?_
                                            refine lv_goto (tgt := 860) hx hb dL_isDone_855 (by decide) ?_
                                            refine x_cmp_ne (tgt := 867) hx hb (Iff.rfl) dL_isDone_860 (by decide) (fun c860 => ?_) (fun c860 => ?_)
                                            · exact absurd rfl c860
                                            · refine lv_iconst (v := nI 1) hx hb dL_isDone_863 (by decide) ?_
                                              refine lv_goto (tgt := 868) hx hb dL_isDone_864 (by decide) ?_
                                              exact x_ret_z hx hb hrt (by first | exact Or.inl rfl | exact Or.inr rfl) hlk hP hD hS dL_isDone_868 ⟨by omega, by omega⟩ ((S1, lp, lo, lq, upd (upd (upd (upd lb ((7 * its) + 1) (nI 1)) ((7 * its) + 2) (nI ((s_sl S its) + 1))) ((7 * its) + 5) (nI 1)) ((7 * its) + 6) (nI 1), lg)) ⟨rfl, ⟨_, _, _, _, hI1⟩⟩ rfl
                                        · exfalso; omega
                          · refine lv_iload hx hb dL_isDone_690 (lv_at hl 13 rfl) ?_
                            refine lv_iconst (v := nI 3) hx hb dL_isDone_692 (by decide) ?_
                            refine x_cmp_ge (tgt := 714) hx hb (nI_leI (a := 3) (b := its) (by omega) (by omega)) dL_isDone_693 (by decide) (fun c693 => ?_) (fun c693 => ?_)
                            · refine lv_iconst (v := nI 0) hx hb dL_isDone_714 (by decide) ?_
                              refine lv_istore (lv' := [(14, .int (nI 0)), (13, .int (nI t)), (0, .ref (ad 0)), (1, .ref sb), (2, .int (nI a9)), (3, .ref (la 0)), (4, .ref (la 1)), (5, .ref (la 2)), (6, .ref (la 3)), (7, .ref (la 4)), (8, .int (nI wh)), (9, .int (nI one)), (10, .int (nI two)), (11, .int (nI three)), (12, .int (nI its))]) hx hb dL_isDone_715 hl (by decide) rfl (fun ls hl => ?_)
                              rcases (show three % 2 = 0 ∨ three % 2 = 1 by omega) with hz | hz
                              · refine lv_iload hx hb dL_isDone_717 (lv_at hl 13 rfl) ?_
                                refine lv_iconst (v := nI 2) hx hb dL_isDone_719 (by decide) ?_
                                refine lv_irem hx hb dL_isDone_720 (by decide) ?_
                                refine x_top (y := nI 0) ((by rw [pk_rem (by omega) (by omega) (by omega), hz])) ?_
                                refine lv_istore (lv' := [(15, .int (nI 0)), (14, .int (nI 0)), (13, .int (nI t)), (0, .ref (ad 0)), (1, .ref sb), (2, .int (nI a9)), (3, .ref (la 0)), (4, .ref (la 1)), (5, .ref (la 2)), (6, .ref (la 3)), (7, .ref (la 4)), (8, .int (nI wh)), (9, .int (nI one)), (10, .int (nI two)), (11, .int (nI three)), (12, .int (nI its))]) hx hb dL_isDone_721 hl (by decide) rfl (fun ls hl => ?_)
                                refine lv_iload hx hb dL_isDone_723 (lv_at hl 1 rfl) ?_
                                refine x_if_eq (tgt := 816) hx hb (nI_z (by omega)) dL_isDone_725 (by decide) (fun c725 => ?_) (fun c725 => ?_)
                                · refine lv_aload_n hx hb dL_isDone_816 rfl (lv_at hl 3 rfl) ?_
                                  refine lv_bipush (v := nI 11) hx hb dL_isDone_817 (by decide) ?_
                                  refine lv_iload hx hb dL_isDone_819 (lv_at hl 15 rfl) ?_
                                  refine lv_iload hx hb dL_isDone_821 (lv_at hl 0 rfl) ?_
                                  refine lv_iconst (v := nI 0) hx hb dL_isDone_823 (by decide) ?_
                                  refine lv_iconst (v := nI 0) hx hb dL_isDone_824 (by decide) ?_
                                  refine lv_iconst (v := nI 0) hx hb dL_isDone_825 (by decide) ?_
                                  refine x_calli (w2 := fun (S1 : S4) => LW cI cP cS ad la S1 lp lo lq lb lg) (wr := []) (x_runL (n := 7) ⟨hx, hb, hml, hown, hts⟩ (fD_goOn0 l D cI cP cS cL hfl ad la lp lo lq lb lg (s_lim S) (s_n S) (s_rows S) (s_cc S) (s_ct S) (s_ck S) (s_nr S) (s_cr S) (s_old S) (s_rw S) (s_co S) (s_re S) (s_nu S) (s_ma S) (s_sr S) (s_cp S) (s_pu S) (s_st S) (s_sl S) (cl its) (nI its) (nI 0) (nI 0) (nI 0) (cl_lt its) (hsx_cl (by omega)) (IN_sts hI _ (cl_lt its)) (IN_sls hI _ (cl_lt its)) hn50 (IN_f hI (cl_lt its)).2.2.2.1) gL_isDone_L_does rfl rfl rfl (by decide +kernel) ⟨by decide, by decide⟩ hN hK hP hD hS hA hE iLW rfl rfl rfl hl.1 (rest := []) (As := [.ref (ad 0), .int (nI 11), .int (nI its), .int (nI 0), .int (nI 0), .int (nI 0), .int (nI 0)]) rfl (Nat.le_of_ble_eq_true rfl) dL_isDone_826 ⟨by show _ ≤ 700; omega, by show _ ≤ 4200; omega⟩) hP hD hS hA iLW [] iLW rfl rfl rfl (by decide) rfl (fun _ => rfl) (fun r826 S1 H locs hw hP hD hS => ?_)
                                  obtain ⟨hr9, e8⟩ := (O_goOn0 (IN_of hI) cl_of (by omega) hw).1 (by omega)
                                  have e9 : S = S1 := (show S1 = S from e8).symm
                                  subst e9
                                  subst hr9
                                  have hP : va_P D vwCl (LW cI cP cS ad la S lp lo lq lb lg) H := hP
                                  have hD : va_D A (LW cI cP cS ad la S lp lo lq lb lg) := hD
                                  refine lv_iload hx hb dL_isDone_829 (lv_at hl 15 rfl) ?_
                                  refine lv_iconst (v := nI 3) hx hb dL_isDone_831 (by decide) ?_
                                  refine x_cmp_ne (tgt := 840) hx hb (nI_eq (a := its) (b := 3) (by omega) (by omega)) dL_isDone_832 (by decide) (fun c832 => ?_) (fun c832 => ?_)
                                  · exfalso; omega
                                  · refine lv_bipush (v := (-30 : Int32)) hx hb dL_isDone_835 (by decide) ?_
                                    refine lv_goto (tgt := 860) hx hb dL_isDone_837 (by decide) ?_
                                    refine x_cmp_ne (tgt := 867) hx hb (Iff.rfl) dL_isDone_860 (by decide) (fun c860 => ?_) (fun c860 => ?_)
                                    · exact absurd rfl c860
                                    · refine lv_iconst (v := nI 1) hx hb dL_isDone_863 (by decide) ?_
                                      refine lv_goto (tgt := 868) hx hb dL_isDone_864 (by decide) ?_
                                      exact x_ret_z hx hb hrt (by first | exact Or.inl rfl | exact Or.inr rfl) hlk hP hD hS dL_isDone_868 ⟨by omega, by omega⟩ ((S, lp, lo, lq, lb, lg)) ⟨rfl, ⟨bk, kc, mi, cn, hI⟩⟩ rfl
                                · exfalso; omega
                              · refine lv_iload hx hb dL_isDone_717 (lv_at hl 13 rfl) ?_
                                refine lv_iconst (v := nI 2) hx hb dL_isDone_719 (by decide) ?_
                                refine lv_irem hx hb dL_isDone_720 (by decide) ?_
                                refine x_top (y := nI 1) ((by rw [pk_rem (by omega) (by omega) (by omega), hz])) ?_
                                refine lv_istore (lv' := [(15, .int (nI 1)), (14, .int (nI 0)), (13, .int (nI t)), (0, .ref (ad 0)), (1, .ref sb), (2, .int (nI a9)), (3, .ref (la 0)), (4, .ref (la 1)), (5, .ref (la 2)), (6, .ref (la 3)), (7, .ref (la 4)), (8, .int (nI wh)), (9, .int (nI one)), (10, .int (nI two)), (11, .int (nI three)), (12, .int (nI its))]) hx hb dL_isDone_721 hl (by decide) rfl (fun ls hl => ?_)
                                refine lv_iload hx hb dL_isDone_723 (lv_at hl 1 rfl) ?_
                                refine x_if_eq (tgt := 816) hx hb (nI_z (by omega)) dL_isDone_725 (by decide) (fun c725 => ?_) (fun c725 => ?_)
                                · refine lv_aload_n hx hb dL_isDone_816 rfl (lv_at hl 3 rfl) ?_
                                  refine lv_bipush (v := nI 11) hx hb dL_isDone_817 (by decide) ?_
                                  refine lv_iload hx hb dL_isDone_819 (lv_at hl 15 rfl) ?_
                                  refine lv_iload hx hb dL_isDone_821 (lv_at hl 0 rfl) ?_
                                  refine lv_iconst (v := nI 0) hx hb dL_isDone_823 (by decide) ?_
                                  refine lv_iconst (v := nI 0) hx hb dL_isDone_824 (by decide) ?_
                                  refine lv_iconst (v := nI 0) hx hb dL_isDone_825 (by decide) ?_
                                  refine x_calli (w2 := fun (S1 : S4) => LW cI cP cS ad la S1 lp lo lq lb lg) (wr := []) (x_runL (n := 7) ⟨hx, hb, hml, hown, hts⟩ (fD_goOn1 l D cI cP cS cL hfl ad la lp lo lq lb lg (s_lim S) (s_n S) (s_rows S) (s_cc S) (s_ct S) (s_ck S) (s_nr S) (s_cr S) (s_old S) (s_rw S) (s_co S) (s_re S) (s_nu S) (s_ma S) (s_sr S) (s_cp S) (s_pu S) (s_st S) (s_sl S) (cl its) (nI its) (nI 0) (nI 0) (nI 0) (cl_lt its) (hsx_cl (by omega)) (IN_sts hI _ (cl_lt its)) (IN_sls hI _ (cl_lt its)) hn50 (IN_f hI (cl_lt its)).2.2.2.1) gL_isDone_L_does rfl rfl rfl (by decide +kernel) ⟨by decide, by decide⟩ hN hK hP hD hS hA hE iLW rfl rfl rfl hl.1 (rest := []) (As := [.ref (ad 0), .int (nI 11), .int (nI its), .int (nI 1), .int (nI 0), .int (nI 0), .int (nI 0)]) rfl (Nat.le_of_ble_eq_true rfl) dL_isDone_826 ⟨by show _ ≤ 700; omega, by show _ ≤ 4200; omega⟩) hP hD hS hA iLW [] iLW rfl rfl rfl (by decide) rfl (fun _ => rfl) (fun r826 S1 H locs hw hP hD hS => ?_)
                                  obtain ⟨hr9, e8⟩ := (O_goOn1 (IN_of hI) cl_of (by omega) hw).1 (by omega)
                                  have e9 : S = S1 := (show S1 = S from e8).symm
                                  subst e9
                                  subst hr9
                                  have hP : va_P D vwCl (LW cI cP cS ad la S lp lo lq lb lg) H := hP
                                  have hD : va_D A (LW cI cP cS ad la S lp lo lq lb lg) := hD
                                  refine lv_iload hx hb dL_isDone_829 (lv_at hl 15 rfl) ?_
                                  refine lv_iconst (v := nI 3) hx hb dL_isDone_831 (by decide) ?_
                                  refine x_cmp_ne (tgt := 840) hx hb (nI_eq (a := its) (b := 3) (by omega) (by omega)) dL_isDone_832 (by decide) (fun c832 => ?_) (fun c832 => ?_)
                                  · exfalso; omega
                                  · refine lv_bipush (v := (-30 : Int32)) hx hb dL_isDone_835 (by decide) ?_
                                    refine lv_goto (tgt := 860) hx hb dL_isDone_837 (by decide) ?_
                                    refine x_cmp_ne (tgt := 867) hx hb (Iff.rfl) dL_isDone_860 (by decide) (fun c860 => ?_) (fun c860 => ?_)
                                    · exact absurd rfl c860
                                    · refine lv_iconst (v := nI 1) hx hb dL_isDone_863 (by decide) ?_
                                      refine lv_goto (tgt := 868) hx hb dL_isDone_864 (by decide) ?_
                                      exact x_ret_z hx hb hrt (by first | exact Or.inl rfl | exact Or.inr rfl) hlk hP hD hS dL_isDone_868 ⟨by omega, by omega⟩ ((S, lp, lo, lq, lb, lg)) ⟨rfl, ⟨bk, kc, mi, cn, hI⟩⟩ rfl
                                · exfalso; omega
                            · obtain ⟨hf1, hf2, hf3, hf4, hf5⟩ := IN_f hI (i := its) (by omega)
                              refine lv_aload hx hb dL_isDone_696 (lv_at hl 7 rfl) ?_
                              refine lv_bipush (v := nI 7) hx hb dL_isDone_698 (by decide) ?_
                              refine lv_iload hx hb dL_isDone_700 (lv_at hl 13 rfl) ?_
                              refine x_mul (k := 7 * its) hx hb dL_isDone_702 rfl ?_
                              refine lv_iconst (v := nI 1) hx hb dL_isDone_703 (by decide) ?_
                              refine x_add (k := (7 * its) + 1) hx hb dL_isDone_704 rfl ?_
                              refine x_ald (v := nI (s_st S its)) hx hb hK hP 40 0 rfl rfl (by omega) (by omega) (IN_b1 hI (by omega)) dL_isDone_705 ?_
                              refine lv_iconst (v := nI 2) hx hb dL_isDone_706 (by decide) ?_
                              refine x_cmp_ne (tgt := 714) hx hb (nI_eq (a := (s_st S its)) (b := 2) (by omega) (by omega)) dL_isDone_707 (by decide) (fun c707 => ?_) (fun c707 => ?_)
                              · refine lv_iconst (v := nI 0) hx hb dL_isDone_714 (by decide) ?_
                                refine lv_istore (lv' := [(14, .int (nI 0)), (13, .int (nI t)), (0, .ref (ad 0)), (1, .ref sb), (2, .int (nI a9)), (3, .ref (la 0)), (4, .ref (la 1)), (5, .ref (la 2)), (6, .ref (la 3)), (7, .ref (la 4)), (8, .int (nI wh)), (9, .int (nI one)), (10, .int (nI two)), (11, .int (nI three)), (12, .int (nI its))]) hx hb dL_isDone_715 hl (by decide) rfl (fun ls hl => ?_)
                                rcases (show three % 2 = 0 ∨ three % 2 = 1 by omega) with hz | hz
                                · refine lv_iload hx hb dL_isDone_717 (lv_at hl 13 rfl) ?_
                                  refine lv_iconst (v := nI 2) hx hb dL_isDone_719 (by decide) ?_
                                  refine lv_irem hx hb dL_isDone_720 (by decide) ?_
                                  refine x_top (y := nI 0) ((by rw [pk_rem (by omega) (by omega) (by omega), hz])) ?_
                                  refine lv_istore (lv' := [(15, .int (nI 0)), (14, .int (nI 0)), (13, .int (nI t)), (0, .ref (ad 0)), (1, .ref sb), (2, .int (nI a9)), (3, .ref (la 0)), (4, .ref (la 1)), (5, .ref (la 2)), (6, .ref (la 3)), (7, .ref (la 4)), (8, .int (nI wh)), (9, .int (nI one)), (10, .int (nI two)), (11, .int (nI three)), (12, .int (nI its))]) hx hb dL_isDone_721 hl (by decide) rfl (fun ls hl => ?_)
                                  refine lv_iload hx hb dL_isDone_723 (lv_at hl 1 rfl) ?_
                                  refine x_if_eq (tgt := 816) hx hb (nI_z (by omega)) dL_isDone_725 (by decide) (fun c725 => ?_) (fun c725 => ?_)
                                  · refine lv_aload_n hx hb dL_isDone_816 rfl (lv_at hl 3 rfl) ?_
                                    refine lv_bipush (v := nI 11) hx hb dL_isDone_817 (by decide) ?_
                                    refine lv_iload hx hb dL_isDone_819 (lv_at hl 15 rfl) ?_
                                    refine lv_iload hx hb dL_isDone_821 (lv_at hl 0 rfl) ?_
                                    refine lv_iconst (v := nI 0) hx hb dL_isDone_823 (by decide) ?_
                                    refine lv_iconst (v := nI 0) hx hb dL_isDone_824 (by decide) ?_
                                    refine lv_iconst (v := nI 0) hx hb dL_isDone_825 (by decide) ?_
                                    refine x_calli (w2 := fun (S1 : S4) => LW cI cP cS ad la S1 lp lo lq lb lg) (wr := []) (x_runL (n := 7) ⟨hx, hb, hml, hown, hts⟩ (fD_goOn0 l D cI cP cS cL hfl ad la lp lo lq lb lg (s_lim S) (s_n S) (s_rows S) (s_cc S) (s_ct S) (s_ck S) (s_nr S) (s_cr S) (s_old S) (s_rw S) (s_co S) (s_re S) (s_nu S) (s_ma S) (s_sr S) (s_cp S) (s_pu S) (s_st S) (s_sl S) (cl its) (nI its) (nI 0) (nI 0) (nI 0) (cl_lt its) (hsx_cl (by omega)) (IN_sts hI _ (cl_lt its)) (IN_sls hI _ (cl_lt its)) hn50 (IN_f hI (cl_lt its)).2.2.2.1) gL_isDone_L_does rfl rfl rfl (by decide +kernel) ⟨by decide, by decide⟩ hN hK hP hD hS hA hE iLW rfl rfl rfl hl.1 (rest := []) (As := [.ref (ad 0), .int (nI 11), .int (nI its), .int (nI 0), .int (nI 0), .int (nI 0), .int (nI 0)]) rfl (Nat.le_of_ble_eq_true rfl) dL_isDone_826 ⟨by show _ ≤ 700; omega, by show _ ≤ 4200; omega⟩) hP hD hS hA iLW [] iLW rfl rfl rfl (by decide) rfl (fun _ => rfl) (fun r826 S1 H locs hw hP hD hS => ?_)
                                    obtain ⟨hr9, e8⟩ := (O_goOn0 (IN_of hI) cl_of (by omega) hw).2.1 (by omega) (by omega)
                                    have e9 : S = S1 := (show S1 = S from e8).symm
                                    subst e9
                                    subst hr9
                                    have hP : va_P D vwCl (LW cI cP cS ad la S lp lo lq lb lg) H := hP
                                    have hD : va_D A (LW cI cP cS ad la S lp lo lq lb lg) := hD
                                    refine lv_iload hx hb dL_isDone_829 (lv_at hl 15 rfl) ?_
                                    refine lv_iconst (v := nI 3) hx hb dL_isDone_831 (by decide) ?_
                                    refine x_cmp_ne (tgt := 840) hx hb (nI_eq (a := its) (b := 3) (by omega) (by omega)) dL_isDone_832 (by decide) (fun c832 => ?_) (fun c832 => ?_)
                                    · refine lv_iload hx hb dL_isDone_840 (lv_at hl 1 rfl) ?_
                                      refine x_if_eq (tgt := 858) hx hb (nI_z (by omega)) dL_isDone_842 (by decide) (fun c842 => ?_) (fun c842 => ?_)
                                      · refine lv_bipush (v := (-10 : Int32)) hx hb dL_isDone_858 (by decide) ?_
                                        refine x_cmp_ne (tgt := 867) hx hb (Iff.rfl) dL_isDone_860 (by decide) (fun c860 => ?_) (fun c860 => ?_)
                                        · exact absurd rfl c860
                                        · refine lv_iconst (v := nI 1) hx hb dL_isDone_863 (by decide) ?_
                                          refine lv_goto (tgt := 868) hx hb dL_isDone_864 (by decide) ?_
                                          exact x_ret_z hx hb hrt (by first | exact Or.inl rfl | exact Or.inr rfl) hlk hP hD hS dL_isDone_868 ⟨by omega, by omega⟩ ((S, lp, lo, lq, lb, lg)) ⟨rfl, ⟨bk, kc, mi, cn, hI⟩⟩ rfl
                                      · exfalso; omega
                                    · exfalso; omega
                                  · exfalso; omega
                                · refine lv_iload hx hb dL_isDone_717 (lv_at hl 13 rfl) ?_
                                  refine lv_iconst (v := nI 2) hx hb dL_isDone_719 (by decide) ?_
                                  refine lv_irem hx hb dL_isDone_720 (by decide) ?_
                                  refine x_top (y := nI 1) ((by rw [pk_rem (by omega) (by omega) (by omega), hz])) ?_
                                  refine lv_istore (lv' := [(15, .int (nI 1)), (14, .int (nI 0)), (13, .int (nI t)), (0, .ref (ad 0)), (1, .ref sb), (2, .int (nI a9)), (3, .ref (la 0)), (4, .ref (la 1)), (5, .ref (la 2)), (6, .ref (la 3)), (7, .ref (la 4)), (8, .int (nI wh)), (9, .int (nI one)), (10, .int (nI two)), (11, .int (nI three)), (12, .int (nI its))]) hx hb dL_isDone_721 hl (by decide) rfl (fun ls hl => ?_)
                                  refine lv_iload hx hb dL_isDone_723 (lv_at hl 1 rfl) ?_
                                  refine x_if_eq (tgt := 816) hx hb (nI_z (by omega)) dL_isDone_725 (by decide) (fun c725 => ?_) (fun c725 => ?_)
                                  · refine lv_aload_n hx hb dL_isDone_816 rfl (lv_at hl 3 rfl) ?_
                                    refine lv_bipush (v := nI 11) hx hb dL_isDone_817 (by decide) ?_
                                    refine lv_iload hx hb dL_isDone_819 (lv_at hl 15 rfl) ?_
                                    refine lv_iload hx hb dL_isDone_821 (lv_at hl 0 rfl) ?_
                                    refine lv_iconst (v := nI 0) hx hb dL_isDone_823 (by decide) ?_
                                    refine lv_iconst (v := nI 0) hx hb dL_isDone_824 (by decide) ?_
                                    refine lv_iconst (v := nI 0) hx hb dL_isDone_825 (by decide) ?_
                                    refine x_calli (w2 := fun (S1 : S4) => LW cI cP cS ad la S1 lp lo lq lb lg) (wr := []) (x_runL (n := 7) ⟨hx, hb, hml, hown, hts⟩ (fD_goOn1 l D cI cP cS cL hfl ad la lp lo lq lb lg (s_lim S) (s_n S) (s_rows S) (s_cc S) (s_ct S) (s_ck S) (s_nr S) (s_cr S) (s_old S) (s_rw S) (s_co S) (s_re S) (s_nu S) (s_ma S) (s_sr S) (s_cp S) (s_pu S) (s_st S) (s_sl S) (cl its) (nI its) (nI 0) (nI 0) (nI 0) (cl_lt its) (hsx_cl (by omega)) (IN_sts hI _ (cl_lt its)) (IN_sls hI _ (cl_lt its)) hn50 (IN_f hI (cl_lt its)).2.2.2.1) gL_isDone_L_does rfl rfl rfl (by decide +kernel) ⟨by decide, by decide⟩ hN hK hP hD hS hA hE iLW rfl rfl rfl hl.1 (rest := []) (As := [.ref (ad 0), .int (nI 11), .int (nI its), .int (nI 1), .int (nI 0), .int (nI 0), .int (nI 0)]) rfl (Nat.le_of_ble_eq_true rfl) dL_isDone_826 ⟨by show _ ≤ 700; omega, by show _ ≤ 4200; omega⟩) hP hD hS hA iLW [] iLW rfl rfl rfl (by decide) rfl (fun _ => rfl) (fun r826 S1 H locs hw hP hD hS => ?_)
                                    obtain ⟨hr9, e8⟩ := (O_goOn1 (IN_of hI) cl_of (by omega) hw).2.1 (by omega) (by omega)
                                    have e9 : S = S1 := (show S1 = S from e8).symm
                                    subst e9
                                    subst hr9
                                    have hP : va_P D vwCl (LW cI cP cS ad la S lp lo lq lb lg) H := hP
                                    have hD : va_D A (LW cI cP cS ad la S lp lo lq lb lg) := hD
                                    refine lv_iload hx hb dL_isDone_829 (lv_at hl 15 rfl) ?_
                                    refine lv_iconst (v := nI 3) hx hb dL_isDone_831 (by decide) ?_
                                    refine x_cmp_ne (tgt := 840) hx hb (nI_eq (a := its) (b := 3) (by omega) (by omega)) dL_isDone_832 (by decide) (fun c832 => ?_) (fun c832 => ?_)
                                    · refine lv_iload hx hb dL_isDone_840 (lv_at hl 1 rfl) ?_
                                      refine x_if_eq (tgt := 858) hx hb (nI_z (by omega)) dL_isDone_842 (by decide) (fun c842 => ?_) (fun c842 => ?_)
                                      · refine lv_bipush (v := (-10 : Int32)) hx hb dL_isDone_858 (by decide) ?_
                                        refine x_cmp_ne (tgt := 867) hx hb (Iff.rfl) dL_isDone_860 (by decide) (fun c860 => ?_) (fun c860 => ?_)
                                        · exact absurd rfl c860
                                        · refine lv_iconst (v := nI 1) hx hb dL_isDone_863 (by decide) ?_
                                          refine lv_goto (tgt := 868) hx hb dL_isDone_864 (by decide) ?_
                                          exact x_ret_z hx hb hrt (by first | exact Or.inl rfl | exact Or.inr rfl) hlk hP hD hS dL_isDone_868 ⟨by omega, by omega⟩ ((S, lp, lo, lq, lb, lg)) ⟨rfl, ⟨bk, kc, mi, cn, hI⟩⟩ rfl
                                      · exfalso; omega
                                    · exfalso; omega
                                  · exfalso; omega
                              · exfalso; omega
                      · refine lv_aload_n hx hb dL_isDone_652 rfl (lv_at hl 1 rfl) ?_
                        refine lv_aload hx hb dL_isDone_653 (lv_at hl 7 rfl) ?_
                        refine lv_aload hx hb dL_isDone_655 (lv_at hl 8 rfl) ?_
                        refine lv_iload hx hb dL_isDone_657 (lv_at hl 13 rfl) ?_
                        refine lv_iload hx hb dL_isDone_659 (lv_at hl 11 rfl) ?_
                        refine lv_bipush (v := nI 20) hx hb dL_isDone_661 (by decide) ?_
                        refine x_rem (k := two % 20) hx hb dL_isDone_663 (by omega) (by omega) (by omega) rfl ?_
                        refine x_if_ne (tgt := 672) hx hb (nI_z (by omega)) dL_isDone_664 (by decide) (fun c664 => ?_) (fun c664 => ?_)
                        · refine lv_iconst (v := nI 1) hx hb dL_isDone_672 (by decide) ?_
                          refine lv_iload hx hb dL_isDone_673 (lv_at hl 11 rfl) ?_
                          refine lv_bipush (v := nI 6) hx hb dL_isDone_675 (by decide) ?_
                          refine x_rem (k := two % 6) hx hb dL_isDone_677 (by omega) (by omega) (by omega) rfl ?_
                          refine x_add (k := 1 + (two % 6)) hx hb dL_isDone_678 rfl ?_
                          refine x_calli (w2 := fun (T679 : LT) => LW cI cP cS ad la T679.1 T679.2.1 T679.2.2.1 T679.2.2.2.1 T679.2.2.2.2.1 T679.2.2.2.2.2) (wr := []) (x_runSE (n := 5) ⟨hx, hb, hml, hown, hts⟩ (zL_isReceived l D cI cP cS cL hfl ad la hinj S lp lo lq lb lg its (1 + (two % 6)) (by omega) (by omega) (by omega) ⟨bk, kc, mi, cn, hI⟩) gL_isDone_L_isReceived rfl rfl rfl (by decide +kernel) ⟨by decide, by decide⟩ hN hK hP hD hS hA hE iLW rfl rfl rfl hl.1 (rest := []) (As := [.ref (ad 0), .ref (la 3), .ref (la 4), .int (nI its), .int (nI (1 + (two % 6)))]) rfl (Nat.le_of_ble_eq_true rfl) dL_isDone_679 ⟨by show _ ≤ 700; omega, by show _ ≤ 4200; omega⟩) hP hD hS hA iLW [] iLW rfl rfl rfl (by decide) rfl (fun _ => rfl) (fun r679 T679 H locs hw hP hD hS => ?_)
                          obtain ⟨hr9, hI1⟩ := hw
                          subst hr9
                          have hP : va_P D vwCl (LW cI cP cS ad la T679.1 T679.2.1 T679.2.2.1 T679.2.2.2.1 T679.2.2.2.2.1 T679.2.2.2.2.2) H := hP
                          have hD : va_D A (LW cI cP cS ad la T679.1 T679.2.1 T679.2.2.1 T679.2.2.2.1 T679.2.2.2.2.1 T679.2.2.2.2.2) := hD
                          exact x_ret_z hx hb hrt (by first | exact Or.inl rfl | exact Or.inr rfl) hlk hP hD hS dL_isDone_682 ⟨by omega, by omega⟩ ((T679.1, T679.2.1, T679.2.2.1, T679.2.2.2.1, T679.2.2.2.2.1, T679.2.2.2.2.2)) ⟨rfl, hI1⟩ rfl
                        · refine lv_bipush (v := nI 51) hx hb dL_isDone_667 (by decide) ?_
                          refine lv_goto (tgt := 679) hx hb dL_isDone_669 (by decide) ?_
                          refine x_calli (w2 := fun (T679 : LT) => LW cI cP cS ad la T679.1 T679.2.1 T679.2.2.1 T679.2.2.2.1 T679.2.2.2.2.1 T679.2.2.2.2.2) (wr := []) (x_runSE (n := 5) ⟨hx, hb, hml, hown, hts⟩ (zL_isReceived l D cI cP cS cL hfl ad la hinj S lp lo lq lb lg its 51 (by omega) (by omega) (by omega) ⟨bk, kc, mi, cn, hI⟩) gL_isDone_L_isReceived rfl rfl rfl (by decide +kernel) ⟨by decide, by decide⟩ hN hK hP hD hS hA hE iLW rfl rfl rfl hl.1 (rest := []) (As := [.ref (ad 0), .ref (la 3), .ref (la 4), .int (nI its), .int (nI 51)]) rfl (Nat.le_of_ble_eq_true rfl) dL_isDone_679 ⟨by show _ ≤ 700; omega, by show _ ≤ 4200; omega⟩) hP hD hS hA iLW [] iLW rfl rfl rfl (by decide) rfl (fun _ => rfl) (fun r679 T679 H locs hw hP hD hS => ?_)
                          obtain ⟨hr9, hI1⟩ := hw
                          subst hr9
                          have hP : va_P D vwCl (LW cI cP cS ad la T679.1 T679.2.1 T679.2.2.1 T679.2.2.2.1 T679.2.2.2.2.1 T679.2.2.2.2.2) H := hP
                          have hD : va_D A (LW cI cP cS ad la T679.1 T679.2.1 T679.2.2.1 T679.2.2.2.1 T679.2.2.2.2.1 T679.2.2.2.2.2) := hD
                          exact x_ret_z hx hb hrt (by first | exact Or.inl rfl | exact Or.inr rfl) hlk hP hD hS dL_isDone_682 ⟨by omega, by omega⟩ ((T679.1, T679.2.1, T679.2.2.1, T679.2.2.2.1, T679.2.2.2.2.1, T679.2.2.2.2.2)) ⟨rfl, hI1⟩ rfl
                    · refine lv_aload_n hx hb dL_isDone_630 rfl (lv_at hl 1 rfl) ?_
                      refine lv_aload hx hb dL_isDone_631 (lv_at hl 6 rfl) ?_
                      refine lv_aload hx hb dL_isDone_633 (lv_at hl 7 rfl) ?_
                      refine lv_aload hx hb dL_isDone_635 (lv_at hl 8 rfl) ?_
                      refine lv_iload hx hb dL_isDone_637 (lv_at hl 13 rfl) ?_
                      refine lv_iload hx hb dL_isDone_639 (lv_at hl 0 rfl) ?_
                      refine x_calli (w2 := fun (T641 : LT) => LW cI cP cS ad la T641.1 T641.2.1 T641.2.2.1 T641.2.2.2.1 T641.2.2.2.2.1 T641.2.2.2.2.2) (wr := []) (x_runSE (n := 6) ⟨hx, hb, hml, hown, hts⟩ (zL_isCopied l D cI cP cS cL hfl ad la hinj S lp lo lq lb lg its t (by omega) (by omega) ⟨bk, kc, mi, cn, hI⟩) gL_isDone_L_isCopied rfl rfl rfl (by decide +kernel) ⟨by decide, by decide⟩ hN hK hP hD hS hA hE iLW rfl rfl rfl hl.1 (rest := []) (As := [.ref (ad 0), .ref (la 2), .ref (la 3), .ref (la 4), .int (nI its), .int (nI t)]) rfl (Nat.le_of_ble_eq_true rfl) dL_isDone_641 ⟨by show _ ≤ 700; omega, by show _ ≤ 4200; omega⟩) hP hD hS hA iLW [] iLW rfl rfl rfl (by decide) rfl (fun _ => rfl) (fun r641 T641 H locs hw hP hD hS => ?_)
                      obtain ⟨hr9, hI1⟩ := hw
                      subst hr9
                      have hP : va_P D vwCl (LW cI cP cS ad la T641.1 T641.2.1 T641.2.2.1 T641.2.2.2.1 T641.2.2.2.2.1 T641.2.2.2.2.2) H := hP
                      have hD : va_D A (LW cI cP cS ad la T641.1 T641.2.1 T641.2.2.1 T641.2.2.2.1 T641.2.2.2.2.1 T641.2.2.2.2.2) := hD
                      exact x_ret_z hx hb hrt (by first | exact Or.inl rfl | exact Or.inr rfl) hlk hP hD hS dL_isDone_644 ⟨by omega, by omega⟩ ((T641.1, T641.2.1, T641.2.2.1, T641.2.2.2.1, T641.2.2.2.2.1, T641.2.2.2.2.2)) ⟨rfl, hI1⟩ rfl
                  · rcases Classical.em (its < 3) with hsb | hsb
                    · refine lv_iload hx hb dL_isDone_539 (lv_at hl 13 rfl) ?_
                      refine lv_iconst (v := nI 3) hx hb dL_isDone_541 (by decide) ?_
                      refine x_cmp_ne (tgt := 550) hx hb (nI_eq (a := its) (b := 3) (by omega) (by omega)) dL_isDone_542 (by decide) (fun c542 => ?_) (fun c542 => ?_)
                      · obtain ⟨hf1, hf2, hf3, hf4, hf5⟩ := IN_f hI (i := its) (by omega)
                        refine lv_aload hx hb dL_isDone_550 (lv_at hl 7 rfl) ?_
                        refine lv_bipush (v := nI 7) hx hb dL_isDone_552 (by decide) ?_
                        refine lv_iload hx hb dL_isDone_554 (lv_at hl 13 rfl) ?_
                        refine x_mul (k := 7 * its) hx hb dL_isDone_556 rfl ?_
                        refine lv_iconst (v := nI 1) hx hb dL_isDone_557 (by decide) ?_
                        refine x_add (k := (7 * its) + 1) hx hb dL_isDone_558 rfl ?_
                        refine x_ald (v := nI (s_st S its)) hx hb hK hP 40 0 rfl rfl (by omega) (by omega) (IN_b1 hI (by omega)) dL_isDone_559 ?_
                        refine lv_istore (lv' := [(14, .int (nI (s_st S its))), (13, .int (nI t)), (0, .ref (ad 0)), (1, .ref sb), (2, .int (nI a9)), (3, .ref (la 0)), (4, .ref (la 1)), (5, .ref (la 2)), (6, .ref (la 3)), (7, .ref (la 4)), (8, .int (nI wh)), (9, .int (nI one)), (10, .int (nI two)), (11, .int (nI three)), (12, .int (nI its))]) hx hb dL_isDone_560 hl (by decide) rfl (fun ls hl => ?_)
                        refine lv_iload hx hb dL_isDone_562 (lv_at hl 0 rfl) ?_
                        refine x_if_lt (tgt := 600) hx hb (nI_ng (by omega)) dL_isDone_564 (by decide) (fun c564 => ?_) (fun c564 => ?_)
                        · exact c564.elim
                        · refine lv_aload hx hb dL_isDone_567 (lv_at hl 8 rfl) ?_
                          refine lv_bipush (v := nI 7) hx hb dL_isDone_569 (by decide) ?_
                          refine lv_iload hx hb dL_isDone_571 (lv_at hl 14 rfl) ?_
                          refine x_mul (k := 7 * its) hx hb dL_isDone_573 rfl ?_
                          refine lv_iconst (v := nI 1) hx hb dL_isDone_574 (by decide) ?_
                          refine x_add (k := (7 * its) + 1) hx hb dL_isDone_575 rfl ?_
                          refine lv_iconst (v := nI 0) hx hb dL_isDone_576 (by decide) ?_
                          refine x_ast (g := upd lb ((7 * its) + 1) (nI 0)) (ws' := LW cI cP cS ad la S lp lo lq (upd lb ((7 * its) + 1) (nI 0)) lg) hx hb hK hP hD hS 40 0 rfl rfl (by omega) (by omega) (rfl) rfl dL_isDone_577 (fun H locs hP hD hS => ?_)
                          refine lv_aload hx hb dL_isDone_578 (lv_at hl 8 rfl) ?_
                          refine lv_bipush (v := nI 7) hx hb dL_isDone_580 (by decide) ?_
                          refine lv_iload hx hb dL_isDone_582 (lv_at hl 14 rfl) ?_
                          refine x_mul (k := 7 * its) hx hb dL_isDone_584 rfl ?_
                          refine lv_iconst (v := nI 3) hx hb dL_isDone_585 (by decide) ?_
                          refine x_add (k := (7 * its) + 3) hx hb dL_isDone_586 rfl ?_
                          refine lv_iconst (v := -1) hx hb dL_isDone_587 (by decide) ?_
                          refine x_ast (g := upd (upd lb ((7 * its) + 1) (nI 0)) ((7 * its) + 3) (-1)) (ws' := LW cI cP cS ad la S lp lo lq (upd (upd lb ((7 * its) + 1) (nI 0)) ((7 * its) + 3) (-1)) lg) hx hb hK hP hD hS 40 0 rfl rfl (by omega) (by omega) (rfl) rfl dL_isDone_588 (fun H locs hP hD hS => ?_)
                          refine lv_aload hx hb dL_isDone_589 (lv_at hl 8 rfl) ?_
                          refine lv_bipush (v := nI 7) hx hb dL_isDone_591 (by decide) ?_
                          refine lv_iload hx hb dL_isDone_593 (lv_at hl 14 rfl) ?_
                          refine x_mul (k := 7 * its) hx hb dL_isDone_595 rfl ?_
                          refine lv_iconst (v := nI 4) hx hb dL_isDone_596 (by decide) ?_
                          refine x_add (k := (7 * its) + 4) hx hb dL_isDone_597 rfl ?_
                          refine lv_iconst (v := -1) hx hb dL_isDone_598 (by decide) ?_
                          refine x_ast (g := upd (upd (upd lb ((7 * its) + 1) (nI 0)) ((7 * its) + 3) (-1)) ((7 * its) + 4) (-1)) (ws' := LW cI cP cS ad la S lp lo lq (upd (upd (upd lb ((7 * its) + 1) (nI 0)) ((7 * its) + 3) (-1)) ((7 * its) + 4) (-1)) lg) hx hb hK hP hD hS 40 0 rfl rfl (by omega) (by omega) (rfl) rfl dL_isDone_599 (fun H locs hP hD hS => ?_)
                          refine lv_aload_n hx hb dL_isDone_600 rfl (lv_at hl 2 rfl) ?_
                          refine lv_bipush (v := nI 8) hx hb dL_isDone_601 (by decide) ?_
                          refine lv_iload hx hb dL_isDone_603 (lv_at hl 14 rfl) ?_
                          refine lv_iconst (v := nI 0) hx hb dL_isDone_605 (by decide) ?_
                          refine lv_iconst (v := nI 0) hx hb dL_isDone_606 (by decide) ?_
                          refine lv_iconst (v := nI 0) hx hb dL_isDone_607 (by decide) ?_
                          refine lv_iconst (v := nI 0) hx hb dL_isDone_608 (by decide) ?_
                          refine x_calli (w2 := fun (S1 : S4) => LW cI cP cS ad la S1 lp lo lq (upd (upd (upd lb ((7 * its) + 1) (nI 0)) ((7 * its) + 3) (-1)) ((7 * its) + 4) (-1)) lg) (wr := []) (x_runL (n := 7) ⟨hx, hb, hml, hown, hts⟩ (fD_drop l D cI cP cS cL hfl ad la lp lo lq (upd (upd (upd lb ((7 * its) + 1) (nI 0)) ((7 * its) + 3) (-1)) ((7 * its) + 4) (-1)) lg (s_lim S) (s_n S) (s_rows S) (s_cc S) (s_ct S) (s_ck S) (s_nr S) (s_cr S) (s_old S) (s_rw S) (s_co S) (s_re S) (s_nu S) (s_ma S) (s_sr S) (s_cp S) (s_pu S) (s_st S) (s_sl S) (cl its) (nI its) (nI 0) (nI 0) (nI 0) (nI 0) (cl_lt its) (hsx_cl (by omega))) gL_isDone_L_does rfl rfl rfl (by decide +kernel) ⟨by decide, by decide⟩ hN hK hP hD hS hA hE iLW rfl rfl rfl hl.1 (rest := []) (As := [.ref (ad 0), .int (nI 8), .int (nI its), .int (nI 0), .int (nI 0), .int (nI 0), .int (nI 0)]) rfl (Nat.le_of_ble_eq_true rfl) dL_isDone_609 ⟨by show _ ≤ 700; omega, by show _ ≤ 4200; omega⟩) hP hD hS hA iLW [] iLW rfl rfl rfl (by decide) rfl (fun _ => rfl) (fun r609 S1 H locs hw hP hD hS => ?_)
                          obtain ⟨hr9, hI1⟩ := (O_drop (IN_of hI) (by omega) hw).2 hsb
                          have hI1 := hI1 (upd (upd (upd lb ((7 * its) + 1) (nI 0)) ((7 * its) + 3) (-1)) ((7 * its) + 4) (-1)) (fun i hi h j hj => by rw [upd_ne (by omega), upd_ne (by omega), upd_ne (by omega)]) (by rw [upd_ne (by omega), upd_ne (by omega), upd_ne (by omega)]) (by rw [upd_ne (by omega), upd_ne (by omega), upd_same]) (by rw [upd_ne (by omega), upd_ne (by omega), upd_ne (by omega)]) (by rw [upd_ne (by omega), upd_same]) (by rw [upd_same]) (by rw [upd_ne (by omega), upd_ne (by omega), upd_ne (by omega)]) (by rw [upd_ne (by omega), upd_ne (by omega), upd_ne (by omega)])
                          subst hr9
                          have hP : va_P D vwCl (LW cI cP cS ad la S1 lp lo lq (upd (upd (upd lb ((7 * its) + 1) (nI 0)) ((7 * its) + 3) (-1)) ((7 * its) + 4) (-1)) lg) H := hP
                          have hD : va_D A (LW cI cP cS ad la S1 lp lo lq (upd (upd (upd lb ((7 * its) + 1) (nI 0)) ((7 * its) + 3) (-1)) ((7 * its) + 4) (-1)) lg) := hD
                          refine lv_iload hx hb dL_isDone_612 (lv_at hl 0 rfl) ?_
                          refine x_cmp_ne (tgt := 621) hx hb (Iff.rfl) dL_isDone_614 (by decide) (fun c614 => ?_) (fun c614 => ?_)
                          · exact absurd rfl c614
                          · refine lv_iconst (v := nI 1) hx hb dL_isDone_617 (by decide) ?_
                            refine lv_goto (tgt := 622) hx hb dL_isDone_618 (by decide) ?_
                            exact x_ret_z hx hb hrt (by first | exact Or.inl rfl | exact Or.inr rfl) hlk hP hD hS dL_isDone_622 ⟨by omega, by omega⟩ ((S1, lp, lo, lq, upd (upd (upd lb ((7 * its) + 1) (nI 0)) ((7 * its) + 3) (-1)) ((7 * its) + 4) (-1), lg)) ⟨rfl, ⟨_, _, _, _, hI1⟩⟩ rfl
                      · exfalso; omega
                    · refine lv_iload hx hb dL_isDone_539 (lv_at hl 13 rfl) ?_
                      refine lv_iconst (v := nI 3) hx hb dL_isDone_541 (by decide) ?_
                      refine x_cmp_ne (tgt := 550) hx hb (nI_eq (a := its) (b := 3) (by omega) (by omega)) dL_isDone_542 (by decide) (fun c542 => ?_) (fun c542 => ?_)
                      · exfalso; omega
                      · refine lv_bipush (v := (-30 : Int32)) hx hb dL_isDone_545 (by decide) ?_
                        refine lv_goto (tgt := 560) hx hb dL_isDone_547 (by decide) ?_
                        refine lv_istore (lv' := [(14, .int ((-30 : Int32))), (13, .int (nI t)), (0, .ref (ad 0)), (1, .ref sb), (2, .int (nI a9)), (3, .ref (la 0)), (4, .ref (la 1)), (5, .ref (la 2)), (6, .ref (la 3)), (7, .ref (la 4)), (8, .int (nI wh)), (9, .int (nI one)), (10, .int (nI two)), (11, .int (nI three)), (12, .int (nI its))]) hx hb dL_isDone_560 hl (by decide) rfl (fun ls hl => ?_)
                        refine lv_iload hx hb dL_isDone_562 (lv_at hl 0 rfl) ?_
                        refine x_if_lt (tgt := 600) hx hb (Iff.rfl) dL_isDone_564 (by decide) (fun c564 => ?_) (fun c564 => ?_)
                        · refine lv_aload_n hx hb dL_isDone_600 rfl (lv_at hl 2 rfl) ?_
                          refine lv_bipush (v := nI 8) hx hb dL_isDone_601 (by decide) ?_
                          refine lv_iload hx hb dL_isDone_603 (lv_at hl 14 rfl) ?_
                          refine lv_iconst (v := nI 0) hx hb dL_isDone_605 (by decide) ?_
                          refine lv_iconst (v := nI 0) hx hb dL_isDone_606 (by decide) ?_
                          refine lv_iconst (v := nI 0) hx hb dL_isDone_607 (by decide) ?_
                          refine lv_iconst (v := nI 0) hx hb dL_isDone_608 (by decide) ?_
                          refine x_calli (w2 := fun (S1 : S4) => LW cI cP cS ad la S1 lp lo lq lb lg) (wr := []) (x_runL (n := 7) ⟨hx, hb, hml, hown, hts⟩ (fD_drop l D cI cP cS cL hfl ad la lp lo lq lb lg (s_lim S) (s_n S) (s_rows S) (s_cc S) (s_ct S) (s_ck S) (s_nr S) (s_cr S) (s_old S) (s_rw S) (s_co S) (s_re S) (s_nu S) (s_ma S) (s_sr S) (s_cp S) (s_pu S) (s_st S) (s_sl S) (cl its) (nI its) (nI 0) (nI 0) (nI 0) (nI 0) (cl_lt its) (hsx_cl (by omega))) gL_isDone_L_does rfl rfl rfl (by decide +kernel) ⟨by decide, by decide⟩ hN hK hP hD hS hA hE iLW rfl rfl rfl hl.1 (rest := []) (As := [.ref (ad 0), .int (nI 8), .int (nI its), .int (nI 0), .int (nI 0), .int (nI 0), .int (nI 0)]) rfl (Nat.le_of_ble_eq_true rfl) dL_isDone_609 ⟨by show _ ≤ 700; omega, by show _ ≤ 4200; omega⟩) hP hD hS hA iLW [] iLW rfl rfl rfl (by decide) rfl (fun _ => rfl) (fun r609 S1 H locs hw hP hD hS => ?_)
                          obtain ⟨hr9, e8⟩ := (O_drop (IN_of hI) (by omega) hw).1 hsb
                          have e9 : S = S1 := (show S1 = S from e8).symm
                          subst e9
                          subst hr9
                          have hP : va_P D vwCl (LW cI cP cS ad la S lp lo lq lb lg) H := hP
                          have hD : va_D A (LW cI cP cS ad la S lp lo lq lb lg) := hD
                          refine lv_iload hx hb dL_isDone_612 (lv_at hl 0 rfl) ?_
                          refine x_cmp_ne (tgt := 621) hx hb (Iff.rfl) dL_isDone_614 (by decide) (fun c614 => ?_) (fun c614 => ?_)
                          · exact absurd rfl c614
                          · refine lv_iconst (v := nI 1) hx hb dL_isDone_617 (by decide) ?_
                            refine lv_goto (tgt := 622) hx hb dL_isDone_618 (by decide) ?_
                            exact x_ret_z hx hb hrt (by first | exact Or.inl rfl | exact Or.inr rfl) hlk hP hD hS dL_isDone_622 ⟨by omega, by omega⟩ ((S, lp, lo, lq, lb, lg)) ⟨rfl, ⟨bk, kc, mi, cn, hI⟩⟩ rfl
                        · exact absurd (by decide) c564
                · refine x_join (nL := 18) (D := D) (A := A) (H0 := s.heap) (fun (bo : Nat) => bo ≤ 3) 415 (fun (bo : Nat) => 0) (fun (bo : Nat) => 0) (fun (bo : Nat) => LW cI cP cS ad la S lp lo lq lb lg) (fun (bo : Nat) => [(0, .ref (ad 0)), (1, .ref sb), (2, .int (nI a9)), (3, .ref (la 0)), (4, .ref (la 1)), (5, .ref (la 2)), (6, .ref (la 3)), (7, .ref (la 4)), (8, .int (nI wh)), (9, .int (nI one)), (10, .int (nI two)), (11, .int (nI three)), (12, .int (nI its)), (13, .int (nI t))]) (fun (bo : Nat) => [.int (nI bo)]) ?_ ?_
                  · intro x9 hj9 H locs ls hP hD hS hl
                    obtain ⟨bo, h9⟩ : ∃ z, z = x9 := ⟨x9, rfl⟩
                    subst h9
                    have hP : va_P D vwCl (LW cI cP cS ad la S lp lo lq lb lg) H := hP
                    have hD : va_D A (LW cI cP cS ad la S lp lo lq lb lg) := hD
                    have hl : lv_has ls 18 [(0, .ref (ad 0)), (1, .ref sb), (2, .int (nI a9)), (3, .ref (la 0)), (4, .ref (la 1)), (5, .ref (la 2)), (6, .ref (la 3)), (7, .ref (la 4)), (8, .int (nI wh)), (9, .int (nI one)), (10, .int (nI two)), (11, .int (nI three)), (12, .int (nI its)), (13, .int (nI t))] := hl
                    show W _ _ _ _ _ _ _ _ _ _ _ _ (0) (0) _ _
                    have hbo9 := hj9
                    refine lv_istore (lv' := [(14, .int (nI bo)), (0, .ref (ad 0)), (1, .ref sb), (2, .int (nI a9)), (3, .ref (la 0)), (4, .ref (la 1)), (5, .ref (la 2)), (6, .ref (la 3)), (7, .ref (la 4)), (8, .int (nI wh)), (9, .int (nI one)), (10, .int (nI two)), (11, .int (nI three)), (12, .int (nI its)), (13, .int (nI t))]) hx hb dL_isDone_415 hl (by decide) rfl (fun ls hl => ?_)
                    rcases Classical.em (its < 3 ∧ bo < 3) with hsb | hsb
                    · refine lv_iload hx hb dL_isDone_417 (lv_at hl 13 rfl) ?_
                      refine lv_iconst (v := nI 3) hx hb dL_isDone_419 (by decide) ?_
                      refine x_cmp_eq (tgt := 429) hx hb (nI_eq (a := its) (b := 3) (by omega) (by omega)) dL_isDone_420 (by decide) (fun c420 => ?_) (fun c420 => ?_)
                      · exfalso; omega
                      · refine lv_iload hx hb dL_isDone_423 (lv_at hl 0 rfl) ?_
                        refine lv_iconst (v := nI 3) hx hb dL_isDone_425 (by decide) ?_
                        refine x_cmp_ne (tgt := 434) hx hb (nI_eq (a := bo) (b := 3) (by omega) (by omega)) dL_isDone_426 (by decide) (fun c426 => ?_) (fun c426 => ?_)
                        · obtain ⟨hf1, hf2, hf3, hf4, hf5⟩ := IN_f hI (i := its) (by omega)
                          refine lv_aload hx hb dL_isDone_434 (lv_at hl 7 rfl) ?_
                          refine lv_bipush (v := nI 7) hx hb dL_isDone_436 (by decide) ?_
                          refine lv_iload hx hb dL_isDone_438 (lv_at hl 13 rfl) ?_
                          refine x_mul (k := 7 * its) hx hb dL_isDone_440 rfl ?_
                          refine lv_iconst (v := nI 1) hx hb dL_isDone_441 (by decide) ?_
                          refine x_add (k := (7 * its) + 1) hx hb dL_isDone_442 rfl ?_
                          refine x_ald (v := nI (s_st S its)) hx hb hK hP 40 0 rfl rfl (by omega) (by omega) (IN_b1 hI (by omega)) dL_isDone_443 ?_
                          refine lv_istore (lv' := [(15, .int (nI (s_st S its))), (14, .int (nI bo)), (0, .ref (ad 0)), (1, .ref sb), (2, .int (nI a9)), (3, .ref (la 0)), (4, .ref (la 1)), (5, .ref (la 2)), (6, .ref (la 3)), (7, .ref (la 4)), (8, .int (nI wh)), (9, .int (nI one)), (10, .int (nI two)), (11, .int (nI three)), (12, .int (nI its)), (13, .int (nI t))]) hx hb dL_isDone_444 hl (by decide) rfl (fun ls hl => ?_)
                          refine lv_iload hx hb dL_isDone_446 (lv_at hl 0 rfl) ?_
                          refine x_if_lt (tgt := 508) hx hb (nI_ng (by omega)) dL_isDone_448 (by decide) (fun c448 => ?_) (fun c448 => ?_)
                          · exact c448.elim
                          · refine lv_aload hx hb dL_isDone_451 (lv_at hl 8 rfl) ?_
                            refine lv_bipush (v := nI 7) hx hb dL_isDone_453 (by decide) ?_
                            refine lv_iload hx hb dL_isDone_455 (lv_at hl 14 rfl) ?_
                            refine x_mul (k := 7 * its) hx hb dL_isDone_457 rfl ?_
                            refine lv_iload hx hb dL_isDone_458 (lv_at hl 1 rfl) ?_
                            refine x_ast (g := upd lb (7 * its) (nI bo)) (ws' := LW cI cP cS ad la S lp lo lq (upd lb (7 * its) (nI bo)) lg) hx hb hK hP hD hS 40 0 rfl rfl (by omega) (by omega) (rfl) rfl dL_isDone_460 (fun H locs hP hD hS => ?_)
                            refine lv_aload hx hb dL_isDone_461 (lv_at hl 8 rfl) ?_
                            refine lv_bipush (v := nI 7) hx hb dL_isDone_463 (by decide) ?_
                            refine lv_iload hx hb dL_isDone_465 (lv_at hl 14 rfl) ?_
                            refine x_mul (k := 7 * its) hx hb dL_isDone_467 rfl ?_
                            refine lv_iconst (v := nI 1) hx hb dL_isDone_468 (by decide) ?_
                            refine x_add (k := (7 * its) + 1) hx hb dL_isDone_469 rfl ?_
                            refine lv_iconst (v := nI 1) hx hb dL_isDone_470 (by decide) ?_
                            refine x_ast (g := upd (upd lb (7 * its) (nI bo)) ((7 * its) + 1) (nI 1)) (ws' := LW cI cP cS ad la S lp lo lq (upd (upd lb (7 * its) (nI bo)) ((7 * its) + 1) (nI 1)) lg) hx hb hK hP hD hS 40 0 rfl rfl (by omega) (by omega) (rfl) rfl dL_isDone_471 (fun H locs hP hD hS => ?_)
                            refine lv_aload hx hb dL_isDone_472 (lv_at hl 8 rfl) ?_
                            refine lv_bipush (v := nI 7) hx hb dL_isDone_474 (by decide) ?_
                            refine lv_iload hx hb dL_isDone_476 (lv_at hl 14 rfl) ?_
                            refine x_mul (k := 7 * its) hx hb dL_isDone_478 rfl ?_
                            refine lv_iconst (v := nI 2) hx hb dL_isDone_479 (by decide) ?_
                            refine x_add (k := (7 * its) + 2) hx hb dL_isDone_480 rfl ?_
                            refine lv_aload hx hb dL_isDone_481 (lv_at hl 9 rfl) ?_
                            refine lv_iconst (v := nI 0) hx hb dL_isDone_483 (by decide) ?_
                            refine x_ald (v := nI (s_n S)) hx hb hK hP 41 0 rfl rfl (by omega) (by omega) (IN_g0 hI) dL_isDone_484 ?_
                            refine x_ast (g := upd (upd (upd lb (7 * its) (nI bo)) ((7 * its) + 1) (nI 1)) ((7 * its) + 2) (nI (s_n S))) (ws' := LW cI cP cS ad la S lp lo lq (upd (upd (upd lb (7 * its) (nI bo)) ((7 * its) + 1) (nI 1)) ((7 * its) + 2) (nI (s_n S))) lg) hx hb hK hP hD hS 40 0 rfl rfl (by omega) (by omega) (rfl) rfl dL_isDone_485 (fun H locs hP hD hS => ?_)
                            refine lv_aload hx hb dL_isDone_486 (lv_at hl 8 rfl) ?_
                            refine lv_bipush (v := nI 7) hx hb dL_isDone_488 (by decide) ?_
                            refine lv_iload hx hb dL_isDone_490 (lv_at hl 14 rfl) ?_
                            refine x_mul (k := 7 * its) hx hb dL_isDone_492 rfl ?_
                            refine lv_iconst (v := nI 3) hx hb dL_isDone_493 (by decide) ?_
                            refine x_add (k := (7 * its) + 3) hx hb dL_isDone_494 rfl ?_
                            refine lv_iconst (v := -1) hx hb dL_isDone_495 (by decide) ?_
                            refine x_ast (g := upd (upd (upd (upd lb (7 * its) (nI bo)) ((7 * its) + 1) (nI 1)) ((7 * its) + 2) (nI (s_n S))) ((7 * its) + 3) (-1)) (ws' := LW cI cP cS ad la S lp lo lq (upd (upd (upd (upd lb (7 * its) (nI bo)) ((7 * its) + 1) (nI 1)) ((7 * its) + 2) (nI (s_n S))) ((7 * its) + 3) (-1)) lg) hx hb hK hP hD hS 40 0 rfl rfl (by omega) (by omega) (rfl) rfl dL_isDone_496 (fun H locs hP hD hS => ?_)
                            refine lv_aload hx hb dL_isDone_497 (lv_at hl 8 rfl) ?_
                            refine lv_bipush (v := nI 7) hx hb dL_isDone_499 (by decide) ?_
                            refine lv_iload hx hb dL_isDone_501 (lv_at hl 14 rfl) ?_
                            refine x_mul (k := 7 * its) hx hb dL_isDone_503 rfl ?_
                            refine lv_iconst (v := nI 4) hx hb dL_isDone_504 (by decide) ?_
                            refine x_add (k := (7 * its) + 4) hx hb dL_isDone_505 rfl ?_
                            refine lv_iconst (v := -1) hx hb dL_isDone_506 (by decide) ?_
                            refine x_ast (g := upd (upd (upd (upd (upd lb (7 * its) (nI bo)) ((7 * its) + 1) (nI 1)) ((7 * its) + 2) (nI (s_n S))) ((7 * its) + 3) (-1)) ((7 * its) + 4) (-1)) (ws' := LW cI cP cS ad la S lp lo lq (upd (upd (upd (upd (upd lb (7 * its) (nI bo)) ((7 * its) + 1) (nI 1)) ((7 * its) + 2) (nI (s_n S))) ((7 * its) + 3) (-1)) ((7 * its) + 4) (-1)) lg) hx hb hK hP hD hS 40 0 rfl rfl (by omega) (by omega) (rfl) rfl dL_isDone_507 (fun H locs hP hD hS => ?_)
                            refine lv_aload_n hx hb dL_isDone_508 rfl (lv_at hl 2 rfl) ?_
                            refine lv_bipush (v := nI 7) hx hb dL_isDone_509 (by decide) ?_
                            refine lv_iload hx hb dL_isDone_511 (lv_at hl 14 rfl) ?_
                            refine lv_iload hx hb dL_isDone_513 (lv_at hl 1 rfl) ?_
                            refine lv_iconst (v := nI 0) hx hb dL_isDone_515 (by decide) ?_
                            refine lv_iconst (v := nI 0) hx hb dL_isDone_516 (by decide) ?_
                            refine lv_iconst (v := nI 0) hx hb dL_isDone_517 (by decide) ?_
                            refine x_calli (w2 := fun (S1 : S4) => LW cI cP cS ad la S1 lp lo lq (upd (upd (upd (upd (upd lb (7 * its) (nI bo)) ((7 * its) + 1) (nI 1)) ((7 * its) + 2) (nI (s_n S))) ((7 * its) + 3) (-1)) ((7 * its) + 4) (-1)) lg) (wr := []) (x_runL (n := 7) ⟨hx, hb, hml, hown, hts⟩ (fD_subscribe l D cI cP cS cL hfl ad la lp lo lq (upd (upd (upd (upd (upd lb (7 * its) (nI bo)) ((7 * its) + 1) (nI 1)) ((7 * its) + 2) (nI (s_n S))) ((7 * its) + 3) (-1)) ((7 * its) + 4) (-1)) lg (s_lim S) (s_n S) (s_rows S) (s_cc S) (s_ct S) (s_ck S) (s_nr S) (s_cr S) (s_old S) (s_rw S) (s_co S) (s_re S) (s_nu S) (s_ma S) (s_sr S) (s_cp S) (s_pu S) (s_st S) (s_sl S) (cl its) (nI its) (nI bo) (nI 0) (nI 0) (nI 0) (cl_lt its) (hsx_cl (by omega))) gL_isDone_L_does rfl rfl rfl (by decide +kernel) ⟨by decide, by decide⟩ hN hK hP hD hS hA hE iLW rfl rfl rfl hl.1 (rest := []) (As := [.ref (ad 0), .int (nI 7), .int (nI its), .int (nI bo), .int (nI 0), .int (nI 0), .int (nI 0)]) rfl (Nat.le_of_ble_eq_true rfl) dL_isDone_518 ⟨by show _ ≤ 700; omega, by show _ ≤ 4200; omega⟩) hP hD hS hA iLW [] iLW rfl rfl rfl (by decide) rfl (fun _ => rfl) (fun r518 S1 H locs hw hP hD hS => ?_)
                            obtain ⟨hr9, hI1⟩ := (O_subscribe (IN_of hI) (by omega) (by omega) hw).2 hsb.1 hsb.2
                            have hI1 := hI1 (upd (upd (upd (upd (upd lb (7 * its) (nI bo)) ((7 * its) + 1) (nI 1)) ((7 * its) + 2) (nI (s_n S))) ((7 * its) + 3) (-1)) ((7 * its) + 4) (-1)) (fun i hi h j hj => by rw [upd_ne (by omega), upd_ne (by omega), upd_ne (by omega), upd_ne (by omega), upd_ne (by omega)]) (by rw [upd_ne (by omega), upd_ne (by omega), upd_ne (by omega), upd_ne (by omega), upd_same]) (by rw [upd_ne (by omega), upd_ne (by omega), upd_ne (by omega), upd_same]) (by rw [upd_ne (by omega), upd_ne (by omega), upd_same]) (by rw [upd_ne (by omega), upd_same]) (by rw [upd_same]) (by rw [upd_ne (by omega), upd_ne (by omega), upd_ne (by omega), upd_ne (by omega), upd_ne (by omega)]) (by rw [upd_ne (by omega), upd_ne (by omega), upd_ne (by omega), upd_ne (by omega), upd_ne (by omega)])
                            subst hr9
                            have hP : va_P D vwCl (LW cI cP cS ad la S1 lp lo lq (upd (upd (upd (upd (upd lb (7 * its) (nI bo)) ((7 * its) + 1) (nI 1)) ((7 * its) + 2) (nI (s_n S))) ((7 * its) + 3) (-1)) ((7 * its) + 4) (-1)) lg) H := hP
                            have hD : va_D A (LW cI cP cS ad la S1 lp lo lq (upd (upd (upd (upd (upd lb (7 * its) (nI bo)) ((7 * its) + 1) (nI 1)) ((7 * its) + 2) (nI (s_n S))) ((7 * its) + 3) (-1)) ((7 * its) + 4) (-1)) lg) := hD
                            refine lv_iload hx hb dL_isDone_521 (lv_at hl 0 rfl) ?_
                            refine x_cmp_ne (tgt := 530) hx hb (Iff.rfl) dL_isDone_523 (by decide) (fun c523 => ?_) (fun c523 => ?_)
                            · exact absurd rfl c523
                            · refine lv_iconst (v := nI 1) hx hb dL_isDone_526 (by decide) ?_
                              refine lv_goto (tgt := 531) hx hb dL_isDone_527 (by decide) ?_
                              exact x_ret_z hx hb hrt (by first | exact Or.inl rfl | exact Or.inr rfl) hlk hP hD hS dL_isDone_531 ⟨by omega, by omega⟩ ((S1, lp, lo, lq, upd (upd (upd (upd (upd lb (7 * its) (nI bo)) ((7 * its) + 1) (nI 1)) ((7 * its) + 2) (nI (s_n S))) ((7 * its) + 3) (-1)) ((7 * its) + 4) (-1), lg)) ⟨rfl, ⟨_, _, _, _, hI1⟩⟩ rfl
                        · exfalso; omega
                    · refine lv_iload hx hb dL_isDone_417 (lv_at hl 13 rfl) ?_
                      refine lv_iconst (v := nI 3) hx hb dL_isDone_419 (by decide) ?_
                      refine x_cmp_eq (tgt := 429) hx hb (nI_eq (a := its) (b := 3) (by omega) (by omega)) dL_isDone_420 (by decide) (fun c420 => ?_) (fun c420 => ?_)
                      · refine lv_bipush (v := (-30 : Int32)) hx hb dL_isDone_429 (by decide) ?_
                        refine lv_goto (tgt := 444) hx hb dL_isDone_431 (by decide) ?_
                        refine lv_istore (lv' := [(15, .int ((-30 : Int32))), (14, .int (nI bo)), (0, .ref (ad 0)), (1, .ref sb), (2, .int (nI a9)), (3, .ref (la 0)), (4, .ref (la 1)), (5, .ref (la 2)), (6, .ref (la 3)), (7, .ref (la 4)), (8, .int (nI wh)), (9, .int (nI one)), (10, .int (nI two)), (11, .int (nI three)), (12, .int (nI its)), (13, .int (nI t))]) hx hb dL_isDone_444 hl (by decide) rfl (fun ls hl => ?_)
                        refine lv_iload hx hb dL_isDone_446 (lv_at hl 0 rfl) ?_
                        refine x_if_lt (tgt := 508) hx hb (Iff.rfl) dL_isDone_448 (by decide) (fun c448 => ?_) (fun c448 => ?_)
                        · refine lv_aload_n hx hb dL_isDone_508 rfl (lv_at hl 2 rfl) ?_
                          refine lv_bipush (v := nI 7) hx hb dL_isDone_509 (by decide) ?_
                          refine lv_iload hx hb dL_isDone_511 (lv_at hl 14 rfl) ?_
                          refine lv_iload hx hb dL_isDone_513 (lv_at hl 1 rfl) ?_
                          refine lv_iconst (v := nI 0) hx hb dL_isDone_515 (by decide) ?_
                          refine lv_iconst (v := nI 0) hx hb dL_isDone_516 (by decide) ?_
                          refine lv_iconst (v := nI 0) hx hb dL_isDone_517 (by decide) ?_
                          refine x_calli (w2 := fun (S1 : S4) => LW cI cP cS ad la S1 lp lo lq lb lg) (wr := []) (x_runL (n := 7) ⟨hx, hb, hml, hown, hts⟩ (fD_subscribe l D cI cP cS cL hfl ad la lp lo lq lb lg (s_lim S) (s_n S) (s_rows S) (s_cc S) (s_ct S) (s_ck S) (s_nr S) (s_cr S) (s_old S) (s_rw S) (s_co S) (s_re S) (s_nu S) (s_ma S) (s_sr S) (s_cp S) (s_pu S) (s_st S) (s_sl S) (cl its) (nI its) (nI bo) (nI 0) (nI 0) (nI 0) (cl_lt its) (hsx_cl (by omega))) gL_isDone_L_does rfl rfl rfl (by decide +kernel) ⟨by decide, by decide⟩ hN hK hP hD hS hA hE iLW rfl rfl rfl hl.1 (rest := []) (As := [.ref (ad 0), .int (nI 7), .int (nI its), .int (nI bo), .int (nI 0), .int (nI 0), .int (nI 0)]) rfl (Nat.le_of_ble_eq_true rfl) dL_isDone_518 ⟨by show _ ≤ 700; omega, by show _ ≤ 4200; omega⟩) hP hD hS hA iLW [] iLW rfl rfl rfl (by decide) rfl (fun _ => rfl) (fun r518 S1 H locs hw hP hD hS => ?_)
                          obtain ⟨hr9, e8⟩ := (O_subscribe (IN_of hI) (by omega) (by omega) hw).1 hsb
                          have e9 : S = S1 := (show S1 = S from e8).symm
                          subst e9
                          subst hr9
                          have hP : va_P D vwCl (LW cI cP cS ad la S lp lo lq lb lg) H := hP
                          have hD : va_D A (LW cI cP cS ad la S lp lo lq lb lg) := hD
                          refine lv_iload hx hb dL_isDone_521 (lv_at hl 0 rfl) ?_
                          refine x_cmp_ne (tgt := 530) hx hb (Iff.rfl) dL_isDone_523 (by decide) (fun c523 => ?_) (fun c523 => ?_)
                          · exact absurd rfl c523
                          · refine lv_iconst (v := nI 1) hx hb dL_isDone_526 (by decide) ?_
                            refine lv_goto (tgt := 531) hx hb dL_isDone_527 (by decide) ?_
                            exact x_ret_z hx hb hrt (by first | exact Or.inl rfl | exact Or.inr rfl) hlk hP hD hS dL_isDone_531 ⟨by omega, by omega⟩ ((S, lp, lo, lq, lb, lg)) ⟨rfl, ⟨bk, kc, mi, cn, hI⟩⟩ rfl
                        · exact absurd (by decide) c448
                      · refine lv_iload hx hb dL_isDone_423 (lv_at hl 0 rfl) ?_
                        refine lv_iconst (v := nI 3) hx hb dL_isDone_425 (by decide) ?_
                        refine x_cmp_ne (tgt := 434) hx hb (nI_eq (a := bo) (b := 3) (by omega) (by omega)) dL_isDone_426 (by decide) (fun c426 => ?_) (fun c426 => ?_)
                        · exfalso; omega
                        · refine lv_bipush (v := (-30 : Int32)) hx hb dL_isDone_429 (by decide) ?_
                          refine lv_goto (tgt := 444) hx hb dL_isDone_431 (by decide) ?_
                          refine lv_istore (lv' := [(15, .int ((-30 : Int32))), (14, .int (nI bo)), (0, .ref (ad 0)), (1, .ref sb), (2, .int (nI a9)), (3, .ref (la 0)), (4, .ref (la 1)), (5, .ref (la 2)), (6, .ref (la 3)), (7, .ref (la 4)), (8, .int (nI wh)), (9, .int (nI one)), (10, .int (nI two)), (11, .int (nI three)), (12, .int (nI its)), (13, .int (nI t))]) hx hb dL_isDone_444 hl (by decide) rfl (fun ls hl => ?_)
                          refine lv_iload hx hb dL_isDone_446 (lv_at hl 0 rfl) ?_
                          refine x_if_lt (tgt := 508) hx hb (Iff.rfl) dL_isDone_448 (by decide) (fun c448 => ?_) (fun c448 => ?_)
                          · refine lv_aload_n hx hb dL_isDone_508 rfl (lv_at hl 2 rfl) ?_
                            refine lv_bipush (v := nI 7) hx hb dL_isDone_509 (by decide) ?_
                            refine lv_iload hx hb dL_isDone_511 (lv_at hl 14 rfl) ?_
                            refine lv_iload hx hb dL_isDone_513 (lv_at hl 1 rfl) ?_
                            refine lv_iconst (v := nI 0) hx hb dL_isDone_515 (by decide) ?_
                            refine lv_iconst (v := nI 0) hx hb dL_isDone_516 (by decide) ?_
                            refine lv_iconst (v := nI 0) hx hb dL_isDone_517 (by decide) ?_
                            refine x_calli (w2 := fun (S1 : S4) => LW cI cP cS ad la S1 lp lo lq lb lg) (wr := []) (x_runL (n := 7) ⟨hx, hb, hml, hown, hts⟩ (fD_subscribe l D cI cP cS cL hfl ad la lp lo lq lb lg (s_lim S) (s_n S) (s_rows S) (s_cc S) (s_ct S) (s_ck S) (s_nr S) (s_cr S) (s_old S) (s_rw S) (s_co S) (s_re S) (s_nu S) (s_ma S) (s_sr S) (s_cp S) (s_pu S) (s_st S) (s_sl S) (cl its) (nI its) (nI bo) (nI 0) (nI 0) (nI 0) (cl_lt its) (hsx_cl (by omega))) gL_isDone_L_does rfl rfl rfl (by decide +kernel) ⟨by decide, by decide⟩ hN hK hP hD hS hA hE iLW rfl rfl rfl hl.1 (rest := []) (As := [.ref (ad 0), .int (nI 7), .int (nI its), .int (nI bo), .int (nI 0), .int (nI 0), .int (nI 0)]) rfl (Nat.le_of_ble_eq_true rfl) dL_isDone_518 ⟨by show _ ≤ 700; omega, by show _ ≤ 4200; omega⟩) hP hD hS hA iLW [] iLW rfl rfl rfl (by decide) rfl (fun _ => rfl) (fun r518 S1 H locs hw hP hD hS => ?_)
                            obtain ⟨hr9, e8⟩ := (O_subscribe (IN_of hI) (by omega) (by omega) hw).1 hsb
                            have e9 : S = S1 := (show S1 = S from e8).symm
                            subst e9
                            subst hr9
                            have hP : va_P D vwCl (LW cI cP cS ad la S lp lo lq lb lg) H := hP
                            have hD : va_D A (LW cI cP cS ad la S lp lo lq lb lg) := hD
                            refine lv_iload hx hb dL_isDone_521 (lv_at hl 0 rfl) ?_
                            refine x_cmp_ne (tgt := 530) hx hb (Iff.rfl) dL_isDone_523 (by decide) (fun c523 => ?_) (fun c523 => ?_)
                            · exact absurd rfl c523
                            · refine lv_iconst (v := nI 1) hx hb dL_isDone_526 (by decide) ?_
                              refine lv_goto (tgt := 531) hx hb dL_isDone_527 (by decide) ?_
                              exact x_ret_z hx hb hrt (by first | exact Or.inl rfl | exact Or.inr rfl) hlk hP hD hS dL_isDone_531 ⟨by omega, by omega⟩ ((S, lp, lo, lq, lb, lg)) ⟨rfl, ⟨bk, kc, mi, cn, hI⟩⟩ rfl
                          · exact absurd (by decide) c448
                  intro kj415
                  refine lv_iload hx hb dL_isDone_399 (lv_at hl 11 rfl) ?_
                  refine lv_bipush (v := nI 10) hx hb dL_isDone_401 (by decide) ?_
                  refine x_rem (k := two % 10) hx hb dL_isDone_403 (by omega) (by omega) (by omega) rfl ?_
                  refine x_if_ne (tgt := 411) hx hb (nI_z (by omega)) dL_isDone_404 (by decide) (fun c404 => ?_) (fun c404 => ?_)
                  · refine lv_iload hx hb dL_isDone_411 (lv_at hl 11 rfl) ?_
                    refine lv_iconst (v := nI 3) hx hb dL_isDone_413 (by decide) ?_
                    refine x_rem (k := two % 3) hx hb dL_isDone_414 (by omega) (by omega) (by omega) rfl ?_
                    exact W.widen (by show _ ≤ 0; omega) (by show _ ≤ 0; omega) (kj415 (two % 3) (by show _ ≤ 3; omega) _ _ _ hP hD hS (lv_sub hl [1, 2, 3, 4, 5, 6, 7, 8, 9, 10, 11, 12, 13, 0] rfl))
                  · refine lv_iconst (v := nI 3) hx hb dL_isDone_407 (by decide) ?_
                    refine lv_goto (tgt := 415) hx hb dL_isDone_408 (by decide) ?_
                    exact W.widen (by show _ ≤ 0; omega) (by show _ ≤ 0; omega) (kj415 3 (by show _ ≤ 3; omega) _ _ _ hP hD hS (lv_sub hl [1, 2, 3, 4, 5, 6, 7, 8, 9, 10, 11, 12, 13, 0] rfl))
              · refine lv_aload_n hx hb dL_isDone_364 rfl (lv_at hl 1 rfl) ?_
                refine lv_aload hx hb dL_isDone_365 (lv_at hl 6 rfl) ?_
                refine lv_aload hx hb dL_isDone_367 (lv_at hl 7 rfl) ?_
                refine lv_iload hx hb dL_isDone_369 (lv_at hl 9 rfl) ?_
                refine lv_bipush (v := nI 22) hx hb dL_isDone_371 (by decide) ?_
                refine x_cmp_ge (tgt := 380) hx hb (nI_leI (a := 22) (b := wh) (by omega) (by omega)) dL_isDone_373 (by decide) (fun c373 => ?_) (fun c373 => ?_)
                · refine lv_bipush (v := nI 6) hx hb dL_isDone_380 (by decide) ?_
                  refine lv_iload hx hb dL_isDone_382 (lv_at hl 10 rfl) ?_
                  refine lv_iload hx hb dL_isDone_384 (lv_at hl 11 rfl) ?_
                  refine lv_iload hx hb dL_isDone_386 (lv_at hl 12 rfl) ?_
                  refine x_calli (w2 := fun (T388 : LT) => LW cI cP cS ad la T388.1 T388.2.1 T388.2.2.1 T388.2.2.2.1 T388.2.2.2.2.1 T388.2.2.2.2.2) (wr := []) (x_runSE (n := 7) ⟨hx, hb, hml, hown, hts⟩ (zL_isBook6 l D cI cP cS cL hfl ad la hinj S lp lo lq lb lg  one two three (by omega) (by omega) (by omega) ⟨bk, kc, mi, cn, hI⟩) gL_isDone_L_isBook rfl rfl rfl (by decide +kernel) ⟨by decide, by decide⟩ hN hK hP hD hS hA hE iLW rfl rfl rfl hl.1 (rest := []) (As := [.ref (ad 0), .ref (la 2), .ref (la 3), .int (nI 6), .int (nI one), .int (nI two), .int (nI three)]) rfl (Nat.le_of_ble_eq_true rfl) dL_isDone_388 ⟨by show _ ≤ 700; omega, by show _ ≤ 4200; omega⟩) hP hD hS hA iLW [] iLW rfl rfl rfl (by decide) rfl (fun _ => rfl) (fun r388 T388 H locs hw hP hD hS => ?_)
                  obtain ⟨hr9, hI1⟩ := hw
                  subst hr9
                  have hP : va_P D vwCl (LW cI cP cS ad la T388.1 T388.2.1 T388.2.2.1 T388.2.2.2.1 T388.2.2.2.2.1 T388.2.2.2.2.2) H := hP
                  have hD : va_D A (LW cI cP cS ad la T388.1 T388.2.1 T388.2.2.1 T388.2.2.2.1 T388.2.2.2.2.1 T388.2.2.2.2.2) := hD
                  exact x_ret_z hx hb hrt (by first | exact Or.inl rfl | exact Or.inr rfl) hlk hP hD hS dL_isDone_391 ⟨by omega, by omega⟩ ((T388.1, T388.2.1, T388.2.2.1, T388.2.2.2.1, T388.2.2.2.2.1, T388.2.2.2.2.2)) ⟨rfl, hI1⟩ rfl
                · refine lv_iconst (v := nI 5) hx hb dL_isDone_376 (by decide) ?_
                  refine lv_goto (tgt := 382) hx hb dL_isDone_377 (by decide) ?_
                  refine lv_iload hx hb dL_isDone_382 (lv_at hl 10 rfl) ?_
                  refine lv_iload hx hb dL_isDone_384 (lv_at hl 11 rfl) ?_
                  refine lv_iload hx hb dL_isDone_386 (lv_at hl 12 rfl) ?_
                  refine x_calli (w2 := fun (T388 : LT) => LW cI cP cS ad la T388.1 T388.2.1 T388.2.2.1 T388.2.2.2.1 T388.2.2.2.2.1 T388.2.2.2.2.2) (wr := []) (x_runSE (n := 7) ⟨hx, hb, hml, hown, hts⟩ (zL_isBook5 l D cI cP cS cL hfl ad la hinj S lp lo lq lb lg  one two three (by omega) (by omega) (by omega) ⟨bk, kc, mi, cn, hI⟩) gL_isDone_L_isBook rfl rfl rfl (by decide +kernel) ⟨by decide, by decide⟩ hN hK hP hD hS hA hE iLW rfl rfl rfl hl.1 (rest := []) (As := [.ref (ad 0), .ref (la 2), .ref (la 3), .int (nI 5), .int (nI one), .int (nI two), .int (nI three)]) rfl (Nat.le_of_ble_eq_true rfl) dL_isDone_388 ⟨by show _ ≤ 700; omega, by show _ ≤ 4200; omega⟩) hP hD hS hA iLW [] iLW rfl rfl rfl (by decide) rfl (fun _ => rfl) (fun r388 T388 H locs hw hP hD hS => ?_)
                  obtain ⟨hr9, hI1⟩ := hw
                  subst hr9
                  have hP : va_P D vwCl (LW cI cP cS ad la T388.1 T388.2.1 T388.2.2.1 T388.2.2.2.1 T388.2.2.2.2.1 T388.2.2.2.2.2) H := hP
                  have hD : va_D A (LW cI cP cS ad la T388.1 T388.2.1 T388.2.2.1 T388.2.2.2.1 T388.2.2.2.2.1 T388.2.2.2.2.2) := hD
                  exact x_ret_z hx hb hrt (by first | exact Or.inl rfl | exact Or.inr rfl) hlk hP hD hS dL_isDone_391 ⟨by omega, by omega⟩ ((T388.1, T388.2.1, T388.2.2.1, T388.2.2.2.1, T388.2.2.2.2.1, T388.2.2.2.2.2)) ⟨rfl, hI1⟩ rfl
            · refine lv_iload hx hb dL_isDone_291 (lv_at hl 11 rfl) ?_
              refine lv_bipush (v := nI 52) hx hb dL_isDone_293 (by decide) ?_
              refine x_rem (k := two % 52) hx hb dL_isDone_295 (by omega) (by omega) (by omega) rfl ?_
              refine lv_istore (lv' := [(14, .int (nI (two % 52))), (13, .int (nI t)), (0, .ref (ad 0)), (1, .ref sb), (2, .int (nI a9)), (3, .ref (la 0)), (4, .ref (la 1)), (5, .ref (la 2)), (6, .ref (la 3)), (7, .ref (la 4)), (8, .int (nI wh)), (9, .int (nI one)), (10, .int (nI two)), (11, .int (nI three)), (12, .int (nI its))]) hx hb dL_isDone_296 hl (by decide) rfl (fun ls hl => ?_)
              refine lv_aload hx hb dL_isDone_298 (lv_at hl 9 rfl) ?_
              refine lv_iconst (v := nI 2) hx hb dL_isDone_300 (by decide) ?_
              refine lv_iload hx hb dL_isDone_301 (lv_at hl 0 rfl) ?_
              refine lv_bipush (v := nI 51) hx hb dL_isDone_303 (by decide) ?_
              refine x_cmp_ge (tgt := 313) hx hb (nI_leI (a := 51) (b := (two % 52)) (by omega) (by omega)) dL_isDone_305 (by decide) (fun c305 => ?_) (fun c305 => ?_)
              · refine lv_aload hx hb dL_isDone_313 (lv_at hl 9 rfl) ?_
                refine lv_iconst (v := nI 2) hx hb dL_isDone_315 (by decide) ?_
                refine x_ald (v := nI (s_lim S)) hx hb hK hP 41 0 rfl rfl (by omega) (by omega) (IN_g2 hI) dL_isDone_316 ?_
                refine x_ast (g := lg) (ws' := LW cI cP cS ad la S lp lo lq lb lg) hx hb hK hP hD hS 41 0 rfl rfl (by omega) (by omega) ((upd_id (IN_g2 hI))) rfl dL_isDone_317 (fun H locs hP hD hS => ?_)
                refine lv_aload_n hx hb dL_isDone_318 rfl (lv_at hl 2 rfl) ?_
                refine lv_iconst (v := nI 4) hx hb dL_isDone_319 (by decide) ?_
                refine lv_iload hx hb dL_isDone_320 (lv_at hl 0 rfl) ?_
                refine lv_iconst (v := nI 0) hx hb dL_isDone_322 (by decide) ?_
                refine lv_iconst (v := nI 0) hx hb dL_isDone_323 (by decide) ?_
                refine lv_iconst (v := nI 0) hx hb dL_isDone_324 (by decide) ?_
                refine lv_iconst (v := nI 0) hx hb dL_isDone_325 (by decide) ?_
                refine x_calli (w2 := fun (S1 : S4) => LW cI cP cS ad la S1 lp lo lq lb lg) (wr := []) (x_runL (n := 7) ⟨hx, hb, hml, hown, hts⟩ (fD_setLimit l D cI cP cS cL hfl ad la lp lo lq lb lg (s_lim S) (s_n S) (s_rows S) (s_cc S) (s_ct S) (s_ck S) (s_nr S) (s_cr S) (s_old S) (s_rw S) (s_co S) (s_re S) (s_nu S) (s_ma S) (s_sr S) (s_cp S) (s_pu S) (s_st S) (s_sl S) (nI (two % 52)) (nI 0) (nI 0) (nI 0) (nI 0) hn50 (IN_sts hI) (IN_sls hI)) gL_isDone_L_does rfl rfl rfl (by decide +kernel) ⟨by decide, by decide⟩ hN hK hP hD hS hA hE iLW rfl rfl rfl hl.1 (rest := []) (As := [.ref (ad 0), .int (nI 4), .int (nI (two % 52)), .int (nI 0), .int (nI 0), .int (nI 0), .int (nI 0)]) rfl (Nat.le_of_ble_eq_true rfl) dL_isDone_326 ⟨by show _ ≤ 700; omega, by show _ ≤ 4200; omega⟩) hP hD hS hA iLW [] iLW rfl rfl rfl (by decide) rfl (fun _ => rfl) (fun r326 S1 H locs hw hP hD hS => ?_)
                obtain ⟨hr9, e8⟩ := (O_setLimit (IN_of hI) (by omega) hw).1 (by omega)
                have e9 : S = S1 := (show S1 = S from e8).symm
                subst e9
                subst hr9
                have hP : va_P D vwCl (LW cI cP cS ad la S lp lo lq lb lg) H := hP
                have hD : va_D A (LW cI cP cS ad la S lp lo lq lb lg) := hD
                refine lv_iload hx hb dL_isDone_329 (lv_at hl 0 rfl) ?_
                refine lv_bipush (v := nI 51) hx hb dL_isDone_331 (by decide) ?_
                refine x_cmp_ge (tgt := 346) hx hb (nI_leI (a := 51) (b := (two % 52)) (by omega) (by omega)) dL_isDone_333 (by decide) (fun c333 => ?_) (fun c333 => ?_)
                · refine lv_bipush (v := (-20 : Int32)) hx hb dL_isDone_346 (by decide) ?_
                  refine x_cmp_ne (tgt := 355) hx hb (Iff.rfl) dL_isDone_348 (by decide) (fun c348 => ?_) (fun c348 => ?_)
                  · exact absurd rfl c348
                  · refine lv_iconst (v := nI 1) hx hb dL_isDone_351 (by decide) ?_
                    refine lv_goto (tgt := 356) hx hb dL_isDone_352 (by decide) ?_
                    exact x_ret_z hx hb hrt (by first | exact Or.inl rfl | exact Or.inr rfl) hlk hP hD hS dL_isDone_356 ⟨by omega, by omega⟩ ((S, lp, lo, lq, lb, lg)) ⟨rfl, ⟨bk, kc, mi, cn, hI⟩⟩ rfl
                · exfalso; omega
              · refine lv_iload hx hb dL_isDone_308 (lv_at hl 0 rfl) ?_
                refine lv_goto (tgt := 317) hx hb dL_isDone_310 (by decide) ?_
                refine x_ast (g := upd lg 2 (nI (two % 52))) (ws' := LW cI cP cS ad la S lp lo lq lb (upd lg 2 (nI (two % 52)))) hx hb hK hP hD hS 41 0 rfl rfl (by omega) (by omega) (rfl) rfl dL_isDone_317 (fun H locs hP hD hS => ?_)
                refine lv_aload_n hx hb dL_isDone_318 rfl (lv_at hl 2 rfl) ?_
                refine lv_iconst (v := nI 4) hx hb dL_isDone_319 (by decide) ?_
                refine lv_iload hx hb dL_isDone_320 (lv_at hl 0 rfl) ?_
                refine lv_iconst (v := nI 0) hx hb dL_isDone_322 (by decide) ?_
                refine lv_iconst (v := nI 0) hx hb dL_isDone_323 (by decide) ?_
                refine lv_iconst (v := nI 0) hx hb dL_isDone_324 (by decide) ?_
                refine lv_iconst (v := nI 0) hx hb dL_isDone_325 (by decide) ?_
                refine x_calli (w2 := fun (S1 : S4) => LW cI cP cS ad la S1 lp lo lq lb (upd lg 2 (nI (two % 52)))) (wr := []) (x_runL (n := 7) ⟨hx, hb, hml, hown, hts⟩ (fD_setLimit l D cI cP cS cL hfl ad la lp lo lq lb (upd lg 2 (nI (two % 52))) (s_lim S) (s_n S) (s_rows S) (s_cc S) (s_ct S) (s_ck S) (s_nr S) (s_cr S) (s_old S) (s_rw S) (s_co S) (s_re S) (s_nu S) (s_ma S) (s_sr S) (s_cp S) (s_pu S) (s_st S) (s_sl S) (nI (two % 52)) (nI 0) (nI 0) (nI 0) (nI 0) hn50 (IN_sts hI) (IN_sls hI)) gL_isDone_L_does rfl rfl rfl (by decide +kernel) ⟨by decide, by decide⟩ hN hK hP hD hS hA hE iLW rfl rfl rfl hl.1 (rest := []) (As := [.ref (ad 0), .int (nI 4), .int (nI (two % 52)), .int (nI 0), .int (nI 0), .int (nI 0), .int (nI 0)]) rfl (Nat.le_of_ble_eq_true rfl) dL_isDone_326 ⟨by show _ ≤ 700; omega, by show _ ≤ 4200; omega⟩) hP hD hS hA iLW [] iLW rfl rfl rfl (by decide) rfl (fun _ => rfl) (fun r326 S1 H locs hw hP hD hS => ?_)
                obtain ⟨hr9, hIf⟩ := (O_setLimit (IN_of hI) (by omega) hw).2 (by omega)
                subst hr9
                have hP : va_P D vwCl (LW cI cP cS ad la S1 lp lo lq lb (upd lg 2 (nI (two % 52)))) H := hP
                have hD : va_D A (LW cI cP cS ad la S1 lp lo lq lb (upd lg 2 (nI (two % 52)))) := hD
                refine lv_iload hx hb dL_isDone_329 (lv_at hl 0 rfl) ?_
                refine lv_bipush (v := nI 51) hx hb dL_isDone_331 (by decide) ?_
                refine x_cmp_ge (tgt := 346) hx hb (nI_leI (a := 51) (b := (two % 52)) (by omega) (by omega)) dL_isDone_333 (by decide) (fun c333 => ?_) (fun c333 => ?_)
                · exfalso; omega
                · refine lv_aload hx hb dL_isDone_336 (lv_at hl 8 rfl) ?_
                  refine lv_aload hx hb dL_isDone_338 (lv_at hl 9 rfl) ?_
                  refine x_calli (w2 := fun (f9 : qF) => LW cI cP cS ad la S1 lp lo lq f9 (upd lg 2 (nI (two % 52)))) (wr := []) (x_runSE (n := 2) ⟨hx, hb, hml, hown, hts⟩ (zL_cuts l D cI cP cS cL hfl ad la hinj S1 lp lo lq lb (upd lg 2 (nI (two % 52))) (s_n S) (two % 52) (s_st S) (s_sl S) hn50 (by omega) (fun i hi => IN_b1 hI hi) (fun i hi => IN_b2 hI hi) (IN_sts hI) (IN_sls hI) (by rw [upd_ne (by decide)]; exact IN_g0 hI) (upd_same _ _ _)) gL_isDone_L_cuts rfl rfl rfl (by decide +kernel) ⟨by decide, by decide⟩ hN hK hP hD hS hA hE iLW rfl rfl rfl hl.1 (rest := [.int (nI (mCutS (two % 52) (s_st S) (s_sl S) (s_n S) 3))]) (As := [.ref (la 3), .ref (la 4)]) rfl (Nat.le_of_ble_eq_true rfl) dL_isDone_340 ⟨by show _ ≤ 700; omega, by show _ ≤ 4200; omega⟩) hP hD hS hA iLW [] iLW rfl rfl rfl (by decide) rfl (fun _ => rfl) (fun r340 f9 H locs hw hP hD hS => ?_)
                  obtain ⟨hr9, hb9⟩ := hw
                  subst hb9
                  have hI1 := hIf (bCut lb (two % 52) (s_st S) (s_sl S) (s_n S) 3) (upd lg 2 (nI (two % 52))) bCut_end (upd_ne (by decide)) (upd_ne (by decide)) (upd_same _ _ _)
                  subst hr9
                  have hP : va_P D vwCl (LW cI cP cS ad la S1 lp lo lq (bCut lb (two % 52) (s_st S) (s_sl S) (s_n S) 3) (upd lg 2 (nI (two % 52)))) H := hP
                  have hD : va_D A (LW cI cP cS ad la S1 lp lo lq (bCut lb (two % 52) (s_st S) (s_sl S) (s_n S) 3) (upd lg 2 (nI (two % 52)))) := hD
                  refine lv_goto (tgt := 348) hx hb dL_isDone_343 (by decide) ?_
                  refine x_cmp_ne (tgt := 355) hx hb (Iff.rfl) dL_isDone_348 (by decide) (fun c348 => ?_) (fun c348 => ?_)
                  · exact absurd rfl c348
                  · refine lv_iconst (v := nI 1) hx hb dL_isDone_351 (by decide) ?_
                    refine lv_goto (tgt := 356) hx hb dL_isDone_352 (by decide) ?_
                    exact x_ret_z hx hb hrt (by first | exact Or.inl rfl | exact Or.inr rfl) hlk hP hD hS dL_isDone_356 ⟨by omega, by omega⟩ ((S1, lp, lo, lq, bCut lb (two % 52) (s_st S) (s_sl S) (s_n S) 3, upd lg 2 (nI (two % 52)))) ⟨rfl, ⟨_, _, _, _, hI1⟩⟩ rfl
          · refine lv_aload hx hb dL_isDone_233 (lv_at hl 8 rfl) ?_
            refine lv_iconst (v := nI 1) hx hb dL_isDone_235 (by decide) ?_
            refine x_ald (v := nI cn) hx hb hK hP 41 0 rfl rfl (by omega) (by omega) (IN_g1 hI) dL_isDone_236 ?_
            refine lv_istore (lv' := [(14, .int (nI cn)), (13, .int (nI t)), (0, .ref (ad 0)), (1, .ref sb), (2, .int (nI a9)), (3, .ref (la 0)), (4, .ref (la 1)), (5, .ref (la 2)), (6, .ref (la 3)), (7, .ref (la 4)), (8, .int (nI wh)), (9, .int (nI one)), (10, .int (nI two)), (11, .int (nI three)), (12, .int (nI its))]) hx hb dL_isDone_237 hl (by decide) rfl (fun ls hl => ?_)
            refine lv_aload hx hb dL_isDone_239 (lv_at hl 9 rfl) ?_
            refine lv_iconst (v := nI 1) hx hb dL_isDone_241 (by decide) ?_
            refine lv_iconst (v := nI 0) hx hb dL_isDone_242 (by decide) ?_
            refine x_ast (g := upd lg 1 (nI 0)) (ws' := LW cI cP cS ad la S lp lo lq lb (upd lg 1 (nI 0))) hx hb hK hP hD hS 41 0 rfl rfl (by omega) (by omega) (rfl) rfl dL_isDone_243 (fun H locs hP hD hS => ?_)
            refine lv_iconst (v := nI 0) hx hb dL_isDone_244 (by decide) ?_
            refine lv_istore (lv' := [(15, .int (nI 0)), (14, .int (nI cn)), (13, .int (nI t)), (0, .ref (ad 0)), (1, .ref sb), (2, .int (nI a9)), (3, .ref (la 0)), (4, .ref (la 1)), (5, .ref (la 2)), (6, .ref (la 3)), (7, .ref (la 4)), (8, .int (nI wh)), (9, .int (nI one)), (10, .int (nI two)), (11, .int (nI three)), (12, .int (nI its))]) hx hb dL_isDone_245 hl (by decide) rfl (fun ls hl => ?_)
            refine x_loopc (nL := 18) (fun (x : Nat × qF) => match x with | (k, f) => k ≤ 24 ∧ f = oC lo lp k) (fun (x : Nat × qF) => match x with | (k, f) => 24 - k) (fun (x : Nat × qF) => match x with | (k, f) => 0) (fun (x : Nat × qF) => match x with | (k, f) => 0) (fun (x : Nat × qF) => match x with | (k, f) => LW cI cP cS ad la S f lo lq lb (upd lg 1 (nI 0))) (fun (x : Nat × qF) => match x with | (k, f) => [(0, .ref (ad 0)), (1, .ref sb), (2, .int (nI a9)), (3, .ref (la 0)), (4, .ref (la 1)), (5, .ref (la 2)), (6, .ref (la 3)), (7, .ref (la 4)), (8, .int (nI wh)), (9, .int (nI one)), (10, .int (nI two)), (11, .int (nI three)), (12, .int (nI its)), (13, .int (nI t)), (14, .int (nI cn)), (15, .int (nI k))]) (fun (x : Nat × qF) => match x with | (k, f) => []) ?_ (0, lp) ⟨Nat.zero_le 24, (oC_0 _ _).symm⟩ (by show _ ≤ 0; omega) (by show _ ≤ 0; omega) hP hD hS (lv_sub hl [3, 4, 5, 6, 7, 8, 9, 10, 11, 12, 13, 14, 15, 2, 1, 0] rfl)
            intro x9 hI247 ih247 H locs ls hP hD hS hl
            obtain ⟨k, f⟩ := x9
            have hP : va_P D vwCl (LW cI cP cS ad la S f lo lq lb (upd lg 1 (nI 0))) H := hP
            have hD : va_D A (LW cI cP cS ad la S f lo lq lb (upd lg 1 (nI 0))) := hD
            have hl : lv_has ls 18 [(0, .ref (ad 0)), (1, .ref sb), (2, .int (nI a9)), (3, .ref (la 0)), (4, .ref (la 1)), (5, .ref (la 2)), (6, .ref (la 3)), (7, .ref (la 4)), (8, .int (nI wh)), (9, .int (nI one)), (10, .int (nI two)), (11, .int (nI three)), (12, .int (nI its)), (13, .int (nI t)), (14, .int (nI cn)), (15, .int (nI k))] := hl
            show W _ _ _ _ _ _ _ _ _ _ _ _ (0) (0) _ _
            obtain ⟨hk9, hf⟩ := hI247
            refine lv_iload hx hb dL_isDone_247 (lv_at hl 15 rfl) ?_
            refine lv_bipush (v := nI 24) hx hb dL_isDone_249 (by decide) ?_
            refine x_cmp_ge (tgt := 269) hx hb (nI_leI (a := 24) (b := k) (by omega) (by omega)) dL_isDone_251 (by decide) (fun c251 => ?_) (fun c251 => ?_)
            · obtain rfl : k = 24 := by omega
              subst hf
              have hP : va_P D vwCl (LW cI cP cS ad la S (oC lo lp 24) lo lq lb (upd lg 1 (nI 0))) H := hP
              have hD : va_D A (LW cI cP cS ad la S (oC lo lp 24) lo lq lb (upd lg 1 (nI 0))) := hD
              have hl : lv_has ls 18 [(0, .ref (ad 0)), (1, .ref sb), (2, .int (nI a9)), (3, .ref (la 0)), (4, .ref (la 1)), (5, .ref (la 2)), (6, .ref (la 3)), (7, .ref (la 4)), (8, .int (nI wh)), (9, .int (nI one)), (10, .int (nI two)), (11, .int (nI three)), (12, .int (nI its)), (13, .int (nI t)), (14, .int (nI cn)), (15, .int (nI 24))] := hl
              refine lv_aload_n hx hb dL_isDone_269 rfl (lv_at hl 0 rfl) ?_
              refine x_calli (w2 := fun (S1 : S4) => LW cI cP cS ad la S1 (oC lo lp 24) lo lq lb (upd lg 1 (nI 0))) (wr := []) (x_runVE (n := 0) ⟨hx, hb, hml, hown, hts⟩ (fN_rollBack l D cI cP cS cL hfl ad la (oC lo lp 24) lo lq lb (upd lg 1 (nI 0)) (s_lim S) (s_n S) (s_rows S) (s_cc S) (s_ct S) (s_ck S) (s_nr S) (s_cr S) (s_old S) (s_rw S) (s_co S) (s_re S) (s_nu S) (s_ma S) (s_sr S) (s_cp S) (s_pu S) (s_st S) (s_sl S) cn hn50 (IN_cc hI) hcn12) gL_isDone_X4_rollBack rfl rfl rfl (by decide +kernel) ⟨by decide, by decide⟩ hN hK hP hD hS hA hE iLW rfl rfl (ci := 4) (q0 := 0) rfl rfl rfl rfl hl.1 (rest := []) (As := []) rfl (Nat.le_of_ble_eq_true rfl) dL_isDone_270 ⟨by show _ ≤ 700; omega, by show _ ≤ 4200; omega⟩) hP hD hS hA iLW [] iLW rfl rfl rfl (by decide) rfl (fun _ => rfl) (fun r270 S1 H locs hw hP hD hS => ?_)
              obtain ⟨hr9, e8⟩ := hw
              have hI1 : IN ad bk kc mi 0 S1 (oC lo lp 24) lo lq lb (upd lg 1 (nI 0)) := by rw [e8]; exact T_roll (IN_of hI) (fun i hi => oC_in hi) (upd_ne (by decide)) (upd_same _ _ _) (upd_ne (by decide))
              subst hr9
              have hP : va_P D vwCl (LW cI cP cS ad la S1 (oC lo lp 24) lo lq lb (upd lg 1 (nI 0))) H := hP
              have hD : va_D A (LW cI cP cS ad la S1 (oC lo lp 24) lo lq lb (upd lg 1 (nI 0))) := hD
              refine lv_iload hx hb dL_isDone_273 (lv_at hl 14 rfl) ?_
              refine x_cmp_ne (tgt := 282) hx hb (Iff.rfl) dL_isDone_275 (by decide) (fun c275 => ?_) (fun c275 => ?_)
              · exact absurd rfl c275
              · refine lv_iconst (v := nI 1) hx hb dL_isDone_278 (by decide) ?_
                refine lv_goto (tgt := 283) hx hb dL_isDone_279 (by decide) ?_
                exact x_ret_z hx hb hrt (by first | exact Or.inl rfl | exact Or.inr rfl) hlk hP hD hS dL_isDone_283 ⟨by omega, by omega⟩ ((S1, oC lo lp 24, lo, lq, lb, upd lg 1 (nI 0))) ⟨rfl, ⟨_, _, _, _, hI1⟩⟩ rfl
            · refine lv_aload_n hx hb dL_isDone_254 rfl (lv_at hl 3 rfl) ?_
              refine lv_iload hx hb dL_isDone_255 (lv_at hl 15 rfl) ?_
              refine lv_aload hx hb dL_isDone_257 (lv_at hl 4 rfl) ?_
              refine lv_iload hx hb dL_isDone_259 (lv_at hl 15 rfl) ?_
              refine x_ald (v := lo k) hx hb hK hP 38 0 rfl rfl (by omega) (by omega) rfl dL_isDone_261 ?_
              refine x_ast (g := (upd f k (lo k))) (ws' := LW cI cP cS ad la S ((upd f k (lo k))) lo lq lb (upd lg 1 (nI 0))) hx hb hK hP hD hS 37 0 rfl rfl (by omega) (by omega) (rfl) rfl dL_isDone_262 (fun H locs hP hD hS => ?_)
              refine x_iinc (k := 15) (o := 1) (v := k + 1) (lv' := [(15, .int (nI (k + 1))), (0, .ref (ad 0)), (1, .ref sb), (2, .int (nI a9)), (3, .ref (la 0)), (4, .ref (la 1)), (5, .ref (la 2)), (6, .ref (la 3)), (7, .ref (la 4)), (8, .int (nI wh)), (9, .int (nI one)), (10, .int (nI two)), (11, .int (nI three)), (12, .int (nI its)), (13, .int (nI t)), (14, .int (nI cn))]) hx hb dL_isDone_263 hl rfl rfl rfl (by decide) rfl (fun ls hl => ?_)
              refine lv_goto (tgt := 247) hx hb dL_isDone_266 (by decide) ?_
              exact W.widen (by show _ ≤ 0; omega) (by show _ ≤ 0; omega) (ih247 (k + 1, (upd f k (lo k))) ⟨by omega, (by rw [hf]; exact oC_s _ _ _)⟩ (by show 24 - (k + 1) < 24 - k; omega) _ _ _ hP hD hS (lv_sub hl [1, 2, 3, 4, 5, 6, 7, 8, 9, 10, 11, 12, 13, 14, 15, 0] rfl))
        · refine lv_aload hx hb dL_isDone_132 (lv_at hl 8 rfl) ?_
          refine lv_iconst (v := nI 0) hx hb dL_isDone_134 (by decide) ?_
          refine x_ald (v := nI (s_n S)) hx hb hK hP 41 0 rfl rfl (by omega) (by omega) (IN_g0 hI) dL_isDone_135 ?_
          refine lv_bipush (v := nI 50) hx hb dL_isDone_136 (by decide) ?_
          refine x_cmp_ne (tgt := 146) hx hb (nI_eq (a := (s_n S)) (b := 50) (by omega) (by omega)) dL_isDone_138 (by decide) (fun c138 => ?_) (fun c138 => ?_)
          · refine lv_aload hx hb dL_isDone_146 (lv_at hl 8 rfl) ?_
            refine lv_iconst (v := nI 0) hx hb dL_isDone_148 (by decide) ?_
            refine x_ald (v := nI (s_n S)) hx hb hK hP 41 0 rfl rfl (by omega) (by omega) (IN_g0 hI) dL_isDone_149 ?_
            refine lv_iconst (v := nI 1) hx hb dL_isDone_150 (by decide) ?_
            refine x_add (k := (s_n S) + 1) hx hb dL_isDone_151 rfl ?_
            refine lv_istore (lv' := [(14, .int (nI ((s_n S) + 1))), (13, .int (nI t)), (0, .ref (ad 0)), (1, .ref sb), (2, .int (nI a9)), (3, .ref (la 0)), (4, .ref (la 1)), (5, .ref (la 2)), (6, .ref (la 3)), (7, .ref (la 4)), (8, .int (nI wh)), (9, .int (nI one)), (10, .int (nI two)), (11, .int (nI three)), (12, .int (nI its))]) hx hb dL_isDone_152 hl (by decide) rfl (fun ls hl => ?_)
            refine lv_iload hx hb dL_isDone_154 (lv_at hl 0 rfl) ?_
            refine x_if_le (tgt := 205) hx hb (nI_lez (by omega)) dL_isDone_156 (by decide) (fun c156 => ?_) (fun c156 => ?_)
            · exfalso; omega
            · refine lv_aload hx hb dL_isDone_159 (lv_at hl 9 rfl) ?_
              refine lv_iconst (v := nI 0) hx hb dL_isDone_161 (by decide) ?_
              refine lv_dup2_11 hx hb dL_isDone_162 rfl rfl ?_
              refine x_ald (v := nI (s_n S)) hx hb hK hP 41 0 rfl rfl (by omega) (by omega) (IN_g0 hI) dL_isDone_163 ?_
              refine lv_iconst (v := nI 1) hx hb dL_isDone_164 (by decide) ?_
              refine x_add (k := (s_n S) + 1) hx hb dL_isDone_165 rfl ?_
              refine x_ast (g := upd lg 0 (nI ((s_n S) + 1))) (ws' := LW cI cP cS ad la S lp lo lq lb (upd lg 0 (nI ((s_n S) + 1)))) hx hb hK hP hD hS 41 0 rfl rfl (by omega) (by omega) (rfl) rfl dL_isDone_166 (fun H locs hP hD hS => ?_)
              refine lv_aload hx hb dL_isDone_167 (lv_at hl 9 rfl) ?_
              refine lv_iconst (v := nI 1) hx hb dL_isDone_169 (by decide) ?_
              refine lv_iconst (v := nI 0) hx hb dL_isDone_170 (by decide) ?_
              refine x_ast (g := upd (upd lg 0 (nI ((s_n S) + 1))) 1 (nI 0)) (ws' := LW cI cP cS ad la S lp lo lq lb (upd (upd lg 0 (nI ((s_n S) + 1))) 1 (nI 0))) hx hb hK hP hD hS 41 0 rfl rfl (by omega) (by omega) (rfl) rfl dL_isDone_171 (fun H locs hP hD hS => ?_)
              refine lv_iconst (v := nI 0) hx hb dL_isDone_172 (by decide) ?_
              refine lv_istore (lv' := [(15, .int (nI 0)), (14, .int (nI ((s_n S) + 1))), (13, .int (nI t)), (0, .ref (ad 0)), (1, .ref sb), (2, .int (nI a9)), (3, .ref (la 0)), (4, .ref (la 1)), (5, .ref (la 2)), (6, .ref (la 3)), (7, .ref (la 4)), (8, .int (nI wh)), (9, .int (nI one)), (10, .int (nI two)), (11, .int (nI three)), (12, .int (nI its))]) hx hb dL_isDone_173 hl (by decide) rfl (fun ls hl => ?_)
              refine x_loopc (nL := 18) (fun (x : Nat × qF) => match x with | (k, f) => k ≤ 24 ∧ f = oC lp lo k) (fun (x : Nat × qF) => match x with | (k, f) => 24 - k) (fun (x : Nat × qF) => match x with | (k, f) => 0) (fun (x : Nat × qF) => match x with | (k, f) => 0) (fun (x : Nat × qF) => match x with | (k, f) => LW cI cP cS ad la S lp f lq lb (upd (upd lg 0 (nI ((s_n S) + 1))) 1 (nI 0))) (fun (x : Nat × qF) => match x with | (k, f) => [(0, .ref (ad 0)), (1, .ref sb), (2, .int (nI a9)), (3, .ref (la 0)), (4, .ref (la 1)), (5, .ref (la 2)), (6, .ref (la 3)), (7, .ref (la 4)), (8, .int (nI wh)), (9, .int (nI one)), (10, .int (nI two)), (11, .int (nI three)), (12, .int (nI its)), (13, .int (nI t)), (14, .int (nI (s_n S + 1))), (15, .int (nI k))]) (fun (x : Nat × qF) => match x with | (k, f) => []) ?_ (0, lo) ⟨Nat.zero_le 24, (oC_0 _ _).symm⟩ (by show _ ≤ 0; omega) (by show _ ≤ 0; omega) hP hD hS (lv_sub hl [3, 4, 5, 6, 7, 8, 9, 10, 11, 12, 13, 14, 15, 2, 1, 0] rfl)
              intro x9 hI175 ih175 H locs ls hP hD hS hl
              obtain ⟨k, f⟩ := x9
              have hP : va_P D vwCl (LW cI cP cS ad la S lp f lq lb (upd (upd lg 0 (nI ((s_n S) + 1))) 1 (nI 0))) H := hP
              have hD : va_D A (LW cI cP cS ad la S lp f lq lb (upd (upd lg 0 (nI ((s_n S) + 1))) 1 (nI 0))) := hD
              have hl : lv_has ls 18 [(0, .ref (ad 0)), (1, .ref sb), (2, .int (nI a9)), (3, .ref (la 0)), (4, .ref (la 1)), (5, .ref (la 2)), (6, .ref (la 3)), (7, .ref (la 4)), (8, .int (nI wh)), (9, .int (nI one)), (10, .int (nI two)), (11, .int (nI three)), (12, .int (nI its)), (13, .int (nI t)), (14, .int (nI (s_n S + 1))), (15, .int (nI k))] := hl
              show W _ _ _ _ _ _ _ _ _ _ _ _ (0) (0) _ _
              obtain ⟨hk9, hf⟩ := hI175
              refine lv_iload hx hb dL_isDone_175 (lv_at hl 15 rfl) ?_
              refine lv_bipush (v := nI 24) hx hb dL_isDone_177 (by decide) ?_
              refine x_cmp_ge (tgt := 197) hx hb (nI_leI (a := 24) (b := k) (by omega) (by omega)) dL_isDone_179 (by decide) (fun c179 => ?_) (fun c179 => ?_)
              · obtain rfl : k = 24 := by omega
                subst hf
                have hP : va_P D vwCl (LW cI cP cS ad la S lp (oC lp lo 24) lq lb (upd (upd lg 0 (nI (s_n S + 1))) 1 (nI 0))) H := hP
                have hD : va_D A (LW cI cP cS ad la S lp (oC lp lo 24) lq lb (upd (upd lg 0 (nI (s_n S + 1))) 1 (nI 0))) := hD
                have hl : lv_has ls 18 [(0, .ref (ad 0)), (1, .ref sb), (2, .int (nI a9)), (3, .ref (la 0)), (4, .ref (la 1)), (5, .ref (la 2)), (6, .ref (la 3)), (7, .ref (la 4)), (8, .int (nI wh)), (9, .int (nI one)), (10, .int (nI two)), (11, .int (nI three)), (12, .int (nI its)), (13, .int (nI t)), (14, .int (nI (s_n S + 1))), (15, .int (nI 24))] := hl
                refine lv_aload hx hb dL_isDone_197 (lv_at hl 6 rfl) ?_
                refine lv_aload hx hb dL_isDone_199 (lv_at hl 7 rfl) ?_
                refine x_calli (w2 := fun (f9 : qF) => LW cI cP cS ad la S lp (oC lp lo 24) lq f9 (upd (upd lg 0 (nI (s_n S + 1))) 1 (nI 0))) (wr := []) (x_runSE (n := 2) ⟨hx, hb, hml, hown, hts⟩ (zL_cuts l D cI cP cS cL hfl ad la hinj S lp (oC lp lo 24) lq lb (upd (upd lg 0 (nI (s_n S + 1))) 1 (nI 0)) (s_n S + 1) (s_lim S) (s_st S) (s_sl S) (by omega) hlim50 (fun i hi => IN_b1 hI hi) (fun i hi => IN_b2 hI hi) (IN_sts hI) (fun i hi => Nat.le_succ_of_le (IN_sls hI i hi)) (by rw [upd_ne (by decide), upd_same]) (by rw [upd_ne (by decide), upd_ne (by decide)]; exact IN_g2 hI)) gL_isDone_L_cuts rfl rfl rfl (by decide +kernel) ⟨by decide, by decide⟩ hN hK hP hD hS hA hE iLW rfl rfl rfl hl.1 (rest := []) (As := [.ref (la 3), .ref (la 4)]) rfl (Nat.le_of_ble_eq_true rfl) dL_isDone_201 ⟨by show _ ≤ 700; omega, by show _ ≤ 4200; omega⟩) hP hD hS hA iLW [] iLW rfl rfl rfl (by decide) rfl (fun _ => rfl) (fun r201 f9 H locs hw hP hD hS => ?_)
                obtain ⟨hr9, hb9⟩ := hw
                subst hb9
                subst hr9
                have hP : va_P D vwCl (LW cI cP cS ad la S lp (oC lp lo 24) lq (bCut lb (s_lim S) (s_st S) (s_sl S) (s_n S + 1) 3) (upd (upd lg 0 (nI (s_n S + 1))) 1 (nI 0))) H := hP
                have hD : va_D A (LW cI cP cS ad la S lp (oC lp lo 24) lq (bCut lb (s_lim S) (s_st S) (s_sl S) (s_n S + 1) 3) (upd (upd lg 0 (nI (s_n S + 1))) 1 (nI 0))) := hD
                refine lv_pop hx hb dL_isDone_204 rfl ?_
                refine lv_aload_n hx hb dL_isDone_205 rfl (lv_at hl 0 rfl) ?_
                refine lv_iconst (v := nI 3) hx hb dL_isDone_206 (by decide) ?_
                refine lv_iconst (v := nI 0) hx hb dL_isDone_207 (by decide) ?_
                refine lv_iconst (v := nI 0) hx hb dL_isDone_208 (by decide) ?_
                refine lv_iconst (v := nI 0) hx hb dL_isDone_209 (by decide) ?_
                refine lv_iconst (v := nI 0) hx hb dL_isDone_210 (by decide) ?_
                refine lv_iconst (v := nI 0) hx hb dL_isDone_211 (by decide) ?_
                refine x_calli (w2 := fun (S1 : S4) => LW cI cP cS ad la S1 lp (oC lp lo 24) lq (bCut lb (s_lim S) (s_st S) (s_sl S) (s_n S + 1) 3) (upd (upd lg 0 (nI (s_n S + 1))) 1 (nI 0))) (wr := []) (x_runL (n := 7) ⟨hx, hb, hml, hown, hts⟩ (fD_commit l D cI cP cS cL hfl ad la lp (oC lp lo 24) lq (bCut lb (s_lim S) (s_st S) (s_sl S) (s_n S + 1) 3) (upd (upd lg 0 (nI (s_n S + 1))) 1 (nI 0)) (s_lim S) (s_n S) (s_rows S) (s_cc S) (s_ct S) (s_ck S) (s_nr S) (s_cr S) (s_old S) (s_rw S) (s_co S) (s_re S) (s_nu S) (s_ma S) (s_sr S) (s_cp S) (s_pu S) (s_st S) (s_sl S) (nI 0) (nI 0) (nI 0) (nI 0) (nI 0) hn50 hlim50 (IN_sts hI) (IN_sls hI)) gL_isDone_L_does rfl rfl rfl (by decide +kernel) ⟨by decide, by decide⟩ hN hK hP hD hS hA hE iLW rfl rfl rfl hl.1 (rest := []) (As := [.ref (ad 0), .int (nI 3), .int (nI 0), .int (nI 0), .int (nI 0), .int (nI 0), .int (nI 0)]) rfl (Nat.le_of_ble_eq_true rfl) dL_isDone_212 ⟨by show _ ≤ 700; omega, by show _ ≤ 4200; omega⟩) hP hD hS hA iLW [] iLW rfl rfl rfl (by decide) rfl (fun _ => rfl) (fun r212 S1 H locs hw hP hD hS => ?_)
                obtain ⟨hr9, hI1⟩ := (O_commit (IN_of hI) hw).2 (by omega)
                have hI1 := hI1 (oC lp lo 24) (bCut lb (s_lim S) (s_st S) (s_sl S) (s_n S + 1) 3) (upd (upd lg 0 (nI (s_n S + 1))) 1 (nI 0)) (fun i hi => oC_in hi) bCut_end (by rw [upd_ne (by decide), upd_same]) (upd_same _ _ _) (by rw [upd_ne (by decide), upd_ne (by decide)])
                subst hr9
                have hP : va_P D vwCl (LW cI cP cS ad la S1 lp (oC lp lo 24) lq (bCut lb (s_lim S) (s_st S) (s_sl S) (s_n S + 1) 3) (upd (upd lg 0 (nI (s_n S + 1))) 1 (nI 0))) H := hP
                have hD : va_D A (LW cI cP cS ad la S1 lp (oC lp lo 24) lq (bCut lb (s_lim S) (s_st S) (s_sl S) (s_n S + 1) 3) (upd (upd lg 0 (nI (s_n S + 1))) 1 (nI 0))) := hD
                refine lv_iload hx hb dL_isDone_215 (lv_at hl 14 rfl) ?_
                refine x_cmp_ne (tgt := 224) hx hb (Iff.rfl) dL_isDone_217 (by decide) (fun c217 => ?_) (fun c217 => ?_)
                · exact absurd rfl c217
                · refine lv_iconst (v := nI 1) hx hb dL_isDone_220 (by decide) ?_
                  refine lv_goto (tgt := 225) hx hb dL_isDone_221 (by decide) ?_
                  exact x_ret_z hx hb hrt (by first | exact Or.inl rfl | exact Or.inr rfl) hlk hP hD hS dL_isDone_225 ⟨by omega, by omega⟩ ((S1, lp, oC lp lo 24, lq, bCut lb (s_lim S) (s_st S) (s_sl S) (s_n S + 1) 3, upd (upd lg 0 (nI (s_n S + 1))) 1 (nI 0))) ⟨rfl, ⟨_, _, _, _, hI1⟩⟩ rfl
              · refine lv_aload hx hb dL_isDone_182 (lv_at hl 4 rfl) ?_
                refine lv_iload hx hb dL_isDone_184 (lv_at hl 15 rfl) ?_
                refine lv_aload_n hx hb dL_isDone_186 rfl (lv_at hl 3 rfl) ?_
                refine lv_iload hx hb dL_isDone_187 (lv_at hl 15 rfl) ?_
                refine x_ald (v := lp k) hx hb hK hP 37 0 rfl rfl (by omega) (by omega) rfl dL_isDone_189 ?_
                refine x_ast (g := (upd f k (lp k))) (ws' := LW cI cP cS ad la S lp ((upd f k (lp k))) lq lb (upd (upd lg 0 (nI ((s_n S) + 1))) 1 (nI 0))) hx hb hK hP hD hS 38 0 rfl rfl (by omega) (by omega) (rfl) rfl dL_isDone_190 (fun H locs hP hD hS => ?_)
                refine x_iinc (k := 15) (o := 1) (v := k + 1) (lv' := [(15, .int (nI (k + 1))), (0, .ref (ad 0)), (1, .ref sb), (2, .int (nI a9)), (3, .ref (la 0)), (4, .ref (la 1)), (5, .ref (la 2)), (6, .ref (la 3)), (7, .ref (la 4)), (8, .int (nI wh)), (9, .int (nI one)), (10, .int (nI two)), (11, .int (nI three)), (12, .int (nI its)), (13, .int (nI t)), (14, .int (nI (s_n S + 1)))]) hx hb dL_isDone_191 hl rfl rfl rfl (by decide) rfl (fun ls hl => ?_)
                refine lv_goto (tgt := 175) hx hb dL_isDone_194 (by decide) ?_
                exact W.widen (by show _ ≤ 0; omega) (by show _ ≤ 0; omega) (ih175 (k + 1, (upd f k (lp k))) ⟨by omega, (by rw [hf]; exact oC_s _ _ _)⟩ (by show 24 - (k + 1) < 24 - k; omega) _ _ _ hP hD hS (lv_sub hl [1, 2, 3, 4, 5, 6, 7, 8, 9, 10, 11, 12, 13, 14, 15, 0] rfl))
          · refine lv_bipush (v := (-10 : Int32)) hx hb dL_isDone_141 (by decide) ?_
            refine lv_goto (tgt := 152) hx hb dL_isDone_143 (by decide) ?_
            refine lv_istore (lv' := [(14, .int ((-10 : Int32))), (13, .int (nI t)), (0, .ref (ad 0)), (1, .ref sb), (2, .int (nI a9)), (3, .ref (la 0)), (4, .ref (la 1)), (5, .ref (la 2)), (6, .ref (la 3)), (7, .ref (la 4)), (8, .int (nI wh)), (9, .int (nI one)), (10, .int (nI two)), (11, .int (nI three)), (12, .int (nI its))]) hx hb dL_isDone_152 hl (by decide) rfl (fun ls hl => ?_)
            refine lv_iload hx hb dL_isDone_154 (lv_at hl 0 rfl) ?_
            refine x_if_le (tgt := 205) hx hb (Iff.rfl) dL_isDone_156 (by decide) (fun c156 => ?_) (fun c156 => ?_)
            · refine lv_aload_n hx hb dL_isDone_205 rfl (lv_at hl 2 rfl) ?_
              refine lv_iconst (v := nI 3) hx hb dL_isDone_206 (by decide) ?_
              refine lv_iconst (v := nI 0) hx hb dL_isDone_207 (by decide) ?_
              refine lv_iconst (v := nI 0) hx hb dL_isDone_208 (by decide) ?_
              refine lv_iconst (v := nI 0) hx hb dL_isDone_209 (by decide) ?_
              refine lv_iconst (v := nI 0) hx hb dL_isDone_210 (by decide) ?_
              refine lv_iconst (v := nI 0) hx hb dL_isDone_211 (by decide) ?_
              refine x_calli (w2 := fun (S1 : S4) => LW cI cP cS ad la S1 lp lo lq lb lg) (wr := []) (x_runL (n := 7) ⟨hx, hb, hml, hown, hts⟩ (fD_commit l D cI cP cS cL hfl ad la lp lo lq lb lg (s_lim S) (s_n S) (s_rows S) (s_cc S) (s_ct S) (s_ck S) (s_nr S) (s_cr S) (s_old S) (s_rw S) (s_co S) (s_re S) (s_nu S) (s_ma S) (s_sr S) (s_cp S) (s_pu S) (s_st S) (s_sl S) (nI 0) (nI 0) (nI 0) (nI 0) (nI 0) hn50 hlim50 (IN_sts hI) (IN_sls hI)) gL_isDone_L_does rfl rfl rfl (by decide +kernel) ⟨by decide, by decide⟩ hN hK hP hD hS hA hE iLW rfl rfl rfl hl.1 (rest := []) (As := [.ref (ad 0), .int (nI 3), .int (nI 0), .int (nI 0), .int (nI 0), .int (nI 0), .int (nI 0)]) rfl (Nat.le_of_ble_eq_true rfl) dL_isDone_212 ⟨by show _ ≤ 700; omega, by show _ ≤ 4200; omega⟩) hP hD hS hA iLW [] iLW rfl rfl rfl (by decide) rfl (fun _ => rfl) (fun r212 S1 H locs hw hP hD hS => ?_)
              obtain ⟨hr9, e8⟩ := (O_commit (IN_of hI) hw).1 (by omega)
              have e9 : S = S1 := (show S1 = S from e8).symm
              subst e9
              subst hr9
              have hP : va_P D vwCl (LW cI cP cS ad la S lp lo lq lb lg) H := hP
              have hD : va_D A (LW cI cP cS ad la S lp lo lq lb lg) := hD
              refine lv_iload hx hb dL_isDone_215 (lv_at hl 0 rfl) ?_
              refine x_cmp_ne (tgt := 224) hx hb (Iff.rfl) dL_isDone_217 (by decide) (fun c217 => ?_) (fun c217 => ?_)
              · exact absurd rfl c217
              · refine lv_iconst (v := nI 1) hx hb dL_isDone_220 (by decide) ?_
                refine lv_goto (tgt := 225) hx hb dL_isDone_221 (by decide) ?_
                exact x_ret_z hx hb hrt (by first | exact Or.inl rfl | exact Or.inr rfl) hlk hP hD hS dL_isDone_225 ⟨by omega, by omega⟩ ((S, lp, lo, lq, lb, lg)) ⟨rfl, ⟨bk, kc, mi, cn, hI⟩⟩ rfl
            · exact absurd (by decide) c156
      · refine lv_aload_n hx hb dL_isDone_88 rfl (lv_at hl 1 rfl) ?_
        refine lv_aload_n hx hb dL_isDone_89 rfl (lv_at hl 4 rfl) ?_
        refine lv_aload hx hb dL_isDone_90 (lv_at hl 8 rfl) ?_
        refine lv_iload hx hb dL_isDone_92 (lv_at hl 9 rfl) ?_
        refine lv_bipush (v := nI 9) hx hb dL_isDone_94 (by decide) ?_
        refine x_cmp_ge (tgt := 103) hx hb (nI_leI (a := 9) (b := wh) (by omega) (by omega)) dL_isDone_96 (by decide) (fun c96 => ?_) (fun c96 => ?_)
        · refine lv_iload hx hb dL_isDone_103 (lv_at hl 9 rfl) ?_
          refine lv_bipush (v := nI 12) hx hb dL_isDone_105 (by decide) ?_
          refine x_cmp_ge (tgt := 114) hx hb (nI_leI (a := 12) (b := wh) (by omega) (by omega)) dL_isDone_107 (by decide) (fun c107 => ?_) (fun c107 => ?_)
          · refine lv_iconst (v := nI 2) hx hb dL_isDone_114 (by decide) ?_
            refine lv_iload hx hb dL_isDone_115 (lv_at hl 10 rfl) ?_
            refine lv_iload hx hb dL_isDone_117 (lv_at hl 11 rfl) ?_
            refine lv_iload hx hb dL_isDone_119 (lv_at hl 12 rfl) ?_
            refine x_calli (w2 := fun (T121 : LT) => LW cI cP cS ad la T121.1 T121.2.1 T121.2.2.1 T121.2.2.2.1 T121.2.2.2.2.1 T121.2.2.2.2.2) (wr := []) (x_runSE (n := 7) ⟨hx, hb, hml, hown, hts⟩ (zL_isChange2 l D cI cP cS cL hfl ad la hinj S lp lo lq lb lg  one two three (by omega) (by omega) (by omega) ⟨bk, kc, mi, cn, hI⟩) gL_isDone_L_isChange rfl rfl rfl (by decide +kernel) ⟨by decide, by decide⟩ hN hK hP hD hS hA hE iLW rfl rfl rfl hl.1 (rest := []) (As := [.ref (ad 0), .ref (la 0), .ref (la 4), .int (nI 2), .int (nI one), .int (nI two), .int (nI three)]) rfl (Nat.le_of_ble_eq_true rfl) dL_isDone_121 ⟨by show _ ≤ 700; omega, by show _ ≤ 4200; omega⟩) hP hD hS hA iLW [] iLW rfl rfl rfl (by decide) rfl (fun _ => rfl) (fun r121 T121 H locs hw hP hD hS => ?_)
            obtain ⟨hr9, hI1⟩ := hw
            subst hr9
            have hP : va_P D vwCl (LW cI cP cS ad la T121.1 T121.2.1 T121.2.2.1 T121.2.2.2.1 T121.2.2.2.2.1 T121.2.2.2.2.2) H := hP
            have hD : va_D A (LW cI cP cS ad la T121.1 T121.2.1 T121.2.2.1 T121.2.2.2.1 T121.2.2.2.2.1 T121.2.2.2.2.2) := hD
            exact x_ret_z hx hb hrt (by first | exact Or.inl rfl | exact Or.inr rfl) hlk hP hD hS dL_isDone_124 ⟨by omega, by omega⟩ ((T121.1, T121.2.1, T121.2.2.1, T121.2.2.2.1, T121.2.2.2.2.1, T121.2.2.2.2.2)) ⟨rfl, hI1⟩ rfl
          · refine lv_iconst (v := nI 1) hx hb dL_isDone_110 (by decide) ?_
            refine lv_goto (tgt := 115) hx hb dL_isDone_111 (by decide) ?_
            refine lv_iload hx hb dL_isDone_115 (lv_at hl 10 rfl) ?_
            refine lv_iload hx hb dL_isDone_117 (lv_at hl 11 rfl) ?_
            refine lv_iload hx hb dL_isDone_119 (lv_at hl 12 rfl) ?_
            refine x_calli (w2 := fun (T121 : LT) => LW cI cP cS ad la T121.1 T121.2.1 T121.2.2.1 T121.2.2.2.1 T121.2.2.2.2.1 T121.2.2.2.2.2) (wr := []) (x_runSE (n := 7) ⟨hx, hb, hml, hown, hts⟩ (zL_isChange1 l D cI cP cS cL hfl ad la hinj S lp lo lq lb lg  one two three (by omega) (by omega) (by omega) ⟨bk, kc, mi, cn, hI⟩) gL_isDone_L_isChange rfl rfl rfl (by decide +kernel) ⟨by decide, by decide⟩ hN hK hP hD hS hA hE iLW rfl rfl rfl hl.1 (rest := []) (As := [.ref (ad 0), .ref (la 0), .ref (la 4), .int (nI 1), .int (nI one), .int (nI two), .int (nI three)]) rfl (Nat.le_of_ble_eq_true rfl) dL_isDone_121 ⟨by show _ ≤ 700; omega, by show _ ≤ 4200; omega⟩) hP hD hS hA iLW [] iLW rfl rfl rfl (by decide) rfl (fun _ => rfl) (fun r121 T121 H locs hw hP hD hS => ?_)
            obtain ⟨hr9, hI1⟩ := hw
            subst hr9
            have hP : va_P D vwCl (LW cI cP cS ad la T121.1 T121.2.1 T121.2.2.1 T121.2.2.2.1 T121.2.2.2.2.1 T121.2.2.2.2.2) H := hP
            have hD : va_D A (LW cI cP cS ad la T121.1 T121.2.1 T121.2.2.1 T121.2.2.2.1 T121.2.2.2.2.1 T121.2.2.2.2.2) := hD
            exact x_ret_z hx hb hrt (by first | exact Or.inl rfl | exact Or.inr rfl) hlk hP hD hS dL_isDone_124 ⟨by omega, by omega⟩ ((T121.1, T121.2.1, T121.2.2.1, T121.2.2.2.1, T121.2.2.2.2.1, T121.2.2.2.2.2)) ⟨rfl, hI1⟩ rfl
        · refine lv_iconst (v := nI 0) hx hb dL_isDone_99 (by decide) ?_
          refine lv_goto (tgt := 115) hx hb dL_isDone_100 (by decide) ?_
          refine lv_iload hx hb dL_isDone_115 (lv_at hl 10 rfl) ?_
          refine lv_iload hx hb dL_isDone_117 (lv_at hl 11 rfl) ?_
          refine lv_iload hx hb dL_isDone_119 (lv_at hl 12 rfl) ?_
          refine x_calli (w2 := fun (T121 : LT) => LW cI cP cS ad la T121.1 T121.2.1 T121.2.2.1 T121.2.2.2.1 T121.2.2.2.2.1 T121.2.2.2.2.2) (wr := []) (x_runSE (n := 7) ⟨hx, hb, hml, hown, hts⟩ (zL_isChange0 l D cI cP cS cL hfl ad la hinj S lp lo lq lb lg  one two three (by omega) (by omega) (by omega) ⟨bk, kc, mi, cn, hI⟩) gL_isDone_L_isChange rfl rfl rfl (by decide +kernel) ⟨by decide, by decide⟩ hN hK hP hD hS hA hE iLW rfl rfl rfl hl.1 (rest := []) (As := [.ref (ad 0), .ref (la 0), .ref (la 4), .int (nI 0), .int (nI one), .int (nI two), .int (nI three)]) rfl (Nat.le_of_ble_eq_true rfl) dL_isDone_121 ⟨by show _ ≤ 700; omega, by show _ ≤ 4200; omega⟩) hP hD hS hA iLW [] iLW rfl rfl rfl (by decide) rfl (fun _ => rfl) (fun r121 T121 H locs hw hP hD hS => ?_)
          obtain ⟨hr9, hI1⟩ := hw
          subst hr9
          have hP : va_P D vwCl (LW cI cP cS ad la T121.1 T121.2.1 T121.2.2.1 T121.2.2.2.1 T121.2.2.2.2.1 T121.2.2.2.2.2) H := hP
          have hD : va_D A (LW cI cP cS ad la T121.1 T121.2.1 T121.2.2.1 T121.2.2.2.1 T121.2.2.2.2.1 T121.2.2.2.2.2) := hD
          exact x_ret_z hx hb hrt (by first | exact Or.inl rfl | exact Or.inr rfl) hlk hP hD hS dL_isDone_124 ⟨by omega, by omega⟩ ((T121.1, T121.2.1, T121.2.2.1, T121.2.2.2.1, T121.2.2.2.2.1, T121.2.2.2.2.2)) ⟨rfl, hI1⟩ rfl
    intro kj79
    refine lv_iload hx hb dL_isDone_63 (lv_at hl 11 rfl) ?_
    refine lv_bipush (v := nI 12) hx hb dL_isDone_65 (by decide) ?_
    refine x_rem (k := two % 12) hx hb dL_isDone_67 (by omega) (by omega) (by omega) rfl ?_
    refine x_if_ne (tgt := 75) hx hb (nI_z (by omega)) dL_isDone_68 (by decide) (fun c68 => ?_) (fun c68 => ?_)
    · refine lv_iload hx hb dL_isDone_75 (lv_at hl 11 rfl) ?_
      refine lv_iconst (v := nI 2) hx hb dL_isDone_77 (by decide) ?_
      refine x_rem (k := two % 2) hx hb dL_isDone_78 (by omega) (by omega) (by omega) rfl ?_
      exact W.widen (by show _ ≤ 0; omega) (by show _ ≤ 0; omega) (kj79 (two % 2) (by show _ ≤ 2; omega) _ _ _ hP hD hS (lv_sub hl [1, 2, 3, 4, 5, 6, 7, 8, 9, 10, 11, 12, 0] rfl))
    · refine lv_iconst (v := nI 2) hx hb dL_isDone_71 (by decide) ?_
      refine lv_goto (tgt := 79) hx hb dL_isDone_72 (by decide) ?_
      exact W.widen (by show _ ≤ 0; omega) (by show _ ≤ 0; omega) (kj79 2 (by show _ ≤ 2; omega) _ _ _ hP hD hS (lv_sub hl [1, 2, 3, 4, 5, 6, 7, 8, 9, 10, 11, 12, 0] rfl))
  intro kj61
  refine lv_iload hx hb dL_isDone_45 (lv_at hl 2 rfl) ?_
  refine lv_bipush (v := nI 9) hx hb dL_isDone_47 (by decide) ?_
  refine x_rem (k := one % 9) hx hb dL_isDone_49 (by omega) (by omega) (by omega) rfl ?_
  refine x_if_ne (tgt := 57) hx hb (nI_z (by omega)) dL_isDone_50 (by decide) (fun c50 => ?_) (fun c50 => ?_)
  · refine lv_iload hx hb dL_isDone_57 (lv_at hl 2 rfl) ?_
    refine lv_iconst (v := nI 3) hx hb dL_isDone_59 (by decide) ?_
    refine x_rem (k := one % 3) hx hb dL_isDone_60 (by omega) (by omega) (by omega) rfl ?_
    exact W.widen (by show _ ≤ 0; omega) (by show _ ≤ 0; omega) (kj61 (one % 3) (by show _ ≤ 3; omega) _ _ _ hP hD hS (lv_sub hl [4, 5, 6, 7, 8, 9, 10, 11, 3, 2, 1, 0] rfl))
  · refine lv_iconst (v := nI 3) hx hb dL_isDone_53 (by decide) ?_
    refine lv_goto (tgt := 61) hx hb dL_isDone_54 (by decide) ?_
    exact W.widen (by show _ ≤ 0; omega) (by show _ ≤ 0; omega) (kj61 3 (by show _ ≤ 3; omega) _ _ _ hP hD hS (lv_sub hl [4, 5, 6, 7, 8, 9, 10, 11, 3, 2, 1, 0] rfl))
