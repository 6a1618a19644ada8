set_option maxHeartbeats 8000000 in
set_option maxRecDepth 100000 in
theorem law_turn {p : Program} {l : Launch} {e : Env} {s : State} {m : MethodId} {below : List Frame} {meth : Method} {c : Code} {D : va_G} {cI cP cS cL : ClassId} {A : Nat → Prop} {ad bd  : Nat → Nat} {ho b L : Nat} {xs : Nat → Int32} {i : Nat} (B : lwB p l s m c D cI cP cS cL A b L xs) (hinj : ∀ x y, x < 3 → y < 3 → ad (13 + 5 * x) = ad (13 + 5 * y) → x = y) (hret : meth.sig.returnType = ret) (hlk : meth.locks = false) (hAn : ∀ q, A q → s.heap.size ≤ q) (hiL : i ≤ L + 6) (ih : i + 6 ≤ L → ∀ (cells slots : Nat) (s4 : S4) (out : Nat → Int64) (s5 : S5) (H : Heap) (locs : List Loc) (ls : Array Slot), (cells ≤ 100 + 8 * (i + 6) ∧ slots ≤ 20000 + 40 * (i + 6)) → (∃ bk, RRt ad bk s4 s5) → va_P D vwCl (LWd cI cP cS cL ad bd ho s4 out s5) H → va_D A (LWd cI cP cS cL ad bd ho s4 out s5) → va_S A s.heap H locs → lv_has ls 7 [(0, .ref b), (1, .ref (ad 0)), (2, .ref (bd 0)), (3, .ref ho), (4, .int (nI (i + 6)))] → W p l e room_1 s m #[Value.ref b] below meth c H locs cells slots (lw_Z below #[Value.ref b] s) (F0 m 23 ls [])) : ∀ (cells slots : Nat) (s4 : S4) (out : Nat → Int64) (s5 : S5) (H : Heap) (locs : List Loc) (ls : Array Slot), (cells ≤ 100 + 8 * i ∧ slots ≤ 20000 + 40 * i) → (∃ bk, RRt ad bk s4 s5) → va_P D vwCl (LWd cI cP cS cL ad bd ho s4 out s5) H → va_D A (LWd cI cP cS cL ad bd ho s4 out s5) → va_S A s.heap H locs → lv_has ls 7 [(0, .ref b), (1, .ref (ad 0)), (2, .ref (bd 0)), (3, .ref ho), (4, .int (nI i))] → W p l e room_1 s m #[Value.ref b] below meth c H locs cells slots (lw_Z below #[Value.ref b] s) (F0 m 23 ls []) := by
  intro cells slots s4 out s5 H locs ls hcs hRR hP hD hS hl
  have hB := B
  obtain ⟨hx, hb, hml, hown, hts, hfl, hK, hN, hE, hA, hbA, hbl, hX, hL⟩ := B
  have B := hB
  refine lv_iload hx hb dL_law_23 (lv_at hl 4 rfl) ?_
  refine lv_aload_n hx hb dL_law_25 rfl (lv_at hl 0 rfl) ?_
  refine va_slen hx hb hX hbl hbA hS dL_law_26 ?_
  refine lv_bipush (v := nI 6) hx hb dL_law_27 (by decide) ?_
  refine lv_isub hx hb dL_law_29 ?_
  refine x_cmp_gt (tgt := 1541) (P := L < i + 6) hx hb (by show nI L - nI 6 < nI i ↔ _; rw [Int32.lt_iff_toInt_lt, pk_sub_toInt (by omega) (by decide), nI_int (by omega)]; omega) dL_law_30 (by decide) (fun c9 => ?_) (fun c9 => ?_)
  · refine lv_iconst (v := 1) hx hb dL_law_1541 (by decide) ?_
    exact va_forget (fun q hq => hAn _ (hS.2.2 q hq)) (W.widen (by omega) (by omega) (lw_ret hx hb hret hlk dL_law_1542))
  have hi6 : i + 6 ≤ L := Nat.le_of_not_lt c9
  have hf : cells + 100 ≤ 601024 ∧ slots + 1000 ≤ 7293034 := ⟨by omega, by omega⟩
  have kk : ∀ (s4 : S4) (out : Nat → Int64) (s5 : S5) (H : Heap) (locs : List Loc) (ls : Array Slot), (∃ bk, RRt ad bk s4 s5) → va_P D vwCl (LWd cI cP cS cL ad bd ho s4 out s5) H → va_D A (LWd cI cP cS cL ad bd ho s4 out s5) → va_S A s.heap H locs → lv_has ls 7 [(0, .ref b), (1, .ref (ad 0)), (2, .ref (bd 0)), (3, .ref ho), (4, .int (nI i))] → W p l e room_1 s m #[Value.ref b] below meth c H locs (cells + 8) (slots + 40) (lw_Z below #[Value.ref b] s) (F0 m 1535 ls []) := by
    intro s4 out s5 H locs ls h9 hP hD hS hl
    refine x_iinc (k := 4) (o := 6) (v := i + 6) (lv' := [(4, .int (nI (i + 6))), (0, .ref b), (1, .ref (ad 0)), (2, .ref (bd 0)), (3, .ref ho)]) hx hb dL_law_1535 hl rfl rfl rfl (by decide) rfl (fun ls hl => ?_)
    refine lv_goto (tgt := 23) hx hb dL_law_1538 (by decide) ?_
    exact ih hi6 (cells + 8) (slots + 40) s4 out s5 H locs ls ⟨by omega, by omega⟩ h9 hP hD hS (lv_sub hl [1, 2, 3, 4, 0] rfl)
  refine lv_aload_n hx hb dL_law_33 rfl (lv_at hl 0 rfl) ?_
  refine lv_iload hx hb dL_law_34 (lv_at hl 4 rfl) ?_
  refine x_sld (k := i) hx hb hX hbl hbA hS (by omega) hL dL_law_36 ?_
  refine lv_bipush (v := nI 31) hx hb dL_law_37 (by decide) ?_
  refine lv_iand hx hb dL_law_39 ?_
  obtain ⟨j, hj, ej⟩ := pk_andE (xs i) (m := nI 31) 5 (by decide)
  refine x_top (y := nI j) ej ?_
  obtain ⟨lim, n, rows, cc, ct, ck, nr, cr, old, rw, co, re, nu, ma, sr, cp, pu, st, sl⟩ := s4
  obtain ⟨th, n2, lim2, row, kept, chg, tab, key, frs, col, rel, num, lis, boo, sta, slo, cop, see, the, her⟩ := s5
  obtain ⟨bk, hR⟩ := hRR
  obtain ⟨rfl, rfl, hR⟩ := hR
  rcases Nat.lt_or_ge j 21 with h21 | h21
  rotate_left
  · refine lv_tableOut (tgt := 1535) hx hb dL_law_40 (Or.inr (by rw [nI_toInt (by omega)]; omega)) (by decide) ?_
    exact W.widen (by omega) (by omega) (kk _ _ _ H locs ls ⟨bk, rfl, rfl, hR⟩ hP hD hS hl)
  rcases (show j = 0 ∨ j = 1 ∨ j = 2 ∨ j = 3 ∨ j = 4 ∨ j = 5 ∨ j = 6 ∨ j = 7 ∨ j = 8 ∨ j = 9 ∨ j = 10 ∨ j = 11 ∨ j = 12 ∨ j = 13 ∨ j = 14 ∨ j = 15 ∨ j = 16 ∨ j = 17 ∨ j = 18 ∨ j = 19 ∨ j = 20 by omega) with rfl | rfl | rfl | rfl | rfl | rfl | rfl | rfl | rfl | rfl | rfl | rfl | rfl | rfl | rfl | rfl | rfl | rfl | rfl | rfl | rfl
  · refine lv_tableIn (off := 100) (tgt := 140) hx hb dL_law_40 (by decide) (by decide) rfl (by decide) ?_
    exact lC_put B hinj hi6 hf hR hP hD hS hl kk
  · refine lv_tableIn (off := 211) (tgt := 251) hx hb dL_law_40 (by decide) (by decide) rfl (by decide) ?_
    exact lC_take B hinj hi6 hf hR hP hD hS hl kk
  · refine lv_tableIn (off := 259) (tgt := 299) hx hb dL_law_40 (by decide) (by decide) rfl (by decide) ?_
    exact lC_truncate B hinj hi6 hf hR hP hD hS hl kk
  · refine lv_tableIn (off := 315) (tgt := 355) hx hb dL_law_40 (by decide) (by decide) rfl (by decide) ?_
    exact lC_commit B hinj hi6 hf hR hP hD hS hl kk
  · refine lv_tableIn (off := 359) (tgt := 399) hx hb dL_law_40 (by decide) (by decide) rfl (by decide) ?_
    exact lC_rollBack B hinj hi6 hf hR hP hD hS hl kk
  · refine lv_tableIn (off := 372) (tgt := 412) hx hb dL_law_40 (by decide) (by decide) rfl (by decide) ?_
    exact lC_at B hinj hi6 hf hR hP hD hS hl kk
  · refine lv_tableIn (off := 452) (tgt := 492) hx hb dL_law_40 (by decide) (by decide) rfl (by decide) ?_
    exact lC_commits B hinj hi6 hf hR hP hD hS hl kk
  · refine lv_tableIn (off := 465) (tgt := 505) hx hb dL_law_40 (by decide) (by decide) rfl (by decide) ?_
    exact lC_setLimit B hinj hi6 hf hR hP hD hS hl kk
  · refine lv_tableIn (off := 521) (tgt := 561) hx hb dL_law_40 (by decide) (by decide) rfl (by decide) ?_
    exact lC_setCondition B hinj hi6 hf hR hP hD hS hl kk
  · refine lv_tableIn (off := 625) (tgt := 665) hx hb dL_law_40 (by decide) (by decide) rfl (by decide) ?_
    exact lC_setColumns B hinj hi6 hf hR hP hD hS hl kk
  · refine lv_tableIn (off := 705) (tgt := 745) hx hb dL_law_40 (by decide) (by decide) rfl (by decide) ?_
    exact lC_subscribe B hinj hi6 hf hR hP hD hS hl kk
  · refine lv_tableIn (off := 773) (tgt := 813) hx hb dL_law_40 (by decide) (by decide) rfl (by decide) ?_
    exact lC_drop B hinj hi6 hf hR hP hD hS hl kk
  · refine lv_tableIn (off := 829) (tgt := 869) hx hb dL_law_40 (by decide) (by decide) rfl (by decide) ?_
    exact lC_copy B hinj hi6 hf hR hP hD hS hl kk
  · refine lv_tableIn (off := 897) (tgt := 937) hx hb dL_law_40 (by decide) (by decide) rfl (by decide) ?_
    exact lC_receive B hinj hi6 hf hR hP hD hS hl kk
  · refine lv_tableIn (off := 965) (tgt := 1005) hx hb dL_law_40 (by decide) (by decide) rfl (by decide) ?_
    exact lC_goOn B hinj hi6 hf hR hP hD hS hl kk
  · refine lv_tableIn (off := 1049) (tgt := 1089) hx hb dL_law_40 (by decide) (by decide) rfl (by decide) ?_
    exact lC_own B hinj hi6 hf hR hP hD hS hl kk
  · refine lv_tableIn (off := 1148) (tgt := 1188) hx hb dL_law_40 (by decide) (by decide) rfl (by decide) ?_
    exact lC_state B hinj hi6 hf hR hP hD hS hl kk
  · refine lv_tableIn (off := 1204) (tgt := 1244) hx hb dL_law_40 (by decide) (by decide) rfl (by decide) ?_
    exact lC_lag B hinj hi6 hf hR hP hD hS hl kk
  · refine lv_tableIn (off := 1260) (tgt := 1300) hx hb dL_law_40 (by decide) (by decide) rfl (by decide) ?_
    exact lC_copiedAt B hinj hi6 hf hR hP hD hS hl kk
  · refine lv_tableIn (off := 1328) (tgt := 1368) hx hb dL_law_40 (by decide) (by decide) rfl (by decide) ?_
    exact lC_seen B hinj hi6 hf hR hP hD hS hl kk
  · refine lv_tableIn (off := 1420) (tgt := 1460) hx hb dL_law_40 (by decide) (by decide) rfl (by decide) ?_
    exact lC_isFaithful B hinj hi6 hf hR hP hD hS hl kk
theorem law_loop {p : Program} {l : Launch} {e : Env} {s : State} {m : MethodId} {below : List Frame} {meth : Method} {c : Code} {D : va_G} {cI cP cS cL : ClassId} {A : Nat → Prop} {ad bd  : Nat → Nat} {ho b L : Nat} {xs : Nat → Int32} (B : lwB p l s m c D cI cP cS cL A b L xs) (hinj : ∀ x y, x < 3 → y < 3 → ad (13 + 5 * x) = ad (13 + 5 * y) → x = y) (hret : meth.sig.returnType = ret) (hlk : meth.locks = false) (hAn : ∀ q, A q → s.heap.size ≤ q) : ∀ (d i : Nat), L < i + d → i ≤ L + 6 → ∀ (cells slots : Nat) (s4 : S4) (out : Nat → Int64) (s5 : S5) (H : Heap) (locs : List Loc) (ls : Array Slot), (cells ≤ 100 + 8 * i ∧ slots ≤ 20000 + 40 * i) → (∃ bk, RRt ad bk s4 s5) → va_P D vwCl (LWd cI cP cS cL ad bd ho s4 out s5) H → va_D A (LWd cI cP cS cL ad bd ho s4 out s5) → va_S A s.heap H locs → lv_has ls 7 [(0, .ref b), (1, .ref (ad 0)), (2, .ref (bd 0)), (3, .ref ho), (4, .int (nI i))] → W p l e room_1 s m #[Value.ref b] below meth c H locs cells slots (lw_Z below #[Value.ref b] s) (F0 m 23 ls []) := by
  intro d
  induction d with
  | zero => intro i h1 h2; exact law_turn B hinj hret hlk hAn h2 (fun h => by omega)
  | succ d ih => intro i h1 h2; exact law_turn B hinj hret hlk hAn h2 (fun h => ih (i + 6) (by omega) (by omega))
