/-! The law's walk: its arrays filled, sixty turns, the refused calls at the end. -/
def bZ (i : Nat) : qF := fun x => if (x % 7 = 3 ∨ x % 7 = 4) ∧ x / 7 < i then -1 else nI 0
theorem bZ_0 : bZ 0 = (fun _ => nI 0) := by funext x; unfold bZ; rw [if_neg (by omega)]
theorem bZ_s (i : Nat) : upd (upd (bZ i) (7 * i + 3) (-1)) (7 * i + 4) (-1) = bZ (i + 1) := by
  funext x; unfold bZ upd
  by_cases e : x = 7 * i + 4
  · rw [if_pos e, if_pos (by omega)]
  · rw [if_neg e]; try dsimp only
    by_cases f : x = 7 * i + 3
    · rw [if_pos f, if_pos (by omega)]
    · rw [if_neg f]; try dsimp only
      by_cases q : (x % 7 = 3 ∨ x % 7 = 4) ∧ x / 7 < i
      · rw [if_pos q, if_pos (by omega)]
      · rw [if_neg q, if_neg (by omega)]
theorem qFill_at {f : Nat → Int32} {j i : Nat} {v : Int32} (h : i < j) : qFill f 0 j v i = v := by unfold qFill; rw [if_pos ⟨Nat.zero_le i, by omega⟩]
def lw_s4 : S4 := (20, 0, qFill (fun _ => nI 0) 0 24 (-1), (fun _ => nI 0), (fun _ => nI 0), (fun _ => nI 0), (fun _ => nI 0), qFill (fun _ => nI 0) 0 24 (-1), (fun _ => nI 0), (fun _ => nI 0), (fun _ => fun _ => nI 0), (fun _ => fun _ => nI 0), (fun _ => fun _ => nI 0), (fun _ => qFill (fun _ => nI 0) 0 2 (2097151 : Int32)), (fun _ => qFill (fun _ => nI 0) 0 24 (-1)), (fun _ => qFill (fun _ => nI 0) 0 2 (-1)), (fun _ => none), (fun _ => 0), (fun _ => 0))
/-- at the start the shadow agrees -/
theorem lw_in (ad : Nat → Nat) : INE ad lw_s4 (qFill (fun _ => nI 0) 0 24 (-1)) (qFill (fun _ => nI 0) 0 24 (-1)) (qFill (fun _ => nI 0) 0 6 (nI 7)) (bZ 3) (upd (fun _ => nI 0) 2 (nI 20)) := by
  refine ⟨fun _ => 0, fun _ _ => 0, fun _ _ => 0, 0, by decide, by decide, upd_ne (by decide), upd_ne (by decide), upd_same _ _ _, fun i hi => ?_, fun i hi => ?_, ⟨fun c hc i hi => ?_, fun c hc => absurd hc (Nat.not_lt_zero c), fun c _ _ => rfl⟩, ⟨by decide, rfl, fun i hi => absurd hi (Nat.not_lt_zero i), fun j hj => ?_⟩, fun p hp t ht => ⟨0, 0, 0, 7, by decide, by decide, by decide, by decide, rfl, rfl, rfl, ?_, ?_⟩, fun i hi => ⟨Nat.zero_le 3, Nat.le_refl 0, Nat.zero_lt_succ 2, ?_, ?_, ?_, Or.inl ⟨rfl, rfl⟩, fun h => absurd (show (0 : Nat) = 2 from h) (by decide), fun h => absurd (show (0 : Nat) = 1 ∨ (0 : Nat) = 2 from h) (by decide), fun j hj => ?_, fun t ht => ⟨Nat.zero_le _, ?_, ?_, Nat.zero_le 1, ?_, fun _ h => absurd (show (0 : Nat) = 1 ∨ (0 : Nat) = 2 from h) (by decide)⟩⟩⟩
  · rw [qFill_at hi]; exact rE_no
  · rw [qFill_at (by omega), qFill_at hi]; exact rE_no
  · rw [qFill_at (by omega)]; exact VR_m1
  · exact congrArg (qFill (fun _ => nI 0) 0 24 (-1)) (by omega : j = 0 * 24 + j)
  · show qFill _ 0 2 _ t = _
    rw [qFill_at ht]; decide
  · rw [qFill_at (by omega)]
  · show bZ 3 (7 * i + 0) = _
    unfold bZ; rw [if_neg (by omega)]
  · show bZ 3 (7 * i + 1) = _
    unfold bZ; rw [if_neg (by omega)]
  · show bZ 3 (7 * i + 2) = _
    unfold bZ; rw [if_neg (by omega)]
  · show VR (qFill _ 0 24 _ j)
    rw [qFill_at hj]; exact VR_m1
  · show qFill _ 0 2 _ t = _
    rw [qFill_at ht]; exact eX_0.symm
  · show bZ 3 (7 * i + (3 + t)) = _
    unfold bZ; rw [if_pos (by omega)]; exact eX_0.symm
  · show bZ 3 (7 * i + (5 + t)) = _
    unfold bZ; rw [if_neg (by omega)]
theorem vin_m {N : Nat} : ¬ vp_in (-1 : Int32) N := fun h => by have := (vp_in_iff.mp h).1; rw [show (-1 : Int32).toInt = -1 from by decide] at this; omega
theorem vin_2 {N : Nat} : ¬ vp_in (-2 : Int32) N := fun h => by have := (vp_in_iff.mp h).1; rw [show (-2 : Int32).toInt = -2 from by decide] at this; omega
section XOUT
variable {ad bk : Nat → Nat} {lim n cn si pi : Nat} {rows cc ct ck nr cr old rw : qF} {co re nu ma sr cp : Nat → qF} {pu : Nat → Option Nat} {st sl : Nat → Nat} {r : Int32} {q : S4} {a1 a2 a3 a4 a5 : Int32}
theorem X_put (hw : PD_put ad lim n rows cc ct ck nr cr old rw co re nu ma sr cp pu st sl cn (-1) a2 a3 a4 a5 r q) : r = -30 ∧ q = (lim, n, rows, cc, ct, ck, nr, cr, old, rw, co, re, nu, ma, sr, cp, pu, st, sl) := by
  rcases hw with ⟨tn, kn, r0, ⟨er, et, ht2, -⟩, eq⟩ | ⟨hx, eq⟩
  · exact ((m1_n (by omega)).mp et).elim
  · rcases hx with ⟨er, -⟩ | ⟨-, h, -⟩ | ⟨-, h, -⟩
    · exact ⟨er, eq⟩
    · exact absurd h.1 vin_m
    · exact absurd h.1 vin_m
theorem X_take (hw : PD_take ad lim n rows cc ct ck nr cr old rw co re nu ma sr cp pu st sl cn a1 (-1) r q) : r = -30 ∧ q = (lim, n, rows, cc, ct, ck, nr, cr, old, rw, co, re, nu, ma, sr, cp, pu, st, sl) := by
  rcases hw with ⟨tn, kn, r0, ⟨er, e0, et, ht2, ek, hk, -⟩, eq⟩ | ⟨hx, eq⟩
  · exact ((m1_n (by omega)).mp ek).elim
  · rcases hx with ⟨er, -⟩ | ⟨-, tn, kn, et, ht2, ek, hk, -⟩
    · exact ⟨er, eq⟩
    · exact ((m1_n (by omega)).mp ek).elim
theorem X_truncate (hw : PD_truncate ad lim n rows cc ct ck nr cr old rw co re nu ma sr cp pu st sl cn (nI 2) r q) : r = -30 ∧ q = (lim, n, rows, cc, ct, ck, nr, cr, old, rw, co, re, nu, ma, sr, cp, pu, st, sl) := by
  rcases hw with ⟨tn, r0, ⟨er, et, ht2, -⟩, eq⟩ | ⟨hx, eq⟩
  · have et := nI_j et (by omega) (by omega)
    omega
  · rcases hx with ⟨er, -⟩ | ⟨-, h, -⟩
    · exact ⟨er, eq⟩
    · exact absurd h (by rw [vin (by omega)]; omega)
theorem X_setLimit (hw : PD_setLimit ad lim n rows cc ct ck nr cr old rw co re nu ma sr cp pu st sl (-1) r q) : r = -20 ∧ q = (lim, n, rows, cc, ct, ck, nr, cr, old, rw, co, re, nu, ma, sr, cp, pu, st, sl) := by
  rcases hw with ⟨vn, r0, ⟨er, ev, hv, -⟩, eq⟩ | ⟨⟨er, -⟩, eq⟩
  · exact ((m1_n (by omega)).mp ev).elim
  · exact ⟨er, eq⟩
theorem X_setCondition (hw : PD_setCondition ad lim n rows cc ct ck nr cr old rw co re nu ma sr cp pu st sl pi a1 a2 (nI 3) a4 a5 r q) : r = -30 ∧ q = (lim, n, rows, cc, ct, ck, nr, cr, old, rw, co, re, nu, ma, sr, cp, pu, st, sl) := by
  rcases hw with ⟨tn, r0, ⟨er, ⟨-, -, -, -, h⟩, -⟩, eq⟩ | ⟨hx, eq⟩
  · exact absurd h (by rw [vin (by omega)]; omega)
  · rcases hx with ⟨er, -⟩ | ⟨-, h, -⟩
    · exact ⟨er, eq⟩
    · exact absurd h.2.2 (by rw [vin (by omega)]; omega)
theorem X_setColumns (hw : PD_setColumns ad lim n rows cc ct ck nr cr old rw co re nu ma sr cp pu st sl pi (nI 3) a2 a3 r q) : r = -30 ∧ q = (lim, n, rows, cc, ct, ck, nr, cr, old, rw, co, re, nu, ma, sr, cp, pu, st, sl) := by
  rcases hw with ⟨tn, r0, ⟨er, ⟨e, h, -⟩, -⟩, eq⟩ | ⟨hx, eq⟩
  · have e := nI_j e (by omega) (by omega)
    omega
  · rcases hx with ⟨er, -⟩ | ⟨-, h, -⟩
    · exact ⟨er, eq⟩
    · exact absurd h.1 (by rw [vin (by omega)]; omega)
theorem X_subscribe (hw : PD_subscribe ad lim n rows cc ct ck nr cr old rw co re nu ma sr cp pu st sl si a1 (nI 3) r q) : r = -30 ∧ q = (lim, n, rows, cc, ct, ck, nr, cr, old, rw, co, re, nu, ma, sr, cp, pu, st, sl) := by
  rcases hw with ⟨pn, r0, ⟨er, e, h, e2, h2, -⟩, eq⟩ | ⟨⟨er, -⟩, eq⟩
  · have e2 := nI_j e2 (by omega) (by omega)
    omega
  · exact ⟨er, eq⟩
theorem X_copy (hw : PD_copy ad lim n rows cc ct ck nr cr old rw co re nu ma sr cp pu st sl si pi cn (-1) a2 r q) : r = -30 ∧ q = (lim, n, rows, cc, ct, ck, nr, cr, old, rw, co, re, nu, ma, sr, cp, pu, st, sl) := by
  rcases hw with ⟨tn, r0, ⟨er, ⟨e, h, -⟩, -⟩, eq⟩ | ⟨hx, eq⟩
  · exact ((m1_n (by omega)).mp e).elim
  · rcases hx with ⟨er, -⟩ | ⟨-, h, -⟩
    · exact ⟨er, eq⟩
    · exact absurd h.1 vin_m
theorem X_receive (hw : PD_receive ad lim n rows cc ct ck nr cr old rw co re nu ma sr cp pu st sl si pi (nI 0) (nI 0) r q) : r = -20 ∧ q = (lim, n, rows, cc, ct, ck, nr, cr, old, rw, co, re, nu, ma, sr, cp, pu, st, sl) := by
  rcases hw with ⟨k, f, sq, o, w, r0, ⟨er, -, -, mn, e, h, hb, -⟩, eq⟩ | ⟨hx, eq⟩
  · have e := nI_j e (by omega) (by omega)
    omega
  · rcases hx with ⟨-, h⟩ | ⟨er, -⟩ | ⟨-, -, h, -⟩
    · exact absurd (vp_in_nI (by omega) (by decide)) h
    · exact ⟨er, eq⟩
    · rw [nI_leI (by omega) (by omega), nI_leI (by omega) (by omega)] at h
      omega
theorem X_own (hw : PD_own ad lim n rows cc ct ck nr cr old rw co re nu ma sr cp pu st sl si (nI 0) (nI 0) (nI 0) (-2) r q) : r = -20 ∧ q = (lim, n, rows, cc, ct, ck, nr, cr, old, rw, co, re, nu, ma, sr, cp, pu, st, sl) := by
  rcases hw with ⟨tn, kn, r0, ⟨er, -, h, -⟩, eq⟩ | ⟨hx, eq⟩
  · exact absurd h (fun z => z.elim (fun y => absurd y (by decide)) vin_2)
  · rcases hx with ⟨-, h⟩ | ⟨er, -⟩
    · exact absurd ⟨vp_in_nI (by omega) (by decide), vp_in_nI (by omega) (by decide), vp_in_nI (by omega) (by decide)⟩ h
    · exact ⟨er, eq⟩
end XOUT
set_option maxHeartbeats 8000000 in
set_option maxRecDepth 100000 in
theorem law_rest {p : Program} {l : Launch} {e : Env} {s : State} {m : MethodId} {below : List Frame} {meth : Method} {c : Code} {D : va_G} {cI cP cS cL : ClassId} {A : Nat → Prop} {ad la : Nat → Nat} {b L : Nat} {xs : Nat → Int32} (B : lwB p l s m c D cI cP cS cL A b L xs) (hAn : ∀ q, A q → s.heap.size ≤ q) (hinj : ∀ x y, x < 3 → y < 3 → ad (13 + 5 * x) = ad (13 + 5 * y) → x = y) (hret : meth.sig.returnType = ret) (hlk : meth.locks = false) {H : Heap} {locs : List Loc} {ls : Array Slot} {cells slots : Nat} (hc9 : cells ≤ 100) (hs9 : slots ≤ 9000) (hP : va_P D vwCl (LW cI cP cS ad la lw_s4 ((fun _ => nI 0)) ((fun _ => nI 0)) ((fun _ => nI 0)) ((fun _ => nI 0)) ((fun _ => nI 0))) H) (hD : va_D A (LW cI cP cS ad la lw_s4 ((fun _ => nI 0)) ((fun _ => nI 0)) ((fun _ => nI 0)) ((fun _ => nI 0)) ((fun _ => nI 0)))) (hS : va_S A s.heap H locs) (hl : lv_has ls 9 [(6, .ref (la 4)), (5, .ref (la 3)), (4, .ref (la 2)), (3, .ref (la 1)), (2, .ref (la 0)), (1, .ref (ad 0)), (0, .ref b)]) : W p l e room_1 s m #[Value.ref b] below meth c H locs cells slots (lw_Z below #[Value.ref b] s) (F0 m 35 ls []) := by
  obtain ⟨hx, hb, hml, hown, hts, hfl, hK, hN, hE, hA, hbA, hbl, hX, hL⟩ := B
  refine lv_aload hx hb dL_law_35 (lv_at hl 0 rfl) ?_
  refine lv_iconst (v := nI 2) hx hb dL_law_37 (by decide) ?_
  refine lv_bipush (v := nI 20) hx hb dL_law_38 (by decide) ?_
  refine x_ast (g := upd ((fun _ => nI 0)) 2 (nI 20)) (ws' := LW cI cP cS ad la lw_s4 ((fun _ => nI 0)) ((fun _ => nI 0)) ((fun _ => nI 0)) ((fun _ => nI 0)) (upd ((fun _ => nI 0)) 2 (nI 20))) hx hb hK hP hD hS 41 0 rfl rfl (by omega) (by omega) (rfl) rfl dL_law_40 (fun H locs hP hD hS => ?_)
  refine lv_iconst (v := nI 0) hx hb dL_law_41 (by decide) ?_
  refine lv_istore (lv' := [(7, .int (nI 0)), (6, .ref (la 4)), (5, .ref (la 3)), (4, .ref (la 2)), (3, .ref (la 1)), (2, .ref (la 0)), (1, .ref (ad 0)), (0, .ref b)]) hx hb dL_law_42 hl (by decide) rfl (fun ls hl => ?_)
  refine x_loopc (nL := 9) (fun (x : Nat × qF) => match x with | (k, f) => k ≤ 24 ∧ f = qFill (fun _ => nI 0) 0 k (-1)) (fun (x : Nat × qF) => match x with | (k, f) => 24 - k) (fun (x : Nat × qF) => match x with | (k, f) => 100) (fun (x : Nat × qF) => match x with | (k, f) => 9000) (fun (x : Nat × qF) => match x with | (k, f) => LW cI cP cS ad la lw_s4 f f ((fun _ => nI 0)) ((fun _ => nI 0)) (upd (fun _ => nI 0) 2 (nI 20))) (fun (x : Nat × qF) => match x with | (k, f) => [(0, .ref b), (1, .ref (ad 0)), (2, .ref (la 0)), (3, .ref (la 1)), (4, .ref (la 2)), (5, .ref (la 3)), (6, .ref (la 4)), (7, .int (nI k))]) (fun (x : Nat × qF) => match x with | (k, f) => []) ?_ (0, (fun _ => nI 0)) ⟨Nat.zero_le 24, (qFill_0 _ _ _).symm⟩ (by show _ ≤ 100; omega) (by show _ ≤ 9000; omega) hP hD hS (lv_sub hl [7, 6, 5, 4, 3, 2, 1, 0] rfl)
  intro x9 hI44 ih44 H locs ls hP hD hS hl
  obtain ⟨k, f⟩ := x9
  have hP : va_P D vwCl (LW cI cP cS ad la lw_s4 f f ((fun _ => nI 0)) ((fun _ => nI 0)) (upd (fun _ => nI 0) 2 (nI 20))) H := hP
  have hD : va_D A (LW cI cP cS ad la lw_s4 f f ((fun _ => nI 0)) ((fun _ => nI 0)) (upd (fun _ => nI 0) 2 (nI 20))) := hD
  have hl : lv_has ls 9 [(0, .ref b), (1, .ref (ad 0)), (2, .ref (la 0)), (3, .ref (la 1)), (4, .ref (la 2)), (5, .ref (la 3)), (6, .ref (la 4)), (7, .int (nI k))] := hl
  show W _ _ _ _ _ _ _ _ _ _ _ _ (100) (9000) _ _
  obtain ⟨hk9, hf⟩ := hI44
  refine lv_iload hx hb dL_law_44 (lv_at hl 7 rfl) ?_
  refine lv_bipush (v := nI 24) hx hb dL_law_46 (by decide) ?_
  refine x_cmp_ge (tgt := 67) hx hb (nI_leI (a := 24) (b := k) (by omega) (by omega)) dL_law_48 (by decide) (fun c48 => ?_) (fun c48 => ?_)
  · obtain rfl : k = 24 := by omega
    subst hf
    have hP : va_P D vwCl (LW cI cP cS ad la lw_s4 (qFill (fun _ => nI 0) 0 24 (-1)) (qFill (fun _ => nI 0) 0 24 (-1)) ((fun _ => nI 0)) ((fun _ => nI 0)) (upd (fun _ => nI 0) 2 (nI 20))) H := hP
    have hD : va_D A (LW cI cP cS ad la lw_s4 (qFill (fun _ => nI 0) 0 24 (-1)) (qFill (fun _ => nI 0) 0 24 (-1)) ((fun _ => nI 0)) ((fun _ => nI 0)) (upd (fun _ => nI 0) 2 (nI 20))) := hD
    have hl : lv_has ls 9 [(0, .ref b), (1, .ref (ad 0)), (2, .ref (la 0)), (3, .ref (la 1)), (4, .ref (la 2)), (5, .ref (la 3)), (6, .ref (la 4)), (7, .int (nI 24))] := hl
    refine lv_iconst (v := nI 0) hx hb dL_law_67 (by decide) ?_
    refine lv_istore (lv' := [(7, .int (nI 0)), (0, .ref b), (1, .ref (ad 0)), (2, .ref (la 0)), (3, .ref (la 1)), (4, .ref (la 2)), (5, .ref (la 3)), (6, .ref (la 4))]) hx hb dL_law_68 hl (by decide) rfl (fun ls hl => ?_)
    refine x_loopc (nL := 9) (fun (x : Nat × qF) => match x with | (k, f) => k ≤ 6 ∧ f = qFill (fun _ => nI 0) 0 k (nI 7)) (fun (x : Nat × qF) => match x with | (k, f) => 6 - k) (fun (x : Nat × qF) => match x with | (k, f) => 100) (fun (x : Nat × qF) => match x with | (k, f) => 9000) (fun (x : Nat × qF) => match x with | (k, f) => LW cI cP cS ad la lw_s4 (qFill (fun _ => nI 0) 0 24 (-1)) (qFill (fun _ => nI 0) 0 24 (-1)) f ((fun _ => nI 0)) (upd (fun _ => nI 0) 2 (nI 20))) (fun (x : Nat × qF) => match x with | (k, f) => [(0, .ref b), (1, .ref (ad 0)), (2, .ref (la 0)), (3, .ref (la 1)), (4, .ref (la 2)), (5, .ref (la 3)), (6, .ref (la 4)), (7, .int (nI k))]) (fun (x : Nat × qF) => match x with | (k, f) => []) ?_ (0, (fun _ => nI 0)) ⟨Nat.zero_le 6, (qFill_0 _ _ _).symm⟩ (by show _ ≤ 100; omega) (by show _ ≤ 9000; omega) hP hD hS (lv_sub hl [1, 2, 3, 4, 5, 6, 7, 0] rfl)
    intro x9 hI70 ih70 H locs ls hP hD hS hl
    obtain ⟨k, f⟩ := x9
    have hP : va_P D vwCl (LW cI cP cS ad la lw_s4 (qFill (fun _ => nI 0) 0 24 (-1)) (qFill (fun _ => nI 0) 0 24 (-1)) f ((fun _ => nI 0)) (upd (fun _ => nI 0) 2 (nI 20))) H := hP
    have hD : va_D A (LW cI cP cS ad la lw_s4 (qFill (fun _ => nI 0) 0 24 (-1)) (qFill (fun _ => nI 0) 0 24 (-1)) f ((fun _ => nI 0)) (upd (fun _ => nI 0) 2 (nI 20))) := hD
    have hl : lv_has ls 9 [(0, .ref b), (1, .ref (ad 0)), (2, .ref (la 0)), (3, .ref (la 1)), (4, .ref (la 2)), (5, .ref (la 3)), (6, .ref (la 4)), (7, .int (nI k))] := hl
    show W _ _ _ _ _ _ _ _ _ _ _ _ (100) (9000) _ _
    obtain ⟨hk9, hf⟩ := hI70
    refine lv_iload hx hb dL_law_70 (lv_at hl 7 rfl) ?_
    refine lv_bipush (v := nI 6) hx hb dL_law_72 (by decide) ?_
    refine x_cmp_ge (tgt := 90) hx hb (nI_leI (a := 6) (b := k) (by omega) (by omega)) dL_law_74 (by decide) (fun c74 => ?_) (fun c74 => ?_)
    · obtain rfl : k = 6 := by omega
      subst hf
      have hP : va_P D vwCl (LW cI cP cS ad la lw_s4 (qFill (fun _ => nI 0) 0 24 (-1)) (qFill (fun _ => nI 0) 0 24 (-1)) (qFill (fun _ => nI 0) 0 6 (nI 7)) ((fun _ => nI 0)) (upd (fun _ => nI 0) 2 (nI 20))) H := hP
      have hD : va_D A (LW cI cP cS ad la lw_s4 (qFill (fun _ => nI 0) 0 24 (-1)) (qFill (fun _ => nI 0) 0 24 (-1)) (qFill (fun _ => nI 0) 0 6 (nI 7)) ((fun _ => nI 0)) (upd (fun _ => nI 0) 2 (nI 20))) := hD
      have hl : lv_has ls 9 [(0, .ref b), (1, .ref (ad 0)), (2, .ref (la 0)), (3, .ref (la 1)), (4, .ref (la 2)), (5, .ref (la 3)), (6, .ref (la 4)), (7, .int (nI 6))] := hl
      refine lv_iconst (v := nI 0) hx hb dL_law_90 (by decide) ?_
      refine lv_istore (lv' := [(7, .int (nI 0)), (0, .ref b), (1, .ref (ad 0)), (2, .ref (la 0)), (3, .ref (la 1)), (4, .ref (la 2)), (5, .ref (la 3)), (6, .ref (la 4))]) hx hb dL_law_91 hl (by decide) rfl (fun ls hl => ?_)
      refine x_loopc (nL := 9) (fun (x : Nat × qF) => match x with | (k, f) => k ≤ 3 ∧ f = bZ k) (fun (x : Nat × qF) => match x with | (k, f) => 3 - k) (fun (x : Nat × qF) => match x with | (k, f) => 100) (fun (x : Nat × qF) => match x with | (k, f) => 9000) (fun (x : Nat × qF) => match x with | (k, f) => LW cI cP cS ad la lw_s4 (qFill (fun _ => nI 0) 0 24 (-1)) (qFill (fun _ => nI 0) 0 24 (-1)) (qFill (fun _ => nI 0) 0 6 (nI 7)) f (upd (fun _ => nI 0) 2 (nI 20))) (fun (x : Nat × qF) => match x with | (k, f) => [(0, .ref b), (1, .ref (ad 0)), (2, .ref (la 0)), (3, .ref (la 1)), (4, .ref (la 2)), (5, .ref (la 3)), (6, .ref (la 4)), (7, .int (nI k))]) (fun (x : Nat × qF) => match x with | (k, f) => []) ?_ (0, (fun _ => nI 0)) ⟨Nat.zero_le 3, bZ_0.symm⟩ (by show _ ≤ 100; omega) (by show _ ≤ 9000; omega) hP hD hS (lv_sub hl [1, 2, 3, 4, 5, 6, 7, 0] rfl)
      intro x9 hI93 ih93 H locs ls hP hD hS hl
      obtain ⟨k, f⟩ := x9
      have hP : va_P D vwCl (LW cI cP cS ad la lw_s4 (qFill (fun _ => nI 0) 0 24 (-1)) (qFill (fun _ => nI 0) 0 24 (-1)) (qFill (fun _ => nI 0) 0 6 (nI 7)) f (upd (fun _ => nI 0) 2 (nI 20))) H := hP
      have hD : va_D A (LW cI cP cS ad la lw_s4 (qFill (fun _ => nI 0) 0 24 (-1)) (qFill (fun _ => nI 0) 0 24 (-1)) (qFill (fun _ => nI 0) 0 6 (nI 7)) f (upd (fun _ => nI 0) 2 (nI 20))) := hD
      have hl : lv_has ls 9 [(0, .ref b), (1, .ref (ad 0)), (2, .ref (la 0)), (3, .ref (la 1)), (4, .ref (la 2)), (5, .ref (la 3)), (6, .ref (la 4)), (7, .int (nI k))] := hl
      show W _ _ _ _ _ _ _ _ _ _ _ _ (100) (9000) _ _
      obtain ⟨hk9, hf⟩ := hI93
      refine lv_iload hx hb dL_law_93 (lv_at hl 7 rfl) ?_
      refine lv_iconst (v := nI 3) hx hb dL_law_95 (by decide) ?_
      refine x_cmp_ge (tgt := 127) hx hb (nI_leI (a := 3) (b := k) (by omega) (by omega)) dL_law_96 (by decide) (fun c96 => ?_) (fun c96 => ?_)
      · obtain rfl : k = 3 := by omega
        subst hf
        have hT0 := lw_in ad
        have hP : va_P D vwCl (LW cI cP cS ad la lw_s4 (qFill (fun _ => nI 0) 0 24 (-1)) (qFill (fun _ => nI 0) 0 24 (-1)) (qFill (fun _ => nI 0) 0 6 (nI 7)) (bZ 3) (upd (fun _ => nI 0) 2 (nI 20))) H := hP
        have hD : va_D A (LW cI cP cS ad la lw_s4 (qFill (fun _ => nI 0) 0 24 (-1)) (qFill (fun _ => nI 0) 0 24 (-1)) (qFill (fun _ => nI 0) 0 6 (nI 7)) (bZ 3) (upd (fun _ => nI 0) 2 (nI 20))) := hD
        have hl : lv_has ls 9 [(0, .ref b), (1, .ref (ad 0)), (2, .ref (la 0)), (3, .ref (la 1)), (4, .ref (la 2)), (5, .ref (la 3)), (6, .ref (la 4)), (7, .int (nI 3))] := hl
        refine lv_aload_n hx hb dL_law_127 rfl (lv_at hl 1 rfl) ?_
        refine lv_aload_n hx hb dL_law_128 rfl (lv_at hl 2 rfl) ?_
        refine lv_aload hx hb dL_law_129 (lv_at hl 6 rfl) ?_
        refine x_calli (w2 := fun (u9 : Unit) => LW cI cP cS ad la lw_s4 (qFill (fun _ => nI 0) 0 24 (-1)) (qFill (fun _ => nI 0) 0 24 (-1)) (qFill (fun _ => nI 0) 0 6 (nI 7)) (bZ 3) (upd (fun _ => nI 0) 2 (nI 20))) (wr := []) (x_runSE (n := 3) ⟨hx, hb, hml, hown, hts⟩ (zL_isPublisher l D cI cP cS cL hfl ad la hinj lw_s4 (qFill (fun _ => nI 0) 0 24 (-1)) (qFill (fun _ => nI 0) 0 24 (-1)) (qFill (fun _ => nI 0) 0 6 (nI 7)) (bZ 3) (upd (fun _ => nI 0) 2 (nI 20)) hT0) gL_law_L_isPublisher rfl rfl rfl (by decide +kernel) ⟨by decide, by decide⟩ hN hK hP hD hS hA hE iLW rfl rfl rfl hl.1 (rest := []) (As := [.ref (ad 0), .ref (la 0), .ref (la 4)]) rfl (Nat.le_of_ble_eq_true rfl) dL_law_131 ⟨by show _ ≤ 600086; omega, by show _ ≤ 7301441; omega⟩) hP hD hS hA iLW [] iLW rfl rfl rfl (by decide) rfl (fun _ => rfl) (fun r131 u9 H locs hw hP hD hS => ?_)
        have hr9 : r131 = nI 1 := hw
        subst hr9
        have hP : va_P D vwCl (LW cI cP cS ad la lw_s4 (qFill (fun _ => nI 0) 0 24 (-1)) (qFill (fun _ => nI 0) 0 24 (-1)) (qFill (fun _ => nI 0) 0 6 (nI 7)) (bZ 3) (upd (fun _ => nI 0) 2 (nI 20))) H := hP
        have hD : va_D A (LW cI cP cS ad la lw_s4 (qFill (fun _ => nI 0) 0 24 (-1)) (qFill (fun _ => nI 0) 0 24 (-1)) (qFill (fun _ => nI 0) 0 6 (nI 7)) (bZ 3) (upd (fun _ => nI 0) 2 (nI 20))) := hD
        refine x_if_eq (tgt := 154) hx hb (nI_z (by omega)) dL_law_134 (by decide) (fun c134 => ?_) (fun c134 => ?_)
        · exfalso; omega
        · refine lv_aload_n hx hb dL_law_137 rfl (lv_at hl 1 rfl) ?_
          refine lv_aload hx hb dL_law_138 (lv_at hl 4 rfl) ?_
          refine lv_aload hx hb dL_law_140 (lv_at hl 5 rfl) ?_
          refine lv_aload hx hb dL_law_142 (lv_at hl 6 rfl) ?_
          refine x_calli (w2 := fun (u9 : Unit) => LW cI cP cS ad la lw_s4 (qFill (fun _ => nI 0) 0 24 (-1)) (qFill (fun _ => nI 0) 0 24 (-1)) (qFill (fun _ => nI 0) 0 6 (nI 7)) (bZ 3) (upd (fun _ => nI 0) 2 (nI 20))) (wr := []) (x_runSE (n := 4) ⟨hx, hb, hml, hown, hts⟩ (zL_areSubscribers l D cI cP cS cL hfl ad la hinj lw_s4 (qFill (fun _ => nI 0) 0 24 (-1)) (qFill (fun _ => nI 0) 0 24 (-1)) (qFill (fun _ => nI 0) 0 6 (nI 7)) (bZ 3) (upd (fun _ => nI 0) 2 (nI 20)) hT0) gL_law_L_areSubscribers rfl rfl rfl (by decide +kernel) ⟨by decide, by decide⟩ hN hK hP hD hS hA hE iLW rfl rfl rfl hl.1 (rest := []) (As := [.ref (ad 0), .ref (la 2), .ref (la 3), .ref (la 4)]) rfl (Nat.le_of_ble_eq_true rfl) dL_law_144 ⟨by show _ ≤ 600086; omega, by show _ ≤ 7301441; omega⟩) hP hD hS hA iLW [] iLW rfl rfl rfl (by decide) rfl (fun _ => rfl) (fun r144 u9 H locs hw hP hD hS => ?_)
          have hr9 : r144 = nI 1 := hw
          subst hr9
          have hP : va_P D vwCl (LW cI cP cS ad la lw_s4 (qFill (fun _ => nI 0) 0 24 (-1)) (qFill (fun _ => nI 0) 0 24 (-1)) (qFill (fun _ => nI 0) 0 6 (nI 7)) (bZ 3) (upd (fun _ => nI 0) 2 (nI 20))) H := hP
          have hD : va_D A (LW cI cP cS ad la lw_s4 (qFill (fun _ => nI 0) 0 24 (-1)) (qFill (fun _ => nI 0) 0 24 (-1)) (qFill (fun _ => nI 0) 0 6 (nI 7)) (bZ 3) (upd (fun _ => nI 0) 2 (nI 20))) := hD
          refine x_if_eq (tgt := 154) hx hb (nI_z (by omega)) dL_law_147 (by decide) (fun c147 => ?_) (fun c147 => ?_)
          · exfalso; omega
          · refine lv_iconst (v := nI 1) hx hb dL_law_150 (by decide) ?_
            refine lv_goto (tgt := 155) hx hb dL_law_151 (by decide) ?_
            refine lv_istore (lv' := [(7, .int (nI 1)), (0, .ref b), (1, .ref (ad 0)), (2, .ref (la 0)), (3, .ref (la 1)), (4, .ref (la 2)), (5, .ref (la 3)), (6, .ref (la 4))]) hx hb dL_law_155 hl (by decide) rfl (fun ls hl => ?_)
            refine lv_iconst (v := nI 0) hx hb dL_law_157 (by decide) ?_
            refine lv_istore (lv' := [(8, .int (nI 0)), (7, .int (nI 1)), (0, .ref b), (1, .ref (ad 0)), (2, .ref (la 0)), (3, .ref (la 1)), (4, .ref (la 2)), (5, .ref (la 3)), (6, .ref (la 4))]) hx hb dL_law_158 hl (by decide) rfl (fun ls hl => ?_)
            refine x_loopc (nL := 9) (fun (x : Nat × LT) => match x with | (k, T) => k ≤ 60 ∧ INT ad T) (fun (x : Nat × LT) => match x with | (k, T) => 60 - k) (fun (x : Nat × LT) => match x with | (k, T) => 4000 + 4000 * k) (fun (x : Nat × LT) => match x with | (k, T) => 40000 + 24000 * k) (fun (x : Nat × LT) => match x with | (k, T) => LW cI cP cS ad la T.1 T.2.1 T.2.2.1 T.2.2.2.1 T.2.2.2.2.1 T.2.2.2.2.2) (fun (x : Nat × LT) => match x with | (k, T) => [(0, .ref b), (1, .ref (ad 0)), (2, .ref (la 0)), (3, .ref (la 1)), (4, .ref (la 2)), (5, .ref (la 3)), (6, .ref (la 4)), (7, .int (nI 1)), (8, .int (nI k))]) (fun (x : Nat × LT) => match x with | (k, T) => []) ?_ (0, (lw_s4, qFill (fun _ => nI 0) 0 24 (-1), qFill (fun _ => nI 0) 0 24 (-1), qFill (fun _ => nI 0) 0 6 (nI 7), bZ 3, upd (fun _ => nI 0) 2 (nI 20))) ⟨Nat.zero_le 60, hT0⟩ (by show _ ≤ 4000 + 4000 * 0; omega) (by show _ ≤ 40000 + 24000 * 0; omega) hP hD hS (lv_sub hl [2, 3, 4, 5, 6, 7, 8, 1, 0] rfl)
            intro x9 hI160 ih160 H locs ls hP hD hS hl
            obtain ⟨k, T⟩ := x9
            have hP : va_P D vwCl (LW cI cP cS ad la T.1 T.2.1 T.2.2.1 T.2.2.2.1 T.2.2.2.2.1 T.2.2.2.2.2) H := hP
            have hD : va_D A (LW cI cP cS ad la T.1 T.2.1 T.2.2.1 T.2.2.2.1 T.2.2.2.2.1 T.2.2.2.2.2) := hD
            have hl : lv_has ls 9 [(0, .ref b), (1, .ref (ad 0)), (2, .ref (la 0)), (3, .ref (la 1)), (4, .ref (la 2)), (5, .ref (la 3)), (6, .ref (la 4)), (7, .int (nI 1)), (8, .int (nI k))] := hl
            show W _ _ _ _ _ _ _ _ _ _ _ _ (4000 + 4000 * k) (40000 + 24000 * k) _ _
            obtain ⟨hk9, hT⟩ := hI160
            refine lv_iload hx hb dL_law_160 (lv_at hl 8 rfl) ?_
            refine lv_bipush (v := nI 60) hx hb dL_law_162 (by decide) ?_
            refine x_cmp_ge (tgt := 228) hx hb (nI_leI (a := 60) (b := k) (by omega) (by omega)) dL_law_164 (by decide) (fun c164 => ?_) (fun c164 => ?_)
            · refine lv_iload hx hb dL_law_228 (lv_at hl 7 rfl) ?_
              refine x_if_eq (tgt := 395) hx hb (nI_z (by omega)) dL_law_230 (by decide) (fun c230 => ?_) (fun c230 => ?_)
              · exfalso; omega
              · obtain ⟨bk, kc, mi, cn, hI⟩ := hT
                have hn50 := IN_n hI
                have hlim50 := IN_lim hI
                have hcn12 := IN_cn hI
                refine lv_aload_n hx hb dL_law_233 rfl (lv_at hl 1 rfl) ?_
                refine lv_iconst (v := nI 0) hx hb dL_law_234 (by decide) ?_
                refine lv_iconst (v := -1) hx hb dL_law_235 (by decide) ?_
                refine lv_iconst (v := nI 0) hx hb dL_law_236 (by decide) ?_
                refine lv_bipush (v := nI 100) hx hb dL_law_237 (by decide) ?_
                refine lv_iconst (v := nI 0) hx hb dL_law_239 (by decide) ?_
                refine lv_iconst (v := nI 0) hx hb dL_law_240 (by decide) ?_
                refine x_calli (w2 := fun (S241 : S4) => LW cI cP cS ad la S241 T.2.1 T.2.2.1 T.2.2.2.1 T.2.2.2.2.1 T.2.2.2.2.2) (wr := []) (x_runL (n := 7) ⟨hx, hb, hml, hown, hts⟩ (fD_put l D cI cP cS cL hfl ad la T.2.1 T.2.2.1 T.2.2.2.1 T.2.2.2.2.1 T.2.2.2.2.2 (s_lim T.1) (s_n T.1) (s_rows T.1) (s_cc T.1) (s_ct T.1) (s_ck T.1) (s_nr T.1) (s_cr T.1) (s_old T.1) (s_rw T.1) (s_co T.1) (s_re T.1) (s_nu T.1) (s_ma T.1) (s_sr T.1) (s_cp T.1) (s_pu T.1) (s_st T.1) (s_sl T.1) cn (-1) (nI 0) (nI 100) (nI 0) (nI 0) hn50 (IN_cc hI) hcn12) gL_law_L_does rfl rfl rfl (by decide +kernel) ⟨by decide, by decide⟩ hN hK hP hD hS hA hE iLW rfl rfl rfl hl.1 (rest := []) (As := [.ref (ad 0), .int (nI 0), .int (-1), .int (nI 0), .int (nI 100), .int (nI 0), .int (nI 0)]) rfl (Nat.le_of_ble_eq_true rfl) dL_law_241 ⟨by show _ ≤ 600086; omega, by show _ ≤ 7301441; omega⟩) hP hD hS hA iLW [] iLW rfl rfl rfl (by decide) rfl (fun _ => rfl) (fun r241 S241 H locs hw hP hD hS => ?_)
                obtain ⟨hr9, e8⟩ := X_put hw
                have e9 : T.1 = S241 := (show S241 = T.1 from e8).symm
                subst e9
                subst hr9
                have hP : va_P D vwCl (LW cI cP cS ad la T.1 T.2.1 T.2.2.1 T.2.2.2.1 T.2.2.2.2.1 T.2.2.2.2.2) H := hP
                have hD : va_D A (LW cI cP cS ad la T.1 T.2.1 T.2.2.1 T.2.2.2.1 T.2.2.2.2.1 T.2.2.2.2.2) := hD
                refine lv_bipush (v := (-30 : Int32)) hx hb dL_law_244 (by decide) ?_
                refine x_cmp_ne (tgt := 395) hx hb (Iff.rfl) dL_law_246 (by decide) (fun c246 => ?_) (fun c246 => ?_)
                · exact absurd rfl c246
                · refine lv_aload_n hx hb dL_law_249 rfl (lv_at hl 1 rfl) ?_
                  refine lv_iconst (v := nI 1) hx hb dL_law_250 (by decide) ?_
                  refine lv_iconst (v := nI 0) hx hb dL_law_251 (by decide) ?_
                  refine lv_iconst (v := -1) hx hb dL_law_252 (by decide) ?_
                  refine lv_iconst (v := nI 0) hx hb dL_law_253 (by decide) ?_
                  refine lv_iconst (v := nI 0) hx hb dL_law_254 (by decide) ?_
                  refine lv_iconst (v := nI 0) hx hb dL_law_255 (by decide) ?_
                  refine x_calli (w2 := fun (S256 : S4) => LW cI cP cS ad la S256 T.2.1 T.2.2.1 T.2.2.2.1 T.2.2.2.2.1 T.2.2.2.2.2) (wr := []) (x_runL (n := 7) ⟨hx, hb, hml, hown, hts⟩ (fD_take l D cI cP cS cL hfl ad la T.2.1 T.2.2.1 T.2.2.2.1 T.2.2.2.2.1 T.2.2.2.2.2 (s_lim T.1) (s_n T.1) (s_rows T.1) (s_cc T.1) (s_ct T.1) (s_ck T.1) (s_nr T.1) (s_cr T.1) (s_old T.1) (s_rw T.1) (s_co T.1) (s_re T.1) (s_nu T.1) (s_ma T.1) (s_sr T.1) (s_cp T.1) (s_pu T.1) (s_st T.1) (s_sl T.1) cn (nI 0) (-1) (nI 0) (nI 0) (nI 0) hn50 (IN_cc hI) hcn12) gL_law_L_does rfl rfl rfl (by decide +kernel) ⟨by decide, by decide⟩ hN hK hP hD hS hA hE iLW rfl rfl rfl hl.1 (rest := []) (As := [.ref (ad 0), .int (nI 1), .int (nI 0), .int (-1), .int (nI 0), .int (nI 0), .int (nI 0)]) rfl (Nat.le_of_ble_eq_true rfl) dL_law_256 ⟨by show _ ≤ 600086; omega, by show _ ≤ 7301441; omega⟩) hP hD hS hA iLW [] iLW rfl rfl rfl (by decide) rfl (fun _ => rfl) (fun r256 S256 H locs hw hP hD hS => ?_)
                  obtain ⟨hr9, e8⟩ := X_take hw
                  have e9 : T.1 = S256 := (show S256 = T.1 from e8).symm
                  subst e9
                  subst hr9
                  have hP : va_P D vwCl (LW cI cP cS ad la T.1 T.2.1 T.2.2.1 T.2.2.2.1 T.2.2.2.2.1 T.2.2.2.2.2) H := hP
                  have hD : va_D A (LW cI cP cS ad la T.1 T.2.1 T.2.2.1 T.2.2.2.1 T.2.2.2.2.1 T.2.2.2.2.2) := hD
                  refine lv_bipush (v := (-30 : Int32)) hx hb dL_law_259 (by decide) ?_
                  refine x_cmp_ne (tgt := 395) hx hb (Iff.rfl) dL_law_261 (by decide) (fun c261 => ?_) (fun c261 => ?_)
                  · exact absurd rfl c261
                  · refine lv_aload_n hx hb dL_law_264 rfl (lv_at hl 1 rfl) ?_
                    refine lv_iconst (v := nI 2) hx hb dL_law_265 (by decide) ?_
                    refine lv_iconst (v := nI 2) hx hb dL_law_266 (by decide) ?_
                    refine lv_iconst (v := nI 0) hx hb dL_law_267 (by decide) ?_
                    refine lv_iconst (v := nI 0) hx hb dL_law_268 (by decide) ?_
                    refine lv_iconst (v := nI 0) hx hb dL_law_269 (by decide) ?_
                    refine lv_iconst (v := nI 0) hx hb dL_law_270 (by decide) ?_
                    refine x_calli (w2 := fun (S271 : S4) => LW cI cP cS ad la S271 T.2.1 T.2.2.1 T.2.2.2.1 T.2.2.2.2.1 T.2.2.2.2.2) (wr := []) (x_runL (n := 7) ⟨hx, hb, hml, hown, hts⟩ (fD_truncate l D cI cP cS cL hfl ad la T.2.1 T.2.2.1 T.2.2.2.1 T.2.2.2.2.1 T.2.2.2.2.2 (s_lim T.1) (s_n T.1) (s_rows T.1) (s_cc T.1) (s_ct T.1) (s_ck T.1) (s_nr T.1) (s_cr T.1) (s_old T.1) (s_rw T.1) (s_co T.1) (s_re T.1) (s_nu T.1) (s_ma T.1) (s_sr T.1) (s_cp T.1) (s_pu T.1) (s_st T.1) (s_sl T.1) cn (nI 2) (nI 0) (nI 0) (nI 0) (nI 0) hn50 (IN_cc hI) hcn12) gL_law_L_does rfl rfl rfl (by decide +kernel) ⟨by decide, by decide⟩ hN hK hP hD hS hA hE iLW rfl rfl rfl hl.1 (rest := []) (As := [.ref (ad 0), .int (nI 2), .int (nI 2), .int (nI 0), .int (nI 0), .int (nI 0), .int (nI 0)]) rfl (Nat.le_of_ble_eq_true rfl) dL_law_271 ⟨by show _ ≤ 600086; omega, by show _ ≤ 7301441; omega⟩) hP hD hS hA iLW [] iLW rfl rfl rfl (by decide) rfl (fun _ => rfl) (fun r271 S271 H locs hw hP hD hS => ?_)
                    obtain ⟨hr9, e8⟩ := X_truncate hw
                    have e9 : T.1 = S271 := (show S271 = T.1 from e8).symm
                    subst e9
                    subst hr9
                    have hP : va_P D vwCl (LW cI cP cS ad la T.1 T.2.1 T.2.2.1 T.2.2.2.1 T.2.2.2.2.1 T.2.2.2.2.2) H := hP
                    have hD : va_D A (LW cI cP cS ad la T.1 T.2.1 T.2.2.1 T.2.2.2.1 T.2.2.2.2.1 T.2.2.2.2.2) := hD
                    refine lv_bipush (v := (-30 : Int32)) hx hb dL_law_274 (by decide) ?_
                    refine x_cmp_ne (tgt := 395) hx hb (Iff.rfl) dL_law_276 (by decide) (fun c276 => ?_) (fun c276 => ?_)
                    · exact absurd rfl c276
                    · refine lv_aload_n hx hb dL_law_279 rfl (lv_at hl 1 rfl) ?_
                      refine lv_iconst (v := nI 4) hx hb dL_law_280 (by decide) ?_
                      refine lv_iconst (v := -1) hx hb dL_law_281 (by decide) ?_
                      refine lv_iconst (v := nI 0) hx hb dL_law_282 (by decide) ?_
                      refine lv_iconst (v := nI 0) hx hb dL_law_283 (by decide) ?_
                      refine lv_iconst (v := nI 0) hx hb dL_law_284 (by decide) ?_
                      refine lv_iconst (v := nI 0) hx hb dL_law_285 (by decide) ?_
                      refine x_calli (w2 := fun (S286 : S4) => LW cI cP cS ad la S286 T.2.1 T.2.2.1 T.2.2.2.1 T.2.2.2.2.1 T.2.2.2.2.2) (wr := []) (x_runL (n := 7) ⟨hx, hb, hml, hown, hts⟩ (fD_setLimit l D cI cP cS cL hfl ad la T.2.1 T.2.2.1 T.2.2.2.1 T.2.2.2.2.1 T.2.2.2.2.2 (s_lim T.1) (s_n T.1) (s_rows T.1) (s_cc T.1) (s_ct T.1) (s_ck T.1) (s_nr T.1) (s_cr T.1) (s_old T.1) (s_rw T.1) (s_co T.1) (s_re T.1) (s_nu T.1) (s_ma T.1) (s_sr T.1) (s_cp T.1) (s_pu T.1) (s_st T.1) (s_sl T.1) (-1) (nI 0) (nI 0) (nI 0) (nI 0) hn50 (IN_sts hI) (IN_sls hI)) gL_law_L_does rfl rfl rfl (by decide +kernel) ⟨by decide, by decide⟩ hN hK hP hD hS hA hE iLW rfl rfl rfl hl.1 (rest := []) (As := [.ref (ad 0), .int (nI 4), .int (-1), .int (nI 0), .int (nI 0), .int (nI 0), .int (nI 0)]) rfl (Nat.le_of_ble_eq_true rfl) dL_law_286 ⟨by show _ ≤ 600086; omega, by show _ ≤ 7301441; omega⟩) hP hD hS hA iLW [] iLW rfl rfl rfl (by decide) rfl (fun _ => rfl) (fun r286 S286 H locs hw hP hD hS => ?_)
                      obtain ⟨hr9, e8⟩ := X_setLimit hw
                      have e9 : T.1 = S286 := (show S286 = T.1 from e8).symm
                      subst e9
                      subst hr9
                      have hP : va_P D vwCl (LW cI cP cS ad la T.1 T.2.1 T.2.2.1 T.2.2.2.1 T.2.2.2.2.1 T.2.2.2.2.2) H := hP
                      have hD : va_D A (LW cI cP cS ad la T.1 T.2.1 T.2.2.1 T.2.2.2.1 T.2.2.2.2.1 T.2.2.2.2.2) := hD
                      refine lv_bipush (v := (-20 : Int32)) hx hb dL_law_289 (by decide) ?_
                      refine x_cmp_ne (tgt := 395) hx hb (Iff.rfl) dL_law_291 (by decide) (fun c291 => ?_) (fun c291 => ?_)
                      · exact absurd rfl c291
                      · refine lv_aload_n hx hb dL_law_294 rfl (lv_at hl 1 rfl) ?_
                        refine lv_iconst (v := nI 5) hx hb dL_law_295 (by decide) ?_
                        refine lv_iconst (v := nI 0) hx hb dL_law_296 (by decide) ?_
                        refine lv_iconst (v := nI 0) hx hb dL_law_297 (by decide) ?_
                        refine lv_iconst (v := nI 3) hx hb dL_law_298 (by decide) ?_
                        refine lv_iconst (v := nI 0) hx hb dL_law_299 (by decide) ?_
                        refine lv_iconst (v := nI 0) hx hb dL_law_300 (by decide) ?_
                        refine x_calli (w2 := fun (S301 : S4) => LW cI cP cS ad la S301 T.2.1 T.2.2.1 T.2.2.2.1 T.2.2.2.2.1 T.2.2.2.2.2) (wr := []) (x_runL (n := 7) ⟨hx, hb, hml, hown, hts⟩ (fD_setCondition l D cI cP cS cL hfl ad la T.2.1 T.2.2.1 T.2.2.2.1 T.2.2.2.2.1 T.2.2.2.2.2 (s_lim T.1) (s_n T.1) (s_rows T.1) (s_cc T.1) (s_ct T.1) (s_ck T.1) (s_nr T.1) (s_cr T.1) (s_old T.1) (s_rw T.1) (s_co T.1) (s_re T.1) (s_nu T.1) (s_ma T.1) (s_sr T.1) (s_cp T.1) (s_pu T.1) (s_st T.1) (s_sl T.1) (cl 0) (nI 0) (nI 0) (nI 3) (nI 0) (nI 0) (cl_lt 0) (hsx_cl (by omega))) gL_law_L_does rfl rfl rfl (by decide +kernel) ⟨by decide, by decide⟩ hN hK hP hD hS hA hE iLW rfl rfl rfl hl.1 (rest := []) (As := [.ref (ad 0), .int (nI 5), .int (nI 0), .int (nI 0), .int (nI 3), .int (nI 0), .int (nI 0)]) rfl (Nat.le_of_ble_eq_true rfl) dL_law_301 ⟨by show _ ≤ 600086; omega, by show _ ≤ 7301441; omega⟩) hP hD hS hA iLW [] iLW rfl rfl rfl (by decide) rfl (fun _ => rfl) (fun r301 S301 H locs hw hP hD hS => ?_)
                        obtain ⟨hr9, e8⟩ := X_setCondition hw
                        have e9 : T.1 = S301 := (show S301 = T.1 from e8).symm
                        subst e9
                        subst hr9
                        have hP : va_P D vwCl (LW cI cP cS ad la T.1 T.2.1 T.2.2.1 T.2.2.2.1 T.2.2.2.2.1 T.2.2.2.2.2) H := hP
                        have hD : va_D A (LW cI cP cS ad la T.1 T.2.1 T.2.2.1 T.2.2.2.1 T.2.2.2.2.1 T.2.2.2.2.2) := hD
                        refine lv_bipush (v := (-30 : Int32)) hx hb dL_law_304 (by decide) ?_
                        refine x_cmp_ne (tgt := 395) hx hb (Iff.rfl) dL_law_306 (by decide) (fun c306 => ?_) (fun c306 => ?_)
                        · exact absurd rfl c306
                        · refine lv_aload_n hx hb dL_law_309 rfl (lv_at hl 1 rfl) ?_
                          refine lv_bipush (v := nI 6) hx hb dL_law_310 (by decide) ?_
                          refine lv_iconst (v := nI 3) hx hb dL_law_312 (by decide) ?_
                          refine lv_iconst (v := nI 0) hx hb dL_law_313 (by decide) ?_
                          refine lv_bipush (v := nI 8) hx hb dL_law_314 (by decide) ?_
                          refine lv_iconst (v := nI 0) hx hb dL_law_316 (by decide) ?_
                          refine lv_iconst (v := nI 0) hx hb dL_law_317 (by decide) ?_
                          refine x_calli (w2 := fun (S318 : S4) => LW cI cP cS ad la S318 T.2.1 T.2.2.1 T.2.2.2.1 T.2.2.2.2.1 T.2.2.2.2.2) (wr := []) (x_runL (n := 7) ⟨hx, hb, hml, hown, hts⟩ (fD_setColumns l D cI cP cS cL hfl ad la T.2.1 T.2.2.1 T.2.2.2.1 T.2.2.2.2.1 T.2.2.2.2.2 (s_lim T.1) (s_n T.1) (s_rows T.1) (s_cc T.1) (s_ct T.1) (s_ck T.1) (s_nr T.1) (s_cr T.1) (s_old T.1) (s_rw T.1) (s_co T.1) (s_re T.1) (s_nu T.1) (s_ma T.1) (s_sr T.1) (s_cp T.1) (s_pu T.1) (s_st T.1) (s_sl T.1) (cl 3) (nI 3) (nI 0) (nI 8) (nI 0) (nI 0) (cl_lt 3) (hsx_cl (by omega))) gL_law_L_does rfl rfl rfl (by decide +kernel) ⟨by decide, by decide⟩ hN hK hP hD hS hA hE iLW rfl rfl rfl hl.1 (rest := []) (As := [.ref (ad 0), .int (nI 6), .int (nI 3), .int (nI 0), .int (nI 8), .int (nI 0), .int (nI 0)]) rfl (Nat.le_of_ble_eq_true rfl) dL_law_318 ⟨by show _ ≤ 600086; omega, by show _ ≤ 7301441; omega⟩) hP hD hS hA iLW [] iLW rfl rfl rfl (by decide) rfl (fun _ => rfl) (fun r318 S318 H locs hw hP hD hS => ?_)
                          obtain ⟨hr9, e8⟩ := X_setColumns hw
                          have e9 : T.1 = S318 := (show S318 = T.1 from e8).symm
                          subst e9
                          subst hr9
                          have hP : va_P D vwCl (LW cI cP cS ad la T.1 T.2.1 T.2.2.1 T.2.2.2.1 T.2.2.2.2.1 T.2.2.2.2.2) H := hP
                          have hD : va_D A (LW cI cP cS ad la T.1 T.2.1 T.2.2.1 T.2.2.2.1 T.2.2.2.2.1 T.2.2.2.2.2) := hD
                          refine lv_bipush (v := (-30 : Int32)) hx hb dL_law_321 (by decide) ?_
                          refine x_cmp_ne (tgt := 395) hx hb (Iff.rfl) dL_law_323 (by decide) (fun c323 => ?_) (fun c323 => ?_)
                          · exact absurd rfl c323
                          · refine lv_aload_n hx hb dL_law_326 rfl (lv_at hl 1 rfl) ?_
                            refine lv_bipush (v := nI 7) hx hb dL_law_327 (by decide) ?_
                            refine lv_iconst (v := nI 0) hx hb dL_law_329 (by decide) ?_
                            refine lv_iconst (v := nI 3) hx hb dL_law_330 (by decide) ?_
                            refine lv_iconst (v := nI 0) hx hb dL_law_331 (by decide) ?_
                            refine lv_iconst (v := nI 0) hx hb dL_law_332 (by decide) ?_
                            refine lv_iconst (v := nI 0) hx hb dL_law_333 (by decide) ?_
                            refine x_calli (w2 := fun (S334 : S4) => LW cI cP cS ad la S334 T.2.1 T.2.2.1 T.2.2.2.1 T.2.2.2.2.1 T.2.2.2.2.2) (wr := []) (x_runL (n := 7) ⟨hx, hb, hml, hown, hts⟩ (fD_subscribe l D cI cP cS cL hfl ad la T.2.1 T.2.2.1 T.2.2.2.1 T.2.2.2.2.1 T.2.2.2.2.2 (s_lim T.1) (s_n T.1) (s_rows T.1) (s_cc T.1) (s_ct T.1) (s_ck T.1) (s_nr T.1) (s_cr T.1) (s_old T.1) (s_rw T.1) (s_co T.1) (s_re T.1) (s_nu T.1) (s_ma T.1) (s_sr T.1) (s_cp T.1) (s_pu T.1) (s_st T.1) (s_sl T.1) (cl 0) (nI 0) (nI 3) (nI 0) (nI 0) (nI 0) (cl_lt 0) (hsx_cl (by omega))) gL_law_L_does rfl rfl rfl (by decide +kernel) ⟨by decide, by decide⟩ hN hK hP hD hS hA hE iLW rfl rfl rfl hl.1 (rest := []) (As := [.ref (ad 0), .int (nI 7), .int (nI 0), .int (nI 3), .int (nI 0), .int (nI 0), .int (nI 0)]) rfl (Nat.le_of_ble_eq_true rfl) dL_law_334 ⟨by show _ ≤ 600086; omega, by show _ ≤ 7301441; omega⟩) hP hD hS hA iLW [] iLW rfl rfl rfl (by decide) rfl (fun _ => rfl) (fun r334 S334 H locs hw hP hD hS => ?_)
                            obtain ⟨hr9, e8⟩ := X_subscribe hw
                            have e9 : T.1 = S334 := (show S334 = T.1 from e8).symm
                            subst e9
                            subst hr9
                            have hP : va_P D vwCl (LW cI cP cS ad la T.1 T.2.1 T.2.2.1 T.2.2.2.1 T.2.2.2.2.1 T.2.2.2.2.2) H := hP
                            have hD : va_D A (LW cI cP cS ad la T.1 T.2.1 T.2.2.1 T.2.2.2.1 T.2.2.2.2.1 T.2.2.2.2.2) := hD
                            refine lv_bipush (v := (-30 : Int32)) hx hb dL_law_337 (by decide) ?_
                            refine x_cmp_ne (tgt := 395) hx hb (Iff.rfl) dL_law_339 (by decide) (fun c339 => ?_) (fun c339 => ?_)
                            · exact absurd rfl c339
                            · refine lv_aload_n hx hb dL_law_342 rfl (lv_at hl 1 rfl) ?_
                              refine lv_bipush (v := nI 9) hx hb dL_law_343 (by decide) ?_
                              refine lv_iconst (v := -1) hx hb dL_law_345 (by decide) ?_
                              refine lv_iconst (v := nI 0) hx hb dL_law_346 (by decide) ?_
                              refine lv_iconst (v := nI 0) hx hb dL_law_347 (by decide) ?_
                              refine lv_iconst (v := nI 0) hx hb dL_law_348 (by decide) ?_
                              refine lv_iconst (v := nI 0) hx hb dL_law_349 (by decide) ?_
                              refine x_calli (w2 := fun (S350 : S4) => LW cI cP cS ad la S350 T.2.1 T.2.2.1 T.2.2.2.1 T.2.2.2.2.1 T.2.2.2.2.2) (wr := []) (x_runL (n := 7) ⟨hx, hb, hml, hown, hts⟩ (fD_copy l D cI cP cS cL hfl ad la T.2.1 T.2.2.1 T.2.2.2.1 T.2.2.2.2.1 T.2.2.2.2.2 (s_lim T.1) (s_n T.1) (s_rows T.1) (s_cc T.1) (s_ct T.1) (s_ck T.1) (s_nr T.1) (s_cr T.1) (s_old T.1) (s_rw T.1) (s_co T.1) (s_re T.1) (s_nu T.1) (s_ma T.1) (s_sr T.1) (s_cp T.1) (s_pu T.1) (s_st T.1) (s_sl T.1) 0 (bk 0) cn (-1) (nI 0) (nI 0) (nI 0) (nI 0) (by omega) (IN_f hI (by omega : 0 < 3)).2.2.1 hn50 (IN_cc hI) hcn12 hsx_m (IN_sts hI 0 (by omega)) (IN_pu hI (by omega))) gL_law_L_does rfl rfl rfl (by decide +kernel) ⟨by decide, by decide⟩ hN hK hP hD hS hA hE iLW rfl rfl rfl hl.1 (rest := []) (As := [.ref (ad 0), .int (nI 9), .int (-1), .int (nI 0), .int (nI 0), .int (nI 0), .int (nI 0)]) rfl (Nat.le_of_ble_eq_true rfl) dL_law_350 ⟨by show _ ≤ 600086; omega, by show _ ≤ 7301441; omega⟩) hP hD hS hA iLW [] iLW rfl rfl rfl (by decide) rfl (fun _ => rfl) (fun r350 S350 H locs hw hP hD hS => ?_)
                              obtain ⟨hr9, e8⟩ := X_copy hw
                              have e9 : T.1 = S350 := (show S350 = T.1 from e8).symm
                              subst e9
                              subst hr9
                              have hP : va_P D vwCl (LW cI cP cS ad la T.1 T.2.1 T.2.2.1 T.2.2.2.1 T.2.2.2.2.1 T.2.2.2.2.2) H := hP
                              have hD : va_D A (LW cI cP cS ad la T.1 T.2.1 T.2.2.1 T.2.2.2.1 T.2.2.2.2.1 T.2.2.2.2.2) := hD
                              refine lv_bipush (v := (-30 : Int32)) hx hb dL_law_353 (by decide) ?_
                              refine x_cmp_ne (tgt := 395) hx hb (Iff.rfl) dL_law_355 (by decide) (fun c355 => ?_) (fun c355 => ?_)
                              · exact absurd rfl c355
                              · refine lv_aload_n hx hb dL_law_358 rfl (lv_at hl 1 rfl) ?_
                                refine lv_bipush (v := nI 10) hx hb dL_law_359 (by decide) ?_
                                refine lv_iconst (v := nI 0) hx hb dL_law_361 (by decide) ?_
                                refine lv_iconst (v := nI 0) hx hb dL_law_362 (by decide) ?_
                                refine lv_iconst (v := nI 0) hx hb dL_law_363 (by decide) ?_
                                refine lv_iconst (v := nI 0) hx hb dL_law_364 (by decide) ?_
                                refine lv_iconst (v := nI 0) hx hb dL_law_365 (by decide) ?_
                                refine x_calli (w2 := fun (S366 : S4) => LW cI cP cS ad la S366 T.2.1 T.2.2.1 T.2.2.2.1 T.2.2.2.2.1 T.2.2.2.2.2) (wr := []) (x_runL (n := 7) ⟨hx, hb, hml, hown, hts⟩ (fD_receive l D cI cP cS cL hfl ad la T.2.1 T.2.2.1 T.2.2.2.1 T.2.2.2.2.1 T.2.2.2.2.2 (s_lim T.1) (s_n T.1) (s_rows T.1) (s_cc T.1) (s_ct T.1) (s_ck T.1) (s_nr T.1) (s_cr T.1) (s_old T.1) (s_rw T.1) (s_co T.1) (s_re T.1) (s_nu T.1) (s_ma T.1) (s_sr T.1) (s_cp T.1) (s_pu T.1) (s_st T.1) (s_sl T.1) (cl 0) (bk (cl 0)) (nI 0) (nI 0) (nI 0) (nI 0) (nI 0) (cl_lt 0) (IN_f hI (cl_lt 0)).2.2.1 (hsx_cl (by omega)) hn50 (IN_sts hI _ (cl_lt 0)) (IN_sls hI _ (cl_lt 0)) (IN_pu hI (cl_lt 0)) (H_log (IN_of hI))) gL_law_L_does rfl rfl rfl (by decide +kernel) ⟨by decide, by decide⟩ hN hK hP hD hS hA hE iLW rfl rfl rfl hl.1 (rest := []) (As := [.ref (ad 0), .int (nI 10), .int (nI 0), .int (nI 0), .int (nI 0), .int (nI 0), .int (nI 0)]) rfl (Nat.le_of_ble_eq_true rfl) dL_law_366 ⟨by show _ ≤ 600086; omega, by show _ ≤ 7301441; omega⟩) hP hD hS hA iLW [] iLW rfl rfl rfl (by decide) rfl (fun _ => rfl) (fun r366 S366 H locs hw hP hD hS => ?_)
                                obtain ⟨hr9, e8⟩ := X_receive hw
                                have e9 : T.1 = S366 := (show S366 = T.1 from e8).symm
                                subst e9
                                subst hr9
                                have hP : va_P D vwCl (LW cI cP cS ad la T.1 T.2.1 T.2.2.1 T.2.2.2.1 T.2.2.2.2.1 T.2.2.2.2.2) H := hP
                                have hD : va_D A (LW cI cP cS ad la T.1 T.2.1 T.2.2.1 T.2.2.2.1 T.2.2.2.2.1 T.2.2.2.2.2) := hD
                                refine lv_bipush (v := (-20 : Int32)) hx hb dL_law_369 (by decide) ?_
                                refine x_cmp_ne (tgt := 395) hx hb (Iff.rfl) dL_law_371 (by decide) (fun c371 => ?_) (fun c371 => ?_)
                                · exact absurd rfl c371
                                · refine lv_aload_n hx hb dL_law_374 rfl (lv_at hl 1 rfl) ?_
                                  refine lv_bipush (v := nI 12) hx hb dL_law_375 (by decide) ?_
                                  refine lv_iconst (v := nI 0) hx hb dL_law_377 (by decide) ?_
                                  refine lv_iconst (v := nI 0) hx hb dL_law_378 (by decide) ?_
                                  refine lv_iconst (v := nI 0) hx hb dL_law_379 (by decide) ?_
                                  refine lv_bipush (v := (-2 : Int32)) hx hb dL_law_380 (by decide) ?_
                                  refine lv_iconst (v := nI 0) hx hb dL_law_382 (by decide) ?_
                                  refine x_calli (w2 := fun (S383 : S4) => LW cI cP cS ad la S383 T.2.1 T.2.2.1 T.2.2.2.1 T.2.2.2.2.1 T.2.2.2.2.2) (wr := []) (x_runL (n := 7) ⟨hx, hb, hml, hown, hts⟩ (fD_own l D cI cP cS cL hfl ad la T.2.1 T.2.2.1 T.2.2.2.1 T.2.2.2.2.1 T.2.2.2.2.2 (s_lim T.1) (s_n T.1) (s_rows T.1) (s_cc T.1) (s_ct T.1) (s_ck T.1) (s_nr T.1) (s_cr T.1) (s_old T.1) (s_rw T.1) (s_co T.1) (s_re T.1) (s_nu T.1) (s_ma T.1) (s_sr T.1) (s_cp T.1) (s_pu T.1) (s_st T.1) (s_sl T.1) (cl 0) (nI 0) (nI 0) (nI 0) (-2) (nI 0) (cl_lt 0) (hsx_cl (by omega))) gL_law_L_does rfl rfl rfl (by decide +kernel) ⟨by decide, by decide⟩ hN hK hP hD hS hA hE iLW rfl rfl rfl hl.1 (rest := []) (As := [.ref (ad 0), .int (nI 12), .int (nI 0), .int (nI 0), .int (nI 0), .int ((-2 : Int32)), .int (nI 0)]) rfl (Nat.le_of_ble_eq_true rfl) dL_law_383 ⟨by show _ ≤ 600086; omega, by show _ ≤ 7301441; omega⟩) hP hD hS hA iLW [] iLW rfl rfl rfl (by decide) rfl (fun _ => rfl) (fun r383 S383 H locs hw hP hD hS => ?_)
                                  obtain ⟨hr9, e8⟩ := X_own hw
                                  have e9 : T.1 = S383 := (show S383 = T.1 from e8).symm
                                  subst e9
                                  subst hr9
                                  have hP : va_P D vwCl (LW cI cP cS ad la T.1 T.2.1 T.2.2.1 T.2.2.2.1 T.2.2.2.2.1 T.2.2.2.2.2) H := hP
                                  have hD : va_D A (LW cI cP cS ad la T.1 T.2.1 T.2.2.1 T.2.2.2.1 T.2.2.2.2.1 T.2.2.2.2.2) := hD
                                  refine lv_bipush (v := (-20 : Int32)) hx hb dL_law_386 (by decide) ?_
                                  refine x_cmp_ne (tgt := 395) hx hb (Iff.rfl) dL_law_388 (by decide) (fun c388 => ?_) (fun c388 => ?_)
                                  · exact absurd rfl c388
                                  · refine lv_iconst (v := nI 1) hx hb dL_law_391 (by decide) ?_
                                    refine lv_goto (tgt := 396) hx hb dL_law_392 (by decide) ?_
                                    refine x_top (y := 1) (by decide) ?_
                                    exact va_forget (fun q hq => hAn _ (hS.2.2 q hq)) (W.widen (by omega) (by omega) (lw_ret hx hb hret hlk dL_law_396))
            · refine lv_iload hx hb dL_law_167 (lv_at hl 7 rfl) ?_
              refine x_if_eq (tgt := 228) hx hb (nI_z (by omega)) dL_law_169 (by decide) (fun c169 => ?_) (fun c169 => ?_)
              · exfalso; omega
              · refine lv_aload_n hx hb dL_law_172 rfl (lv_at hl 1 rfl) ?_
                refine lv_aload_n hx hb dL_law_173 rfl (lv_at hl 0 rfl) ?_
                refine lv_iconst (v := nI 4) hx hb dL_law_174 (by decide) ?_
                refine lv_iload hx hb dL_law_175 (lv_at hl 8 rfl) ?_
                refine x_mul (k := 4 * k) hx hb dL_law_177 rfl ?_
                refine lv_aload_n hx hb dL_law_178 rfl (lv_at hl 2 rfl) ?_
                refine lv_aload_n hx hb dL_law_179 rfl (lv_at hl 3 rfl) ?_
                refine lv_aload hx hb dL_law_180 (lv_at hl 4 rfl) ?_
                refine lv_aload hx hb dL_law_182 (lv_at hl 5 rfl) ?_
                refine lv_aload hx hb dL_law_184 (lv_at hl 6 rfl) ?_
                refine x_calli (w2 := fun (T1 : LT) => LW cI cP cS ad la T1.1 T1.2.1 T1.2.2.1 T1.2.2.2.1 T1.2.2.2.2.1 T1.2.2.2.2.2) (wr := []) (x_runR (n := 8) ⟨hx, hb, hml, hown, hts⟩ (zL_isDone l D cI cP cS cL hfl ad la hinj T.1 T.2.1 T.2.2.1 T.2.2.2.1 T.2.2.2.2.1 T.2.2.2.2.2 b L (4 * k) xs hL (by omega) hT) gL_law_L_isDone rfl rfl rfl (by decide +kernel) ⟨by decide, by decide⟩ hN hK hP hD hS hA hE iLW rfl rfl hX hbl hbA rfl hl.1 (rest := []) (As := [.ref (ad 0), .ref b, .int (nI (4 * k)), .ref (la 0), .ref (la 1), .ref (la 2), .ref (la 3), .ref (la 4)]) rfl (Nat.le_of_ble_eq_true rfl) dL_law_186 ⟨by show _ ≤ 600086; omega, by show _ ≤ 7301441; omega⟩) hP hD hS hA iLW [] iLW rfl rfl rfl (by decide) rfl (fun _ => rfl) (fun r186 T1 H locs hw hP hD hS => ?_)
                obtain ⟨hr9, hT1⟩ := hw
                subst hr9
                have hP : va_P D vwCl (LW cI cP cS ad la T1.1 T1.2.1 T1.2.2.1 T1.2.2.2.1 T1.2.2.2.2.1 T1.2.2.2.2.2) H := hP
                have hD : va_D A (LW cI cP cS ad la T1.1 T1.2.1 T1.2.2.1 T1.2.2.2.1 T1.2.2.2.2.1 T1.2.2.2.2.2) := hD
                refine x_if_eq (tgt := 219) hx hb (nI_z (by omega)) dL_law_189 (by decide) (fun c189 => ?_) (fun c189 => ?_)
                · exfalso; omega
                · refine lv_aload_n hx hb dL_law_192 rfl (lv_at hl 1 rfl) ?_
                  refine lv_aload_n hx hb dL_law_193 rfl (lv_at hl 2 rfl) ?_
                  refine lv_aload hx hb dL_law_194 (lv_at hl 6 rfl) ?_
                  refine x_calli (w2 := fun (u9 : Unit) => LW cI cP cS ad la T1.1 T1.2.1 T1.2.2.1 T1.2.2.2.1 T1.2.2.2.2.1 T1.2.2.2.2.2) (wr := []) (x_runSE (n := 3) ⟨hx, hb, hml, hown, hts⟩ (zL_isPublisher l D cI cP cS cL hfl ad la hinj T1.1 T1.2.1 T1.2.2.1 T1.2.2.2.1 T1.2.2.2.2.1 T1.2.2.2.2.2 hT1) gL_law_L_isPublisher rfl rfl rfl (by decide +kernel) ⟨by decide, by decide⟩ hN hK hP hD hS hA hE iLW rfl rfl rfl hl.1 (rest := []) (As := [.ref (ad 0), .ref (la 0), .ref (la 4)]) rfl (Nat.le_of_ble_eq_true rfl) dL_law_196 ⟨by show _ ≤ 600086; omega, by show _ ≤ 7301441; omega⟩) hP hD hS hA iLW [] iLW rfl rfl rfl (by decide) rfl (fun _ => rfl) (fun r196 u9 H locs hw hP hD hS => ?_)
                  have hr9 : r196 = nI 1 := hw
                  subst hr9
                  have hP : va_P D vwCl (LW cI cP cS ad la T1.1 T1.2.1 T1.2.2.1 T1.2.2.2.1 T1.2.2.2.2.1 T1.2.2.2.2.2) H := hP
                  have hD : va_D A (LW cI cP cS ad la T1.1 T1.2.1 T1.2.2.1 T1.2.2.2.1 T1.2.2.2.2.1 T1.2.2.2.2.2) := hD
                  refine x_if_eq (tgt := 219) hx hb (nI_z (by omega)) dL_law_199 (by decide) (fun c199 => ?_) (fun c199 => ?_)
                  · exfalso; omega
                  · refine lv_aload_n hx hb dL_law_202 rfl (lv_at hl 1 rfl) ?_
                    refine lv_aload hx hb dL_law_203 (lv_at hl 4 rfl) ?_
                    refine lv_aload hx hb dL_law_205 (lv_at hl 5 rfl) ?_
                    refine lv_aload hx hb dL_law_207 (lv_at hl 6 rfl) ?_
                    refine x_calli (w2 := fun (u9 : Unit) => LW cI cP cS ad la T1.1 T1.2.1 T1.2.2.1 T1.2.2.2.1 T1.2.2.2.2.1 T1.2.2.2.2.2) (wr := []) (x_runSE (n := 4) ⟨hx, hb, hml, hown, hts⟩ (zL_areSubscribers l D cI cP cS cL hfl ad la hinj T1.1 T1.2.1 T1.2.2.1 T1.2.2.2.1 T1.2.2.2.2.1 T1.2.2.2.2.2 hT1) gL_law_L_areSubscribers rfl rfl rfl (by decide +kernel) ⟨by decide, by decide⟩ hN hK hP hD hS hA hE iLW rfl rfl rfl hl.1 (rest := []) (As := [.ref (ad 0), .ref (la 2), .ref (la 3), .ref (la 4)]) rfl (Nat.le_of_ble_eq_true rfl) dL_law_209 ⟨by show _ ≤ 600086; omega, by show _ ≤ 7301441; omega⟩) hP hD hS hA iLW [] iLW rfl rfl rfl (by decide) rfl (fun _ => rfl) (fun r209 u9 H locs hw hP hD hS => ?_)
                    have hr9 : r209 = nI 1 := hw
                    subst hr9
                    have hP : va_P D vwCl (LW cI cP cS ad la T1.1 T1.2.1 T1.2.2.1 T1.2.2.2.1 T1.2.2.2.2.1 T1.2.2.2.2.2) H := hP
                    have hD : va_D A (LW cI cP cS ad la T1.1 T1.2.1 T1.2.2.1 T1.2.2.2.1 T1.2.2.2.2.1 T1.2.2.2.2.2) := hD
                    refine x_if_eq (tgt := 219) hx hb (nI_z (by omega)) dL_law_212 (by decide) (fun c212 => ?_) (fun c212 => ?_)
                    · exfalso; omega
                    · refine lv_iconst (v := nI 1) hx hb dL_law_215 (by decide) ?_
                      refine lv_goto (tgt := 220) hx hb dL_law_216 (by decide) ?_
                      refine lv_istore (lv' := [(7, .int (nI 1)), (0, .ref b), (1, .ref (ad 0)), (2, .ref (la 0)), (3, .ref (la 1)), (4, .ref (la 2)), (5, .ref (la 3)), (6, .ref (la 4)), (8, .int (nI k))]) hx hb dL_law_220 hl (by decide) rfl (fun ls hl => ?_)
                      refine x_iinc (k := 8) (o := 1) (v := k + 1) (lv' := [(8, .int (nI (k + 1))), (7, .int (nI 1)), (0, .ref b), (1, .ref (ad 0)), (2, .ref (la 0)), (3, .ref (la 1)), (4, .ref (la 2)), (5, .ref (la 3)), (6, .ref (la 4))]) hx hb dL_law_222 hl rfl rfl rfl (by decide) rfl (fun ls hl => ?_)
                      refine lv_goto (tgt := 160) hx hb dL_law_225 (by decide) ?_
                      exact W.widen (by show _ ≤ 4000 + 4000 * (k + 1); omega) (by show _ ≤ 40000 + 24000 * (k + 1); omega) (ih160 (k + 1, T1) ⟨by omega, hT1⟩ (by show 60 - (k + 1) < 60 - k; omega) _ _ _ hP hD hS (lv_sub hl [2, 3, 4, 5, 6, 7, 8, 1, 0] rfl))
      · refine lv_aload hx hb dL_law_99 (lv_at hl 5 rfl) ?_
        refine lv_bipush (v := nI 7) hx hb dL_law_101 (by decide) ?_
        refine lv_iload hx hb dL_law_103 (lv_at hl 7 rfl) ?_
        refine x_mul (k := 7 * k) hx hb dL_law_105 rfl ?_
        refine lv_iconst (v := nI 3) hx hb dL_law_106 (by decide) ?_
        refine x_add (k := (7 * k) + 3) hx hb dL_law_107 rfl ?_
        refine lv_iconst (v := -1) hx hb dL_law_108 (by decide) ?_
        refine x_ast (g := upd f ((7 * k) + 3) (-1)) (ws' := LW cI cP cS ad la lw_s4 (qFill (fun _ => nI 0) 0 24 (-1)) (qFill (fun _ => nI 0) 0 24 (-1)) (qFill (fun _ => nI 0) 0 6 (nI 7)) (upd f ((7 * k) + 3) (-1)) (upd (fun _ => nI 0) 2 (nI 20))) hx hb hK hP hD hS 40 0 rfl rfl (by omega) (by omega) (rfl) rfl dL_law_109 (fun H locs hP hD hS => ?_)
        refine lv_aload hx hb dL_law_110 (lv_at hl 5 rfl) ?_
        refine lv_bipush (v := nI 7) hx hb dL_law_112 (by decide) ?_
        refine lv_iload hx hb dL_law_114 (lv_at hl 7 rfl) ?_
        refine x_mul (k := 7 * k) hx hb dL_law_116 rfl ?_
        refine lv_iconst (v := nI 4) hx hb dL_law_117 (by decide) ?_
        refine x_add (k := (7 * k) + 4) hx hb dL_law_118 rfl ?_
        refine lv_iconst (v := -1) hx hb dL_law_119 (by decide) ?_
        refine x_ast (g := upd (upd f ((7 * k) + 3) (-1)) ((7 * k) + 4) (-1)) (ws' := LW cI cP cS ad la lw_s4 (qFill (fun _ => nI 0) 0 24 (-1)) (qFill (fun _ => nI 0) 0 24 (-1)) (qFill (fun _ => nI 0) 0 6 (nI 7)) (upd (upd f ((7 * k) + 3) (-1)) ((7 * k) + 4) (-1)) (upd (fun _ => nI 0) 2 (nI 20))) hx hb hK hP hD hS 40 0 rfl rfl (by omega) (by omega) (rfl) rfl dL_law_120 (fun H locs hP hD hS => ?_)
        refine x_iinc (k := 7) (o := 1) (v := k + 1) (lv' := [(7, .int (nI (k + 1))), (0, .ref b), (1, .ref (ad 0)), (2, .ref (la 0)), (3, .ref (la 1)), (4, .ref (la 2)), (5, .ref (la 3)), (6, .ref (la 4))]) hx hb dL_law_121 hl rfl rfl rfl (by decide) rfl (fun ls hl => ?_)
        refine lv_goto (tgt := 93) hx hb dL_law_124 (by decide) ?_
        exact W.widen (by show _ ≤ 100; omega) (by show _ ≤ 9000; omega) (ih93 (k + 1, upd (upd f ((7 * k) + 3) (-1)) ((7 * k) + 4) (-1)) ⟨by omega, (by rw [hf]; exact bZ_s _)⟩ (by show 3 - (k + 1) < 3 - k; omega) _ _ _ hP hD hS (lv_sub hl [1, 2, 3, 4, 5, 6, 7, 0] rfl))
    · refine lv_aload hx hb dL_law_77 (lv_at hl 4 rfl) ?_
      refine lv_iload hx hb dL_law_79 (lv_at hl 7 rfl) ?_
      refine lv_bipush (v := nI 7) hx hb dL_law_81 (by decide) ?_
      refine x_ast (g := upd f k (nI 7)) (ws' := LW cI cP cS ad la lw_s4 (qFill (fun _ => nI 0) 0 24 (-1)) (qFill (fun _ => nI 0) 0 24 (-1)) (upd f k (nI 7)) ((fun _ => nI 0)) (upd (fun _ => nI 0) 2 (nI 20))) hx hb hK hP hD hS 39 0 rfl rfl (by omega) (by omega) (rfl) rfl dL_law_83 (fun H locs hP hD hS => ?_)
      refine x_iinc (k := 7) (o := 1) (v := k + 1) (lv' := [(7, .int (nI (k + 1))), (0, .ref b), (1, .ref (ad 0)), (2, .ref (la 0)), (3, .ref (la 1)), (4, .ref (la 2)), (5, .ref (la 3)), (6, .ref (la 4))]) hx hb dL_law_84 hl rfl rfl rfl (by decide) rfl (fun ls hl => ?_)
      refine lv_goto (tgt := 70) hx hb dL_law_87 (by decide) ?_
      exact W.widen (by show _ ≤ 100; omega) (by show _ ≤ 9000; omega) (ih70 (k + 1, (upd f k (nI 7))) ⟨by omega, (by rw [hf]; exact qFill_s0 _ _ _)⟩ (by show 6 - (k + 1) < 6 - k; omega) _ _ _ hP hD hS (lv_sub hl [1, 2, 3, 4, 5, 6, 7, 0] rfl))
  · refine lv_aload_n hx hb dL_law_51 rfl (lv_at hl 2 rfl) ?_
    refine lv_iload hx hb dL_law_52 (lv_at hl 7 rfl) ?_
    refine lv_iconst (v := -1) hx hb dL_law_54 (by decide) ?_
    refine x_ast (g := upd f k (-1)) (ws' := LW cI cP cS ad la lw_s4 (upd f k (-1)) f ((fun _ => nI 0)) ((fun _ => nI 0)) (upd (fun _ => nI 0) 2 (nI 20))) hx hb hK hP hD hS 37 0 rfl rfl (by omega) (by omega) (rfl) rfl dL_law_55 (fun H locs hP hD hS => ?_)
    refine lv_aload_n hx hb dL_law_56 rfl (lv_at hl 3 rfl) ?_
    refine lv_iload hx hb dL_law_57 (lv_at hl 7 rfl) ?_
    refine lv_iconst (v := -1) hx hb dL_law_59 (by decide) ?_
    refine x_ast (g := upd f k (-1)) (ws' := LW cI cP cS ad la lw_s4 (upd f k (-1)) (upd f k (-1)) ((fun _ => nI 0)) ((fun _ => nI 0)) (upd (fun _ => nI 0) 2 (nI 20))) hx hb hK hP hD hS 38 0 rfl rfl (by omega) (by omega) (rfl) rfl dL_law_60 (fun H locs hP hD hS => ?_)
    refine x_iinc (k := 7) (o := 1) (v := k + 1) (lv' := [(7, .int (nI (k + 1))), (0, .ref b), (1, .ref (ad 0)), (2, .ref (la 0)), (3, .ref (la 1)), (4, .ref (la 2)), (5, .ref (la 3)), (6, .ref (la 4))]) hx hb dL_law_61 hl rfl rfl rfl (by decide) rfl (fun ls hl => ?_)
    refine lv_goto (tgt := 44) hx hb dL_law_64 (by decide) ?_
    exact W.widen (by show _ ≤ 100; omega) (by show _ ≤ 9000; omega) (ih44 (k + 1, (upd f k (-1))) ⟨by omega, (by rw [hf]; exact qFill_s0 _ _ _)⟩ (by show 24 - (k + 1) < 24 - k; omega) _ _ _ hP hD hS (lv_sub hl [1, 2, 3, 4, 5, 6, 7, 0] rfl))
