/-! The law's start: the two objects and the array made, their states related, the loop entered. -/
theorem arrV_ext {cA : ClassId} {n : Nat} {f g : Nat → Value} (h : ∀ j, j < n → f j = g j) : arrV cA n f = arrV cA n g := by
  unfold arrV
  congr 1
  congr 1
  funext j
  exact h j.val j.isLt
/-- an array of references told by its contents below its length -/
theorem va_P_ext {D : va_G} {cl : List vw_C} {ws ws' : va_W} {H : Heap} (hP : va_P D cl ws H) (k : Nat) {a : Nat} {cA : ClassId} {n : Nat} {f g : Nat → Option Nat} (he : ws[k]? = some (a, .inl (cA, n, .inr (.inr (.inr (.inr f)))))) (hfg : ∀ j, j < n → f j = g j) (hw : ws.set k (a, .inl (cA, n, .inr (.inr (.inr (.inr g))))) = ws') : va_P D cl ws' H := by
  subst hw
  intro j q hq
  by_cases c : k = j
  · subst c
    have hk : k < ws.length := (List.getElem?_eq_some_iff.mp he).1
    rw [List.getElem?_set_self hk] at hq
    cases hq
    have h1 : H[a]? = some (arrV cA n (fun j => va_rf (f j))) := hP k _ he
    show H[a]? = some (arrV cA n (fun j => va_rf (g j)))
    rw [h1]
    congr 1
    exact arrV_ext (fun j hj => by rw [hfg j hj])
  · rw [List.getElem?_set_ne c] at hq
    exact hP j q hq
theorem va_D_ext {A : Nat → Prop} {ws ws' : va_W} (hD : va_D A ws) (k : Nat) {a : Nat} {x y : va_E} (he : ws[k]? = some (a, x)) (hw : ws.set k (a, y) = ws') : va_D A ws' := by
  subst hw
  have hk : k < ws.length := (List.getElem?_eq_some_iff.mp he).1
  have key : ∀ (j : Nat) (q : Nat × va_E), (ws.set k (a, y))[j]? = some q → ∃ q', ws[j]? = some q' ∧ q'.1 = q.1 := by
    intro j q hq
    by_cases c : k = j
    · subst c
      rw [List.getElem?_set_self hk] at hq
      cases hq
      exact ⟨_, he, rfl⟩
    · rw [List.getElem?_set_ne c] at hq
      exact ⟨q, hq, rfl⟩
  refine ⟨fun i j p q hp hq h => ?_, fun j q hq => ?_⟩
  · obtain ⟨p', h1, e1⟩ := key i p hp
    obtain ⟨q', h2, e2⟩ := key j q hq
    exact hD.1 i j p' q' h1 h2 (by rw [e1, e2, h])
  · obtain ⟨q', h2, e2⟩ := key j q hq
    rw [← e2]
    exact hD.2 j q' h2
theorem qFill_at {f : Nat → Int32} {j i : Nat} {v : Int32} (h : i < j) : qFill f 0 j v i = v := by unfold qFill; rw [if_pos ⟨Nat.zero_le i, by omega⟩]
/-- the addresses of the class's cells at the start -/
def lw_ad (x0 : Nat) (u : Nat → Nat) : Nat → Nat := fun k => match k with
  | 0 => x0
  | k + 1 => u (k + 1)
def lw_s4 : S4 := (20, 0, qFill (fun _ => nI 0) 0 24 (-1), (fun _ => nI 0), (fun _ => nI 0), (fun _ => nI 0), (fun _ => nI 0), qFill (fun _ => nI 0) 0 24 (-1), (fun _ => nI 0), (fun _ => nI 0), (fun _ => fun _ => nI 0), (fun _ => fun _ => nI 0), (fun _ => fun _ => nI 0), (fun _ => qFill (fun _ => nI 0) 0 2 (2097151 : Int32)), (fun _ => qFill (fun _ => nI 0) 0 24 (-1)), (fun _ => qFill (fun _ => nI 0) 0 2 (-1)), (fun _ => none), (fun _ => 0), (fun _ => 0))
def lw_s5 : S5 := (nI 0, 0, 20, qFill (fun _ => nI 0) 0 24 (-1), qFill (fun _ => nI 0) 0 24 (-1), (fun _ => nI 0), (fun _ => nI 0), (fun _ => nI 0), (fun _ => nI 0), (fun _ => nI 0), (fun _ => nI 0), (fun _ => nI 0), qFill (fun _ => nI 0) 0 6 (nI 7), (fun _ => nI 0), (fun _ => nI 0), (fun _ => nI 0), qFill (fun _ => nI 0) 0 6 (-1), qFill (fun _ => nI 0) 0 72 (-1), (fun _ => nI 0), (fun _ => nI 0))
/-- at the start class and model agree -/
theorem lw_rr (ad : Nat → Nat) : RRt ad (fun _ => 0) lw_s4 lw_s5 := by
  refine ⟨rfl, rfl, by decide, by decide, ⟨fun i hi => ?_, fun c hc i hi => ?_, fun c hc => ⟨0, by decide, rfl, rfl, fun i hi => absurd hi (Nat.not_lt_zero i)⟩, fun c _ _ => rfl, fun _ i hi => ?_⟩, fun p hp t ht => ⟨0, 0, 0, 7, by decide, by decide, by decide, by decide, rfl, rfl, rfl, rfl, rfl, rfl, ?_, ?_⟩, fun i hi => ⟨Nat.zero_le 3, rfl, Nat.le_refl 0, rfl, Nat.zero_lt_succ 2, rfl, fun h => absurd (show (0 : Nat) = 2 from h) (by decide), Or.inl ⟨rfl, rfl⟩, fun t ht => ⟨?_, Or.inl ?_⟩, fun j hj => ?_⟩⟩
  · rw [qFill_at hi]; exact rE_no
  · rw [qFill_at (by omega), qFill_at (by omega)]; exact rE_no
  · rw [qFill_at hi, qFill_at (by omega)]
  · show qFill _ 0 2 _ t = _
    rw [qFill_at ht]; decide
  · exact qFill_at (by omega)
  · show qFill _ 0 2 _ t = _
    rw [qFill_at ht, qFill_at (by omega)]
  · exact qFill_at ht
  · show rE (qFill _ 0 24 _ j) _
    rw [qFill_at hj, qFill_at (by omega)]; exact rE_no
section NEWL
variable {p : Program} {l : Launch} {e : Env} {R : Room} {s : State} {m : MethodId} {args : Array Value} {below : List Frame} {meth : Method} {c : Code} {H : Heap} {locs : List Loc} {cells slots : Nat} {Q : State → Prop}
variable {cc : ByteArray} {pc : Nat} {ls : Array Slot} {rest : List Value} {D : va_G} {tys : List (ClassId × FieldType)} {ws : va_W} {A : Nat → Prop} {H0 : Heap} {a : Nat}
theorem x_newl (hx : p.tables.exec = Jvm.exec) (hb : c.code = cc) {Ts : List Cond} (hts : ∀ w ∈ Ts, w.before args s = true) (harr : Cond.arrayClass .long ∈ Ts) (hK : va_K D vwCl tys s) (hP : va_P D vwCl ws H) (hD : va_D A ws) (hS : va_S A H0 H locs) (hA : ∀ q, H0.size ≤ q → A q) (t0 : Nat) {cL : ClassId} (ht : tys[t0]? = some (cL, .long))
    {n : Nat} (hn : n < 5000) (hcells : cells + 1 ≤ R.cells) (hslots : slots + n ≤ R.slots) (hdg : decode cc pc = .ok (.newarray .long, 2))
    (kk : ∀ (q : Nat) (H1 : Heap), va_P D vwCl (ws ++ [(q, .inl (cL, n, .inr (.inl (fun _ => 0))))]) H1 → va_D A (ws ++ [(q, .inl (cL, n, .inr (.inl (fun _ => 0))))]) → va_S A H0 H1 locs →
      W p l e R s m args below meth c H1 locs (cells + 1) (slots + n) Q (F0 m (pc + 2) ls (.ref q :: rest))) : W p l e R s m args below meth c H locs cells slots Q (F0 m pc ls (.int (nI n) :: rest)) := by
  refine va_newa (atype := .long) (ty := .long) (a0 := (n, .inr (.inl (fun _ => 0)))) hx hb (hts _ harr) rfl hK hP hD hS hA (fun _ => rfl) (nI_pos (by omega)) (nI_clamp (by omega)) (by show n * 8 ≤ _; omega) hcells hslots hdg (fun q cA H1 hK1 hP1 hD1 hS1 => ?_)
  have h1 : va_RA s cA .long := (hK1.2 tys.length (cA, .long) (by simp)).2
  have h2 : va_RA s cL .long := (hK.2 t0 _ ht).2
  have h3 : cA = cL := Option.some.inj ((show s.vm.findClass _ = some cA from h1).symm.trans (show s.vm.findClass _ = some cL from h2))
  subst h3
  exact kk q H1 hP1 hD1 hS1
end NEWL
set_option maxRecDepth 40000 in
theorem lw_b0 : Cond.classLink RL 8 RX4 ∈ wsL_law ∧ Cond.initialized RX4 ∈ wsL_law ∧ Cond.methodLink RL 83 yX4_init ∈ wsL_law ∧ Cond.instanceMethod yX4_init ∈ wsL_law ∧ Cond.classLink RL 84 RX5 ∈ wsL_law ∧ Cond.initialized RX5 ∈ wsL_law ∧ Cond.methodLink RL 86 yX5_init ∈ wsL_law ∧ Cond.instanceMethod yX5_init ∈ wsL_law ∧ Cond.arrayClass .long ∈ wsL_law := by decide +kernel
theorem lw_inj {A : Nat → Prop} {ad bd : Nat → Nat} {cI cP cS cL : ClassId} {ho : Nat} {s4 : S4} {out : Nat → Int64} {s5 : S5} (hD : va_D A (LWd cI cP cS cL ad bd ho s4 out s5)) : ∀ x y, x < 3 → y < 3 → ad (13 + 5 * x) = ad (13 + 5 * y) → x = y := by
  intro x y hx hy h
  have h1 : ∀ x, x < 3 → ∃ q, (LWd cI cP cS cL ad bd ho s4 out s5)[13 + 5 * x]? = some q ∧ q.1 = ad (13 + 5 * x) := by
    intro x hx
    rcases (show x = 0 ∨ x = 1 ∨ x = 2 by omega) with rfl | rfl | rfl
    · exact ⟨_, rfl, rfl⟩
    · exact ⟨_, rfl, rfl⟩
    · exact ⟨_, rfl, rfl⟩
  obtain ⟨p, hp, ep⟩ := h1 x hx
  obtain ⟨q, hq, eq⟩ := h1 y hy
  have := hD.1 _ _ p q hp hq (by rw [ep, eq, h])
  omega
set_option maxHeartbeats 8000000 in
set_option maxRecDepth 100000 in
/-- THE LAW, from its entry -/
theorem whole_start {p : Program} {e : Env} {s : State} {m : MethodId} {below : List Frame} {meth : Method} {c : Code} (l : Launch) (hflags : l.flags = flags0) {b L : Nat} {xs : Nat → Int32} (hL : L ≤ 3072) (C0 : lw_At p s m meth c b L xs) : W p l e room_1 s m #[Value.ref b] below meth c s.heap [] 0 0 (lw_Z below #[Value.ref b] s) (entryFrame m ([Value.ref b] : List Value).toArray 7) := by
  obtain ⟨D, cI, cP, cS, cL, B⟩ := law_facts l hflags hL C0
  obtain ⟨-, -, hret, -, -, hts0, -, -, hlk, -⟩ := C0
  have hB := B
  obtain ⟨hx, hb, hml, hown, hts, hfl, hK, hN, hE, hA, hbA, hbl, hX, hL9⟩ := B
  have hS : va_S (fun q : Nat => s.heap.size ≤ q) s.heap s.heap [] := va_S.rf
  have hP : va_P D vwCl [] s.heap := fun k q h => by simp at h
  have hD : va_D (fun q : Nat => s.heap.size ≤ q) [] := ⟨fun i j p q h => by simp at h, fun k q h => by simp at h⟩
  have hl := lv_entry ([.ref b]) (n := 7) (Nat.le_of_ble_eq_true rfl)
  rw [lg_entry_eq]
  generalize (lg_sl ([.ref b]) ++ List.replicate (7 - (lg_sl ([.ref b])).length) Slot.unset).toArray = ls at hl ⊢
  have hl : lv_has ls 7 [(0, .ref b)] := hl
  refine va_new (ci := 4) (fs := [.null, .null, .null, .null, .int (nI 0)]) (C := RX4) (T := TX4) (N := 5) hx hb hts0 inX4 tyX4 tyX4_ok hown (hts _ lw_b0.1) (hts _ lw_inst.2.2.2.2.1) (hts _ lw_b0.2.1) hK hP hD hS hA rfl (fun j hj => by rcases (show j = 0 ∨ j = 1 ∨ j = 2 ∨ j = 3 ∨ j = 4 by omega) with rfl | rfl | rfl | rfl | rfl <;> rfl) (Nat.le_of_ble_eq_true rfl) (Nat.le_of_ble_eq_true rfl) dL_law_0 (fun x0 H hP hD hS => ?_)
  have hP : va_P D vwCl [(x0, .inr (4, [.null, .null, .null, .null, .int (nI 0)]))] H := hP
  have hD : va_D (fun q : Nat => s.heap.size ≤ q) [(x0, .inr (4, [.null, .null, .null, .null, .int (nI 0)]))] := hD
  refine lv_dup hx hb dL_law_3 rfl ?_
  refine x_callv (w2 := fun (u : Nat → Nat) => ((W4 cI cP cS (lw_ad x0 u) lw_s4).set 8 (u 8, .inl (cP, 3, .inr (.inr (.inr (.inr (va_up (va_up (va_up (fun _ => none) 0 (some (u 13))) 1 (some (u 18))) 2 (some (u 23))))))))).set 9 (u 9, .inl (cS, 3, .inr (.inr (.inr (.inr (va_up (va_up (va_up (fun _ => none) 0 (some (u 28))) 1 (some (u 31))) 2 (some (u 34))))))))) (wr := []) (x_runI (n := 0) ⟨hx, hb, hml, hown, hts⟩ (zX4_init l D cI cP cS cL x0) gL_law_X4_init rfl rfl rfl lw_b0.2.1 lw_b0.2.2.1 lw_b0.2.2.2.1 rfl (by decide +kernel) ⟨by decide, by decide⟩ hN hK hP hD [0] rfl rfl rfl hl.1 (rest := [.ref x0]) (As := []) rfl (Nat.le_of_ble_eq_true rfl) dL_law_4 ⟨Nat.le_of_ble_eq_true rfl, Nat.le_of_ble_eq_true rfl⟩) hP hD hS hA [0] [] iLa rfl rfl rfl (by decide) rfl (fun _ => rfl) (fun u H locs _ hP hD hS => ?_)
  have hP8 := va_P_ext hP 8 (g := fun j => some (lw_ad x0 u (13 + 5 * j))) rfl (fun j hj => by rcases (show j = 0 ∨ j = 1 ∨ j = 2 by omega) with rfl | rfl | rfl <;> rfl) rfl
  have hD8 := va_D_ext hD 8 (y := .inl (cP, 3, .inr (.inr (.inr (.inr (fun j => some (lw_ad x0 u (13 + 5 * j)))))))) rfl rfl
  have hP : va_P D vwCl (W4 cI cP cS (lw_ad x0 u) lw_s4) H := va_P_ext hP8 9 (g := fun j => some (lw_ad x0 u (28 + 3 * j))) rfl (fun j hj => by rcases (show j = 0 ∨ j = 1 ∨ j = 2 by omega) with rfl | rfl | rfl <;> rfl) rfl
  have hD : va_D (fun q : Nat => s.heap.size ≤ q) (W4 cI cP cS (lw_ad x0 u) lw_s4) := va_D_ext hD8 9 (y := .inl (cS, 3, .inr (.inr (.inr (.inr (fun j => some (lw_ad x0 u (28 + 3 * j)))))))) rfl rfl
  refine lv_astore_n (lv' := [(1, .ref x0), (0, .ref b)]) hx hb dL_law_7 rfl hl (by decide) rfl (fun ls hl => ?_)
  refine va_new (ci := 5) (fs := [.null, .null, .int (nI 0), .int (nI 0), .null, .null, .null, .null, .null, .null, .null, .null, .null, .null, .null, .null, .null, .null, .null, .int (nI 0)]) (C := RX5) (T := TX5) (N := 20) hx hb hts0 inX5 tyX5 tyX5_ok hown (hts _ lw_b0.2.2.2.2.1) (hts _ lw_inst.2.2.2.2.2) (hts _ lw_b0.2.2.2.2.2.1) hK hP hD hS hA rfl (fun j hj => by rcases (show j = 0 ∨ j = 1 ∨ j = 2 ∨ j = 3 ∨ j = 4 ∨ j = 5 ∨ j = 6 ∨ j = 7 ∨ j = 8 ∨ j = 9 ∨ j = 10 ∨ j = 11 ∨ j = 12 ∨ j = 13 ∨ j = 14 ∨ j = 15 ∨ j = 16 ∨ j = 17 ∨ j = 18 ∨ j = 19 by omega) with rfl | rfl | rfl | rfl | rfl | rfl | rfl | rfl | rfl | rfl | rfl | rfl | rfl | rfl | rfl | rfl | rfl | rfl | rfl | rfl <;> rfl) (Nat.le_of_ble_eq_true rfl) (Nat.le_of_ble_eq_true rfl) dL_law_8 (fun v0 H hP hD hS => ?_)
  refine lv_dup hx hb dL_law_11 rfl ?_
  refine x_callv (w2 := fun (u2 : Nat → Nat) => W4 cI cP cS (lw_ad x0 u) lw_s4 ++ W5 cI (lw_ad v0 u2) lw_s5) (wr := W4 cI cP cS (lw_ad x0 u) lw_s4) (x_runI (n := 0) ⟨hx, hb, hml, hown, hts⟩ (zX5_init l D cI cP cS cL v0) gL_law_X5_init rfl rfl rfl lw_b0.2.2.2.2.2.1 lw_b0.2.2.2.2.2.2.1 lw_b0.2.2.2.2.2.2.2.1 rfl (by decide +kernel) ⟨by decide, by decide⟩ hN hK hP hD [37] rfl rfl rfl hl.1 (rest := [.ref v0]) (As := []) rfl (Nat.le_of_ble_eq_true rfl) dL_law_12 ⟨Nat.le_of_ble_eq_true rfl, Nat.le_of_ble_eq_true rfl⟩) hP hD hS hA [37] iLa (iLa ++ [37, 38, 39, 40, 41, 42, 43, 44, 45, 46, 47, 48, 49, 50, 51, 52, 53, 54]) rfl rfl rfl (by decide) rfl (fun _ => rfl) (fun u2 H locs _ hP hD hS => ?_)
  refine lv_astore_n (lv' := [(2, .ref v0), (1, .ref x0), (0, .ref b)]) hx hb dL_law_15 rfl hl (by decide) rfl (fun ls hl => ?_)
  refine lv_iconst (v := nI 1) hx hb dL_law_16 (by decide) ?_
  refine x_newl (n := 1) hx hb hts lw_b0.2.2.2.2.2.2.2.2 hK hP hD hS hA 3 rfl (by decide) (Nat.le_of_ble_eq_true rfl) (Nat.le_of_ble_eq_true rfl) dL_law_17 (fun ho H hP hD hS => ?_)
  have hP : va_P D vwCl (LWd cI cP cS cL (lw_ad x0 u) (lw_ad v0 u2) ho lw_s4 (fun _ => 0) lw_s5) H := xP_pick (is := iLa ++ [55, 37, 38, 39, 40, 41, 42, 43, 44, 45, 46, 47, 48, 49, 50, 51, 52, 53, 54]) hP rfl
  have hD : va_D (fun q : Nat => s.heap.size ≤ q) (LWd cI cP cS cL (lw_ad x0 u) (lw_ad v0 u2) ho lw_s4 (fun _ => 0) lw_s5) := hD.sub (iLa ++ [55, 37, 38, 39, 40, 41, 42, 43, 44, 45, 46, 47, 48, 49, 50, 51, 52, 53, 54]) rfl rfl
  refine lv_astore_n (lv' := [(3, .ref ho), (2, .ref v0), (1, .ref x0), (0, .ref b)]) hx hb dL_law_19 rfl hl (by decide) rfl (fun ls hl => ?_)
  refine lv_iconst (v := nI 0) hx hb dL_law_20 (by decide) ?_
  refine lv_istore (lv' := [(4, .int (nI 0)), (3, .ref ho), (2, .ref v0), (1, .ref x0), (0, .ref b)]) hx hb dL_law_21 hl (by decide) rfl (fun ls hl => ?_)
  exact law_loop hB (lw_inj hD) hret hlk (fun q h => h) (L + 1) 0 (by omega) (by omega) _ _ lw_s4 (fun _ => 0) lw_s5 H locs ls ⟨Nat.le_of_ble_eq_true rfl, Nat.le_of_ble_eq_true rfl⟩ ⟨_, lw_rr _⟩ hP hD hS (lv_sub hl [4, 3, 2, 1, 0] rfl)
