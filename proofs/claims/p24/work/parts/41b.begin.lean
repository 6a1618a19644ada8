/-! The law's start: the object and the five arrays made. -/
theorem arrV_ext {cA : ClassId} {n : Nat} {f g : Nat → Value} (h : ∀ j, j < n → f j = g j) : arrV cA n f = arrV cA n g := by
  unfold arrV
  congr 1
  congr 1
  funext j
  exact h j.val j.isLt
/-- an array of references told by its contents below its length -/
theorem va_P_ext {D : va_G} {cl : List vw_C} {ws ws' : va_W} {H : Heap} (hP : va_P D cl ws H) (k : Nat) {a : Nat} {cA : ClassId} {n : Nat} {f g : Nat → Option Nat} (he : ws[k]? = some (a, .inl (cA, n, .inr (.inr (.inr (.inr f)))))) (hfg : ∀ j, j < n → f j = g j) (hw : ws.set k (a, .inl (cA, n, .inr (.inr (.inr (.inr g))))) = ws') : va_P D cl ws' H := by
  subst hw
  intro j q hq
  by_cases c : k = j
  · subst c
    have hk : k < ws.length := (List.getElem?_eq_some_iff.mp he).1
    rw [List.getElem?_set_self hk] at hq
    cases hq
    have h1 : H[a]? = some (arrV cA n (fun j => va_rf (f j))) := hP k _ he
    show H[a]? = some (arrV cA n (fun j => va_rf (g j)))
    rw [h1]
    congr 1
    exact arrV_ext (fun j hj => by rw [hfg j hj])
  · rw [List.getElem?_set_ne c] at hq
    exact hP j q hq
theorem va_D_ext {A : Nat → Prop} {ws ws' : va_W} (hD : va_D A ws) (k : Nat) {a : Nat} {x y : va_E} (he : ws[k]? = some (a, x)) (hw : ws.set k (a, y) = ws') : va_D A ws' := by
  subst hw
  have hk : k < ws.length := (List.getElem?_eq_some_iff.mp he).1
  have key : ∀ (j : Nat) (q : Nat × va_E), (ws.set k (a, y))[j]? = some q → ∃ q', ws[j]? = some q' ∧ q'.1 = q.1 := by
    intro j q hq
    by_cases c : k = j
    · subst c
      rw [List.getElem?_set_self hk] at hq
      cases hq
      exact ⟨_, he, rfl⟩
    · rw [List.getElem?_set_ne c] at hq
      exact ⟨q, hq, rfl⟩
  refine ⟨fun i j p q hp hq h => ?_, fun j q hq => ?_⟩
  · obtain ⟨p', h1, e1⟩ := key i p hp
    obtain ⟨q', h2, e2⟩ := key j q hq
    exact hD.1 i j p' q' h1 h2 (by rw [e1, e2, h])
  · obtain ⟨q', h2, e2⟩ := key j q hq
    rw [← e2]
    exact hD.2 j q' h2
/-- the addresses of the class's cells at the start -/
def lw_ad (x0 : Nat) (u : Nat → Nat) : Nat → Nat := fun k => match k with
  | 0 => x0
  | k + 1 => u (k + 1)
def lw_la (q1 q2 q3 q4 q5 : Nat) : Nat → Nat := fun k => match k with
  | 0 => q1
  | 1 => q2
  | 2 => q3
  | 3 => q4
  | _ => q5
set_option maxRecDepth 40000 in
theorem lw_b0 : Cond.classLink RL 9 RX4 ∈ wsL_law ∧ Cond.initialized RX4 ∈ wsL_law ∧ Cond.methodLink RL 127 yX4_init ∈ wsL_law ∧ Cond.instanceMethod yX4_init ∈ wsL_law ∧ Cond.arrayClass .int ∈ wsL_law := by decide +kernel
theorem lw_inj {A : Nat → Prop} {ad la : Nat → Nat} {cI cP cS : ClassId} {s4 : S4} {p o q b g : qF} (hD : va_D A (LW cI cP cS ad la s4 p o q b g)) : ∀ x y, x < 3 → y < 3 → ad (13 + 5 * x) = ad (13 + 5 * y) → x = y := by
  intro x y hx hy h
  have h1 : ∀ x, x < 3 → ∃ z, (LW cI cP cS ad la s4 p o q b g)[13 + 5 * x]? = some z ∧ z.1 = ad (13 + 5 * x) := by
    intro x hx
    rcases (show x = 0 ∨ x = 1 ∨ x = 2 by omega) with rfl | rfl | rfl
    · exact ⟨_, rfl, rfl⟩
    · exact ⟨_, rfl, rfl⟩
    · exact ⟨_, rfl, rfl⟩
  obtain ⟨z1, hz1, e1⟩ := h1 x hx
  obtain ⟨z2, hz2, e2⟩ := h1 y hy
  have := hD.1 _ _ z1 z2 hz1 hz2 (by rw [e1, e2, h])
  omega
set_option maxHeartbeats 8000000 in
set_option maxRecDepth 100000 in
/-- THE LAW, from its entry -/
theorem whole_start {p : Program} {e : Env} {s : State} {m : MethodId} {below : List Frame} {meth : Method} {c : Code} (l : Launch) (hflags : l.flags = flags0) {b L : Nat} {xs : Nat → Int32} (hL : L ≤ 260) (C0 : lw_At p s m meth c b L xs) : W p l e room_1 s m #[Value.ref b] below meth c s.heap [] 0 0 (lw_Z below #[Value.ref b] s) (entryFrame m ([Value.ref b] : List Value).toArray 9) := by
  obtain ⟨D, cI, cP, cS, cL, B⟩ := law_facts l hflags hL C0
  obtain ⟨-, -, hret, -, -, hts0, -, -, hlk, -⟩ := C0
  have hB := B
  obtain ⟨hx, hb, hml, hown, hts, hfl, hK, hN, hE, hA, hbA, hbl, hX, hL9⟩ := B
  have hS : va_S (fun q : Nat => s.heap.size ≤ q) s.heap s.heap [] := va_S.rf
  have hP : va_P D vwCl [] s.heap := fun k q h => by simp at h
  have hD : va_D (fun q : Nat => s.heap.size ≤ q) [] := ⟨fun i j p q h => by simp at h, fun k q h => by simp at h⟩
  have hl := lv_entry ([.ref b]) (n := 9) (Nat.le_of_ble_eq_true rfl)
  rw [lg_entry_eq]
  generalize (lg_sl ([.ref b]) ++ List.replicate (9 - (lg_sl ([.ref b])).length) Slot.unset).toArray = ls at hl ⊢
  have hl : lv_has ls 9 [(0, .ref b)] := hl
  refine va_new (ci := 4) (fs := [.null, .null, .null, .null, .int (nI 0)]) (C := RX4) (T := TX4) (N := 5) hx hb hts0 inX4 tyX4 tyX4_ok hown (hts _ lw_b0.1) (hts _ lw_inst.2.2.2.2) (hts _ lw_b0.2.1) hK hP hD hS hA rfl (fun j hj => by rcases (show j = 0 ∨ j = 1 ∨ j = 2 ∨ j = 3 ∨ j = 4 by omega) with rfl | rfl | rfl | rfl | rfl <;> rfl) (Nat.le_of_ble_eq_true rfl) (Nat.le_of_ble_eq_true rfl) dL_law_0 (fun x0 H hP hD hS => ?_)
  have hP : va_P D vwCl [(x0, .inr (4, [.null, .null, .null, .null, .int (nI 0)]))] H := hP
  have hD : va_D (fun q : Nat => s.heap.size ≤ q) [(x0, .inr (4, [.null, .null, .null, .null, .int (nI 0)]))] := hD
  refine lv_dup hx hb dL_law_3 rfl ?_
  refine x_callv (w2 := fun (u : Nat → Nat) => ((W4 cI cP cS (lw_ad x0 u) lw_s4).set 8 (u 8, .inl (cP, 3, .inr (.inr (.inr (.inr (va_up (va_up (va_up (fun _ => none) 0 (some (u 13))) 1 (some (u 18))) 2 (some (u 23))))))))).set 9 (u 9, .inl (cS, 3, .inr (.inr (.inr (.inr (va_up (va_up (va_up (fun _ => none) 0 (some (u 28))) 1 (some (u 31))) 2 (some (u 34))))))))) (wr := []) (x_runI (n := 0) ⟨hx, hb, hml, hown, hts⟩ (zX4_init l D cI cP cS cL x0) gL_law_X4_init rfl rfl rfl lw_b0.2.1 lw_b0.2.2.1 lw_b0.2.2.2.1 rfl (by decide +kernel) ⟨by decide, by decide⟩ hN hK hP hD [0] rfl rfl rfl hl.1 (rest := [.ref x0]) (As := []) rfl (Nat.le_of_ble_eq_true rfl) dL_law_4 ⟨Nat.le_of_ble_eq_true rfl, Nat.le_of_ble_eq_true rfl⟩) hP hD hS hA [0] [] iLa rfl rfl rfl (by decide) rfl (fun _ => rfl) (fun u H locs _ hP hD hS => ?_)
  have hP8 := va_P_ext hP 8 (g := fun j => some (lw_ad x0 u (13 + 5 * j))) rfl (fun j hj => by rcases (show j = 0 ∨ j = 1 ∨ j = 2 by omega) with rfl | rfl | rfl <;> rfl) rfl
  have hD8 := va_D_ext hD 8 (y := .inl (cP, 3, .inr (.inr (.inr (.inr (fun j => some (lw_ad x0 u (13 + 5 * j)))))))) rfl rfl
  have hP : va_P D vwCl (W4 cI cP cS (lw_ad x0 u) lw_s4) H := va_P_ext hP8 9 (g := fun j => some (lw_ad x0 u (28 + 3 * j))) rfl (fun j hj => by rcases (show j = 0 ∨ j = 1 ∨ j = 2 by omega) with rfl | rfl | rfl <;> rfl) rfl
  have hD : va_D (fun q : Nat => s.heap.size ≤ q) (W4 cI cP cS (lw_ad x0 u) lw_s4) := va_D_ext hD8 9 (y := .inl (cS, 3, .inr (.inr (.inr (.inr (fun j => some (lw_ad x0 u (28 + 3 * j)))))))) rfl rfl
  refine lv_astore_n (lv' := [(1, .ref x0), (0, .ref b)]) hx hb dL_law_7 rfl hl (by decide) rfl (fun ls hl => ?_)

  refine lv_bipush (v := nI 24) hx hb dL_law_8 (by decide) ?_
  refine x_newa (n := 24) hx hb hts lw_b0.2.2.2.2 hK hP hD hS hA 0 rfl (by decide) (Nat.le_of_ble_eq_true rfl) (Nat.le_of_ble_eq_true rfl) dL_law_10 (fun q1 H hP hD hS => ?_)
  refine lv_astore_n (lv' := [(2, .ref q1), (1, .ref x0), (0, .ref b)]) hx hb dL_law_12 rfl hl (by decide) rfl (fun ls hl => ?_)
  refine lv_bipush (v := nI 24) hx hb dL_law_13 (by decide) ?_
  refine x_newa (n := 24) hx hb hts lw_b0.2.2.2.2 hK hP hD hS hA 0 rfl (by decide) (Nat.le_of_ble_eq_true rfl) (Nat.le_of_ble_eq_true rfl) dL_law_15 (fun q2 H hP hD hS => ?_)
  refine lv_astore_n (lv' := [(3, .ref q2), (2, .ref q1), (1, .ref x0), (0, .ref b)]) hx hb dL_law_17 rfl hl (by decide) rfl (fun ls hl => ?_)
  refine lv_bipush (v := nI 6) hx hb dL_law_18 (by decide) ?_
  refine x_newa (n := 6) hx hb hts lw_b0.2.2.2.2 hK hP hD hS hA 0 rfl (by decide) (Nat.le_of_ble_eq_true rfl) (Nat.le_of_ble_eq_true rfl) dL_law_20 (fun q3 H hP hD hS => ?_)
  refine lv_astore (lv' := [(4, .ref q3), (3, .ref q2), (2, .ref q1), (1, .ref x0), (0, .ref b)]) hx hb dL_law_22 hl (by decide) rfl (fun ls hl => ?_)
  refine lv_bipush (v := nI 21) hx hb dL_law_24 (by decide) ?_
  refine x_newa (n := 21) hx hb hts lw_b0.2.2.2.2 hK hP hD hS hA 0 rfl (by decide) (Nat.le_of_ble_eq_true rfl) (Nat.le_of_ble_eq_true rfl) dL_law_26 (fun q4 H hP hD hS => ?_)
  refine lv_astore (lv' := [(5, .ref q4), (4, .ref q3), (3, .ref q2), (2, .ref q1), (1, .ref x0), (0, .ref b)]) hx hb dL_law_28 hl (by decide) rfl (fun ls hl => ?_)
  refine lv_iconst (v := nI 3) hx hb dL_law_30 (by decide) ?_
  refine x_newa (n := 3) hx hb hts lw_b0.2.2.2.2 hK hP hD hS hA 0 rfl (by decide) (Nat.le_of_ble_eq_true rfl) (Nat.le_of_ble_eq_true rfl) dL_law_31 (fun q5 H hP hD hS => ?_)
  refine lv_astore (lv' := [(6, .ref q5), (5, .ref q4), (4, .ref q3), (3, .ref q2), (2, .ref q1), (1, .ref x0), (0, .ref b)]) hx hb dL_law_33 hl (by decide) rfl (fun ls hl => ?_)
  have hP : va_P D vwCl (LW cI cP cS (lw_ad x0 u) (lw_la q1 q2 q3 q4 q5) lw_s4 (fun _ => nI 0) (fun _ => nI 0) (fun _ => nI 0) (fun _ => nI 0) (fun _ => nI 0)) H := hP
  have hD : va_D (fun q : Nat => s.heap.size ≤ q) (LW cI cP cS (lw_ad x0 u) (lw_la q1 q2 q3 q4 q5) lw_s4 (fun _ => nI 0) (fun _ => nI 0) (fun _ => nI 0) (fun _ => nI 0) (fun _ => nI 0)) := hD
  exact law_rest hB (fun q h => h) (lw_inj hD) hret hlk (Nat.le_of_ble_eq_true rfl) (Nat.le_of_ble_eq_true rfl) hP hD hS hl
