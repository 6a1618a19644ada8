/-! The full world: the class's objects and the law's five arrays; the lift of a contract to a larger world. -/
abbrev S4 : Type := Nat × Nat × qF × qF × qF × qF × qF × qF × qF × qF × (Nat → qF) × (Nat → qF) × (Nat → qF) × (Nat → qF) × (Nat → qF) × (Nat → qF) × (Nat → Option Nat) × (Nat → Nat) × (Nat → Nat)
def W4 (cI cP cS : ClassId) (ad : Nat → Nat) (s : S4) : va_W := [(ad 0, .inr (4, [.ref (ad 1), .ref (ad 8), .ref (ad 9), .ref (ad 10), .int (nI s.1)])), (ad 1, .inr (1, [.ref (ad 2), .int (nI s.2.1), .ref (ad 3), .ref (ad 4), .ref (ad 5), .ref (ad 6), .ref (ad 7)])), (ad 2, .inl (cI, 24, .inl s.2.2.1)), (ad 3, .inl (cI, 51, .inl s.2.2.2.1)), (ad 4, .inl (cI, 612, .inl s.2.2.2.2.1)), (ad 5, .inl (cI, 612, .inl s.2.2.2.2.2.1)), (ad 6, .inl (cI, 612, .inl s.2.2.2.2.2.2.1)), (ad 7, .inl (cI, 1224, .inl s.2.2.2.2.2.2.2.1)), (ad 8, .inl (cP, 3, .inr (.inr (.inr (.inr ((fun j => some (ad (13 + 5 * j))))))))), (ad 9, .inl (cS, 3, .inr (.inr (.inr (.inr ((fun j => some (ad (28 + 3 * j))))))))), (ad 10, .inr (3, [.ref (ad 11), .ref (ad 12)])), (ad 11, .inl (cI, 24, .inl s.2.2.2.2.2.2.2.2.1)), (ad 12, .inl (cI, 24, .inl s.2.2.2.2.2.2.2.2.2.1)), (ad 13, .inr (0, [.ref (ad 14), .ref (ad 15), .ref (ad 16), .ref (ad 17)])), (ad 14, .inl (cI, 2, .inl (s.2.2.2.2.2.2.2.2.2.2.1 0))), (ad 15, .inl (cI, 2, .inl (s.2.2.2.2.2.2.2.2.2.2.2.1 0))), (ad 16, .inl (cI, 2, .inl (s.2.2.2.2.2.2.2.2.2.2.2.2.1 0))), (ad 17, .inl (cI, 2, .inl (s.2.2.2.2.2.2.2.2.2.2.2.2.2.1 0))), (ad 18, .inr (0, [.ref (ad 19), .ref (ad 20), .ref (ad 21), .ref (ad 22)])), (ad 19, .inl (cI, 2, .inl (s.2.2.2.2.2.2.2.2.2.2.1 1))), (ad 20, .inl (cI, 2, .inl (s.2.2.2.2.2.2.2.2.2.2.2.1 1))), (ad 21, .inl (cI, 2, .inl (s.2.2.2.2.2.2.2.2.2.2.2.2.1 1))), (ad 22, .inl (cI, 2, .inl (s.2.2.2.2.2.2.2.2.2.2.2.2.2.1 1))), (ad 23, .inr (0, [.ref (ad 24), .ref (ad 25), .ref (ad 26), .ref (ad 27)])), (ad 24, .inl (cI, 2, .inl (s.2.2.2.2.2.2.2.2.2.2.1 2))), (ad 25, .inl (cI, 2, .inl (s.2.2.2.2.2.2.2.2.2.2.2.1 2))), (ad 26, .inl (cI, 2, .inl (s.2.2.2.2.2.2.2.2.2.2.2.2.1 2))), (ad 27, .inl (cI, 2, .inl (s.2.2.2.2.2.2.2.2.2.2.2.2.2.1 2))), (ad 28, .inr (2, [.ref (ad 29), .ref (ad 30), va_rf (s.2.2.2.2.2.2.2.2.2.2.2.2.2.2.2.2.1 0), .int (nI (s.2.2.2.2.2.2.2.2.2.2.2.2.2.2.2.2.2.1 0)), .int (nI (s.2.2.2.2.2.2.2.2.2.2.2.2.2.2.2.2.2.2 0))])), (ad 29, .inl (cI, 24, .inl (s.2.2.2.2.2.2.2.2.2.2.2.2.2.2.1 0))), (ad 30, .inl (cI, 2, .inl (s.2.2.2.2.2.2.2.2.2.2.2.2.2.2.2.1 0))), (ad 31, .inr (2, [.ref (ad 32), .ref (ad 33), va_rf (s.2.2.2.2.2.2.2.2.2.2.2.2.2.2.2.2.1 1), .int (nI (s.2.2.2.2.2.2.2.2.2.2.2.2.2.2.2.2.2.1 1)), .int (nI (s.2.2.2.2.2.2.2.2.2.2.2.2.2.2.2.2.2.2 1))])), (ad 32, .inl (cI, 24, .inl (s.2.2.2.2.2.2.2.2.2.2.2.2.2.2.1 1))), (ad 33, .inl (cI, 2, .inl (s.2.2.2.2.2.2.2.2.2.2.2.2.2.2.2.1 1))), (ad 34, .inr (2, [.ref (ad 35), .ref (ad 36), va_rf (s.2.2.2.2.2.2.2.2.2.2.2.2.2.2.2.2.1 2), .int (nI (s.2.2.2.2.2.2.2.2.2.2.2.2.2.2.2.2.2.1 2)), .int (nI (s.2.2.2.2.2.2.2.2.2.2.2.2.2.2.2.2.2.2 2))])), (ad 35, .inl (cI, 24, .inl (s.2.2.2.2.2.2.2.2.2.2.2.2.2.2.1 2))), (ad 36, .inl (cI, 2, .inl (s.2.2.2.2.2.2.2.2.2.2.2.2.2.2.2.1 2)))]
def LW (cI cP cS : ClassId) (ad la : Nat → Nat) (s : S4) (lp lo lq lb lg : qF) : va_W := W4 cI cP cS ad s ++ [(la 0, .inl (cI, 24, .inl lp)), (la 1, .inl (cI, 24, .inl lo)), (la 2, .inl (cI, 6, .inl lq)), (la 3, .inl (cI, 21, .inl lb)), (la 4, .inl (cI, 3, .inl lg))]
def iLa : List Nat := [0, 1, 2, 3, 4, 5, 6, 7, 8, 9, 10, 11, 12, 13, 14, 15, 16, 17, 18, 19, 20, 21, 22, 23, 24, 25, 26, 27, 28, 29, 30, 31, 32, 33, 34, 35, 36]
def iLW : List Nat := [0, 1, 2, 3, 4, 5, 6, 7, 8, 9, 10, 11, 12, 13, 14, 15, 16, 17, 18, 19, 20, 21, 22, 23, 24, 25, 26, 27, 28, 29, 30, 31, 32, 33, 34, 35, 36, 37, 38, 39, 40, 41]
theorem va_A_sub {ws wc : va_W} {sz : Nat} (isC : List Nat) (hC : isC.map (fun i => ws[i]?) = wc.map some) : ∀ q, va_A wc sz q → va_A ws sz q := by
  intro q h
  rcases h with ⟨k, e, h⟩ | h
  · have h1 : (isC.map (fun i => ws[i]?))[k]? = some (some (q, e)) := by rw [hC, List.getElem?_map, h]; rfl
    rw [List.getElem?_map] at h1
    cases hi : isC[k]? with
    | none => rw [hi] at h1; cases h1
    | some i => rw [hi] at h1; exact Or.inl ⟨i, e, Option.some.inj h1⟩
  · exact Or.inr h
section LIFT
variable {l : Launch} {y : MethodName} {wy : List Cond} {rm : Room} {D : va_G} {tys : List (ClassId × FieldType)} {av : List Value} {ws wc wr : va_W} {mc ms : Nat}
theorem xP_sub {sz : Nat} {U : State} (h : xP D tys ws sz U) (isC : List Nat) (hnC : va_nd isC = true) (hC : isC.map (fun i => ws[i]?) = wc.map some) : xP D tys wc sz U :=
  ⟨h.1, xP_pick h.2.1 hC, h.2.2.1, (h.2.2.2.1.sub isC hnC hC), h.2.2.2.2⟩
theorem x_joinB {S S' : Type} {w1 : S → va_W} {w2 : S' → va_W} {g : S → S'} {sz : Nat} {s t : State} {u : S} (hv : xP D tys ws sz s) (hB : xB D (va_A wc sz) (w1 u) t) (hF : va_F (va_A wc sz) s t) (isC isR is2 : List Nat) (hC : isC.map (fun i => ws[i]?) = wc.map some) (hR : isR.map (fun i => ws[i]?) = wr.map some) (hn : va_nd isR = true) (hdis : ∀ i ∈ isR, i ∉ isC) (hn2 : va_nd is2 = true) (h2 : ∀ u, is2.map (fun i => (wr ++ w1 u)[i]?) = (w2 (g u)).map some) : xB D (va_A ws sz) (w2 (g u)) t ∧ va_F (va_A ws sz) s t := by
  obtain ⟨hsz, hP, hK, hD, hN⟩ := hv
  subst hsz
  have hs := va_A_sub (sz := s.heap.size) isC hC
  obtain ⟨hP', hD'⟩ := va_join (A0 := va_A ws s.heap.size) hP hD.self isC isR hC hR hn hdis hF.2 hs hB.1 hB.2
  exact ⟨⟨xP_pick hP' (h2 u), hD'.sub is2 hn2 (h2 u)⟩, hF.1, fun q h1 h2 => hF.2 q h1 (fun h => h2 (hs q h))⟩
theorem x_liftW {S S' : Type} {post : Int32 → S → Prop} {w1 : S → va_W} {post' : Int32 → S' → Prop} {w2 : S' → va_W} (h : xWi l y wy rm D tys av wc post w1 mc ms) (g : S → S') (isC isR is2 : List Nat) (hnC : va_nd isC = true) (hC : isC.map (fun i => ws[i]?) = wc.map some) (hR : isR.map (fun i => ws[i]?) = wr.map some) (hn : va_nd isR = true) (hdis : ∀ i ∈ isR, i ∉ isC) (hn2 : va_nd is2 = true) (h2 : ∀ u, is2.map (fun i => (wr ++ w1 u)[i]?) = (w2 (g u)).map some) (hp : ∀ r u, post r u → post' r (g u)) : xWi l y wy rm D tys av ws post' w2 mc ms := by
  intro sz
  refine MetFree.mono (h sz) (fun a s hv => ⟨hv.1, xP_sub hv.2.1 isC hnC hC, hv.2.2.narrow (va_A_sub isC hC)⟩) (fun _ _ _ _ _ h => h) (fun a s o t hv hq => ?_)
  obtain ⟨⟨⟨r, u, ho, hpu, hB⟩, hF⟩, L, hL, hfr⟩ := hq
  obtain ⟨hB', hF'⟩ := x_joinB (g := g) (w2 := w2) hv.2.1 hB hF isC isR is2 hC hR hn hdis hn2 h2
  exact ⟨⟨⟨r, g u, ho, hp r u hpu, hB'⟩, hF'⟩, L, hL, fun q hq => va_A_sub isC hC _ (hfr q hq)⟩
theorem x_liftI {S S' : Type} {post : Int32 → S → Prop} {w1 : S → va_W} {post' : Int32 → S' → Prop} {w2 : S' → va_W} (h : xMi l y wy rm D tys av wc post w1 mc ms) (g : S → S') (isC isR is2 : List Nat) (hnC : va_nd isC = true) (hC : isC.map (fun i => ws[i]?) = wc.map some) (hR : isR.map (fun i => ws[i]?) = wr.map some) (hn : va_nd isR = true) (hdis : ∀ i ∈ isR, i ∉ isC) (hn2 : va_nd is2 = true) (h2 : ∀ u, is2.map (fun i => (wr ++ w1 u)[i]?) = (w2 (g u)).map some) (hp : ∀ r u, post r u → post' r (g u)) : xMi l y wy rm D tys av ws post' w2 mc ms := by
  intro sz
  refine MetFree.mono (h sz) (fun a s hv => ⟨hv.1, xP_sub hv.2 isC hnC hC⟩) (fun _ _ _ _ _ h => h) (fun a s o t hv hq => ?_)
  obtain ⟨⟨⟨r, u, ho, hpu, hB⟩, hF⟩, L, hL, hfr⟩ := hq
  obtain ⟨hB', hF'⟩ := x_joinB (g := g) (w2 := w2) hv.2 hB hF isC isR is2 hC hR hn hdis hn2 h2
  exact ⟨⟨⟨r, g u, ho, hp r u hpu, hB'⟩, hF'⟩, L, hL, fun q hq => va_A_sub isC hC _ (hfr q hq)⟩
theorem x_liftV {S S' : Type} {post : S → Prop} {w1 : S → va_W} {post' : S' → Prop} {w2 : S' → va_W} (h : xMv l y wy rm D tys av wc post w1 mc ms) (g : S → S') (isC isR is2 : List Nat) (hnC : va_nd isC = true) (hC : isC.map (fun i => ws[i]?) = wc.map some) (hR : isR.map (fun i => ws[i]?) = wr.map some) (hn : va_nd isR = true) (hdis : ∀ i ∈ isR, i ∉ isC) (hn2 : va_nd is2 = true) (h2 : ∀ u, is2.map (fun i => (wr ++ w1 u)[i]?) = (w2 (g u)).map some) (hp : ∀ u, post u → post' (g u)) : xMv l y wy rm D tys av ws post' w2 mc ms := by
  intro sz
  refine MetFree.mono (h sz) (fun a s hv => ⟨hv.1, xP_sub hv.2 isC hnC hC⟩) (fun _ _ _ _ _ h => h) (fun a s o t hv hq => ?_)
  obtain ⟨⟨⟨u, ho, hpu, hB⟩, hF⟩, L, hL, hfr⟩ := hq
  obtain ⟨hB', hF'⟩ := x_joinB (g := g) (w2 := w2) hv.2 hB hF isC isR is2 hC hR hn hdis hn2 h2
  exact ⟨⟨⟨g u, ho, hp u hpu, hB'⟩, hF'⟩, L, hL, fun q hq => va_A_sub isC hC _ (hfr q hq)⟩
end LIFT

abbrev s_lim (s : S4) : Nat := s.1
abbrev s_n (s : S4) : Nat := s.2.1
abbrev s_rows (s : S4) : qF := s.2.2.1
abbrev s_cc (s : S4) : qF := s.2.2.2.1
abbrev s_ct (s : S4) : qF := s.2.2.2.2.1
abbrev s_ck (s : S4) : qF := s.2.2.2.2.2.1
abbrev s_nr (s : S4) : qF := s.2.2.2.2.2.2.1
abbrev s_cr (s : S4) : qF := s.2.2.2.2.2.2.2.1
abbrev s_old (s : S4) : qF := s.2.2.2.2.2.2.2.2.1
abbrev s_rw (s : S4) : qF := s.2.2.2.2.2.2.2.2.2.1
abbrev s_co (s : S4) : Nat → qF := s.2.2.2.2.2.2.2.2.2.2.1
abbrev s_re (s : S4) : Nat → qF := s.2.2.2.2.2.2.2.2.2.2.2.1
abbrev s_nu (s : S4) : Nat → qF := s.2.2.2.2.2.2.2.2.2.2.2.2.1
abbrev s_ma (s : S4) : Nat → qF := s.2.2.2.2.2.2.2.2.2.2.2.2.2.1
abbrev s_sr (s : S4) : Nat → qF := s.2.2.2.2.2.2.2.2.2.2.2.2.2.2.1
abbrev s_cp (s : S4) : Nat → qF := s.2.2.2.2.2.2.2.2.2.2.2.2.2.2.2.1
abbrev s_pu (s : S4) : Nat → Option Nat := s.2.2.2.2.2.2.2.2.2.2.2.2.2.2.2.2.1
abbrev s_st (s : S4) : Nat → Nat := s.2.2.2.2.2.2.2.2.2.2.2.2.2.2.2.2.2.1
abbrev s_sl (s : S4) : Nat → Nat := s.2.2.2.2.2.2.2.2.2.2.2.2.2.2.2.2.2.2