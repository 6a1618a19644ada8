/-! The law's start: what the tables and the Statement give. -/
theorem arrOfT_of {s : State} {c comp : ClassId} {k : Class} {ty : FieldType} (hk : s.vm.classes[c]? = some k) (hkind : k.kind = .array comp ty) : ArrOfT s c ty := fun n z => ⟨fun q => (by intro h; cases h), k, hk, comp, hkind⟩
set_option maxRecDepth 40000 in
theorem lw_inst : Cond.instantiable RX0 4 ∈ wsL_law ∧ Cond.instantiable RX1 7 ∈ wsL_law ∧ Cond.instantiable RX2 5 ∈ wsL_law ∧ Cond.instantiable RX3 2 ∈ wsL_law ∧ Cond.instantiable RX4 5 ∈ wsL_law := by decide +kernel
set_option maxRecDepth 40000 in
theorem lw_arrI : Cond.arrayClass .int ∈ lw_tbl := by decide +kernel
set_option maxRecDepth 40000 in
theorem lw_ovP : Cond.arrayOver (.object RX0) ∈ lw_tbl := by decide +kernel
set_option maxRecDepth 40000 in
theorem lw_ovS : Cond.arrayOver (.object RX2) ∈ lw_tbl := by decide +kernel
set_option maxRecDepth 40000 in
theorem lw_nestF : ∀ q ∈ xNf, Cond.fieldLinkNest q.1 q.2.1 q.2.2.1 q.2.2.2.1 q.2.2.2.2 "RowReplicator" ∈ lw_tbl := by decide +kernel
set_option maxRecDepth 40000 in
theorem lw_nestM : ∀ q ∈ xNm, Cond.methodLinkNest q.1 q.2.1 q.2.2 "RowReplicator" ∈ lw_tbl := by decide +kernel
set_option maxRecDepth 40000 in
theorem lw_cast : ∀ q ∈ [nIO, nIA, nIS], Cond.castable q q ∈ lw_tbl := by decide +kernel
set_option maxRecDepth 40000 in
theorem lw_decl : ∀ q ∈ xDs, Cond.declares (Bundle.initS q) ∈ lw_tbl := by decide +kernel
set_option maxRecDepth 40000 in
theorem lw_tx : ∀ q ∈ xTx, Cond.stringRef RX4 q.1 q.2 ∈ lw_tbl := by decide +kernel
theorem law_K {s : State} {args : Array Value} (hts : ∀ w ∈ lw_tbl, w.before args s = true) : ∃ (D : va_G) (cI cP cS cL : ClassId), va_K D vwCl [(cI, .int), (cP, .object RX0), (cS, .object RX2)] s := by
  have hl : ∀ w ∈ wsL_law, w.before args s = true := fun w h => hts w (wsL_law_in w h)
  obtain ⟨c0, i0, h0⟩ := u_known (C := RX0) (T := TX0) (N := 4) (n := 4) hts inX0 (hl _ lw_inst.1)
  obtain ⟨c1, i1, h1⟩ := u_known (C := RX1) (T := TX1) (N := 7) (n := 7) hts inX1 (hl _ lw_inst.2.1)
  obtain ⟨c2, i2, h2⟩ := u_known (C := RX2) (T := TX2) (N := 5) (n := 5) hts inX2 (hl _ lw_inst.2.2.1)
  obtain ⟨c3, i3, h3⟩ := u_known (C := RX3) (T := TX3) (N := 2) (n := 2) hts inX3 (hl _ lw_inst.2.2.2.1)
  obtain ⟨c4, i4, h4⟩ := u_known (C := RX4) (T := TX4) (N := 5) (n := 5) hts inX4 (hl _ lw_inst.2.2.2.2)
  obtain ⟨cI, kI, coI, fI, gI, eI⟩ := Cond.arrayClass_spec (hts _ lw_arrI)
  obtain ⟨coP, cP, kP, nP, -, gP, eP, fP⟩ := Cond.arrayOver_spec (hts _ lw_ovP)
  obtain ⟨coS, cS, kS, nS, -, gS, eS, fS⟩ := Cond.arrayOver_spec (hts _ lw_ovS)
  refine ⟨(fun k => [c0, c1, c2, c3, c4].getD k 0, fun k => [i0, i1, i2, i3, i4].getD k i0), cI, cP, cS, cI, ?_, ?_⟩
  · intro k q hq
    match k, hq with
    | 0, hq => cases hq; exact h0
    | 1, hq => cases hq; exact h1
    | 2, hq => cases hq; exact h2
    | 3, hq => cases hq; exact h3
    | 4, hq => cases hq; exact h4
    | k + 5, hq => simp [vwCl] at hq
  · intro k q hq
    match k, hq with
    | 0, hq => cases hq; exact ⟨arrOfT_of gI eI, fI⟩
    | 1, hq => cases hq; exact ⟨arrOfT_of gP eP, kP, coP, gP, eP, nP, fP⟩
    | 2, hq => cases hq; exact ⟨arrOfT_of gS eS, kS, coS, gS, eS, nS, fS⟩
    | k + 3, hq => simp at hq
theorem law_N {s : State} {args : Array Value} (hts : ∀ w ∈ lw_tbl, w.before args s = true) : xN s :=
  ⟨fun q hq => va_Nw.of rfl (hts _ (lw_nestF q hq)), fun q hq => va_Nw.of rfl (hts _ (lw_nestM q hq)), va_AO.of (hts _ lw_ovP), va_AO.of (hts _ lw_ovS)⟩
set_option maxRecDepth 40000 in
theorem lw_zq : Cond.laysStatic Bundle.tN "UNASSIGNED_STACK" Bundle.steD ∈ lw_tbl ∧ Cond.laysStatic Bundle.tN "SUPPRESSED_SENTINEL" Bundle.listD ∈ lw_tbl ∧ Cond.initialized Bundle.tN ∈ lw_tbl := by decide +kernel
theorem law_Z {s : State} {b : Nat} (hts : ∀ w ∈ lw_tbl, w.before #[Value.ref b] s = true) (hgv : (Jvm.Cond.and given_1 narrow_1).before #[Value.ref b] s = true) : vx_Zq Bundle.tN "UNASSIGNED_STACK" Bundle.steD (fun q => s.heap.size ≤ q) s s.heap ∧ vx_Zq Bundle.tN "SUPPRESSED_SENTINEL" Bundle.listD (fun q => s.heap.size ≤ q) s s.heap := by
  have hg := flat_of_before _ hgv
  exact ⟨vx_Zqof (hts _ lw_zq.1) (hts _ lw_zq.2.2) (hg _ (by decide +kernel)) (fun a h => Nat.not_le.mpr h), vx_Zqof (hts _ lw_zq.2.1) (hts _ lw_zq.2.2) (hg _ (by decide +kernel)) (fun a h => Nat.not_le.mpr h)⟩
set_option maxHeartbeats 4000000 in
theorem law_T {s : State} {b : Nat} (hts : ∀ w ∈ lw_tbl, w.before #[Value.ref b] s = true) (hgv : (Jvm.Cond.and given_1 narrow_1).before #[Value.ref b] s = true) : ∀ q ∈ xTx, ∃ sa, vk_R RX4 q.1 q.2 sa s := by
  have hg := flat_of_before _ hgv
  intro q hq
  have h2 : (Cond.exactly (.string RX4 q.1) "java/lang/String").before #[Value.ref b] s = true := hg _ ((by decide +kernel : ∀ q ∈ xTx, Cond.exactly (.string RX4 q.1) "java/lang/String" ∈ flatC (Jvm.Cond.and given_1 narrow_1)) q hq)
  obtain ⟨a, _, _, _, ha, -⟩ := Cond.exactly_spec h2
  exact ⟨a, vk_R.of (hts _ (lw_tx q hq)) ha⟩
set_option maxHeartbeats 4000000 in
theorem law_E {s : State} {b : Nat} (hts : ∀ w ∈ lw_tbl, w.before #[Value.ref b] s = true) (hgv : (Jvm.Cond.and given_1 narrow_1).before #[Value.ref b] s = true) : XE (fun q => s.heap.size ≤ q) s s.heap := by
  have hg := flat_of_before _ hgv
  obtain ⟨z1, z2⟩ := law_Z hts hgv
  refine ⟨z1, z2, law_T hts hgv, fun q hq r hr n => va_Nc.of (hg _ ((by decide +kernel : ∀ q ∈ [nIO, nIA, nIS], ∀ r ∈ [nIO, nIA, nIS], q ≠ r → Cond.not (.castable q r) ∈ flatC (Jvm.Cond.and given_1 narrow_1)) q hq r hr n)), fun q hq => va_Nw.of rfl (hts _ (lw_cast q hq)), fun q hq => va_Nw.of rfl (hts _ (lw_decl q hq))⟩
def lwB (p : Program) (l : Launch) (s : State) (m : MethodId) (c : Code) (D : va_G) (cI cP cS cL : ClassId) (A : Nat → Prop) (b L : Nat) (xs : Nat → Int32) : Prop := p.tables.exec = Jvm.exec ∧ c.code = cL_law ∧ c.maxLocals = 9 ∧ s.vm.findClass RL = some m.cls ∧ (∀ w ∈ wsL_law, w.before #[Value.ref b] s = true) ∧ l.stackTraces = false ∧ va_K D vwCl [(cI, .int), (cP, .object RX0), (cS, .object RX2)] s ∧ xN s ∧ XE A s s.heap ∧ (∀ q, s.heap.size ≤ q → A q) ∧ ¬ A b ∧ b < s.heap.size ∧ va_X b L xs s s.heap ∧ L ≤ 260
theorem law_facts {p : Program} {s : State} {m : MethodId} {meth : Method} {c : Code} (l : Launch) (hflags : l.flags = flags0) {b L : Nat} {xs : Nat → Int32} (hL : L ≤ 260) (C0 : lw_At p s m meth c b L xs) : ∃ (D : va_G) (cI cP cS cL : ClassId), lwB p l s m c D cI cP cS cL (fun q => s.heap.size ≤ q) b L xs := by
  obtain ⟨hx, hb, hret, hml, hown, hts, hX, hbl, hlk, hgv⟩ := C0
  have hfl : l.stackTraces = false := by unfold Launch.stackTraces; rw [hflags]; decide +kernel
  obtain ⟨D, cI, cP, cS, cL, hK⟩ := law_K hts
  exact ⟨D, cI, cP, cS, cL, hx, hb, hml, hown, fun w h => hts w (wsL_law_in w h), hfl, hK, law_N hts, law_E hts hgv, fun q h => h, Nat.not_le.mpr hbl, hbl, hX, hL⟩
