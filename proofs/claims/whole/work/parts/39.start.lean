/-! The law's start: what the tables and the Statement give. -/
theorem arrOfT_of {s : State} {c comp : ClassId} {k : Class} {ty : FieldType} (hk : s.vm.classes[c]? = some k) (hkind : k.kind = .array comp ty) : ArrOfT s c ty := fun n z => ⟨fun q => (by intro h; cases h), k, hk, comp, hkind⟩
set_option maxRecDepth 40000 in
theorem lw_inst : Cond.instantiable RX0 4 ∈ wsL_law ∧ Cond.instantiable RX1 7 ∈ wsL_law ∧ Cond.instantiable RX2 5 ∈ wsL_law ∧ Cond.instantiable RX3 2 ∈ wsL_law ∧ Cond.instantiable RX4 5 ∈ wsL_law ∧ Cond.instantiable RX5 20 ∈ wsL_law := by decide +kernel
set_option maxRecDepth 40000 in
theorem lw_arrI : Cond.arrayClass .int ∈ lw_tbl := by decide +kernel
set_option maxRecDepth 40000 in
theorem lw_arrL : Cond.arrayClass .long ∈ lw_tbl := by decide +kernel
set_option maxRecDepth 40000 in
theorem lw_ovP : Cond.arrayOver (.object RX0) ∈ lw_tbl := by decide +kernel
set_option maxRecDepth 40000 in
theorem lw_ovS : Cond.arrayOver (.object RX2) ∈ lw_tbl := by decide +kernel
set_option maxRecDepth 40000 in
theorem lw_nestF : ∀ q ∈ xNf, Cond.fieldLinkNest q.1 q.2.1 q.2.2.1 q.2.2.2.1 q.2.2.2.2 "RowReplicator" ∈ lw_tbl := by decide +kernel
set_option maxRecDepth 40000 in
theorem lw_nestM : ∀ q ∈ xNm, Cond.methodLinkNest q.1 q.2.1 q.2.2 "RowReplicator" ∈ lw_tbl := by decide +kernel
set_option maxRecDepth 40000 in
theorem lw_cast : ∀ q ∈ [nIO, nIA, nIS], Cond.castable q q ∈ lw_tbl := by decide +kernel
set_option maxRecDepth 40000 in
theorem lw_decl : ∀ q ∈ xDs, Cond.declares (Bundle.initS q) ∈ lw_tbl := by decide +kernel
set_option maxRecDepth 40000 in
theorem lw_tx : ∀ q ∈ xTx, Cond.stringRef RX4 q.1 q.2 ∈ lw_tbl := by decide +kernel
