/-! Worlds ahead of a method and behind it; contracts in short; calls; ends. -/
def xNf : List (String × Nat × String × String × String) := [("RowReplicator", 112, "RowReplicator$Publication", "columns", "[I"), ("RowReplicator", 115, "RowReplicator$Publication", "relations", "[I"), ("RowReplicator", 118, "RowReplicator$Publication", "numbers", "[I"), ("RowReplicator", 127, "RowReplicator$Publication", "masks", "[I"), ("RowReplicator", 137, "RowReplicator$Subscriber", "state", "I"), ("RowReplicator", 147, "RowReplicator$Subscriber", "publication", "LRowReplicator$Publication;"), ("RowReplicator", 158, "RowReplicator$Subscriber", "rows", "[I"), ("RowReplicator", 159, "RowReplicator$Subscriber", "copies", "[I"), ("RowReplicator", 164, "RowReplicator$Subscriber", "slot", "I"), ("RowReplicator", 171, "RowReplicator$Trial", "rows", "[I"), ("RowReplicator", 52, "RowReplicator$Publisher", "rows", "[I"), ("RowReplicator", 78, "RowReplicator$Publisher", "commitCount", "I"), ("RowReplicator$Trial", 18, "RowReplicator$Subscriber", "slot", "I"), ("RowReplicator$Trial", 24, "RowReplicator$Publisher", "committedRows", "[I"), ("RowReplicator$Trial", 35, "RowReplicator$Subscriber", "rows", "[I"), ("RowReplicator$Trial", 36, "RowReplicator$Publisher", "changeCounts", "[I"), ("RowReplicator$Trial", 39, "RowReplicator$Publisher", "changedTables", "[I"), ("RowReplicator$Trial", 42, "RowReplicator$Publisher", "changedKeys", "[I"), ("RowReplicator$Trial", 53, "RowReplicator$Publisher", "newRows", "[I")]
def xNm : List (String × Nat × MethodName) := [("RowReplicator", 30, ⟨"RowReplicator$Trial", "<init>", "()V"⟩), ("RowReplicator$Publication", 25, ⟨"RowReplicator", "numberIn", "(II)I"⟩), ("RowReplicator$Publisher", 34, ⟨"RowReplicator", "placeOf", "(II)I"⟩), ("RowReplicator$Trial", 60, ⟨"RowReplicator", "placeOf", "(II)I"⟩)]
/-- links among the nest's mates, by the tables -/
def xN (U : State) : Prop := (∀ q ∈ xNf, va_Nw (.fieldLinkNest q.1 q.2.1 q.2.2.1 q.2.2.2.1 q.2.2.2.2 "RowReplicator") U) ∧ (∀ q ∈ xNm, va_Nw (.methodLinkNest q.1 q.2.1 q.2.2 "RowReplicator") U) ∧ (va_AO "RowReplicator$Publication" U ∧ va_AO "RowReplicator$Subscriber" U)
theorem xN.warm {s U : State} (hW : s.WarmedH U.vm) (h : xN s) : xN U := ⟨fun q hq => (h.1 q hq).warmF hW, fun q hq => (h.2.1 q hq).warmM hW, h.2.2.1.moved hW.alike, h.2.2.2.moved hW.alike⟩
theorem xN.vm {u U : State} (hv : U.vm = u.vm) (h : xN u) : xN U := ⟨fun q hq => va_Nw.same rfl hv.symm (h.1 q hq), fun q hq => va_Nw.same rfl hv.symm (h.2.1 q hq), h.2.2.1.moved (by rw [hv]; exact Vm.Alike.refl _), h.2.2.2.moved (by rw [hv]; exact Vm.Alike.refl _)⟩
def xP (D : va_G) (tys : List (ClassId × FieldType)) (ws : va_W) (sz : Nat) (U : State) : Prop := U.heap.size = sz ∧ va_P D vwCl ws U.heap ∧ va_K D vwCl tys U ∧ va_D (fun _ => True) ws ∧ xN U
def xB (D : va_G) (A : Nat → Prop) (ws : va_W) (t : State) : Prop := va_P D vwCl ws t.heap ∧ va_D A ws
def xTx : List (Nat × String) := [(201, "a table is 0 or 1"), (204, "a key is 0 to 11"), (212, "a number is 0 to 99"), (197, "the transaction has 12 changes"), (70, "there is no row with this key"), (81, "there are 50 commits"), (206, "a column is 0 to 2"), (104, "the limit is 0 to 50"), (208, "a publication is 0 to 2"), (110, "a relation is 0 to 2"), (125, "a set of columns is 0 to 7"), (210, "a subscriber is 0 to 2"), (151, "the state of the subscriber is not 1"), (153, "a transaction is open"), (162, "1 to 50 commits are taken at most"), (176, "the state of the subscriber is not 2"), (185, "the state of the subscriber is neither 1 nor 2"), (187, "the table is not copied")]
abbrev nIO : String := "java/lang/IndexOutOfBoundsException"
abbrev nIA : String := "java/lang/IllegalArgumentException"
abbrev nIS : String := "java/lang/IllegalStateException"
def xDs : List String := ["java/lang/RuntimeException", "java/lang/Exception", Bundle.tN]
/-- what a throw needs beside the tables: two statics of Throwable, the texts, which of the three kinds can't be cast to which -/
def XE (A : Nat → Prop) (U : State) (H : Heap) : Prop := vx_Zq Bundle.tN "UNASSIGNED_STACK" Bundle.steD A U H ∧ vx_Zq Bundle.tN "SUPPRESSED_SENTINEL" Bundle.listD A U H ∧ (∀ q ∈ xTx, ∃ sa, vk_R RX4 q.1 q.2 sa U) ∧ (∀ q ∈ [nIO, nIA, nIS], ∀ r ∈ [nIO, nIA, nIS], q ≠ r → va_Nc q r U) ∧ (∀ q ∈ [nIO, nIA, nIS], va_Nw (.castable q q) U) ∧ (∀ q ∈ xDs, va_Nw (.declares (Bundle.initS q)) U)
theorem XE.narrow {A B : Nat → Prop} {U : State} {H : Heap} (h : XE A U H) (hAB : ∀ q, B q → A q) : XE B U H := ⟨h.1.narrow hAB, h.2.1.narrow hAB, h.2.2⟩
theorem XE.kept {A : Nat → Prop} {U : State} {H H1 : Heap} (h : XE A U H) (hq : ∀ a : Nat, a < H.size → ¬ A a → H1[a]? = H[a]?) : XE A U H1 := ⟨h.1.kept hq, h.2.1.kept hq, h.2.2⟩
theorem XE.warm {A : Nat → Prop} {s U : State} {H : Heap} (hW : s.WarmedH U.vm) (h : XE A s H) : XE A U H :=
  ⟨h.1.moved hW.alike, h.2.1.moved hW.alike, fun q hq => (h.2.2.1 q hq).elim (fun sa k => ⟨sa, vk_R.warm hW k⟩), fun q hq r hr n => (h.2.2.2.1 q hq r hr n).moved hW.alike, fun q hq => (h.2.2.2.2.1 q hq).warmC hW, fun q hq => (h.2.2.2.2.2 q hq).warmD hW⟩
theorem XE.vm {A : Nat → Prop} {u U : State} {H : Heap} (hv : U.vm = u.vm) (h : XE A u H) : XE A U H :=
  ⟨h.1.moved (by rw [hv]; exact Vm.Alike.refl _), h.2.1.moved (by rw [hv]; exact Vm.Alike.refl _), fun q hq => (h.2.2.1 q hq).elim (fun sa k => ⟨sa, vk_R.same hv k⟩), fun q hq r hr n => (h.2.2.2.1 q hq r hr n).moved (by rw [hv]; exact Vm.Alike.refl _), fun q hq => va_Nw.same rfl hv.symm (h.2.2.2.2.1 q hq), fun q hq => va_Nw.same rfl hv.symm (h.2.2.2.2.2 q hq)⟩
def xPE (D : va_G) (tys : List (ClassId × FieldType)) (ws : va_W) (sz : Nat) (U : State) : Prop := xP D tys ws sz U ∧ XE (va_A ws sz) U U.heap
theorem xP_blind {av : List Value} {D : va_G} {tys : List (ClassId × FieldType)} {ws : va_W} {sz : Nat} : FrameBlind (va_Pc av (xP D tys ws sz)) := fun a U g mk q => by
  obtain ⟨q0, q1, qP, qK, qD, qN⟩ := q
  exact ⟨q0, q1, qP, va_K.moved (u := U) (U := U.calling g mk a) (Vm.Alike.refl U.vm) qK, qD, xN.vm (u := U) (U := U.calling g mk a) rfl qN⟩
theorem xPE_blind {av : List Value} {D : va_G} {tys : List (ClassId × FieldType)} {ws : va_W} {sz : Nat} : FrameBlind (va_Pc av (xPE D tys ws sz)) := fun a U g mk q => by
  obtain ⟨q0, ⟨q1, qP, qK, qD, qN⟩, qE⟩ := q
  exact ⟨q0, ⟨q1, qP, va_K.moved (u := U) (U := U.calling g mk a) (Vm.Alike.refl U.vm) qK, qD, xN.vm (u := U) (U := U.calling g mk a) rfl qN⟩, XE.vm (u := U) (U := U.calling g mk a) rfl qE⟩
theorem xP_pick {D : va_G} {ws w : va_W} {H : Heap} {is : List Nat} (h : va_P D vwCl ws H) (hs : is.map (fun i => ws[i]?) = w.map some) : va_P D vwCl w H := by
  intro k q hq
  have h1 : (is.map (fun i => ws[i]?))[k]? = some (some q) := by rw [hs, List.getElem?_map, hq]; rfl
  rw [List.getElem?_map] at h1
  cases hi : is[k]? with
  | none => rw [hi] at h1; cases h1
  | some i => rw [hi] at h1; exact h i q (Option.some.inj h1)
/-- contracts: a method that returns an int, or nothing; and one that may throw beside, the world then as it was -/
def xMi (l : Launch) (y : MethodName) (wy : List Cond) (rm : Room) (D : va_G) (tys : List (ClassId × FieldType)) (av : List Value) (w0 : va_W) {S : Type} (post : Int32 → S → Prop) (w1 : S → va_W) (mc ms : Nat) : Prop :=
  ∀ sz, Met l y wy rm (va_Pc av (xP D tys w0 sz)) (va_Qi post (fun u t => xB D (va_A w0 sz) (w1 u) t) (va_A w0 sz)) mc ms (va_A w0 sz)
def xMv (l : Launch) (y : MethodName) (wy : List Cond) (rm : Room) (D : va_G) (tys : List (ClassId × FieldType)) (av : List Value) (w0 : va_W) {S : Type} (post : S → Prop) (w1 : S → va_W) (mc ms : Nat) : Prop :=
  ∀ sz, Met l y wy rm (va_Pc av (xP D tys w0 sz)) (va_Qv post (fun u t => xB D (va_A w0 sz) (w1 u) t) (va_A w0 sz)) mc ms (va_A w0 sz)
abbrev xXC (D : va_G) (A : Nat → Prop) (w0 : va_W) (EX : String → Prop) : String → State → State → Prop := vx_X (fun _ : Unit => True) (fun E _ t => EX E ∧ xB D A w0 t) A
def xXi (l : Launch) (y : MethodName) (wy : List Cond) (rm : Room) (D : va_G) (tys : List (ClassId × FieldType)) (av : List Value) (w0 : va_W) {S : Type} (post : Int32 → S → Prop) (w1 : S → va_W) (EX : String → Prop) (mc ms : Nat) : Prop :=
  ∀ sz, vx_Met l y wy rm (va_Pc av (xPE D tys w0 sz)) (va_Qi post (fun u t => xB D (va_A w0 sz) (w1 u) t) (va_A w0 sz)) (xXC D (va_A w0 sz) w0 EX) mc ms (va_A w0 sz)
def xXv (l : Launch) (y : MethodName) (wy : List Cond) (rm : Room) (D : va_G) (tys : List (ClassId × FieldType)) (av : List Value) (w0 : va_W) {S : Type} (post : S → Prop) (w1 : S → va_W) (EX : String → Prop) (mc ms : Nat) : Prop :=
  ∀ sz, vx_Met l y wy rm (va_Pc av (xPE D tys w0 sz)) (va_Qv post (fun u t => xB D (va_A w0 sz) (w1 u) t) (va_A w0 sz)) (xXC D (va_A w0 sz) w0 EX) mc ms (va_A w0 sz)
/-- what a body has at its start -/
def xIn (p : Program) (s : State) (m : MethodId) (meth : Method) (c : Code) (A : Nat → Prop) (y : MethodName) (cc : ByteArray) (maxL : Nat) (ret : Option FieldType) (wy : List Cond) (D : va_G) (tys : List (ClassId × FieldType)) (av : List Value) (w0 : va_W) (ls : Array Slot) : Prop :=
  p.tables.exec = Jvm.exec ∧ c.code = cc ∧ c.maxLocals = maxL ∧ meth.sig.returnType = ret ∧ (∀ w ∈ wy, w.before av.toArray s = true) ∧ s.vm.findClass y.cls = some m.cls ∧ meth.name = y.name ∧ meth.locks = false ∧ va_K D vwCl tys s ∧ va_P D vwCl w0 s.heap ∧ va_D A w0 ∧ (∀ q, s.heap.size ≤ q → A q) ∧ va_S A s.heap s.heap [] ∧ xN s ∧ lv_has ls maxL (lv_args 0 av)
section ENTRY
variable {l : Launch} {y : MethodName} {wy ws' : List Cond} {rm : Room} {D : va_G} {tys : List (ClassId × FieldType)} {av : List Value} {w0 : va_W} {mc ms : Nat} {cc : ByteArray} {maxL : Nat} {ret : Option FieldType}
theorem xe_in {p : Program} {e : Env} {s s₁ : State} {m : MethodId} {args : Array Value} {below : List Frame} {meth : Method} {c : Code} {sz : Nat} {A : Nat → Prop} (B : BodyLoose p l y (headSpec wy rm) cc maxL ret e s m args below meth c s₁) (hml : c.maxLocals = maxL) (hav : (lg_sl av).length ≤ maxL) (hargs : args = av.toArray) (hv : xP D tys w0 sz s) (hAe : va_A w0 sz = A) :
    xIn p s m meth c A y cc maxL ret wy D tys av w0 ((lg_sl av ++ List.replicate (maxL - (lg_sl av).length) Slot.unset).toArray) := by
  obtain ⟨hsz, hP, hK, hD0, hN⟩ := hv
  subst hargs
  subst hAe
  subst hsz
  exact ⟨B.exec, B.bytes, hml, B.returns, atoms_spec (ws := wy) B.pre, findClass_of_methodNamed B.named, (name_of_methodNamed B.named B.method).1, B.notSynchronized, hK, hP, hD0.self, fun q h => Or.inr h, va_S.rf, hN, lv_entry av hav⟩
theorem xe_i {S : Type} {post : Int32 → S → Prop} {w1 : S → va_W} (hy : plainName y.cls = true) (hw : wy = Cond.code y cc maxL ret :: ws') (hav : (lg_sl av).length ≤ maxL)
    (body : ∀ (p : Program) (e : Env) (s : State) (m : MethodId) (below : List Frame) (meth : Method) (c : Code) (A : Nat → Prop) (ls : Array Slot), xIn p s m meth c A y cc maxL ret wy D tys av w0 ls → W p l e rm s m av.toArray below meth c s.heap [] 0 0 (MQ below (va_Qi post (fun u t => xB D A (w1 u) t) A) av.toArray s mc ms A) (F0 m 0 ls [])) : xMi l y wy rm D tys av w0 post w1 mc ms := by
  intro sz
  refine Met.ofW (cc := cc) (maxL := maxL) (ret := ret) hy hw ?_
  intro p e s m args below meth c s₁ B hml hv
  obtain ⟨rfl, hv⟩ := hv
  have h := body p e s m below meth c _ _ (xe_in B hml hav rfl hv rfl)
  rw [lg_entry_eq]
  exact h
theorem xe_v {S : Type} {post : S → Prop} {w1 : S → va_W} (hy : plainName y.cls = true) (hw : wy = Cond.code y cc maxL ret :: ws') (hav : (lg_sl av).length ≤ maxL)
    (body : ∀ (p : Program) (e : Env) (s : State) (m : MethodId) (below : List Frame) (meth : Method) (c : Code) (A : Nat → Prop) (ls : Array Slot), xIn p s m meth c A y cc maxL ret wy D tys av w0 ls → W p l e rm s m av.toArray below meth c s.heap [] 0 0 (MQ below (va_Qv post (fun u t => xB D A (w1 u) t) A) av.toArray s mc ms A) (F0 m 0 ls [])) : xMv l y wy rm D tys av w0 post w1 mc ms := by
  intro sz
  refine Met.ofW (cc := cc) (maxL := maxL) (ret := ret) hy hw ?_
  intro p e s m args below meth c s₁ B hml hv
  obtain ⟨rfl, hv⟩ := hv
  have h := body p e s m below meth c _ _ (xe_in B hml hav rfl hv rfl)
  rw [lg_entry_eq]
  exact h
theorem xe_Xi {S : Type} {post : Int32 → S → Prop} {w1 : S → va_W} {EX : String → Prop} (hy : plainName y.cls = true) (hw : wy = Cond.code y cc maxL ret :: ws') (hav : (lg_sl av).length ≤ maxL)
    (body : ∀ (p : Program) (e : Env) (s : State) (m : MethodId) (below : List Frame) (meth : Method) (c : Code) (A : Nat → Prop) (ls : Array Slot), xIn p s m meth c A y cc maxL ret wy D tys av w0 ls → (∀ x ∈ c.exceptionTable.toList, False) → XE A s s.heap → W p l e rm s m av.toArray below meth c s.heap [] 0 0 (vx_MQ below (va_Qi post (fun u t => xB D A (w1 u) t) A) (xXC D A w0 EX) av.toArray s mc ms A) (F0 m 0 ls [])) : xXi l y wy rm D tys av w0 post w1 EX mc ms := by
  intro sz
  refine vx_ofW (cc := cc) (maxL := maxL) (ret := ret) hy hw ?_
  intro p e s m args below meth c s₁ B hml htab hv
  obtain ⟨rfl, hv, hE⟩ := hv
  have h := body p e s m below meth c _ _ (xe_in B hml hav rfl hv rfl) htab hE
  rw [lg_entry_eq]
  exact h
theorem xe_Xv {S : Type} {post : S → Prop} {w1 : S → va_W} {EX : String → Prop} (hy : plainName y.cls = true) (hw : wy = Cond.code y cc maxL ret :: ws') (hav : (lg_sl av).length ≤ maxL)
    (body : ∀ (p : Program) (e : Env) (s : State) (m : MethodId) (below : List Frame) (meth : Method) (c : Code) (A : Nat → Prop) (ls : Array Slot), xIn p s m meth c A y cc maxL ret wy D tys av w0 ls → (∀ x ∈ c.exceptionTable.toList, False) → XE A s s.heap → W p l e rm s m av.toArray below meth c s.heap [] 0 0 (vx_MQ below (va_Qv post (fun u t => xB D A (w1 u) t) A) (xXC D A w0 EX) av.toArray s mc ms A) (F0 m 0 ls [])) : xXv l y wy rm D tys av w0 post w1 EX mc ms := by
  intro sz
  refine vx_ofW (cc := cc) (maxL := maxL) (ret := ret) hy hw ?_
  intro p e s m args below meth c s₁ B hml htab hv
  obtain ⟨rfl, hv, hE⟩ := hv
  have h := body p e s m below meth c _ _ (xe_in B hml hav rfl hv rfl) htab hE
  rw [lg_entry_eq]
  exact h
end ENTRY
section CALLS
variable {p : Program} {l : Launch} {e : Env} {R : Room} {s : State} {m : MethodId} {args : Array Value} {below : List Frame} {meth : Method} {c : Code} {H : Heap} {locs : List Loc} {cells slots : Nat} {Q : State → Prop}
variable {cc : ByteArray} {pc : Nat} {ls : Array Slot} {rest st0 : List Value} {D : va_G} {tys : List (ClassId × FieldType)} {ws : va_W} {A : Nat → Prop} {H0 : Heap} {a : Array Value} {mc ms : Nat}
variable {y : MethodName} {wy ws' : List Cond} {rm : Room} {bytes : ByteArray} {maxL nL n index : Nat} {ret : Option FieldType} {Ts : List Cond} {own C : String} {b : Addr} {As : List Value} {wc : va_W} {Qc : Nat → Array Value → State → Outcome → State → Prop}
theorem xPof (hN : xN s) (hK : va_K D vwCl tys s) (hP : va_P D vwCl ws H) (hD : va_D A ws) (isC : List Nat) (hnC : va_nd isC = true) (hC : isC.map (fun i => ws[i]?) = wc.map some) {U : State} (hU : U.heap = H) (hW : s.WarmedH U.vm) : xP D tys wc H.size U :=
  ⟨by rw [hU], by rw [hU]; exact xP_pick hP hC, va_K.moved hW.alike hK, (hD.sub isC hnC hC).weaken (fun _ _ _ _ => trivial), hN.warm hW⟩
theorem xPEof (hN : xN s) (hK : va_K D vwCl tys s) (hP : va_P D vwCl ws H) (hD : va_D A ws) (hS : va_S A H0 H locs) (hA : ∀ q, H0.size ≤ q → A q) (hE : XE A s H0) (isC : List Nat) (hnC : va_nd isC = true) (hC : isC.map (fun i => ws[i]?) = wc.map some) {U : State} (hU : U.heap = H) (hW : s.WarmedH U.vm) : xPE D tys wc H.size U :=
  ⟨xPof hN hK hP hD isC hnC hC hU hW, by rw [hU]; exact ((hE.kept hS.2.1).narrow (va_free hD hS hA isC hC)).warm hW⟩
theorem x_runV (Sx : CallFix p m c cc nL s args Ts own) (hM : ∀ sz, Met l y wy rm (va_Pc (.ref b :: As) (xP D tys wc sz)) (Qc sz) mc ms (va_A wc sz)) (hG : GoodIn Ts (wsV own index C y wy)) (hw : wy = Cond.code y bytes maxL ret :: ws') (hrc : rm.cells = mc) (hrs : rm.slots = ms)
    (hd : y.cls = C ∧ y.cls ≠ "java/lang/invoke/MethodHandle" ∧ y.cls ≠ "java/lang/invoke/VarHandle" ∧ (parseMethodDescriptor y.desc).map (fun d => d.parameters.length) = some n) (hR : rm.frames + 1 ≤ R.frames ∧ 8 + (maxL + 11) + rm.locals ≤ R.locals)
    (hN : xN s) (hK : va_K D vwCl tys s) (hP : va_P D vwCl ws H) (hD : va_D A ws) (isC : List Nat) (hnC : va_nd isC = true) (hC : isC.map (fun i => ws[i]?) = wc.map some) {ci q0 : Nat} {q : vw_C} {fs : List Value} (hc : vwCl[ci]? = some q) (hq : q.1 = C) (he : ws[q0]? = some (b, .inr (ci, fs)))
    (hn : As.length = n) (hsz : ls.size = nL) (hst : st0 = As.reverse ++ .ref b :: rest) (hcat : (rest.map fun v => v.category).sum ≤ 8) (hdg : decode cc pc = .ok (.invokevirtual index, 3)) (hf : cells + mc ≤ R.cells ∧ slots + ms ≤ R.slots) :
    va_Run p l e R s m args below meth c H locs cells slots mc ms (F0 m pc ls st0) rest (Qc H.size (Value.ref b :: As).toArray) (va_A wc H.size) :=
  va_runV Sx (hM H.size) (cwV n Sx.2.2.2.2 hG hw hrc hrs hd hR) ⟨xP_blind, by have h := va_recv hK hP hc he; rw [hq] at h; exact h, fun U hU hW => ⟨rfl, xPof hN hK hP hD isC hnC hC hU hW⟩⟩ rfl hn hsz hst (lv_room hcat) hdg hf
theorem x_runS (Sx : CallFix p m c cc nL s args Ts own) (hM : ∀ sz, Met l y wy rm (va_Pc As (xP D tys wc sz)) (Qc sz) mc ms (va_A wc sz)) (hG : GoodIn Ts (va_wsS own index y wy)) (hw : wy = Cond.code y bytes maxL ret :: ws') (hrc : rm.cells = mc) (hrs : rm.slots = ms)
    (hd : y.cls ≠ "java/lang/invoke/MethodHandle" ∧ y.cls ≠ "java/lang/invoke/VarHandle" ∧ (parseMethodDescriptor y.desc).map (fun d => d.parameters.length) = some n) (hR : rm.frames + 1 ≤ R.frames ∧ 8 + (maxL + 11) + rm.locals ≤ R.locals)
    (hN : xN s) (hK : va_K D vwCl tys s) (hP : va_P D vwCl ws H) (hD : va_D A ws) (isC : List Nat) (hnC : va_nd isC = true) (hC : isC.map (fun i => ws[i]?) = wc.map some)
    (hn : As.length = n) (hsz : ls.size = nL) (hst : st0 = As.reverse ++ rest) (hcat : (rest.map fun v => v.category).sum ≤ 8) (hdg : decode cc pc = .ok (.invokestatic index, 3)) (hf : cells + mc ≤ R.cells ∧ slots + ms ≤ R.slots) :
    va_Run p l e R s m args below meth c H locs cells slots mc ms (F0 m pc ls st0) rest (Qc H.size As.toArray) (va_A wc H.size) :=
  va_runS Sx (hM H.size) (va_cwS n Sx.2.2.2.2 hG hw hrc hrs hd hR) ⟨xP_blind, fun U hU hW => ⟨rfl, xPof hN hK hP hD isC hnC hC hU hW⟩⟩ rfl hn hsz hst (lv_room hcat) hdg hf
theorem x_runI (Sx : CallFix p m c cc nL s args Ts own) (hM : ∀ sz, Met l y wy rm (va_Pc (.ref b :: As) (xP D tys wc sz)) (Qc sz) mc ms (va_A wc sz)) (hG : GoodIn Ts wy) (hw : wy = Cond.code y bytes maxL none :: ws') (hrc : rm.cells = mc) (hrs : rm.slots = ms) (hini : Cond.initialized y.cls ∈ Ts) (hl : Cond.methodLink own index y ∈ Ts) (hin : Cond.instanceMethod y ∈ Ts) (hy1 : y.name = "<init>")
    (hd : y.cls ≠ "java/lang/invoke/MethodHandle" ∧ y.cls ≠ "java/lang/invoke/VarHandle" ∧ (parseMethodDescriptor y.desc).map (fun d => d.parameters.length) = some n) (hR : rm.frames + 1 ≤ R.frames ∧ 8 + (maxL + 11) + rm.locals ≤ R.locals)
    (hN : xN s) (hK : va_K D vwCl tys s) (hP : va_P D vwCl ws H) (hD : va_D A ws) (isC : List Nat) (hnC : va_nd isC = true) (hC : isC.map (fun i => ws[i]?) = wc.map some)
    (hn : As.length = n) (hsz : ls.size = nL) (hst : st0 = As.reverse ++ .ref b :: rest) (hcat : (rest.map fun v => v.category).sum ≤ 8) (hdg : decode cc pc = .ok (.invokespecial index, 3)) (hf : cells + mc ≤ R.cells ∧ slots + ms ≤ R.slots) :
    va_Run p l e R s m args below meth c H locs cells slots mc ms (F0 m pc ls st0) rest (Qc H.size (Value.ref b :: As).toArray) (va_A wc H.size) :=
  va_runI Sx (hM H.size) (cwI n Sx.2.2.2.2 hG hw hrc hrs (Sx.2.2.2.2 _ hini) (Sx.2.2.2.2 _ hl) (Sx.2.2.2.2 _ hin) hy1 hd hR) ⟨xP_blind, fun U hU hW => ⟨rfl, xPof hN hK hP hD isC hnC hC hU hW⟩⟩ rfl hn hsz hst (lv_room hcat) hdg hf
theorem x_runSN (Sx : CallFix p m c cc nL s args Ts own) (hM : ∀ sz, Met l y wy rm (va_Pc As (xP D tys wc sz)) (Qc sz) mc ms (va_A wc sz)) (hG : GoodIn Ts wy) (hw : wy = Cond.code y bytes maxL ret :: ws') (hrc : rm.cells = mc) (hrs : rm.slots = ms) (hl : (own, index, y) ∈ xNm) (hstat : Cond.static y ∈ Ts) (hini : Cond.initialized y.cls ∈ Ts)
    (hd : y.cls ≠ "java/lang/invoke/MethodHandle" ∧ y.cls ≠ "java/lang/invoke/VarHandle" ∧ (parseMethodDescriptor y.desc).map (fun d => d.parameters.length) = some n) (hR : rm.frames + 1 ≤ R.frames ∧ 8 + (maxL + 11) + rm.locals ≤ R.locals)
    (hN : xN s) (hK : va_K D vwCl tys s) (hP : va_P D vwCl ws H) (hD : va_D A ws) (isC : List Nat) (hnC : va_nd isC = true) (hC : isC.map (fun i => ws[i]?) = wc.map some)
    (hn : As.length = n) (hsz : ls.size = nL) (hst : st0 = As.reverse ++ rest) (hcat : (rest.map fun v => v.category).sum ≤ 8) (hdg : decode cc pc = .ok (.invokestatic index, 3)) (hf : cells + mc ≤ R.cells ∧ slots + ms ≤ R.slots) :
    va_Run p l e R s m args below meth c H locs cells slots mc ms (F0 m pc ls st0) rest (Qc H.size As.toArray) (va_A wc H.size) :=
  va_runSN Sx (hM H.size) ⟨va_cnB n Sx.2.2.2.2 hG hw hrc hrs (hN.2.1 _ hl) (Sx.2.2.2.2 _ hini) hd hR, Sx.2.2.2.2 _ hstat, trivial⟩ ⟨xP_blind, fun U hU hW => ⟨rfl, xPof hN hK hP hD isC hnC hC hU hW⟩⟩ rfl hn hsz hst (lv_room hcat) hdg hf
theorem x_runIN (Sx : CallFix p m c cc nL s args Ts own) (hM : ∀ sz, Met l y wy rm (va_Pc (.ref b :: As) (xP D tys wc sz)) (Qc sz) mc ms (va_A wc sz)) (hG : GoodIn Ts wy) (hw : wy = Cond.code y bytes maxL none :: ws') (hrc : rm.cells = mc) (hrs : rm.slots = ms) (hl : (own, index, y) ∈ xNm) (hini : Cond.initialized y.cls ∈ Ts) (hin : Cond.instanceMethod y ∈ Ts) (hy1 : y.name = "<init>")
    (hd : y.cls ≠ "java/lang/invoke/MethodHandle" ∧ y.cls ≠ "java/lang/invoke/VarHandle" ∧ (parseMethodDescriptor y.desc).map (fun d => d.parameters.length) = some n) (hR : rm.frames + 1 ≤ R.frames ∧ 8 + (maxL + 11) + rm.locals ≤ R.locals)
    (hN : xN s) (hK : va_K D vwCl tys s) (hP : va_P D vwCl ws H) (hD : va_D A ws) (isC : List Nat) (hnC : va_nd isC = true) (hC : isC.map (fun i => ws[i]?) = wc.map some)
    (hn : As.length = n) (hsz : ls.size = nL) (hst : st0 = As.reverse ++ .ref b :: rest) (hcat : (rest.map fun v => v.category).sum ≤ 8) (hdg : decode cc pc = .ok (.invokespecial index, 3)) (hf : cells + mc ≤ R.cells ∧ slots + ms ≤ R.slots) :
    va_Run p l e R s m args below meth c H locs cells slots mc ms (F0 m pc ls st0) rest (Qc H.size (Value.ref b :: As).toArray) (va_A wc H.size) :=
  va_runIN Sx (hM H.size) ⟨va_cnB n Sx.2.2.2.2 hG hw hrc hrs (hN.2.1 _ hl) (Sx.2.2.2.2 _ hini) hd hR, hy1, Sx.2.2.2.2 _ hin⟩ ⟨xP_blind, fun U hU hW => ⟨rfl, xPof hN hK hP hD isC hnC hC hU hW⟩⟩ rfl hn hsz hst (lv_room hcat) hdg hf
theorem x_getN (hx : p.tables.exec = Jvm.exec) (hb : c.code = cc) {ref : String} {T : u_T} {N ci : Nat} {a : Nat} (hts : ∀ w ∈ Ts, w.before args s = true) (hin : ∀ w ∈ u_ws C T N, w ∈ Ts) (hown : s.vm.findClass own = some m.cls) (hN : xN s) (hK : va_K D vwCl tys s) (hP : va_P D vwCl ws H) (q0 : Nat) {fs : List Value} (he : ws[q0]? = some (a, .inr (ci, fs))) (hc : vwCl[ci]? = some (C, T, N)) (k : Nat) (hk : k < N) (hl : (own, index, ref, (T k).2.1, (T k).2.2.1) ∈ xNf) (hsame : ∀ x, s.fieldFound? (T k).1 (T k).2.1 (T k).2.2.1 = some x → s.fieldFound? ref (T k).2.1 (T k).2.2.1 = some x) {v : Value} (hv : fs[k]? = some v) (hdg : decode cc pc = .ok (.getfield index, 3))
    (kk : W p l e R s m args below meth c H locs cells slots Q (F0 m (pc + 3) ls (v :: rest))) : W p l e R s m args below meth c H locs cells slots Q (F0 m pc ls (.ref a :: rest)) :=
  va_getN hx hb hts hin hown hK hP q0 he hc k hk (va_Nw.use rfl (hN.1 _ hl)) hsame hv hdg kk
theorem x_putN {A : Nat → Prop} (hx : p.tables.exec = Jvm.exec) (hb : c.code = cc) {ref : String} {T : u_T} {N ci : Nat} {a : Nat} (hts : ∀ w ∈ Ts, w.before args s = true) (hin : ∀ w ∈ u_ws C T N, w ∈ Ts) (ty0 : Nat → FieldType) (hty : ∀ k, k < N → parseFieldDescriptor (T k).2.2.1 = some (ty0 k)) (hnm : ∀ a, a < N → ∀ b, b < N → a ≠ b → (T a).2.1 ≠ (T b).2.1) (hown : s.vm.findClass own = some m.cls) (hN : xN s) (hK : va_K D vwCl tys s) (hP : va_P D vwCl ws H) (hD : va_D A ws) (hS0 : va_S A H0 H locs) (q0 : Nat) {fs fs' : List Value} {w' : va_W} (he : ws[q0]? = some (a, .inr (ci, fs))) (hc : vwCl[ci]? = some (C, T, N)) (k : Nat) (hk : k < N) (hl0 : (own, index, ref, (T k).2.1, (T k).2.2.1) ∈ xNf) (hsame : ∀ x, s.fieldFound? (T k).1 (T k).2.1 (T k).2.2.1 = some x → s.fieldFound? ref (T k).2.1 (T k).2.2.1 = some x) (hfin : (T k).2.2.2 = false) {ty : FieldType} {v : Value} (hd : parseFieldDescriptor (T k).2.2.1 = some ty) (hn : narrow ty v = v) (hfit : fits ty v = true) (hl : k < fs.length)
    (hfs : fs.set k v = fs') (hw : ws.set q0 (a, .inr (ci, fs')) = w') (hdg : decode cc pc = .ok (.putfield index, 3)) (kk : ∀ (H1 : Heap) (locs1 : List Loc), va_P D vwCl w' H1 → va_D A w' → va_S A H0 H1 locs1 → W p l e R s m args below meth c H1 locs1 cells slots Q (F0 m (pc + 3) ls rest)) : W p l e R s m args below meth c H locs cells slots Q (F0 m pc ls (v :: .ref a :: rest)) :=
  va_putN hx hb hts hin ty0 hty hnm hown hK hP hD hS0 q0 he hc k hk (va_Nw.use rfl (hN.1 _ hl0)) hsame hfin hd hn hfit hl hdg (by rw [hfs, hw]; exact kk)
theorem x_calli {S : Type} {post : Int32 → S → Prop} {w1 w2 : S → va_W} {wr : va_W} (hr : va_Run p l e R s m args below meth c H locs cells slots mc ms (F0 m pc ls st0) rest (va_Qi post (fun u t => xB D (va_A wc H.size) (w1 u) t) (va_A wc H.size) a) (va_A wc H.size))
    (hP : va_P D vwCl ws H) (hD : va_D A ws) (hS : va_S A H0 H locs) (hA : ∀ q, H0.size ≤ q → A q) (isC isR is2 : List Nat) (hC : isC.map (fun i => ws[i]?) = wc.map some) (hR : isR.map (fun i => ws[i]?) = wr.map some) (hn : va_nd isR = true) (hdis : ∀ i ∈ isR, i ∉ isC) (hn2 : va_nd is2 = true) (h2 : ∀ u, is2.map (fun i => (wr ++ w1 u)[i]?) = (w2 u).map some)
    (kk : ∀ (r : Int32) (u : S) (H1 : Heap) (locs1 : List Loc), post r u → va_P D vwCl (w2 u) H1 → va_D A (w2 u) → va_S A H0 H1 locs1 → W p l e R s m args below meth c H1 locs1 (cells + mc) (slots + ms) Q (F0 m (pc + 3) ls (.int r :: rest))) : W p l e R s m args below meth c H locs cells slots Q (F0 m pc ls st0) := by
  have hF := va_free (wc := wc) hD hS hA isC hC
  refine va_calli hr hS (fun q _ h => hF q h) hF (fun r u t H1 locs1 ht hvm hw hB hz hk hS1 => ?_)
  obtain ⟨hP1, hD1⟩ := hB
  rw [ht] at hP1
  obtain ⟨hP', hD'⟩ := va_join hP hD isC isR hC hR hn hdis hk hF hP1 hD1
  exact kk r u H1 locs1 hw (xP_pick hP' (h2 u)) (hD'.sub is2 hn2 (h2 u)) hS1
theorem x_callv {S : Type} {post : S → Prop} {w1 w2 : S → va_W} {wr : va_W} (hr : va_Run p l e R s m args below meth c H locs cells slots mc ms (F0 m pc ls st0) rest (va_Qv post (fun u t => xB D (va_A wc H.size) (w1 u) t) (va_A wc H.size) a) (va_A wc H.size))
    (hP : va_P D vwCl ws H) (hD : va_D A ws) (hS : va_S A H0 H locs) (hA : ∀ q, H0.size ≤ q → A q) (isC isR is2 : List Nat) (hC : isC.map (fun i => ws[i]?) = wc.map some) (hR : isR.map (fun i => ws[i]?) = wr.map some) (hn : va_nd isR = true) (hdis : ∀ i ∈ isR, i ∉ isC) (hn2 : va_nd is2 = true) (h2 : ∀ u, is2.map (fun i => (wr ++ w1 u)[i]?) = (w2 u).map some)
    (kk : ∀ (u : S) (H1 : Heap) (locs1 : List Loc), post u → va_P D vwCl (w2 u) H1 → va_D A (w2 u) → va_S A H0 H1 locs1 → W p l e R s m args below meth c H1 locs1 (cells + mc) (slots + ms) Q (F0 m (pc + 3) ls rest)) : W p l e R s m args below meth c H locs cells slots Q (F0 m pc ls st0) := by
  have hF := va_free (wc := wc) hD hS hA isC hC
  refine va_callv hr hS (fun q _ h => hF q h) hF (fun u t H1 locs1 ht hvm hw hB hz hk hS1 => ?_)
  obtain ⟨hP1, hD1⟩ := hB
  rw [ht] at hP1
  obtain ⟨hP', hD'⟩ := va_join hP hD isC isR hC hR hn hdis hk hF hP1 hD1
  exact kk u H1 locs1 hw (xP_pick hP' (h2 u)) (hD'.sub is2 hn2 (h2 u)) hS1
end CALLS
section THROWS
variable {p : Program} {l : Launch} {e : Env} {R : Room} {s : State} {m : MethodId} {args : Array Value} {below : List Frame} {meth : Method} {c : Code} {H : Heap} {locs : List Loc} {cells slots : Nat} {Q : State → Prop}
variable {cc : ByteArray} {pc : Nat} {ls : Array Slot} {rest st0 : List Value} {D : va_G} {tys : List (ClassId × FieldType)} {ws : va_W} {A : Nat → Prop} {H0 : Heap} {a : Array Value} {mc ms : Nat}
variable {y : MethodName} {wy ws' : List Cond} {rm : Room} {bytes : ByteArray} {maxL nL n index : Nat} {ret : Option FieldType} {Ts : List Cond} {own C : String} {b : Addr} {As : List Value} {wc : va_W} {Qc : Nat → Array Value → State → Outcome → State → Prop} {XC : Nat → String → State → State → Prop}
theorem x_runXV (Sx : CallFix p m c cc nL s args Ts own) (hM : ∀ sz, vx_Met l y wy rm (va_Pc (.ref b :: As) (xPE D tys wc sz)) (Qc sz) (XC sz) mc ms (va_A wc sz)) (hG : GoodIn Ts (wsV own index C y wy)) (hw : wy = Cond.code y bytes maxL ret :: ws') (hrc : rm.cells = mc) (hrs : rm.slots = ms)
    (hd : y.cls = C ∧ y.cls ≠ "java/lang/invoke/MethodHandle" ∧ y.cls ≠ "java/lang/invoke/VarHandle" ∧ (parseMethodDescriptor y.desc).map (fun d => d.parameters.length) = some n) (hR : rm.frames + 1 ≤ R.frames ∧ 8 + (maxL + 11) + rm.locals ≤ R.locals)
    (hN : xN s) (hK : va_K D vwCl tys s) (hP : va_P D vwCl ws H) (hD : va_D A ws) (hS : va_S A H0 H locs) (hA : ∀ q, H0.size ≤ q → A q) (hE : XE A s H0) (isC : List Nat) (hnC : va_nd isC = true) (hC : isC.map (fun i => ws[i]?) = wc.map some) {ci q0 : Nat} {q : vw_C} {fs : List Value} (hc : vwCl[ci]? = some q) (hq : q.1 = C) (he : ws[q0]? = some (b, .inr (ci, fs)))
    (hn : As.length = n) (hsz : ls.size = nL) (hst : st0 = As.reverse ++ .ref b :: rest) (hcat : (rest.map fun v => v.category).sum ≤ 8) (hdg : decode cc pc = .ok (.invokevirtual index, 3)) (hf : cells + mc ≤ R.cells ∧ slots + ms ≤ R.slots) :
    vx_Run p l e R s m args below meth c H locs cells slots mc ms (F0 m pc ls st0) rest (Qc H.size (Value.ref b :: As).toArray) (XC H.size) (va_A wc H.size) :=
  vx_runV Sx (hM H.size) (cwV n Sx.2.2.2.2 hG hw hrc hrs hd hR) ⟨xPE_blind, by have h := va_recv hK hP hc he; rw [hq] at h; exact h, fun U hU hW => ⟨rfl, xPEof hN hK hP hD hS hA hE isC hnC hC hU hW⟩⟩ rfl hn hsz hst (lv_room hcat) hdg hf
theorem x_runXS (Sx : CallFix p m c cc nL s args Ts own) (hM : ∀ sz, vx_Met l y wy rm (va_Pc As (xPE D tys wc sz)) (Qc sz) (XC sz) mc ms (va_A wc sz)) (hG : GoodIn Ts (va_wsS own index y wy)) (hw : wy = Cond.code y bytes maxL ret :: ws') (hrc : rm.cells = mc) (hrs : rm.slots = ms)
    (hd : y.cls ≠ "java/lang/invoke/MethodHandle" ∧ y.cls ≠ "java/lang/invoke/VarHandle" ∧ (parseMethodDescriptor y.desc).map (fun d => d.parameters.length) = some n) (hR : rm.frames + 1 ≤ R.frames ∧ 8 + (maxL + 11) + rm.locals ≤ R.locals)
    (hN : xN s) (hK : va_K D vwCl tys s) (hP : va_P D vwCl ws H) (hD : va_D A ws) (hS : va_S A H0 H locs) (hA : ∀ q, H0.size ≤ q → A q) (hE : XE A s H0) (isC : List Nat) (hnC : va_nd isC = true) (hC : isC.map (fun i => ws[i]?) = wc.map some)
    (hn : As.length = n) (hsz : ls.size = nL) (hst : st0 = As.reverse ++ rest) (hcat : (rest.map fun v => v.category).sum ≤ 8) (hdg : decode cc pc = .ok (.invokestatic index, 3)) (hf : cells + mc ≤ R.cells ∧ slots + ms ≤ R.slots) :
    vx_Run p l e R s m args below meth c H locs cells slots mc ms (F0 m pc ls st0) rest (Qc H.size As.toArray) (XC H.size) (va_A wc H.size) :=
  vx_runS Sx (hM H.size) (va_cwS n Sx.2.2.2.2 hG hw hrc hrs hd hR) ⟨xPE_blind, fun U hU hW => ⟨rfl, xPEof hN hK hP hD hS hA hE isC hnC hC hU hW⟩⟩ rfl hn hsz hst (lv_room hcat) hdg hf
/-- a call that may throw; what is thrown goes on to the caller, whose world is still as at its start -/
theorem x_passed {Qr : Array Value → State → Outcome → State → Prop} {EX EX' : String → Prop} {w0 wr : va_W} {mc' ms' : Nat} {E : String} {ce : Cell} {q9 : Addr} {t : State} {H1 : Heap} {locs1 : List Loc} {k1 n1 : Nat} (htab : ∀ x ∈ c.exceptionTable.toList, False) (hlk : meth.locks = false) (hEE : ∀ E, EX E → EX' E)
    (hP : va_P D vwCl w0 H) (hD : va_D A w0) (hF : ∀ q, va_A wc H.size q → A q) (isC isR is3 : List Nat) (hC : isC.map (fun i => w0[i]?) = wc.map some) (hR : isR.map (fun i => w0[i]?) = wr.map some) (hn : va_nd isR = true) (hdis : ∀ i ∈ isR, i ∉ isC) (hn3 : va_nd is3 = true) (h3 : is3.map (fun i => (wr ++ wc)[i]?) = w0.map some)
    (ht : t.heap = H1) (hB : EX E ∧ xB D (va_A wc H.size) wc t) (hk : ∀ q : Nat, q < H.size → ¬ va_A wc H.size q → H1[q]? = H[q]?) (hS1 : va_S A s.heap H1 locs1) (hce : H1[q9]? = some ce) (hcv : ce.vm = .none) (hcl : s.vm.findClass E = some ce.cls) (h1 : k1 ≤ mc') (h2 : n1 ≤ ms') :
    vx_W p l e R s m args below meth c H1 locs1 k1 n1 (vx_MQ below Qr (xXC D A w0 EX') args s mc' ms' A) (F0 m pc ls rest) q9 := by
  obtain ⟨hE1, hP1, hD1⟩ := hB
  rw [ht] at hP1
  obtain ⟨hP', hD'⟩ := va_join hP hD isC isR hC hR hn hdis hk hF hP1 hD1
  have hP3 := xP_pick hP' h3
  have hD3 := hD'.sub is3 hn3 h3
  exact vx_out (fun x hx => (htab x hx).elim) hlk hce hcv hcl (fun t9 ht9 _ => ⟨(), trivial, ⟨hEE E hE1, by rw [ht9]; exact hP3, hD3⟩, hS1.F ht9⟩) hS1.2.2 h1 h2
theorem x_callXi {S : Type} {post : Int32 → S → Prop} {w1 w2 : S → va_W} {w0 wr : va_W} {Qr : Array Value → State → Outcome → State → Prop} {EX EX' : String → Prop} {mc' ms' : Nat} (hr : vx_Run p l e R s m args below meth c H locs cells slots mc ms (F0 m pc ls st0) rest (va_Qi post (fun u t => xB D (va_A wc H.size) (w1 u) t) (va_A wc H.size) a) (xXC D (va_A wc H.size) wc EX) (va_A wc H.size))
    (htab : ∀ x ∈ c.exceptionTable.toList, False) (hlk : meth.locks = false) (hEE : ∀ E, EX E → EX' E) (hcm : cells + mc ≤ mc' ∧ slots + ms ≤ ms')
    (hP : va_P D vwCl w0 H) (hD : va_D A w0) (hS : va_S A s.heap H locs) (hA : ∀ q, s.heap.size ≤ q → A q) (isC isR is2 is3 : List Nat) (hC : isC.map (fun i => w0[i]?) = wc.map some) (hR : isR.map (fun i => w0[i]?) = wr.map some) (hn : va_nd isR = true) (hdis : ∀ i ∈ isR, i ∉ isC) (hn3 : va_nd is3 = true) (h3 : is3.map (fun i => (wr ++ wc)[i]?) = w0.map some) (hn2 : va_nd is2 = true) (h2 : ∀ u, is2.map (fun i => (wr ++ w1 u)[i]?) = (w2 u).map some)
    (kk : ∀ (r : Int32) (u : S) (H1 : Heap) (locs1 : List Loc), post r u → va_P D vwCl (w2 u) H1 → va_D A (w2 u) → va_S A s.heap H1 locs1 → W p l e R s m args below meth c H1 locs1 (cells + mc) (slots + ms) (vx_MQ below Qr (xXC D A w0 EX') args s mc' ms' A) (F0 m (pc + 3) ls (.int r :: rest))) : W p l e R s m args below meth c H locs cells slots (vx_MQ below Qr (xXC D A w0 EX') args s mc' ms' A) (F0 m pc ls st0) := by
  have hF := va_free (wc := wc) hD hS hA isC hC
  refine vx_calli hr hS (fun q _ h => hF q h) hF (fun q _ h => hF q h) (fun E ce q9 u t H1 locs1 ht hvm hw hB hz hk hS1 hce hcv hcl => ?_) (fun r u t H1 locs1 ht hvm hw hB hz hk hS1 => ?_)
  · exact x_passed htab hlk hEE hP hD hF isC isR is3 hC hR hn hdis hn3 h3 ht hB hk hS1 hce hcv hcl hcm.1 hcm.2
  · obtain ⟨hP1, hD1⟩ := hB
    rw [ht] at hP1
    obtain ⟨hP', hD'⟩ := va_join hP hD isC isR hC hR hn hdis hk hF hP1 hD1
    exact kk r u H1 locs1 hw (xP_pick hP' (h2 u)) (hD'.sub is2 hn2 (h2 u)) hS1
theorem x_callXv {S : Type} {post : S → Prop} {w1 w2 : S → va_W} {w0 wr : va_W} {Qr : Array Value → State → Outcome → State → Prop} {EX EX' : String → Prop} {mc' ms' : Nat} (hr : vx_Run p l e R s m args below meth c H locs cells slots mc ms (F0 m pc ls st0) rest (va_Qv post (fun u t => xB D (va_A wc H.size) (w1 u) t) (va_A wc H.size) a) (xXC D (va_A wc H.size) wc EX) (va_A wc H.size))
    (htab : ∀ x ∈ c.exceptionTable.toList, False) (hlk : meth.locks = false) (hEE : ∀ E, EX E → EX' E) (hcm : cells + mc ≤ mc' ∧ slots + ms ≤ ms')
    (hP : va_P D vwCl w0 H) (hD : va_D A w0) (hS : va_S A s.heap H locs) (hA : ∀ q, s.heap.size ≤ q → A q) (isC isR is2 is3 : List Nat) (hC : isC.map (fun i => w0[i]?) = wc.map some) (hR : isR.map (fun i => w0[i]?) = wr.map some) (hn : va_nd isR = true) (hdis : ∀ i ∈ isR, i ∉ isC) (hn3 : va_nd is3 = true) (h3 : is3.map (fun i => (wr ++ wc)[i]?) = w0.map some) (hn2 : va_nd is2 = true) (h2 : ∀ u, is2.map (fun i => (wr ++ w1 u)[i]?) = (w2 u).map some)
    (kk : ∀ (u : S) (H1 : Heap) (locs1 : List Loc), post u → va_P D vwCl (w2 u) H1 → va_D A (w2 u) → va_S A s.heap H1 locs1 → W p l e R s m args below meth c H1 locs1 (cells + mc) (slots + ms) (vx_MQ below Qr (xXC D A w0 EX') args s mc' ms' A) (F0 m (pc + 3) ls rest)) : W p l e R s m args below meth c H locs cells slots (vx_MQ below Qr (xXC D A w0 EX') args s mc' ms' A) (F0 m pc ls st0) := by
  have hF := va_free (wc := wc) hD hS hA isC hC
  refine vx_callv hr hS (fun q _ h => hF q h) hF (fun q _ h => hF q h) (fun E ce q9 u t H1 locs1 ht hvm hw hB hz hk hS1 hce hcv hcl => ?_) (fun u t H1 locs1 ht hvm hw hB hz hk hS1 => ?_)
  · exact x_passed htab hlk hEE hP hD hF isC isR is3 hC hR hn hdis hn3 h3 ht hB hk hS1 hce hcv hcl hcm.1 hcm.2
  · obtain ⟨hP1, hD1⟩ := hB
    rw [ht] at hP1
    obtain ⟨hP', hD'⟩ := va_join hP hD isC isR hC hR hn hdis hk hF hP1 hD1
    exact kk u H1 locs1 hw (xP_pick hP' (h2 u)) (hD'.sub is2 hn2 (h2 u)) hS1
/-- 'throw new E("text")' out of the class, its world as at its start -/
theorem x_throw {Qr : Array Value → State → Outcome → State → Prop} {EX : String → Prop} {w0 : va_W} {cls text : String} {ik is ic : Nat} (hx : p.tables.exec = Jvm.exec) (hb : c.code = cc) (hml : c.maxLocals = nL) (hfl : l.stackTraces = false) (htab : ∀ x ∈ c.exceptionTable.toList, False) (hlk : meth.locks = false) (hown : s.vm.findClass RX4 = some m.cls) (hts : ∀ w ∈ Ts, w.before args s = true) (hcls : cls = nIO ∨ cls = nIA ∨ cls = nIS)
    (hk : Cond.classLink RX4 ik cls ∈ Ts) (hini : Cond.initialized cls ∈ Ts) (hat : ∀ w ∈ (vx_atS RX4 ic cls ["java/lang/RuntimeException", "java/lang/Exception"]).filter goodWord, w ∈ Ts) (hng : ∀ w ∈ (vx_atS RX4 ic cls ["java/lang/RuntimeException", "java/lang/Exception"]).filter (fun w => !goodWord w), w ∈ Cond.castable cls cls :: xDs.map (fun q => Cond.declares (Bundle.initS q)))
    (hgood : ∀ w ∈ Cond.classLink RX4 ik cls :: Cond.initialized cls :: vx_atS RX4 ic cls ["java/lang/RuntimeException", "java/lang/Exception"], vx_ot w = true)
    (htx : (is, text) ∈ xTx) (hE : XE A s s.heap) (hP : va_P D vwCl w0 H) (hD : va_D A w0) (hS : va_S A s.heap H locs) (hsz : ls.size = nL)
    (d0 : decode cc pc = .ok (.new ik, 3)) (d3 : decode cc (pc + 3) = .ok (.dup, 1)) (d4 : decode cc (pc + 4) = .ok (.ldc is, 2)) (d6 : decode cc (pc + 6) = .ok (.invokespecial ic, 3)) (d9 : decode cc (pc + 9) = .ok (.athrow, 1))
    (hRm : 6 ≤ R.frames ∧ 100 ≤ R.locals ∧ cells + 1 ≤ R.cells ∧ slots + 6 ≤ R.slots) (hcm : cells + 1 ≤ mc ∧ slots + 6 ≤ ms) (hEX : EX cls) :
    W p l e R s m args below meth c H locs cells slots (vx_MQ below Qr (xXC D A w0 EX) args s mc ms A) (F0 m pc ls []) := by
  obtain ⟨sa, hstr⟩ := hE.2.2.1 _ htx
  have hcast : (Cond.castable cls cls).before args s = true := va_Nw.use rfl (hE.2.2.2.2.1 cls (by rcases hcls with h | h | h <;> rw [h] <;> simp))
  exact vx_throwS (text := text) (names := ["java/lang/RuntimeException", "java/lang/Exception"]) (A := A) hx hb hfl hown (by rcases hcls with h | h | h <;> rw [h] <;> decide) (by decide) (hts _ hk) (hts _ hini) hstr (vx_hat (fun w h => hts w (hat w h)) hng (vx_c hcast (fun w h => (List.mem_map.mp h).elim (fun q k => by rw [← k.2]; exact va_Nw.use rfl (hE.2.2.2.2.2 q k.1))))) hgood hE.1 hE.2.1 hS (hsz.trans hml.symm) d0 d3 d4 d6 d9 (fun x hx9 => (htab x hx9).elim) (by show 2 + 3 < R.frames; omega) (by show 0 + (13 * (2 + 1) + 43) ≤ R.locals; omega) hRm.2.2.1 hRm.2.2.2 hlk
    (fun t hvm hz hq => ⟨(), trivial, ⟨hEX, hP.kept (fun k q hk => hq q.1 (hP k q hk).lt), hD⟩, ⟨Nat.le_trans hS.1 hz, fun q h1 h2 => (hq q (Nat.lt_of_lt_of_le h1 hS.1)).trans (hS.2.1 q h1 h2)⟩⟩) hS.2.2 hcm.1 hcm.2
end THROWS
section ENDS
variable {p : Program} {l : Launch} {e : Env} {R : Room} {s : State} {m : MethodId} {args : Array Value} {below : List Frame} {meth : Method} {c : Code} {H : Heap} {locs : List Loc} {cells slots : Nat}
variable {cc : ByteArray} {pc : Nat} {ls : Array Slot} {D : va_G} {ws : va_W} {A : Nat → Prop} {mc ms : Nat}
theorem x_ret_i {S : Type} {post : Int32 → S → Prop} {w1 : S → va_W} {v : Int32} (hx : p.tables.exec = Jvm.exec) (hb : c.code = cc) (hr : meth.sig.returnType = some .int) (hlk : meth.locks = false) (hP : va_P D vwCl ws H) (hD : va_D A ws) (hS : va_S A s.heap H locs) (hdg : decode cc pc = .ok (.ireturn, 1)) (hcm : cells ≤ mc ∧ slots ≤ ms) (u : S) (hp : post v u) (hw : ws = w1 u) :
    W p l e R s m args below meth c H locs cells slots (MQ below (va_Qi post (fun u t => xB D A (w1 u) t) A) args s mc ms A) (F0 m pc ls [.int v]) := by
  subst hw
  exact W.widen hcm.1 hcm.2 (W.iret (v := v) hx hb hr (fun t ht hW => ⟨⟨v, u, rfl, hp, by rw [ht]; exact hP, hD⟩, hS.F ht⟩) hS.2.2 hdg hlk)
theorem x_ret_z {S : Type} {post : Int32 → S → Prop} {w1 : S → va_W} {v : Int32} (hx : p.tables.exec = Jvm.exec) (hb : c.code = cc) (hr : meth.sig.returnType = some .boolean) (hv : v = nI 0 ∨ v = nI 1) (hlk : meth.locks = false) (hP : va_P D vwCl ws H) (hD : va_D A ws) (hS : va_S A s.heap H locs) (hdg : decode cc pc = .ok (.ireturn, 1)) (hcm : cells ≤ mc ∧ slots ≤ ms) (u : S) (hp : post v u) (hw : ws = w1 u) :
    W p l e R s m args below meth c H locs cells slots (MQ below (va_Qi post (fun u t => xB D A (w1 u) t) A) args s mc ms A) (F0 m pc ls [.int v]) := by
  subst hw
  exact W.widen hcm.1 hcm.2 (W.zret (v := v) hx hb hr (by rcases hv with h | h <;> rw [h] <;> decide) (fun t ht hW => ⟨⟨v, u, rfl, hp, by rw [ht]; exact hP, hD⟩, hS.F ht⟩) hS.2.2 hdg hlk)
theorem x_ret_v {S : Type} {post : S → Prop} {w1 : S → va_W} (hx : p.tables.exec = Jvm.exec) (hb : c.code = cc) (hr : meth.sig.returnType = none) (hlk : meth.locks = false) (hP : va_P D vwCl ws H) (hD : va_D A ws) (hS : va_S A s.heap H locs) (hdg : decode cc pc = .ok (.return_, 1)) (hcm : cells ≤ mc ∧ slots ≤ ms) (u : S) (hp : post u) (hw : ws = w1 u) :
    W p l e R s m args below meth c H locs cells slots (MQ below (va_Qv post (fun u t => xB D A (w1 u) t) A) args s mc ms A) (F0 m pc ls []) := by
  subst hw
  exact W.widen hcm.1 hcm.2 (W.vret hx hb hr (fun t ht hW => ⟨⟨u, rfl, hp, by rw [ht]; exact hP, hD⟩, hS.F ht⟩) hS.2.2 hdg hlk)
end ENDS
section LOOPS
variable {p : Program} {l : Launch} {e : Env} {R : Room} {s : State} {m : MethodId} {args : Array Value} {below : List Frame} {meth : Method} {c : Code} {H : Heap} {locs : List Loc} {cells slots : Nat} {Q : State → Prop} {pc : Nat} {ls : Array Slot} {D : va_G} {A : Nat → Prop} {H0 : Heap} {nL : Nat}
/-- a loop: an invariant, a measure that falls, the world, the locals and the stack by the loop's own numbers -/
theorem x_loop {σ : Type} (inv : σ → Prop) (μ : σ → Nat) (w : σ → va_W) (lv : σ → List (Nat × Value)) (st : σ → List Value)
    (body : ∀ x : σ, inv x → (∀ x' : σ, inv x' → μ x' < μ x → ∀ (H : Heap) (locs : List Loc) (ls : Array Slot), va_P D vwCl (w x') H → va_D A (w x') → va_S A H0 H locs → lv_has ls nL (lv x') → W p l e R s m args below meth c H locs cells slots Q (F0 m pc ls (st x'))) →
      ∀ (H : Heap) (locs : List Loc) (ls : Array Slot), va_P D vwCl (w x) H → va_D A (w x) → va_S A H0 H locs → lv_has ls nL (lv x) → W p l e R s m args below meth c H locs cells slots Q (F0 m pc ls (st x)))
    (x0 : σ) (h0 : inv x0) (hP : va_P D vwCl (w x0) H) (hD : va_D A (w x0)) (hS : va_S A H0 H locs) (hl : lv_has ls nL (lv x0)) : W p l e R s m args below meth c H locs cells slots Q (F0 m pc ls (st x0)) := by
  have key : ∀ (d : Nat) (x : σ), inv x → μ x < d → ∀ (H : Heap) (locs : List Loc) (ls : Array Slot), va_P D vwCl (w x) H → va_D A (w x) → va_S A H0 H locs → lv_has ls nL (lv x) → W p l e R s m args below meth c H locs cells slots Q (F0 m pc ls (st x)) := by
    intro d
    induction d with
    | zero => intro x _ hd; exact absurd hd (Nat.not_lt_zero _)
    | succ d ih => intro x hi hd; exact body x hi (fun x' hi' hm => ih x' hi' (by omega))
  exact key (μ x0 + 1) x0 h0 (by omega) H locs ls hP hD hS hl
end LOOPS
section COPY
variable {p : Program} {l : Launch} {e : Env} {R : Room} {s : State} {m : MethodId} {args : Array Value} {below : List Frame} {meth : Method} {c : Code} {H : Heap} {locs : List Loc} {cells slots : Nat} {Q : State → Prop} {pc : Nat} {ls : Array Slot} {rest : List Value} {D : va_G} {tys : List (ClassId × FieldType)} {ws : va_W} {A : Nat → Prop} {H0 : Heap} {a : Nat}
theorem x_cpy {cc : ByteArray} (hexec : p.tables.exec = Jvm.exec) (hb : c.code = cc) (hml : c.maxLocals = ls.size) {own : String} {index : Nat} (hown : s.vm.findClass own = some m.cls) (hlink : (Cond.methodLink own index arraycopyName).before args s = true) (hnat : (Cond.native arraycopyName).before args s = true) (hstat : (Cond.static arraycopyName).before args s = true) (hini : (Cond.initialized "java/lang/System").before args s = true)
    (hK : va_K D vwCl tys s) (hP : va_P D vwCl ws H) (hD : va_D A ws) (hS : va_S A H0 H locs) (q0 q1 t0 t1 : Nat) {a0 : Nat} {c0 c1 : ClassId} {n0 n1 : Nat} {f g0 g : Nat → Int32} {ws' : va_W} (ha0 : ws[q0]? = some (a0, .inl (c0, n0, .inl f))) (ha1 : ws[q1]? = some (a, .inl (c1, n1, .inl g0))) (ht0 : tys[t0]? = some (c0, .int)) (ht1 : tys[t1]? = some (c1, .int))
    {sp dp n : Nat} (h1 : sp < 2 ^ 31) (h2 : dp < 2 ^ 31) (h3 : n < 2 ^ 31) (h4 : sp + n ≤ n0) (h5 : dp + n ≤ n1) (hg : va_cpy f g0 sp dp n = g) (hw : ws.set q1 (a, .inl (c1, n1, .inl g)) = ws')
    (hframes : 1 ≤ R.frames) (hlocals : (rest.map fun v => v.category).sum + (nativeFrameWords "java/lang/System" "arraycopy" 5 + 11) ≤ R.locals) (hdg : decode cc pc = .ok (.invokestatic index, 3))
    (kk : ∀ (H1 : Heap) (locs1 : List Loc), va_P D vwCl ws' H1 → va_D A ws' → va_S A H0 H1 locs1 → W p l e R s m args below meth c H1 locs1 cells slots Q (F0 m (pc + 3) ls rest)) : W p l e R s m args below meth c H locs cells slots Q (F0 m pc ls (.int (nI n) :: .int (nI dp) :: .ref a :: .int (nI sp) :: .ref a0 :: rest)) :=
  va_copyi hexec hb hml hown hlink hnat hstat hini hK hP hD hS q0 q1 t0 t1 ha0 ha1 ht0 ht1 rfl (nI_pos h1) (nI_pos h2) (nI_pos h3) (by rw [nI_clamp h1, nI_clamp h3]; exact h4) (by rw [nI_clamp h2, nI_clamp h3]; exact h5) (fun i _ => rfl) hframes hlocals hdg (by rw [nI_clamp h1, nI_clamp h2, nI_clamp h3, hg, hw]; exact kk)
end COPY
set_option maxRecDepth 20000 in
theorem xg_203_nIO_n : ∀ w ∈ (vx_atS RX4 203 nIO ["java/lang/RuntimeException", "java/lang/Exception"]).filter (fun w => !goodWord w), w ∈ Cond.castable nIO nIO :: xDs.map (fun q => Cond.declares (Bundle.initS q)) := by decide +kernel
set_option maxRecDepth 20000 in
theorem xg_106_nIA_n : ∀ w ∈ (vx_atS RX4 106 nIA ["java/lang/RuntimeException", "java/lang/Exception"]).filter (fun w => !goodWord w), w ∈ Cond.castable nIA nIA :: xDs.map (fun q => Cond.declares (Bundle.initS q)) := by decide +kernel
set_option maxRecDepth 20000 in
theorem xg_72_nIS_n : ∀ w ∈ (vx_atS RX4 72 nIS ["java/lang/RuntimeException", "java/lang/Exception"]).filter (fun w => !goodWord w), w ∈ Cond.castable nIS nIS :: xDs.map (fun q => Cond.declares (Bundle.initS q)) := by decide +kernel
set_option maxRecDepth 20000 in
theorem xg_203_nIO_g : ∀ w ∈ Cond.classLink RX4 199 nIO :: Cond.initialized nIO :: vx_atS RX4 203 nIO ["java/lang/RuntimeException", "java/lang/Exception"], vx_ot w = true := by decide +kernel
set_option maxRecDepth 20000 in
theorem xg_106_nIA_g : ∀ w ∈ Cond.classLink RX4 102 nIA :: Cond.initialized nIA :: vx_atS RX4 106 nIA ["java/lang/RuntimeException", "java/lang/Exception"], vx_ot w = true := by decide +kernel
set_option maxRecDepth 20000 in
theorem xg_72_nIS_g : ∀ w ∈ Cond.classLink RX4 68 nIS :: Cond.initialized nIS :: vx_atS RX4 72 nIS ["java/lang/RuntimeException", "java/lang/Exception"], vx_ot w = true := by decide +kernel
