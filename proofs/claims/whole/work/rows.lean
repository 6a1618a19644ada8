section
-- ===== PART A: goes FIRST, ahead of the names: the tables' words, and 'selects' of the private methods out of them =====
/-- a private method of a class that the tables say can be made, by its rows of tables_1 -/
def lw_okq (q : MethodName × Nat) : Prop := (q.1.cls ≠ "java/lang/invoke/MethodHandle" ∧ q.1.cls ≠ "java/lang/invoke/VarHandle") ∧ Cond.instantiable q.1.cls q.2 ∈ tables_1 ∧ Cond.privateMethod q.1 ∈ tables_1 ∧ Cond.instanceMethod q.1 ∈ tables_1
theorem lw_p0 : lw_okq (⟨"java/lang/Throwable", "fillInStackTrace", "(I)Ljava/lang/Throwable;"⟩, 6) := ⟨⟨by decide +kernel, by decide +kernel⟩, List.mem_of_getElem? (i := 218) (by decide +kernel), List.mem_of_getElem? (i := 216) (by decide +kernel), List.mem_of_getElem? (i := 217) (by decide +kernel)⟩
theorem lw_p1 : lw_okq (⟨"RowReplicator", "checkRoomForChange", "()V"⟩, 5) := ⟨⟨by decide +kernel, by decide +kernel⟩, List.mem_of_getElem? (i := 16) (by decide +kernel), List.mem_of_getElem? (i := 268) (by decide +kernel), List.mem_of_getElem? (i := 269) (by decide +kernel)⟩
theorem lw_p2 : lw_okq (⟨"RowReplicator", "cutLaggards", "()I"⟩, 5) := ⟨⟨by decide +kernel, by decide +kernel⟩, List.mem_of_getElem? (i := 16) (by decide +kernel), List.mem_of_getElem? (i := 326) (by decide +kernel), List.mem_of_getElem? (i := 327) (by decide +kernel)⟩
theorem lw_p3 : lw_okq (⟨"RowReplicator", "forgetCopies", "(LRowReplicator$Publication;I)I"⟩, 5) := ⟨⟨by decide +kernel, by decide +kernel⟩, List.mem_of_getElem? (i := 16) (by decide +kernel), List.mem_of_getElem? (i := 372) (by decide +kernel), List.mem_of_getElem? (i := 373) (by decide +kernel)⟩
theorem lw_p4 : lw_okq (⟨"RowReplicator$Subscriber", "forgetTables", "()V"⟩, 5) := ⟨⟨by decide +kernel, by decide +kernel⟩, List.mem_of_getElem? (i := 100) (by decide +kernel), List.mem_of_getElem? (i := 402) (by decide +kernel), List.mem_of_getElem? (i := 403) (by decide +kernel)⟩
theorem lw_p5 : lw_okq (⟨"RowReplicator$Publication", "lets", "(II)Z"⟩, 4) := ⟨⟨by decide +kernel, by decide +kernel⟩, List.mem_of_getElem? (i := 77) (by decide +kernel), List.mem_of_getElem? (i := 431) (by decide +kernel), List.mem_of_getElem? (i := 432) (by decide +kernel)⟩
theorem lw_p6 : lw_okq (⟨"RowReplicator$Trial", "takeAll", "(LRowReplicator$Publication;I)V"⟩, 2) := ⟨⟨by decide +kernel, by decide +kernel⟩, List.mem_of_getElem? (i := 64) (by decide +kernel), List.mem_of_getElem? (i := 452) (by decide +kernel), List.mem_of_getElem? (i := 453) (by decide +kernel)⟩
theorem lw_p7 : lw_okq (⟨"RowReplicator$Trial", "follows", "(LRowReplicator$Publication;III)Z"⟩, 2) := ⟨⟨by decide +kernel, by decide +kernel⟩, List.mem_of_getElem? (i := 64) (by decide +kernel), List.mem_of_getElem? (i := 456) (by decide +kernel), List.mem_of_getElem? (i := 457) (by decide +kernel)⟩
theorem lw_p8 : lw_okq (⟨"RowReplicatorModel", "isFull", "()Z"⟩, 20) := ⟨⟨by decide +kernel, by decide +kernel⟩, List.mem_of_getElem? (i := 527) (by decide +kernel), List.mem_of_getElem? (i := 614) (by decide +kernel), List.mem_of_getElem? (i := 615) (by decide +kernel)⟩
theorem lw_p9 : lw_okq (⟨"RowReplicatorModel", "fails", "(I)Z"⟩, 20) := ⟨⟨by decide +kernel, by decide +kernel⟩, List.mem_of_getElem? (i := 527) (by decide +kernel), List.mem_of_getElem? (i := 618) (by decide +kernel), List.mem_of_getElem? (i := 619) (by decide +kernel)⟩
theorem lw_p10 : lw_okq (⟨"RowReplicatorModel", "enters", "(III)V"⟩, 20) := ⟨⟨by decide +kernel, by decide +kernel⟩, List.mem_of_getElem? (i := 527) (by decide +kernel), List.mem_of_getElem? (i := 622) (by decide +kernel), List.mem_of_getElem? (i := 623) (by decide +kernel)⟩
theorem lw_p11 : lw_okq (⟨"RowReplicatorModel", "cuts", "()I"⟩, 20) := ⟨⟨by decide +kernel, by decide +kernel⟩, List.mem_of_getElem? (i := 527) (by decide +kernel), List.mem_of_getElem? (i := 641) (by decide +kernel), List.mem_of_getElem? (i := 642) (by decide +kernel)⟩
theorem lw_p12 : lw_okq (⟨"RowReplicatorModel", "forgets", "(II)I"⟩, 20) := ⟨⟨by decide +kernel, by decide +kernel⟩, List.mem_of_getElem? (i := 527) (by decide +kernel), List.mem_of_getElem? (i := 671) (by decide +kernel), List.mem_of_getElem? (i := 672) (by decide +kernel)⟩
theorem lw_p13 : lw_okq (⟨"RowReplicatorModel", "chosenAt", "(IIII)I"⟩, 20) := ⟨⟨by decide +kernel, by decide +kernel⟩, List.mem_of_getElem? (i := 527) (by decide +kernel), List.mem_of_getElem? (i := 691) (by decide +kernel), List.mem_of_getElem? (i := 692) (by decide +kernel)⟩
theorem lw_p14 : lw_okq (⟨"RowReplicatorModel", "counts", "(III)Z"⟩, 20) := ⟨⟨by decide +kernel, by decide +kernel⟩, List.mem_of_getElem? (i := 527) (by decide +kernel), List.mem_of_getElem? (i := 695) (by decide +kernel), List.mem_of_getElem? (i := 696) (by decide +kernel)⟩
theorem lw_p15 : lw_okq (⟨"RowReplicatorModel", "chosen", "(III)I"⟩, 20) := ⟨⟨by decide +kernel, by decide +kernel⟩, List.mem_of_getElem? (i := 527) (by decide +kernel), List.mem_of_getElem? (i := 699) (by decide +kernel), List.mem_of_getElem? (i := 700) (by decide +kernel)⟩
def lw_privs_1 : List (MethodName × Nat) := [(⟨"java/lang/Throwable", "fillInStackTrace", "(I)Ljava/lang/Throwable;"⟩, 6), (⟨"RowReplicator", "checkRoomForChange", "()V"⟩, 5), (⟨"RowReplicator", "cutLaggards", "()I"⟩, 5), (⟨"RowReplicator", "forgetCopies", "(LRowReplicator$Publication;I)I"⟩, 5), (⟨"RowReplicator$Subscriber", "forgetTables", "()V"⟩, 5), (⟨"RowReplicator$Publication", "lets", "(II)Z"⟩, 4), (⟨"RowReplicator$Trial", "takeAll", "(LRowReplicator$Publication;I)V"⟩, 2), (⟨"RowReplicator$Trial", "follows", "(LRowReplicator$Publication;III)Z"⟩, 2), (⟨"RowReplicatorModel", "isFull", "()Z"⟩, 20), (⟨"RowReplicatorModel", "fails", "(I)Z"⟩, 20), (⟨"RowReplicatorModel", "enters", "(III)V"⟩, 20), (⟨"RowReplicatorModel", "cuts", "()I"⟩, 20), (⟨"RowReplicatorModel", "forgets", "(II)I"⟩, 20), (⟨"RowReplicatorModel", "chosenAt", "(IIII)I"⟩, 20), (⟨"RowReplicatorModel", "counts", "(III)Z"⟩, 20), (⟨"RowReplicatorModel", "chosen", "(III)I"⟩, 20)]
theorem lw_r1 : ∀ q ∈ lw_privs_1, lw_okq q := List.forall_mem_cons.mpr ⟨lw_p0, List.forall_mem_cons.mpr ⟨lw_p1, List.forall_mem_cons.mpr ⟨lw_p2, List.forall_mem_cons.mpr ⟨lw_p3, List.forall_mem_cons.mpr ⟨lw_p4, List.forall_mem_cons.mpr ⟨lw_p5, List.forall_mem_cons.mpr ⟨lw_p6, List.forall_mem_cons.mpr ⟨lw_p7, List.forall_mem_cons.mpr ⟨lw_p8, List.forall_mem_cons.mpr ⟨lw_p9, List.forall_mem_cons.mpr ⟨lw_p10, List.forall_mem_cons.mpr ⟨lw_p11, List.forall_mem_cons.mpr ⟨lw_p12, List.forall_mem_cons.mpr ⟨lw_p13, List.forall_mem_cons.mpr ⟨lw_p14, List.forall_mem_cons.mpr ⟨lw_p15, fun _ h => absurd h List.not_mem_nil⟩⟩⟩⟩⟩⟩⟩⟩⟩⟩⟩⟩⟩⟩⟩⟩
theorem lw_p16 : lw_okq (⟨"RowReplicatorModel", "tries", "(I)Z"⟩, 20) := ⟨⟨by decide +kernel, by decide +kernel⟩, List.mem_of_getElem? (i := 527) (by decide +kernel), List.mem_of_getElem? (i := 707) (by decide +kernel), List.mem_of_getElem? (i := 708) (by decide +kernel)⟩
theorem lw_p17 : lw_okq (⟨"RowReplicatorModel", "applies", "(IIII)Z"⟩, 20) := ⟨⟨by decide +kernel, by decide +kernel⟩, List.mem_of_getElem? (i := 527) (by decide +kernel), List.mem_of_getElem? (i := 711) (by decide +kernel), List.mem_of_getElem? (i := 712) (by decide +kernel)⟩
def lw_privs_2 : List (MethodName × Nat) := [(⟨"RowReplicatorModel", "tries", "(I)Z"⟩, 20), (⟨"RowReplicatorModel", "applies", "(IIII)Z"⟩, 20)]
theorem lw_r2 : ∀ q ∈ lw_privs_2, lw_okq q := List.forall_mem_cons.mpr ⟨lw_p16, List.forall_mem_cons.mpr ⟨lw_p17, fun _ h => absurd h List.not_mem_nil⟩⟩
def lw_privs : List (MethodName × Nat) := lw_privs_1 ++ (lw_privs_2)
def lw_tbl : List Cond := k2_sels lw_privs ++ tables_1
theorem lw_privs_ok : ∀ q ∈ lw_privs, lw_okq q := by
  show ∀ q ∈ lw_privs_1 ++ (lw_privs_2), lw_okq q
  exact List.forall_mem_append.mpr ⟨lw_r1, lw_r2⟩
-- ===== end of PART A; then your names; then what follows =====
end
section
/-! ===== BEGIN words of one list among another's, by their places ===== -/
theorem goodIn_r {big : List Cond} (ws : List Cond) (ps : List Nat) (hp : ws = ps.filterMap (fun i => big[i]?)) (h : ws.all goodWord = true) : GoodIn big ws := by
  intro w hw
  have h1 := List.all_eq_true.mp h w hw
  rw [hp] at hw
  obtain ⟨i, -, hi⟩ := List.mem_filterMap.mp hw
  have hm : w ∈ big := by first | exact List.mem_of_getElem? hi | exact List.getElem?_mem hi
  exact ⟨hm, good_of_word h1⟩
theorem goodIn_app {big a b : List Cond} (ha : GoodIn big a) (hb : GoodIn big b) : GoodIn big (a ++ b) := fun w h => (List.mem_append.mp h).elim (ha w) (hb w)
theorem goodIn_ca {big a b : List Cond} {c : Cond} (ha : GoodIn big (c :: a)) (hb : GoodIn big b) : GoodIn big (c :: (a ++ b)) := fun w h => (List.mem_cons.mp h).elim (fun e => ha w (List.mem_cons.mpr (Or.inl e))) (fun h => (List.mem_append.mp h).elim (fun h => ha w (List.mem_cons.mpr (Or.inr h))) (hb w))
theorem goodIn_sub {big ws : List Cond} (hm : ∀ w ∈ ws, w ∈ big) (h : ws.all goodWord = true) : GoodIn big ws := fun w hw => ⟨hm w hw, good_of_word (List.all_eq_true.mp h w hw)⟩
/-! ===== END ===== -/

/-! ===== BEGIN exceptions that leave a method, and their catching by the caller (launches without stack traces) ===== -/
section VXA
/-! The laws vx_back, vx_callV, vx_callS, vx_callSW, vx_throw0, vx_throwS follow proofs of the library, with one case more: JvmDerived/Free/Laws.lean (Back.of_free), Shelf42/LK1.lean (callV, callS), Shelf/KitTraced.lean (throwNew0V, throwNewS). -/
/-- where a method has thrown q: the class by its name, the cell, what was written, the world -/
def vx_T (XC : String → State → State → Prop) (st : State) (q : Addr) (t : State) (mc ms : Nat) (free : Addr → Prop) : Prop :=
  ∃ (E : String) (ce : Cell) (L : List Loc), XC E st t ∧ t.heap[q]? = some ce ∧ ce.vm = .none ∧ st.vm.findClass E = some ce.cls ∧ st.WarmedH t.vm ∧ st.sameButNew ({ t with vm := st.vm } : State) L mc ms ∧ ∀ z ∈ L, free z.base
def vx_Q (Qc : Array Value → State → Outcome → State → Prop) (XC : String → State → State → Prop) (mc ms : Nat) (free : Addr → Prop) : Array Value → State → Outcome → State → Prop := fun a st o t =>
  (Qc a st o t ∧ ∃ L, FrameEnd st o t L mc ms ∧ ∀ q ∈ L, free q.base) ∨ ∃ q, o = .threw q ∧ vx_T XC st q t mc ms free
/-- a callee that returns or throws -/
def vx_Met (l : Launch) (y : MethodName) (ws : List Cond) (rm : Room) (Pc : Array Value → State → Prop) (Qc : Array Value → State → Outcome → State → Prop) (XC : String → State → State → Prop) (mc ms : Nat) (free : Addr → Prop) : Prop :=
  MetFree l y (headSpec ws rm) Pc (fun _ _ _ _ _ => True) (vx_Q Qc XC mc ms free)
def vx_Post (XC : String → State → State → Prop) (mc ms : Nat) (free : Addr → Prop) : Pt → Array Value → Addr → Pt → Prop := fun A a q B =>
  ∃ (g : JFrame) (mk : MethodId) (t : State) (L : List Loc) (E : String) (ce : Cell), B.U.heap = t.heap ∧ B.U.vm = t.vm ∧ XC E (A.U.calling g mk a) t ∧ t.heap[q]? = some ce ∧ ce.vm = .none ∧ A.U.vm.findClass E = some ce.cls ∧ B.locs = A.locs ++ L ∧ (∀ z ∈ L, free z.base) ∧ B.cells = A.cells + mc ∧ B.slots = A.slots + ms
def vx_Back (l : Launch) (R : Room) (p : Program) (e : Env) (below : List Frame) (s : State) (sargs : Array Value) (y : MethodName) (len W9 : Nat)
    (Pre : Pt → Array Value → Prop) (Post : Pt → Array Value → Option Value → Pt → Prop) (PostX : Pt → Array Value → Addr → Pt → Prop) : Prop :=
  ∀ (m : MethodId) (meth : Method) (c : Code) (A : Pt) (g : JFrame) (ig : Instr) (mk : MethodId) (a : Array Value),
    Stand p l e R s m sargs below meth c A.U A.locs A.cells A.slots → g.method = m → g.locals.size = c.maxLocals → decode c.code g.pc = .ok (ig, len) →
    2 * g.monitorRoom + (g.stack.map fun v => v.category).sum ≤ W9 → A.U.methodNamed? y = some mk → Pre A a →
    (∃ (v : Option Value) (B : Pt), Stand p l e R s m sargs below meth c B.U B.locs B.cells B.slots ∧ Post A a v B ∧
      Steps p.tables e below (doInvoke e (A.U.setTop g) [] mk a).1 (B.U.setTop { g with pc := g.pc + len, stack := v.toList ++ g.stack })) ∨
    (∃ (q : Addr) (B : Pt), Stand p l e R s m sargs below meth c B.U B.locs B.cells B.slots ∧ PostX A a q B ∧
      Steps p.tables e below (doInvoke e (A.U.setTop g) [] mk a).1 ((B.U.setTop g).pushFrame (.throwing q)))
section Payer
variable {l : Launch} {R : Room} {p : Program} {e : Env} {below : List Frame} {s : State} {sargs : Array Value} {y : MethodName} {len W9 : Nat}
theorem vx_back {ws : List Cond} {rm : Room} {Pc : Array Value → State → Prop} {Qc : Array Value → State → Outcome → State → Prop} {XC : String → State → State → Prop} {mc ms : Nat} {free : Addr → Prop} {bytes : ByteArray} {maxL : Nat} {ret : Option FieldType}
    (hM : vx_Met l y ws rm Pc Qc XC mc ms free) (hblind : FrameBlind Pc) (hrc : rm.cells = mc) (hrs : rm.slots = ms)
    (hframes : rm.frames + 1 ≤ R.frames) (hlocals : W9 + (maxL + 11) + rm.locals ≤ R.locals)
    (hws : ∀ w ∈ ws, ∀ a' U, s.WarmedH U.vm → w.before a' U = true) (hcode : Cond.code y bytes maxL ret ∈ ws) (hinit : ∀ a' U, s.WarmedH U.vm → (Cond.initialized y.cls).before a' U = true) :
    vx_Back l R p e below s sargs y len W9 (PreOf R mc ms Pc) (PostOf Qc mc ms free) (vx_Post XC mc ms free) := by
  intro m meth c A g ig mk a X hg hsize hdg hW hn hp
  have h1 : (headSpec ws rm).pre.before a A.U = true := atoms_intro fun w hw => hws w hw _ _ X.warmed
  have h2 : (Cond.code y bytes maxL ret).before a A.U = true := hws _ hcode _ _ X.warmed
  have h3 : (Cond.initialized y.cls).before a A.U = true := hinit _ _ X.warmed
  have h4 : A.cells + (headSpec ws rm).room.cells ≤ R.cells := by rw [show (headSpec ws rm).room.cells = mc from hrc]; exact hp.1
  have h5 : A.slots + (headSpec ws rm).room.slots ≤ R.slots := by rw [show (headSpec ws rm).room.slots = ms from hrs]; exact hp.2.1
  have hPc : Pc a (A.U.calling g mk a) := hblind _ _ _ _ hp.2.2
  obtain ⟨U, Ls, c0, s0⟩ := A
  dsimp only [Pt.U, Pt.locs, Pt.cells, Pt.slots] at h1 h2 h3 h4 h5 X hn hPc ⊢
  obtain ⟨methY, cY, hmY, hcY, -, hlY, -, -, -, -⟩ := Cond.code_spec hn h2
  obtain ⟨kY, hkY, -⟩ := className_of_methodNamed hn
  have hinitY : kY.init = .initialized := Cond.initialized_spec (findClass_of_methodNamed hn) hkY h3
  have h : At U g.method c below := by rw [hg]; exact X.here
  have hlocals9 : W9 + (maxL + 11) + (headSpec ws rm).room.locals ≤ R.locals := hlocals
  have happ : (headSpec ws rm).appliesLoose y e.platform (U.calling g mk a) = true :=
    Spec.appliesLoose_calling (g := g) h hdg hn hkY hinitY
      (X.room_calling (g := g) (R' := (headSpec ws rm).room) hsize hmY hcY hframes (by rw [hlY]; omega) h4 h5) h1
  obtain ⟨mid, hmid⟩ := h.above
  have hfr : (U.setTop g).frames = (.java g :: mid) ++ below := by rw [State.frames_setTop' g h.top, hmid]; rfl
  obtain ⟨o, s₂, hsteps, -, hend, hq⟩ := Steps.callFree hM p X.admits X.cas X.clock (acts := []) hfr happ hPc trivial
  have hq' : vx_Q Qc XC mc ms free a (U.calling g mk a) o s₂ := hq
  rw [State.frames_setTop' g h.top] at hend
  obtain ⟨g₀, hg0⟩ := Option.isSome_iff_exists.mp h.top
  obtain ⟨r, hr⟩ := State.topJava?_eq_some.mp hg0
  have hr' : (({ U with heap := s₂.heap, slotsUsed := s₂.slotsUsed } : State).setVm s₂.vm).frames = .java g₀ :: r := hr
  rcases hq' with ⟨hqc, L, hfe, hL⟩ | ⟨q, rfl, E, ce, L, hx, hce, hcv, hcl, hW₂, hsm, hL⟩
  · obtain ⟨⟨v, rfl⟩, hW₂, e2, q2, q3, q4, q5, q6⟩ := id hfe
    have e3 : s₂ = ({ (U.calling g mk a).setFrames s₂.frames with heap := s₂.heap, slotsUsed := s₂.slotsUsed } : State).setVm s₂.vm := by
      have : s₂ = ({ s₂ with vm := (U.calling g mk a).vm } : State).setVm s₂.vm := rfl
      rw [e2] at this
      exact this
    obtain ⟨c₂, i₂, len₂, hc₂, hd₂, hf₂⟩ := hend
    have hW' : U.WarmedH s₂.vm := hW₂
    have hcc : c₂ = c := by
      have h1 : s₂.code? g.method = U.code? g.method := by
        rw [State.code?_eq, State.code?_eq, hW'.alike.method?]
      exact Option.some.inj (hc₂.symm.trans (h1.trans h.code))
    subst hcc
    have hlen : len₂ = len := by rw [hdg] at hd₂; cases hd₂; rfl
    subst hlen
    have hs₂ : s₂ = (({ U with heap := s₂.heap, slotsUsed := s₂.slotsUsed } : State).setVm s₂.vm).setTop { g with pc := g.pc + len₂, stack := v.toList ++ g.stack } := by
      refine e3.trans ?_
      rw [hf₂, State.calling_eq h.top, State.setFrames_setFrames, State.setTop_of_frames _ hr', hr]
      rfl
    have hsame : U.sameButNew ({ U with heap := s₂.heap, slotsUsed := s₂.slotsUsed } : State) L mc ms := by
      refine ⟨?_, q2, q3, q4, q5, q6⟩
      obtain ⟨t, ht, -⟩ := State.frames_cons hr
      show ({ U with heap := s₂.heap, slotsUsed := s₂.slotsUsed } : State) = { U.setFrames U.frames with heap := s₂.heap, slotsUsed := s₂.slotsUsed }
      rw [State.setFrames_self ht]
    subst hg
    refine Or.inl ⟨v, ⟨(({ U with heap := s₂.heap, slotsUsed := s₂.slotsUsed } : State).setVm s₂.vm), Ls ++ L, c0 + mc, s0 + ms⟩,
      ⟨X.admits, X.cas, X.clock, X.frames, X.room, X.hears, X.method, X.code, (X.here.setHeapUsed s₂.heap s₂.slotsUsed).setVm hW'.alike, X.tail, State.WarmedH.trans X.warmed hW', X.limits, X.bytes, X.same.trans (hsame.setVm s.vm)⟩,
      ⟨g, mk, s₂, L, rfl, rfl, hqc, rfl, hL, rfl, rfl⟩, ?_⟩
    show Steps p.tables e below _ ((({ U with heap := s₂.heap, slotsUsed := s₂.slotsUsed } : State).setVm s₂.vm).setTop { g with pc := g.pc + len₂, stack := v.toList ++ g.stack })
    rw [← hs₂]
    exact hsteps
  · obtain ⟨e2, q2, q3, q4, q5, q6⟩ := id hsm
    have e3 : s₂ = ({ (U.calling g mk a).setFrames s₂.frames with heap := s₂.heap, slotsUsed := s₂.slotsUsed } : State).setVm s₂.vm := by
      have : s₂ = ({ s₂ with vm := (U.calling g mk a).vm } : State).setVm s₂.vm := rfl
      rw [e2] at this
      exact this
    have hf₂ : s₂.frames = .throwing q :: .java g :: U.frames.tail := hend
    have hW' : U.WarmedH s₂.vm := hW₂
    have hs₂ : s₂ = ((({ U with heap := s₂.heap, slotsUsed := s₂.slotsUsed } : State).setVm s₂.vm).setTop g).pushFrame (.throwing q) := by
      refine e3.trans ?_
      rw [hf₂, State.calling_eq h.top, State.setFrames_setFrames, State.pushFrame, State.frames_setTop _ hr', State.setTop_of_frames _ hr', State.setFrames_setFrames, hr]
      rfl
    have hsame : U.sameButNew ({ U with heap := s₂.heap, slotsUsed := s₂.slotsUsed } : State) L mc ms := by
      refine ⟨?_, q2, q3, q4, q5, q6⟩
      obtain ⟨t, ht, -⟩ := State.frames_cons hr
      show ({ U with heap := s₂.heap, slotsUsed := s₂.slotsUsed } : State) = { U.setFrames U.frames with heap := s₂.heap, slotsUsed := s₂.slotsUsed }
      rw [State.setFrames_self ht]
    subst hg
    refine Or.inr ⟨q, ⟨(({ U with heap := s₂.heap, slotsUsed := s₂.slotsUsed } : State).setVm s₂.vm), Ls ++ L, c0 + mc, s0 + ms⟩,
      ⟨X.admits, X.cas, X.clock, X.frames, X.room, X.hears, X.method, X.code, (X.here.setHeapUsed s₂.heap s₂.slotsUsed).setVm hW'.alike, X.tail, State.WarmedH.trans X.warmed hW', X.limits, X.bytes, X.same.trans (hsame.setVm s.vm)⟩,
      ⟨g, mk, s₂, L, E, ce, rfl, rfl, hx, hce, hcv, hcl, rfl, hL, rfl, rfl⟩, ?_⟩
    show Steps p.tables e below _ (((({ U with heap := s₂.heap, slotsUsed := s₂.slotsUsed } : State).setVm s₂.vm).setTop g).pushFrame (.throwing q))
    rw [← hs₂]
    exact hsteps
end Payer
section Calls
variable {p : Program} {l : Launch} {e : Env} {R : Room} {s : State} {m : MethodId} {args : Array Value} {below : List Frame} {meth : Method} {c : Code} {T : State} {locs : List Loc} {cells slots : Nat}
theorem vx_callV (X : Stand p l e R s m args below meth c T locs cells slots) (hexec : p.tables.exec = Jvm.exec) {own C : String} {index : Nat} {y : MethodName} {bytes : ByteArray} {maxL : Nat} {ret : Option FieldType}
    (hown : s.vm.findClass own = some m.cls) (hlink : (Cond.methodLink own index y).before args s = true) (hinst : (Cond.instanceMethod y).before args s = true) (hsel : (Cond.selects C y y).before args s = true)
    (hcode : (Cond.code y bytes maxL ret).before args s = true) (hy : y.cls ≠ "java/lang/invoke/MethodHandle" ∧ y.cls ≠ "java/lang/invoke/VarHandle")
    {W9 : Nat} {Pre : Pt → Array Value → Prop} {Post : Pt → Array Value → Option Value → Pt → Prop} {PostX : Pt → Array Value → Addr → Pt → Prop} (hK : vx_Back l R p e below s args y 3 W9 Pre Post PostX)
    {b : Addr} {cellB : Cell} (hcell : T.heap[b]? = some cellB) (hobj : cellB.vm.isStatics = false) (hcls : s.vm.findClass C = some cellB.cls)
    {g : JFrame} (hg : g.method = m) (hsize : g.locals.size = c.maxLocals) {argsL rest : List Value} (hlen : ∀ sig, parseMethodDescriptor y.desc = some sig → argsL.length = sig.parameters.length)
    (hstack : g.stack = argsL.reverse ++ .ref b :: rest) (hW : 2 * g.monitorRoom + (rest.map fun v => v.category).sum ≤ W9) (hdg : decode c.code g.pc = .ok (.invokevirtual index, 3))
    (hpre : ∀ vm₁, s.WarmedH vm₁ → Pre ⟨T.setVm vm₁, locs, cells, slots⟩ (Value.ref b :: argsL).toArray) :
    (∃ (v : Option Value) (vm₁ : Vm) (B : Pt), s.WarmedH vm₁ ∧ Stand p l e R s m args below meth c B.U B.locs B.cells B.slots ∧ Post ⟨T.setVm vm₁, locs, cells, slots⟩ (Value.ref b :: argsL).toArray v B ∧
      ∀ target, Steps p.tables e below (B.U.setTop { g with pc := g.pc + 3, stack := v.toList ++ rest }) target → Steps p.tables e below (T.setTop g) target) ∨
    (∃ (q : Addr) (vm₁ : Vm) (B : Pt), s.WarmedH vm₁ ∧ Stand p l e R s m args below meth c B.U B.locs B.cells B.slots ∧ PostX ⟨T.setVm vm₁, locs, cells, slots⟩ (Value.ref b :: argsL).toArray q B ∧
      Steps p.tables e below (T.setTop g) ((B.U.setTop { g with stack := rest }).pushFrame (.throwing q))) := by
  obtain ⟨mk, methM, hnamed, hmethM, hstM, habM⟩ := Cond.instanceMethod_spec hinst
  obtain ⟨methM', cM, hmethM', -, -, -, -, -, -, hsigM⟩ := Cond.code_spec hnamed hcode
  cases hmethM.symm.trans hmethM'
  obtain ⟨c2, r2, m2, q1, q2, q3, q4, kP, hkP, hkPi⟩ := Cond.selects_spec hsel
  cases hcls.symm.trans q1
  cases (State.methodFound?_of_named hnamed hy).symm.trans q2
  cases hnamed.symm.trans q3
  have hselP : selectMethod e.platform s.vm cellB.cls mk = .method mk := by rw [Launch.admits_selectMethod X.admits]; exact q4
  obtain ⟨vm₁, X₁, hstep₁⟩ := X.invokevirtual hexec hown hlink hnamed hmethM hstM hkP hkPi hy (a := b) (cell := cellB) hcell
    (fun z h => by rw [h] at hobj; cases hobj) hselP hmethM habM hkP hkPi (g := g) hg (argsL := argsL) (rest := rest) (hlen _ hsigM) hstack hdg
  rcases hK m meth c ⟨T.setVm vm₁, locs, cells, slots⟩ { g with stack := rest } (.invokevirtual index) mk (Value.ref b :: argsL).toArray X₁ hg hsize hdg hW (X₁.named hnamed) (hpre vm₁ X₁.warmed) with ⟨v, B, X', hpost, hsteps⟩ | ⟨q, B, X', hpost, hsteps⟩
  · exact Or.inl ⟨v, vm₁, B, X₁.warmed, X', hpost, fun target h => hstep₁ _ fun acts => by rw [doInvoke_state]; exact hsteps.trans h⟩
  · exact Or.inr ⟨q, vm₁, B, X₁.warmed, X', hpost, hstep₁ _ fun acts => by rw [doInvoke_state]; exact hsteps⟩
theorem vx_callS (X : Stand p l e R s m args below meth c T locs cells slots) (hexec : p.tables.exec = Jvm.exec) {own : String} {index : Nat} {y : MethodName} {bytes : ByteArray} {maxL : Nat} {ret : Option FieldType}
    (hown : s.vm.findClass own = some m.cls) (hlink : (Cond.methodLink own index y).before args s = true) (hstat : (Cond.static y).before args s = true) (hinit : (Cond.initialized y.cls).before args s = true)
    (hcode : (Cond.code y bytes maxL ret).before args s = true) (hy : y.cls ≠ "java/lang/invoke/MethodHandle" ∧ y.cls ≠ "java/lang/invoke/VarHandle")
    {W9 : Nat} {Pre : Pt → Array Value → Prop} {Post : Pt → Array Value → Option Value → Pt → Prop} {PostX : Pt → Array Value → Addr → Pt → Prop} (hK : vx_Back l R p e below s args y 3 W9 Pre Post PostX)
    {g : JFrame} (hg : g.method = m) (hsize : g.locals.size = c.maxLocals) {argsL rest : List Value} (hlen : ∀ sig, parseMethodDescriptor y.desc = some sig → argsL.length = sig.parameters.length)
    (hstack : g.stack = argsL.reverse ++ rest) (hW : 2 * g.monitorRoom + (rest.map fun v => v.category).sum ≤ W9) (hdg : decode c.code g.pc = .ok (.invokestatic index, 3))
    (hpre : ∀ vm₁, s.WarmedH vm₁ → Pre ⟨T.setVm vm₁, locs, cells, slots⟩ argsL.toArray) :
    (∃ (v : Option Value) (vm₁ : Vm) (B : Pt), s.WarmedH vm₁ ∧ Stand p l e R s m args below meth c B.U B.locs B.cells B.slots ∧ Post ⟨T.setVm vm₁, locs, cells, slots⟩ argsL.toArray v B ∧
      ∀ target, Steps p.tables e below (B.U.setTop { g with pc := g.pc + 3, stack := v.toList ++ rest }) target → Steps p.tables e below (T.setTop g) target) ∨
    (∃ (q : Addr) (vm₁ : Vm) (B : Pt), s.WarmedH vm₁ ∧ Stand p l e R s m args below meth c B.U B.locs B.cells B.slots ∧ PostX ⟨T.setVm vm₁, locs, cells, slots⟩ argsL.toArray q B ∧
      Steps p.tables e below (T.setTop g) ((B.U.setTop { g with stack := rest }).pushFrame (.throwing q))) := by
  obtain ⟨mk, hnamed⟩ := Cond.code_named hcode
  obtain ⟨methM, cM, hmethM, -, -, -, -, -, -, hsigM⟩ := Cond.code_spec hnamed hcode
  have hstatic : methM.isStatic = true := Cond.static_spec hnamed hmethM hstat
  obtain ⟨kP, hkP, -⟩ := className_of_methodNamed hnamed
  have hinitP : kP.init = .initialized := Cond.initialized_spec (findClass_of_methodNamed hnamed) hkP hinit
  obtain ⟨vm₁, X₁, hstep₁⟩ := X.invokestatic hexec hown hlink hnamed hmethM hstatic hkP hinitP hy (g := g) hg (argsL := argsL) (rest := rest) (hlen _ hsigM) hstack hdg
  rcases hK m meth c ⟨T.setVm vm₁, locs, cells, slots⟩ { g with stack := rest } (.invokestatic index) mk argsL.toArray X₁ hg hsize hdg hW (X₁.named hnamed) (hpre vm₁ X₁.warmed) with ⟨v, B, X', hpost, hsteps⟩ | ⟨q, B, X', hpost, hsteps⟩
  · exact Or.inl ⟨v, vm₁, B, X₁.warmed, X', hpost, fun target h => hstep₁ _ fun acts => by rw [doInvoke_state]; exact hsteps.trans h⟩
  · exact Or.inr ⟨q, vm₁, B, X₁.warmed, X', hpost, hstep₁ _ fun acts => by rw [doInvoke_state]; exact hsteps⟩
end Calls
theorem vx_cls {s : State} {T : State} {vm₁ : Vm} {E : String} {k : ClassId} (hW : s.WarmedH vm₁) (h : (T.setVm vm₁).vm.findClass E = some k) : s.vm.findClass E = some k := by
  have h1 : vm₁.findClass E = some k := h
  rw [hW.alike.findClass] at h1
  exact h1
/-- the method's frame g, with q thrown over it -/
def vx_W (p : Program) (l : Launch) (e : Env) (R : Room) (s : State) (m : MethodId) (args : Array Value) (below : List Frame) (meth : Method) (c : Code) (H : Heap) (locs : List Loc) (cells slots : Nat) (Q : State → Prop) (g : JFrame) (q : Addr) : Prop :=
  ∀ T : State, T.heap = H → Stand p l e R s m args below meth c T locs cells slots → ∃ t, Steps p.tables e below ((T.setTop g).pushFrame (.throwing q)) t ∧ Q t
def vx_Run (p : Program) (l : Launch) (e : Env) (R : Room) (s : State) (m : MethodId) (args : Array Value) (below : List Frame) (meth : Method) (c : Code) (H : Heap) (locs : List Loc) (cells slots mc ms : Nat) (g : JFrame) (rest : List Value) (Qa : State → Outcome → State → Prop) (XC : String → State → State → Prop) (free : Addr → Prop) : Prop :=
  ∀ T : State, T.heap = H → Stand p l e R s m args below meth c T locs cells slots →
    (∃ (v : Option Value) (st₀ t T' : State) (L : List Loc), st₀.heap = H ∧ Stand p l e R s m args below meth c T' (locs ++ L) (cells + mc) (slots + ms) ∧ (∀ q ∈ L, free q.base) ∧ T'.heap = t.heap ∧ T'.vm = t.vm ∧ Qa st₀ (.returned v) t ∧
      Goes p e below T g T' { g with pc := g.pc + 3, stack := v.toList ++ rest }) ∨
    (∃ (q : Addr) (st₀ t T' : State) (L : List Loc) (E : String) (ce : Cell), st₀.heap = H ∧ Stand p l e R s m args below meth c T' (locs ++ L) (cells + mc) (slots + ms) ∧ (∀ z ∈ L, free z.base) ∧ T'.heap = t.heap ∧ T'.vm = t.vm ∧ XC E st₀ t ∧ t.heap[q]? = some ce ∧ ce.vm = .none ∧ s.vm.findClass E = some ce.cls ∧
      Steps p.tables e below (T.setTop g) ((T'.setTop { g with stack := rest }).pushFrame (.throwing q)))
def vx_X {S : Type} (px : S → Prop) (B : String → S → State → Prop) (A : Nat → Prop) : String → State → State → Prop := fun E st t => ∃ u : S, px u ∧ B E u t ∧ va_F A st t
section Runs
variable {p : Program} {l : Launch} {e : Env} {R : Room} {s : State} {m : MethodId} {args : Array Value} {below : List Frame} {meth : Method} {c : Code} {H : Heap} {locs : List Loc} {cells slots : Nat}
variable {y : MethodName} {bytes cc : ByteArray} {maxL nL mc ms n index : Nat} {ret : Option FieldType} {ws : List Cond} {rm : Room} {Pc : Array Value → State → Prop} {Qc : Array Value → State → Outcome → State → Prop} {XC : String → State → State → Prop} {free : Addr → Prop} {Ts : List Cond} {own C : String} {b : Addr} {As rest : List Value} {g : JFrame}
theorem vx_callBack (cb : CallB R s args own index y bytes maxL ret ws rm mc ms n) (hM : vx_Met l y ws rm Pc Qc XC mc ms free) (hbl : FrameBlind Pc) : vx_Back l R p e below s args y 3 8 (PreOf R mc ms Pc) (PostOf Qc mc ms free) (vx_Post XC mc ms free) := by
  obtain ⟨hrc, hrs, hfr, hlo, hws, hcw, -, hini, -⟩ := cb
  exact vx_back (bytes := bytes) (maxL := maxL) (ret := ret) hM hbl hrc hrs hfr hlo hws hcw (fun a' U hW => word_at hW (Or.inl (by first | rfl | simp [Cond.onTables, Cond.keeps, Cond.steady])) hini)
theorem vx_runV (S : CallFix p m c cc nL s args Ts own) (hM : vx_Met l y ws rm Pc Qc XC mc ms free) (cw : CallW R s args own C index y bytes maxL ret ws rm mc ms n) (hp : PreV s H C b Pc As)
    (hg : g.method = m) (hn : As.length = n) (hsize : g.locals.size = nL) (hstack : g.stack = As.reverse ++ .ref b :: rest) (hW : 2 * g.monitorRoom + (rest.map fun v => v.category).sum ≤ 8) (hdg : decode cc g.pc = .ok (.invokevirtual index, 3)) (hf : cells + mc ≤ R.cells ∧ slots + ms ≤ R.slots) :
    vx_Run p l e R s m args below meth c H locs cells slots mc ms g rest (Qc (Value.ref b :: As).toArray) XC free := by
  have hK : vx_Back l R p e below s args y 3 8 (PreOf R mc ms Pc) (PostOf Qc mc ms free) (vx_Post XC mc ms free) := vx_callBack cw.1 hM hp.1
  obtain ⟨⟨-, -, -, -, -, -, hcode, -, hy, hlen, hl⟩, hin, hse⟩ := cw
  obtain ⟨hx, hb, hml, ho, -⟩ := S
  obtain ⟨-, ⟨cellB, hcB, hoB, hclB⟩, hPc⟩ := hp
  intro T hT X
  rcases vx_callV X hx (C := C) (bytes := bytes) (maxL := maxL) (ret := ret) ho hl hin hse hcode hy hK (by rw [hT]; exact hcB) hoB hclB hg (hsize.trans hml.symm) (argsL := As) (rest := rest) (fun sig h => hn.trans (hlen sig h)) hstack hW (by rw [hb]; exact hdg)
    (fun vm₁ hW₁ => ⟨hf.1, hf.2, hPc (T.setVm vm₁) hT hW₁⟩) with ⟨v, vm₁, ⟨U', l2, c2, s2⟩, hW₁, X', ⟨g', mk, t, L, e1, e2, hq, h1, hL, h2, h3⟩, st⟩ | ⟨q, vm₁, ⟨U', l2, c2, s2⟩, hW₁, X', ⟨g', mk, t, L, E, ce, e1, e2, hq, hce, hcv, hcl, h1, hL, h2, h3⟩, st⟩
  · dsimp only [Pt.U, Pt.locs, Pt.cells, Pt.slots] at X' e1 e2 h1 h2 h3 st
    subst h1; subst h2; subst h3
    exact Or.inl ⟨v, (T.setVm vm₁).calling g' mk (Value.ref b :: As).toArray, t, U', L, hT, X', hL, e1, e2, hq, st⟩
  · dsimp only [Pt.U, Pt.locs, Pt.cells, Pt.slots] at X' e1 e2 h1 h2 h3 st hcl
    subst h1; subst h2; subst h3
    exact Or.inr ⟨q, (T.setVm vm₁).calling g' mk (Value.ref b :: As).toArray, t, U', L, E, ce, hT, X', hL, e1, e2, hq, hce, hcv, vx_cls hW₁ hcl, st⟩
theorem vx_runS (S : CallFix p m c cc nL s args Ts own) (hM : vx_Met l y ws rm Pc Qc XC mc ms free) (cw : CallB R s args own index y bytes maxL ret ws rm mc ms n ∧ (Cond.static y).before args s = true) (hp : PreS s H Pc As)
    (hg : g.method = m) (hn : As.length = n) (hsize : g.locals.size = nL) (hstack : g.stack = As.reverse ++ rest) (hW : 2 * g.monitorRoom + (rest.map fun v => v.category).sum ≤ 8) (hdg : decode cc g.pc = .ok (.invokestatic index, 3)) (hf : cells + mc ≤ R.cells ∧ slots + ms ≤ R.slots) :
    vx_Run p l e R s m args below meth c H locs cells slots mc ms g rest (Qc As.toArray) XC free := by
  have hK : vx_Back l R p e below s args y 3 8 (PreOf R mc ms Pc) (PostOf Qc mc ms free) (vx_Post XC mc ms free) := vx_callBack cw.1 hM hp.1
  obtain ⟨⟨-, -, -, -, -, -, hcode, hini, hy, hlen, hl⟩, hstt⟩ := cw
  obtain ⟨hx, hb, hml, ho, -⟩ := S
  intro T hT X
  rcases vx_callS X hx (bytes := bytes) (maxL := maxL) (ret := ret) ho hl hstt hini hcode hy hK hg (hsize.trans hml.symm) (argsL := As) (rest := rest) (fun sig h => hn.trans (hlen sig h)) hstack hW (by rw [hb]; exact hdg)
    (fun vm₁ hW₁ => ⟨hf.1, hf.2, hp.2 (T.setVm vm₁) hT hW₁⟩) with ⟨v, vm₁, ⟨U', l2, c2, s2⟩, hW₁, X', ⟨g', mk, t, L, e1, e2, hq, h1, hL, h2, h3⟩, st⟩ | ⟨q, vm₁, ⟨U', l2, c2, s2⟩, hW₁, X', ⟨g', mk, t, L, E, ce, e1, e2, hq, hce, hcv, hcl, h1, hL, h2, h3⟩, st⟩
  · dsimp only [Pt.U, Pt.locs, Pt.cells, Pt.slots] at X' e1 e2 h1 h2 h3 st
    subst h1; subst h2; subst h3
    exact Or.inl ⟨v, (T.setVm vm₁).calling g' mk As.toArray, t, U', L, hT, X', hL, e1, e2, hq, st⟩
  · dsimp only [Pt.U, Pt.locs, Pt.cells, Pt.slots] at X' e1 e2 h1 h2 h3 st hcl
    subst h1; subst h2; subst h3
    exact Or.inr ⟨q, (T.setVm vm₁).calling g' mk As.toArray, t, U', L, E, ce, hT, X', hL, e1, e2, hq, hce, hcv, vx_cls hW₁ hcl, st⟩
end Runs
section Rows
variable {p : Program} {l : Launch} {e : Env} {R : Room} {s : State} {m : MethodId} {args : Array Value} {below : List Frame} {meth : Method} {c : Code} {H : Heap} {locs : List Loc} {cells slots : Nat} {Q : State → Prop}
variable {mc ms : Nat} {free : Addr → Prop} {A0 A1 : Nat → Prop} {H0 : Heap} {a : Array Value} {pc : Nat} {ls : Array Slot} {st0 rest : List Value}
theorem vx_keep {st₀ t T' : State} {L : List Loc} (h0 : st₀.heap = H) (e1 : T'.heap = t.heap) (hS : va_S A0 H0 H locs) (hA : ∀ q, q < H.size → A1 q → A0 q) (hf : ∀ q, free q → A0 q) (hL : ∀ q ∈ L, free q.base) (hF : va_F A1 st₀ t) :
    H.size ≤ T'.heap.size ∧ (∀ q : Nat, q < H.size → ¬ A1 q → T'.heap[q]? = H[q]?) ∧ va_S A0 H0 T'.heap (locs ++ L) := by
  obtain ⟨hz, hk⟩ := hF
  rw [h0] at hz hk
  exact ⟨by rw [e1]; exact hz, fun q h1 h2 => by rw [e1]; exact hk q h1 h2,
    ⟨Nat.le_trans hS.1 (by rw [e1]; exact hz), fun q h1 h2 => by rw [e1, hk q (Nat.lt_of_lt_of_le h1 hS.1) (fun z => h2 (hA q (Nat.lt_of_lt_of_le h1 hS.1) z))]; exact hS.2.1 q h1 h2, fun q hq => by
      rcases List.mem_append.mp hq with h | h
      · exact hS.2.2 q h
      · exact hf _ (hL q h)⟩⟩
theorem vx_calli {S SX : Type} {post : Int32 → S → Prop} {px : SX → Prop} {B : S → State → Prop} {BX : String → SX → State → Prop} {AX : Nat → Prop} (hr : vx_Run p l e R s m args below meth c H locs cells slots mc ms (F0 m pc ls st0) rest (va_Qi post B A1 a) (vx_X px BX AX) free) (hS : va_S A0 H0 H locs) (hA : ∀ q, q < H.size → A1 q → A0 q) (hf : ∀ q, free q → A0 q) (hAX : ∀ q, q < H.size → AX q → A0 q)
    (kx : ∀ (E : String) (ce : Cell) (q9 : Addr) (u : SX) (t : State) (H1 : Heap) (locs1 : List Loc), t.heap = H1 → s.vm.Alike t.vm → px u → BX E u t → H.size ≤ H1.size → (∀ q : Nat, q < H.size → ¬ AX q → H1[q]? = H[q]?) → va_S A0 H0 H1 locs1 → H1[q9]? = some ce → ce.vm = .none → s.vm.findClass E = some ce.cls → vx_W p l e R s m args below meth c H1 locs1 (cells + mc) (slots + ms) Q (F0 m pc ls rest) q9)
    (kk : ∀ (r : Int32) (u : S) (t : State) (H1 : Heap) (locs1 : List Loc), t.heap = H1 → s.vm.Alike t.vm → post r u → B u t → H.size ≤ H1.size → (∀ q : Nat, q < H.size → ¬ A1 q → H1[q]? = H[q]?) → va_S A0 H0 H1 locs1 → W p l e R s m args below meth c H1 locs1 (cells + mc) (slots + ms) Q (F0 m (pc + 3) ls (.int r :: rest))) : W p l e R s m args below meth c H locs cells slots Q (F0 m pc ls st0) := by
  intro T hT X
  rcases hr T hT X with ⟨v, st₀, t, T', L, h0, X', hL, e1, e2, ⟨⟨r, u, hv, hp, hb⟩, hF⟩, st⟩ | ⟨q, st₀, t, T', L, E, ce, h0, X', hL, e1, e2, ⟨u, hp, hb, hF⟩, hce, hcv, hcl, st⟩
  · cases hv
    obtain ⟨k1, k2, k3⟩ := vx_keep h0 e1 hS hA hf hL hF
    obtain ⟨t2, a1, b1⟩ := kk r u t T'.heap (locs ++ L) e1.symm (by rw [← e2]; exact X'.warmed.alike) hp hb k1 k2 k3 T' rfl X'
    exact ⟨t2, st t2 a1, b1⟩
  · obtain ⟨k1, k2, k3⟩ := vx_keep h0 e1 hS hAX hf hL hF
    obtain ⟨t2, a1, b1⟩ := kx E ce q u t T'.heap (locs ++ L) e1.symm (by rw [← e2]; exact X'.warmed.alike) hp hb k1 k2 k3 (by rw [e1]; exact hce) hcv hcl T' rfl X'
    exact ⟨t2, st.trans a1, b1⟩
theorem vx_calll {S SX : Type} {post : Int64 → S → Prop} {px : SX → Prop} {B : S → State → Prop} {BX : String → SX → State → Prop} {AX : Nat → Prop} (hr : vx_Run p l e R s m args below meth c H locs cells slots mc ms (F0 m pc ls st0) rest (va_Ql post B A1 a) (vx_X px BX AX) free) (hS : va_S A0 H0 H locs) (hA : ∀ q, q < H.size → A1 q → A0 q) (hf : ∀ q, free q → A0 q) (hAX : ∀ q, q < H.size → AX q → A0 q)
    (kx : ∀ (E : String) (ce : Cell) (q9 : Addr) (u : SX) (t : State) (H1 : Heap) (locs1 : List Loc), t.heap = H1 → s.vm.Alike t.vm → px u → BX E u t → H.size ≤ H1.size → (∀ q : Nat, q < H.size → ¬ AX q → H1[q]? = H[q]?) → va_S A0 H0 H1 locs1 → H1[q9]? = some ce → ce.vm = .none → s.vm.findClass E = some ce.cls → vx_W p l e R s m args below meth c H1 locs1 (cells + mc) (slots + ms) Q (F0 m pc ls rest) q9)
    (kk : ∀ (r : Int64) (u : S) (t : State) (H1 : Heap) (locs1 : List Loc), t.heap = H1 → s.vm.Alike t.vm → post r u → B u t → H.size ≤ H1.size → (∀ q : Nat, q < H.size → ¬ A1 q → H1[q]? = H[q]?) → va_S A0 H0 H1 locs1 → W p l e R s m args below meth c H1 locs1 (cells + mc) (slots + ms) Q (F0 m (pc + 3) ls (.long r :: rest))) : W p l e R s m args below meth c H locs cells slots Q (F0 m pc ls st0) := by
  intro T hT X
  rcases hr T hT X with ⟨v, st₀, t, T', L, h0, X', hL, e1, e2, ⟨⟨r, u, hv, hp, hb⟩, hF⟩, st⟩ | ⟨q, st₀, t, T', L, E, ce, h0, X', hL, e1, e2, ⟨u, hp, hb, hF⟩, hce, hcv, hcl, st⟩
  · cases hv
    obtain ⟨k1, k2, k3⟩ := vx_keep h0 e1 hS hA hf hL hF
    obtain ⟨t2, a1, b1⟩ := kk r u t T'.heap (locs ++ L) e1.symm (by rw [← e2]; exact X'.warmed.alike) hp hb k1 k2 k3 T' rfl X'
    exact ⟨t2, st t2 a1, b1⟩
  · obtain ⟨k1, k2, k3⟩ := vx_keep h0 e1 hS hAX hf hL hF
    obtain ⟨t2, a1, b1⟩ := kx E ce q u t T'.heap (locs ++ L) e1.symm (by rw [← e2]; exact X'.warmed.alike) hp hb k1 k2 k3 (by rw [e1]; exact hce) hcv hcl T' rfl X'
    exact ⟨t2, st.trans a1, b1⟩
theorem vx_callf {S SX : Type} {post : UInt32 → S → Prop} {px : SX → Prop} {B : S → State → Prop} {BX : String → SX → State → Prop} {AX : Nat → Prop} (hr : vx_Run p l e R s m args below meth c H locs cells slots mc ms (F0 m pc ls st0) rest (va_Qf post B A1 a) (vx_X px BX AX) free) (hS : va_S A0 H0 H locs) (hA : ∀ q, q < H.size → A1 q → A0 q) (hf : ∀ q, free q → A0 q) (hAX : ∀ q, q < H.size → AX q → A0 q)
    (kx : ∀ (E : String) (ce : Cell) (q9 : Addr) (u : SX) (t : State) (H1 : Heap) (locs1 : List Loc), t.heap = H1 → s.vm.Alike t.vm → px u → BX E u t → H.size ≤ H1.size → (∀ q : Nat, q < H.size → ¬ AX q → H1[q]? = H[q]?) → va_S A0 H0 H1 locs1 → H1[q9]? = some ce → ce.vm = .none → s.vm.findClass E = some ce.cls → vx_W p l e R s m args below meth c H1 locs1 (cells + mc) (slots + ms) Q (F0 m pc ls rest) q9)
    (kk : ∀ (r : UInt32) (u : S) (t : State) (H1 : Heap) (locs1 : List Loc), t.heap = H1 → s.vm.Alike t.vm → post r u → B u t → H.size ≤ H1.size → (∀ q : Nat, q < H.size → ¬ A1 q → H1[q]? = H[q]?) → va_S A0 H0 H1 locs1 → W p l e R s m args below meth c H1 locs1 (cells + mc) (slots + ms) Q (F0 m (pc + 3) ls (.float r :: rest))) : W p l e R s m args below meth c H locs cells slots Q (F0 m pc ls st0) := by
  intro T hT X
  rcases hr T hT X with ⟨v, st₀, t, T', L, h0, X', hL, e1, e2, ⟨⟨r, u, hv, hp, hb⟩, hF⟩, st⟩ | ⟨q, st₀, t, T', L, E, ce, h0, X', hL, e1, e2, ⟨u, hp, hb, hF⟩, hce, hcv, hcl, st⟩
  · cases hv
    obtain ⟨k1, k2, k3⟩ := vx_keep h0 e1 hS hA hf hL hF
    obtain ⟨t2, a1, b1⟩ := kk r u t T'.heap (locs ++ L) e1.symm (by rw [← e2]; exact X'.warmed.alike) hp hb k1 k2 k3 T' rfl X'
    exact ⟨t2, st t2 a1, b1⟩
  · obtain ⟨k1, k2, k3⟩ := vx_keep h0 e1 hS hAX hf hL hF
    obtain ⟨t2, a1, b1⟩ := kx E ce q u t T'.heap (locs ++ L) e1.symm (by rw [← e2]; exact X'.warmed.alike) hp hb k1 k2 k3 (by rw [e1]; exact hce) hcv hcl T' rfl X'
    exact ⟨t2, st.trans a1, b1⟩
theorem vx_calld {S SX : Type} {post : UInt64 → S → Prop} {px : SX → Prop} {B : S → State → Prop} {BX : String → SX → State → Prop} {AX : Nat → Prop} (hr : vx_Run p l e R s m args below meth c H locs cells slots mc ms (F0 m pc ls st0) rest (va_Qd post B A1 a) (vx_X px BX AX) free) (hS : va_S A0 H0 H locs) (hA : ∀ q, q < H.size → A1 q → A0 q) (hf : ∀ q, free q → A0 q) (hAX : ∀ q, q < H.size → AX q → A0 q)
    (kx : ∀ (E : String) (ce : Cell) (q9 : Addr) (u : SX) (t : State) (H1 : Heap) (locs1 : List Loc), t.heap = H1 → s.vm.Alike t.vm → px u → BX E u t → H.size ≤ H1.size → (∀ q : Nat, q < H.size → ¬ AX q → H1[q]? = H[q]?) → va_S A0 H0 H1 locs1 → H1[q9]? = some ce → ce.vm = .none → s.vm.findClass E = some ce.cls → vx_W p l e R s m args below meth c H1 locs1 (cells + mc) (slots + ms) Q (F0 m pc ls rest) q9)
    (kk : ∀ (r : UInt64) (u : S) (t : State) (H1 : Heap) (locs1 : List Loc), t.heap = H1 → s.vm.Alike t.vm → post r u → B u t → H.size ≤ H1.size → (∀ q : Nat, q < H.size → ¬ A1 q → H1[q]? = H[q]?) → va_S A0 H0 H1 locs1 → W p l e R s m args below meth c H1 locs1 (cells + mc) (slots + ms) Q (F0 m (pc + 3) ls (.double r :: rest))) : W p l e R s m args below meth c H locs cells slots Q (F0 m pc ls st0) := by
  intro T hT X
  rcases hr T hT X with ⟨v, st₀, t, T', L, h0, X', hL, e1, e2, ⟨⟨r, u, hv, hp, hb⟩, hF⟩, st⟩ | ⟨q, st₀, t, T', L, E, ce, h0, X', hL, e1, e2, ⟨u, hp, hb, hF⟩, hce, hcv, hcl, st⟩
  · cases hv
    obtain ⟨k1, k2, k3⟩ := vx_keep h0 e1 hS hA hf hL hF
    obtain ⟨t2, a1, b1⟩ := kk r u t T'.heap (locs ++ L) e1.symm (by rw [← e2]; exact X'.warmed.alike) hp hb k1 k2 k3 T' rfl X'
    exact ⟨t2, st t2 a1, b1⟩
  · obtain ⟨k1, k2, k3⟩ := vx_keep h0 e1 hS hAX hf hL hF
    obtain ⟨t2, a1, b1⟩ := kx E ce q u t T'.heap (locs ++ L) e1.symm (by rw [← e2]; exact X'.warmed.alike) hp hb k1 k2 k3 (by rw [e1]; exact hce) hcv hcl T' rfl X'
    exact ⟨t2, st.trans a1, b1⟩
theorem vx_callv {S SX : Type} {post : S → Prop} {px : SX → Prop} {B : S → State → Prop} {BX : String → SX → State → Prop} {AX : Nat → Prop} (hr : vx_Run p l e R s m args below meth c H locs cells slots mc ms (F0 m pc ls st0) rest (va_Qv post B A1 a) (vx_X px BX AX) free) (hS : va_S A0 H0 H locs) (hA : ∀ q, q < H.size → A1 q → A0 q) (hf : ∀ q, free q → A0 q) (hAX : ∀ q, q < H.size → AX q → A0 q)
    (kx : ∀ (E : String) (ce : Cell) (q9 : Addr) (u : SX) (t : State) (H1 : Heap) (locs1 : List Loc), t.heap = H1 → s.vm.Alike t.vm → px u → BX E u t → H.size ≤ H1.size → (∀ q : Nat, q < H.size → ¬ AX q → H1[q]? = H[q]?) → va_S A0 H0 H1 locs1 → H1[q9]? = some ce → ce.vm = .none → s.vm.findClass E = some ce.cls → vx_W p l e R s m args below meth c H1 locs1 (cells + mc) (slots + ms) Q (F0 m pc ls rest) q9)
    (kk : ∀ (u : S) (t : State) (H1 : Heap) (locs1 : List Loc), t.heap = H1 → s.vm.Alike t.vm → post u → B u t → H.size ≤ H1.size → (∀ q : Nat, q < H.size → ¬ A1 q → H1[q]? = H[q]?) → va_S A0 H0 H1 locs1 → W p l e R s m args below meth c H1 locs1 (cells + mc) (slots + ms) Q (F0 m (pc + 3) ls (rest))) : W p l e R s m args below meth c H locs cells slots Q (F0 m pc ls st0) := by
  intro T hT X
  rcases hr T hT X with ⟨v, st₀, t, T', L, h0, X', hL, e1, e2, ⟨⟨u, hv, hp, hb⟩, hF⟩, st⟩ | ⟨q, st₀, t, T', L, E, ce, h0, X', hL, e1, e2, ⟨u, hp, hb, hF⟩, hce, hcv, hcl, st⟩
  · cases hv
    obtain ⟨k1, k2, k3⟩ := vx_keep h0 e1 hS hA hf hL hF
    obtain ⟨t2, a1, b1⟩ := kk u t T'.heap (locs ++ L) e1.symm (by rw [← e2]; exact X'.warmed.alike) hp hb k1 k2 k3 T' rfl X'
    exact ⟨t2, st t2 a1, b1⟩
  · obtain ⟨k1, k2, k3⟩ := vx_keep h0 e1 hS hAX hf hL hF
    obtain ⟨t2, a1, b1⟩ := kx E ce q u t T'.heap (locs ++ L) e1.symm (by rw [← e2]; exact X'.warmed.alike) hp hb k1 k2 k3 (by rw [e1]; exact hce) hcv hcl T' rfl X'
    exact ⟨t2, st.trans a1, b1⟩
/-- caught by the row x of this method's table; the rows ahead don't take it -/
theorem vx_catch {own name : String} {E : String} {ce : Cell} {q : Addr} (hown : s.vm.findClass own = some m.cls) (pre : List ExceptionTableEntry) (x : ExceptionTableEntry) (suf : List ExceptionTableEntry) (hsplit : c.exceptionTable.toList = pre ++ x :: suf)
    (hpass : ∀ z ∈ pre, covers z pc = false ∨ (z.catchType ≠ 0 ∧ ∃ nm : String, (Cond.classLink own z.catchType nm).before args s = true ∧ va_Nc E nm s)) (hx : covers x pc = true) (h0 : x.catchType ≠ 0)
    (hlink : (Cond.classLink own x.catchType name).before args s = true) (hcast : (Cond.castable E name).before args s = true) (hcell : H[q]? = some ce) (hv : ce.vm = .none) (hcl : s.vm.findClass E = some ce.cls)
    (kk : W p l e R s m args below meth c H locs cells slots Q (F0 m x.handlerPc ls [.ref q])) : vx_W p l e R s m args below meth c H locs cells slots Q (F0 m pc ls rest) q := by
  intro T hT X
  have hpl : e.platform.magicAccessors = ({} : Platform).magicAccessors := by rw [X.admits.platform]
  obtain ⟨c3, c4, hc3, hc4, hasg⟩ := Cond.castable_spec hcast
  cases Option.some.inj (hc3.symm.trans hcl)
  obtain ⟨c5, hc5, hcl5⟩ := Cond.classLink_spec hown hlink e.platform hpl
  cases Option.some.inj (hc4.symm.trans hc5)
  obtain ⟨vm', X', st⟩ := X.thenCaughtThrough q (g := F0 m pc ls rest) rfl (Steps.refl _) (by rw [hT]; exact hcell) (by rw [hv]; rfl) (by obtain ⟨k9, h9, -⟩ := Vm.findClass_spec hcl; exact ⟨k9, h9⟩) pre x suf hsplit
    (fun z hz => by
      rcases hpass z hz with h | ⟨hz0, nm, hl1, hn1⟩
      · exact Or.inl h
      · obtain ⟨c6, hc6, hcl6⟩ := Cond.classLink_spec hown hl1 e.platform hpl
        obtain ⟨a8, b8, h1, h2, h3⟩ := hn1
        cases Option.some.inj (h1.symm.trans hcl)
        cases Option.some.inj (h2.symm.trans hc6)
        exact Or.inr ⟨hz0, _, hcl6, h3⟩) hx (Or.inr ⟨h0, c4, hcl5, hasg⟩)
  obtain ⟨t, a1, b1⟩ := kk (T.setVm vm') hT X'
  exact ⟨t, st.trans a1, b1⟩
end Rows
section Ends
variable {p : Program} {l : Launch} {e : Env} {R : Room} {s : State} {m : MethodId} {args : Array Value} {below : List Frame} {meth : Method} {c : Code} {H : Heap} {locs : List Loc} {cells slots : Nat} {Q : State → Prop}
variable {mc ms : Nat} {free : Addr → Prop} {A0 A1 : Nat → Prop} {H0 : Heap} {a : Array Value} {ls : Array Slot} {st0 rest : List Value}
variable {Qc : Array Value → State → Outcome → State → Prop} {XC : String → State → State → Prop}
/-- what a body that may throw owes at its end -/
def vx_MQ (below : List Frame) (Qc : Array Value → State → Outcome → State → Prop) (XC : String → State → State → Prop) (a : Array Value) (s : State) (mc ms : Nat) (free : Addr → Prop) : State → Prop := fun t =>
  ∃ o, t.status = .running ∧ Ended t below o ∧ vx_Q Qc XC mc ms free a s o t
theorem vx_ret {g : JFrame} {mc ms : Nat} (k : W p l e R s m args below meth c H locs cells slots (MQ below Qc args s mc ms free) g) : W p l e R s m args below meth c H locs cells slots (vx_MQ below Qc XC args s mc ms free) g := by
  intro T hT X
  obtain ⟨t, a1, o, b1, b2, b3, b4⟩ := k T hT X
  exact ⟨t, a1, o, b1, b2, Or.inl ⟨b3, b4⟩⟩
/-- not caught here: it goes on to the caller -/
theorem vx_widen {g : JFrame} {q : Addr} {k n : Nat} (h1 : cells ≤ k) (h2 : slots ≤ n) (kk : vx_W p l e R s m args below meth c H locs k n Q g q) : vx_W p l e R s m args below meth c H locs cells slots Q g q := fun T hT X => kk T hT (stand_widen X h1 h2)
theorem vx_out {pc : Nat} {E : String} {ce : Cell} {q : Addr} {mc ms : Nat} (hout : ∀ x ∈ c.exceptionTable.toList, covers x pc = false) (hlocks : meth.locks = false) (hcell : H[q]? = some ce) (hv : ce.vm = .none) (hcl : s.vm.findClass E = some ce.cls)
    (hx : ∀ t : State, t.heap = H → s.vm.Alike t.vm → XC E s t) (hf : ∀ z ∈ locs, free z.base) (hc : cells ≤ mc) (hs : slots ≤ ms) :
    vx_W p l e R s m args below meth c H locs cells slots (vx_MQ below Qc XC args s mc ms free) (F0 m pc ls rest) q := by
  intro T hT X
  obtain ⟨st1, hrun, hend, hW, hsm⟩ := X.leaveThrown q (g := F0 m pc ls rest) rfl rfl rfl hout hlocks
  have hcell9 : (T.setFrames (.throwing q :: below)).heap[q]? = some ce := by
    show T.heap[q]? = some ce
    rw [hT]; exact hcell
  exact ⟨_, st1, .threw q, hrun, hend, Or.inr ⟨q, rfl, E, ce, locs, hx _ hT hW.alike, hcell9, hv, hcl, hW, hsm.mono hc hs, hf⟩⟩
theorem vx_frame {U : State} {k n : Nat} (h : s.sameButNew ({ U with vm := s.vm } : State) locs k n) : s.heap.size ≤ U.heap.size ∧ ∀ q : Nat, q < s.heap.size → (∀ z ∈ locs, z.base ≠ q) → U.heap[q]? = s.heap[q]? := by
  obtain ⟨-, h2, -, -, -, h6⟩ := h
  refine ⟨h2, fun q hq hz => ?_⟩
  obtain ⟨c9, e1, e2, e3, e4⟩ := h6 q _ (Array.getElem?_eq_getElem hq)
  have hs : c9.slots = (s.heap[q]).slots := Array.ext_getElem? fun i => e4 i fun hm => hz _ hm rfl
  have h9 : c9 = s.heap[q] := by
    rw [hs] at e2
    exact e2
  have e5 : U.heap[q]? = some c9 := e1
  rw [e5, h9, Array.getElem?_eq_getElem hq]
/-- the words of a throw but the four that speak of the heap -/
def vx_no (w : Cond) : Bool := decide (w ≠ .isRef (.static Bundle.tN "UNASSIGNED_STACK" Bundle.steD)) && decide (w ≠ .isRef (.static Bundle.tN "SUPPRESSED_SENTINEL" Bundle.listD)) && decide (w ≠ .laysStatic Bundle.tN "UNASSIGNED_STACK" Bundle.steD) && decide (w ≠ .laysStatic Bundle.tN "SUPPRESSED_SENTINEL" Bundle.listD)
def vx_at0 (own : String) (ic : Nat) (X : String) (names : List String) : List Cond := (Bundle.ownAtoms0 own ic X names).filter vx_no
def vx_atS (own : String) (ic : Nat) (X : String) (names : List String) : List Cond := (Bundle.ownAtoms own ic X names).filter vx_no
/-- a word that the tables alone decide, or a good one -/
def vx_ot (w : Cond) : Bool := w.onTables || goodWord w
theorem vx_ot_at {args a' : Array Value} {s U : State} {w : Cond} (hW : s.WarmedH U.vm) (hvm : s.vm = U.vm) (hg : vx_ot w = true) (h : w.before args s = true) : w.before a' U = true := by
  simp only [vx_ot, Bool.or_eq_true] at hg
  rcases hg with hg | hg
  · exact va_tabs hg hvm h
  · exact word_at hW (good_of_word hg) h
/-- a list's words: the good ones out of the method's own list, the others by premises of their own -/
theorem vx_hat {args : Array Value} {s : State} {L B : List Cond} (h1 : ∀ w ∈ L.filter goodWord, w.before args s = true) (h2 : ∀ w ∈ L.filter (fun w => !goodWord w), w ∈ B) (h3 : ∀ w ∈ B, w.before args s = true) : ∀ w ∈ L, w.before args s = true := by
  intro w hw
  by_cases g : goodWord w = true
  · exact h1 w (List.mem_filter.mpr ⟨hw, g⟩)
  · refine h3 w (h2 w (List.mem_filter.mpr ⟨hw, ?_⟩))
    show (!goodWord w) = true
    cases hgw : goodWord w
    · rfl
    · exact absurd hgw g
theorem vx_c {args : Array Value} {s : State} {w : Cond} {B : List Cond} (h : w.before args s = true) (t : ∀ w ∈ B, w.before args s = true) : ∀ w' ∈ w :: B, w'.before args s = true := fun w' h' => (List.mem_cons.mp h').elim (fun e => by rw [e]; exact h) (t w')
theorem vx_n {args : Array Value} {s : State} : ∀ w ∈ ([] : List Cond), w.before args s = true := fun _ h => nomatch h
theorem vx_own {args : Array Value} {s : State} {L : List Cond} (h1 : ∀ w ∈ L.filter vx_no, w.before args s = true)
    (hU : (Cond.isRef (.static Bundle.tN "UNASSIGNED_STACK" Bundle.steD)).before args s = true) (hN : (Cond.isRef (.static Bundle.tN "SUPPRESSED_SENTINEL" Bundle.listD)).before args s = true)
    (lU : (Cond.laysStatic Bundle.tN "UNASSIGNED_STACK" Bundle.steD).before args s = true) (lN : (Cond.laysStatic Bundle.tN "SUPPRESSED_SENTINEL" Bundle.listD).before args s = true) : ∀ w ∈ L, w.before args s = true := by
  intro w hw
  by_cases e1 : w = .isRef (.static Bundle.tN "UNASSIGNED_STACK" Bundle.steD)
  · rw [e1]; exact hU
  · by_cases e2 : w = .isRef (.static Bundle.tN "SUPPRESSED_SENTINEL" Bundle.listD)
    · rw [e2]; exact hN
    · by_cases e3 : w = .laysStatic Bundle.tN "UNASSIGNED_STACK" Bundle.steD
      · rw [e3]; exact lU
      · by_cases e4 : w = .laysStatic Bundle.tN "SUPPRESSED_SENTINEL" Bundle.listD
        · rw [e4]; exact lN
        · exact h1 w (List.mem_filter.mpr ⟨hw, by unfold vx_no; rw [decide_eq_true e1, decide_eq_true e2, decide_eq_true e3, decide_eq_true e4]; rfl⟩)
/-- where a static field lies, its class's statics cell in H -/
def vx_L (C n d : String) (A : Nat → Prop) (U : State) (H : Heap) : Prop := ∃ (c : ClassId) (k : Class) (i : Nat) (f : Field) (a : Nat) (cell : Cell), U.vm.findClass C = some c ∧ U.fieldFound? C n d = some (c, k, i, f) ∧ f.isStatic = true ∧ k.statics = some a ∧ H[a]? = some cell ∧ cell.vm.isStatics = true ∧ cell.cls = c ∧ f.slot < cell.slots.size ∧ k.staticTypes[f.slot]? = some f.type ∧ ¬ A a
theorem vx_L.moved {C n d : String} {A : Nat → Prop} {u U : State} {H : Heap} (hvm : u.vm.Alike U.vm) (h : vx_L C n d A u H) : vx_L C n d A U H := by
  obtain ⟨c, k, i, f, a, cell, h1, h2, h3, h4, h5, h6, h7, h8, h9, h10⟩ := h
  obtain ⟨k', hi', he⟩ := State.fieldFound?_setVm hvm h2
  exact ⟨c, k', i, f, a, cell, by rw [hvm.findClass]; exact h1, hi', h3, by rw [he]; exact h4, h5, h6, h7, h8, by rw [he]; exact h9, h10⟩
theorem vx_L.kept {C n d : String} {A : Nat → Prop} {U : State} {H H1 : Heap} (h : vx_L C n d A U H) (hq : ∀ a : Nat, a < H.size → ¬ A a → H1[a]? = H[a]?) : vx_L C n d A U H1 := by
  obtain ⟨c, k, i, f, a, cell, h1, h2, h3, h4, h5, h6, h7, h8, h9, h10⟩ := h
  exact ⟨c, k, i, f, a, cell, h1, h2, h3, h4, by rw [hq a (Array.getElem?_eq_some_iff.mp h5).1 h10]; exact h5, h6, h7, h8, h9, h10⟩
theorem vx_L.narrow {C n d : String} {A B : Nat → Prop} {U : State} {H : Heap} (h : vx_L C n d A U H) (hAB : ∀ q, B q → A q) : vx_L C n d B U H := by
  obtain ⟨c, k, i, f, a, cell, h1, h2, h3, h4, h5, h6, h7, h8, h9, h10⟩ := h
  exact ⟨c, k, i, f, a, cell, h1, h2, h3, h4, h5, h6, h7, h8, h9, fun z => h10 (hAB _ z)⟩
theorem vx_L.word {C n d : String} {A : Nat → Prop} {s : State} {args : Array Value} (h : vx_L C n d A s s.heap) : (Cond.laysStatic C n d).before args s = true := by
  obtain ⟨c, k, i, f, a, cell, h1, h2, h3, h4, h5, h6, h7, h8, h9, -⟩ := h
  show (Cond.laysStatic C n d).holds args s none s [] = true
  exact Cond.laysStatic_of h1 h2 h3 h4 h5 h6 h7 h8 h9
/-- .. and what it holds: null or some reference -/
def vx_Zq (C n d : String) (A : Nat → Prop) (U : State) (H : Heap) : Prop := va_Zq C n d A U H ∧ vx_L C n d A U H
theorem vx_Zq.moved {C n d : String} {A : Nat → Prop} {u U : State} {H : Heap} (hvm : u.vm.Alike U.vm) (h : vx_Zq C n d A u H) : vx_Zq C n d A U H := ⟨va_Zq.moved hvm h.1, vx_L.moved hvm h.2⟩
theorem vx_Zq.kept {C n d : String} {A : Nat → Prop} {U : State} {H H1 : Heap} (h : vx_Zq C n d A U H) (hq : ∀ a : Nat, a < H.size → ¬ A a → H1[a]? = H[a]?) : vx_Zq C n d A U H1 := ⟨va_Zq.kept h.1 hq, vx_L.kept h.2 hq⟩
theorem vx_Zq.narrow {C n d : String} {A B : Nat → Prop} {U : State} {H : Heap} (h : vx_Zq C n d A U H) (hAB : ∀ q, B q → A q) : vx_Zq C n d B U H := ⟨va_Zq.narrow h.1 hAB, vx_L.narrow h.2 hAB⟩
theorem vx_Zqof {args : Array Value} {s : State} {C n d : String} {A : Nat → Prop} (hl : (Cond.laysStatic C n d).before args s = true) (hini : (Cond.initialized C).before args s = true) (h : (Cond.isRef (.static C n d)).before args s = true) (hA : ∀ a : Nat, a < s.heap.size → ¬ A a) : vx_Zq C n d A s s.heap := by
  refine ⟨va_Zqof hl hini h hA, ?_⟩
  obtain ⟨c, k, i, f, a, cell, h1, h2, h3, h4, h5, h6, h7, h8, h9⟩ := Cond.laysStatic_spec hl
  exact ⟨c, k, i, f, a, cell, h1, h2, h3, h4, h5, h6, h7, h8, h9, hA a (Array.getElem?_eq_some_iff.mp h5).1⟩
theorem vx_isRef {C n d : String} {v : Value} {A : Nat → Prop} {s : State} {args : Array Value} (h : va_Z C n d v A s s.heap) (hv : v.isRef = true) : (Cond.isRef (.static C n d)).before args s = true := by
  obtain ⟨cf, kf, fi, f, a, cell, h1, h2, h3, h4, h5, h6, h7, -⟩ := h
  have he : (Term.static C n d).eval args s none [] s = some v := by
    simp [Term.eval, State.fieldNamed?, h1, h2, h4, h5, h6, h7]
  simp only [Cond.before, Cond.holds, Cond.value, he]
  cases v <;> simp_all [Value.isRef]
theorem vx_isRefq {C n d : String} {A : Nat → Prop} {s : State} {args : Array Value} (h : va_Zq C n d A s s.heap) : (Cond.isRef (.static C n d)).before args s = true := by
  rcases h with h | ⟨t, h⟩
  · exact vx_isRef h rfl
  · exact vx_isRef h rfl
/-- the same frame, seen from here: as if the method were called anew in this heap -/
theorem vx_rebase {T : State} (X : Stand p l e R s m args below meth c T locs cells slots) {R' : Room} (hf : R'.frames ≤ R.frames) (hl : R'.locals ≤ R.locals) (hc : cells + R'.cells ≤ R.cells) (hs : slots + R'.slots ≤ R.slots) :
    Stand p l e R' ((T.setVm s.vm).setFrames (.invoking m args :: below)) m args below meth c T [] 0 0 := by
  have htop : (T.setVm s.vm).topJava?.isSome := X.here.top
  have hF : ((T.setVm s.vm).setFrames (.invoking m args :: below)).frames = .invoking m args :: below := State.frames_setFrames _ (State.cur_lt_of_top htop)
  obtain ⟨g₀, hg0⟩ := Option.isSome_iff_exists.mp htop
  obtain ⟨r, hr⟩ := State.topJava?_eq_some.mp hg0
  have hl9 : e.platform.stackLimits (T.setVm s.vm).me = e.platform.stackLimits s.me := X.limits
  have hb9 : (T.setVm s.vm).me.stackBytes = s.me.stackBytes := X.bytes
  refine ⟨X.admits, X.cas, X.clock, hF, ?_, X.hears, X.method, X.code, X.here, X.tail, X.warmed, ?_, ?_, ?_⟩
  · have h := X.room
    have hU : ((T.setVm s.vm).setFrames (.invoking m args :: below)).localsInUse = s.localsInUse := by
      rw [State.localsInUse_invoking hF (meth := meth) (c := c) X.method X.code, State.localsInUse_invoking X.frames X.method X.code]
    simp only [State.hasRoom, Bool.and_eq_true, decide_eq_true_eq] at h ⊢
    obtain ⟨⟨⟨⟨h1, h2, h3, h4, h5, h6⟩, h7⟩, h8⟩, h9⟩ := h
    rw [X.frames, List.length_cons] at h2 h3
    have q1 := X.heapSize
    have q2 := X.used
    simp only [hF, hU, List.length_cons, State.stackLimits_setFrames, State.stackBytes_setFrames, hl9, hb9]
    refine ⟨⟨⟨⟨by omega, by omega, by omega, by omega, by omega, h6⟩, ?_⟩, ?_⟩, X.book⟩
    · show T.heap.size + R'.cells ≤ e.platform.maxCells
      omega
    · show T.slotsUsed + R'.slots ≤ e.platform.maxSlots
      omega
  · rw [State.stackLimits_setFrames]; rfl
  · rw [State.stackBytes_setFrames]; rfl
  · refine ⟨?_, Nat.le_refl _, Nat.le_refl _, ?_, ?_, fun a c9 h9 => ⟨c9, h9, rfl, rfl, fun _ _ => rfl⟩⟩
    · obtain ⟨t, ht, -⟩ := State.frames_cons hr
      show T.setVm s.vm = { ((T.setVm s.vm).setFrames (.invoking m args :: below)).setFrames (T.setVm s.vm).frames with heap := T.heap, slotsUsed := T.slotsUsed }
      rw [State.setFrames_setFrames, State.setFrames_self ht]
      rfl
    · show T.slotsUsed = T.slotsUsed + ((T.heap.toList.drop T.heap.size).map (·.slots.size)).sum
      rw [List.drop_eq_nil_of_le (Nat.le_of_eq Array.length_toList)]
      rfl
    · show ((T.heap.toList.drop T.heap.size).map (·.slots.size)).sum ≤ 0
      rw [List.drop_eq_nil_of_le (Nat.le_of_eq Array.length_toList)]
      exact Nat.le_refl _
/-- 'throw new E()': new; dup; invokespecial; athrow -/
theorem vx_throw0 {cc : ByteArray} {pc : Nat} (hexec : p.tables.exec = Jvm.exec) (hb : c.code = cc) (hl : l.stackTraces = false) {own cls : String} {names : List String} {ik ic mc ms : Nat} {A : Nat → Prop}
    (hown : s.vm.findClass own = some m.cls) (hcls : Bundle.fit cls = true) (hnames : ∀ n ∈ names, Bundle.fit n = true)
    (hk : (Cond.classLink own ik cls).before args s = true) (hini : (Cond.initialized cls).before args s = true) (hat : ∀ w ∈ vx_at0 own ic cls names, w.before args s = true)
    (hgood : ∀ w ∈ Cond.classLink own ik cls :: Cond.initialized cls :: vx_at0 own ic cls names, vx_ot w = true)
    (hU : vx_Zq Bundle.tN "UNASSIGNED_STACK" Bundle.steD A s s.heap) (hN : vx_Zq Bundle.tN "SUPPRESSED_SENTINEL" Bundle.listD A s s.heap) (hS : va_S A s.heap H locs) (hsize : ls.size = c.maxLocals)
    (d0 : decode cc pc = .ok (.new ik, 3)) (d3 : decode cc (pc + 3) = .ok (.dup, 1)) (d4 : decode cc (pc + 4) = .ok (.invokespecial ic, 3)) (d7 : decode cc (pc + 7) = .ok (.athrow, 1))
    (hout : ∀ x ∈ c.exceptionTable.toList, covers x (pc + 7) = false)
    (hRframes : names.length + 3 < R.frames) (hRlocals : (rest.map fun v => v.category).sum + (13 * (names.length + 1) + 42) ≤ R.locals) (hRcells : cells + 1 ≤ R.cells) (hRslots : slots + 6 ≤ R.slots) (hlocks : meth.locks = false)
    (hx : ∀ t : State, s.vm.Alike t.vm → H.size ≤ t.heap.size → (∀ q : Nat, q < H.size → t.heap[q]? = H[q]?) → XC cls s t)
    (hf : ∀ z ∈ locs, free z.base) (hc : cells + 1 ≤ mc) (hs : slots + 6 ≤ ms) :
    W p l e R s m args below meth c H locs cells slots (vx_MQ below Qc XC args s mc ms free) (F0 m pc ls rest) := by
  intro T hT X
  have htr : e.platform.stackTraces = false := (show e.platform.stackTraces = l.stackTraces by rw [X.admits.platform]).trans hl
  have Y := vx_rebase X (R' := { frames := R.frames, locals := R.locals, cells := 1, slots := 6 }) (Nat.le_refl _) (Nat.le_refl _) hRcells hRslots
  obtain ⟨s', hA⟩ : ∃ z, z = (T.setVm s.vm).setFrames (.invoking m args :: below) := ⟨_, rfl⟩
  rw [← hA] at Y
  have hvm : s'.vm = s.vm := by rw [hA]; rfl
  have hhp : s'.heap = H := by rw [hA]; exact hT
  have hW0 : s.WarmedH s'.vm := by rw [hvm]; exact State.WarmedH.refl s
  have hat' : ∀ w ∈ vx_at0 own ic cls names, w.before args s' = true := fun w hw => vx_ot_at hW0 hvm.symm (hgood w (List.mem_cons_of_mem _ (List.mem_cons_of_mem _ hw))) (hat w hw)
  have hk' : (Cond.classLink own ik cls).before args s' = true := vx_ot_at hW0 hvm.symm (hgood _ List.mem_cons_self) hk
  have hini' : (Cond.initialized cls).before args s' = true := vx_ot_at hW0 hvm.symm (hgood _ (List.mem_cons_of_mem _ List.mem_cons_self)) hini
  have hU' : vx_Zq Bundle.tN "UNASSIGNED_STACK" Bundle.steD A s' s'.heap := by rw [hhp]; exact vx_Zq.moved hW0.alike (hU.kept hS.2.1)
  have hN' : vx_Zq Bundle.tN "SUPPRESSED_SENTINEL" Bundle.listD A s' s'.heap := by rw [hhp]; exact vx_Zq.moved hW0.alike (hN.kept hS.2.1)
  have h : ∀ w ∈ Bundle.ownAtoms0 own ic cls names, w.before args s' = true := vx_own hat' (vx_isRefq hU'.1) (vx_isRefq hN'.1) hU'.2.word hN'.2.word
  have hown' : s'.vm.findClass own = some m.cls := by rw [hvm]; exact hown
  have hins : (Cond.instantiable cls 6).before args s' = true := h _ (by simp [Bundle.ownAtoms0])
  obtain ⟨vm₁, cX, kX, hfX, hkX, -, -, X₁, st1⟩ := Y.newCold hexec (own := own) (C := cls) (index := ik) (n := 6) hown' hk' hins hini'
    (g := F0 m pc ls rest) rfl (by rw [hb]; exact d0) (Nat.le_refl _) (Nat.le_refl _)
  generalize hT1 : (T.setVm vm₁).pushCell { cls := cX, slots := kX.instanceTypes.map defaultValue, vm := .none } = T1 at X₁ st1
  have hcat : (Value.ref T.heap.size).category = 1 := rfl
  have hcellA : T1.heap[T.heap.size]? = some (freshCell cX kX) := by rw [← hT1]; exact State.heap_pushCell_size _ _
  have d3' : decode c.code (pc + 3) = .ok (.dup, 1) := by rw [hb]; exact d3
  obtain ⟨U, hsteps, hrun, hend, hW, hsame, ce, hce, hO⟩ := X₁.ctorThrow0 hexec htr (own := own) (cls := cls) (names := names) (ic := ic) hown' hcls hnames h (fun x hx => nomatch hx) hfX hkX hcellA (by rw [hhp, hT]; exact Nat.le_refl _)
    (g := { method := m, pc := pc + 4, locals := ls, stack := .ref T.heap.size :: .ref T.heap.size :: rest, locked := none }) rfl hsize rfl rfl (rest := rest) rfl
    (by rw [hb]; exact d4) (by rw [hb]; exact d7) hout hRframes (by simp only [List.map_cons, List.sum_cons, hcat]; omega) hlocks
  obtain ⟨f1, f2⟩ := vx_frame hsame
  rw [hhp] at f1 f2
  have hWs : s.WarmedH U.vm := State.WarmedH.trans hW0 hW
  have hcl : s.vm.findClass cls = some ce.cls := by
    have h9 := hO.cls
    rw [hvm] at h9
    exact h9
  have hall : s.sameButNew ({ U with vm := s.vm } : State) locs mc ms := by
    subst hA
    obtain ⟨e1, e2⟩ := hsame
    rw [State.setFrames_setFrames] at e1
    have h2 : (T.setVm s.vm).sameButNew ({ U with vm := s.vm } : State) [] (0 + 1) (0 + 6) := ⟨e1, e2⟩
    have h3 := X.same.trans h2
    rw [List.append_nil] at h3
    exact h3.mono hc hs
  refine ⟨U, ?_, .threw T.heap.size, hrun, hend, Or.inr ⟨T.heap.size, rfl, cls, ce, locs, hx U hWs.alike f1 (fun q hq => f2 q hq (fun z hz => nomatch hz)), hce, hO.vm, hcl, hWs, hall, hf⟩⟩
  refine st1 _ ?_
  show Steps p.tables e below (T1.setTop { method := m, pc := pc + 3, locals := ls, stack := .ref T.heap.size :: rest, locked := none }) _
  jvm_step X₁.here [X₁.here.top, hexec, d3', Value.category]
  exact hsteps
/-- 'throw new E("text")': new; dup; ldc; invokespecial; athrow -/
theorem vx_throwS {cc : ByteArray} {pc : Nat} (hexec : p.tables.exec = Jvm.exec) (hb : c.code = cc) (hl : l.stackTraces = false) {own cls text : String} {names : List String} {ik is ic mc ms sa : Nat} {A : Nat → Prop}
    (hown : s.vm.findClass own = some m.cls) (hcls : Bundle.fit cls = true) (hnames : ∀ n ∈ names, Bundle.fit n = true)
    (hk : (Cond.classLink own ik cls).before args s = true) (hini : (Cond.initialized cls).before args s = true) (hstr : vk_R own is text sa s) (hat : ∀ w ∈ vx_atS own ic cls names, w.before args s = true)
    (hgood : ∀ w ∈ Cond.classLink own ik cls :: Cond.initialized cls :: vx_atS own ic cls names, vx_ot w = true)
    (hU : vx_Zq Bundle.tN "UNASSIGNED_STACK" Bundle.steD A s s.heap) (hN : vx_Zq Bundle.tN "SUPPRESSED_SENTINEL" Bundle.listD A s s.heap) (hS : va_S A s.heap H locs) (hsize : ls.size = c.maxLocals)
    (d0 : decode cc pc = .ok (.new ik, 3)) (d3 : decode cc (pc + 3) = .ok (.dup, 1)) (d4 : decode cc (pc + 4) = .ok (.ldc is, 2)) (d6 : decode cc (pc + 6) = .ok (.invokespecial ic, 3)) (d9 : decode cc (pc + 9) = .ok (.athrow, 1))
    (hout : ∀ x ∈ c.exceptionTable.toList, covers x (pc + 9) = false)
    (hRframes : names.length + 3 < R.frames) (hRlocals : (rest.map fun v => v.category).sum + (13 * (names.length + 1) + 43) ≤ R.locals) (hRcells : cells + 1 ≤ R.cells) (hRslots : slots + 6 ≤ R.slots) (hlocks : meth.locks = false)
    (hx : ∀ t : State, s.vm.Alike t.vm → H.size ≤ t.heap.size → (∀ q : Nat, q < H.size → t.heap[q]? = H[q]?) → XC cls s t)
    (hf : ∀ z ∈ locs, free z.base) (hc : cells + 1 ≤ mc) (hs : slots + 6 ≤ ms) :
    W p l e R s m args below meth c H locs cells slots (vx_MQ below Qc XC args s mc ms free) (F0 m pc ls rest) := by
  intro T hT X
  have htr : e.platform.stackTraces = false := (show e.platform.stackTraces = l.stackTraces by rw [X.admits.platform]).trans hl
  have Y := vx_rebase X (R' := { frames := R.frames, locals := R.locals, cells := 1, slots := 6 }) (Nat.le_refl _) (Nat.le_refl _) hRcells hRslots
  obtain ⟨s', hA⟩ : ∃ z, z = (T.setVm s.vm).setFrames (.invoking m args :: below) := ⟨_, rfl⟩
  rw [← hA] at Y
  have hvm : s'.vm = s.vm := by rw [hA]; rfl
  have hhp : s'.heap = H := by rw [hA]; exact hT
  have hW0 : s.WarmedH s'.vm := by rw [hvm]; exact State.WarmedH.refl s
  have hat' : ∀ w ∈ vx_atS own ic cls names, w.before args s' = true := fun w hw => vx_ot_at hW0 hvm.symm (hgood w (List.mem_cons_of_mem _ (List.mem_cons_of_mem _ hw))) (hat w hw)
  have hk' : (Cond.classLink own ik cls).before args s' = true := vx_ot_at hW0 hvm.symm (hgood _ List.mem_cons_self) hk
  have hini' : (Cond.initialized cls).before args s' = true := vx_ot_at hW0 hvm.symm (hgood _ (List.mem_cons_of_mem _ List.mem_cons_self)) hini
  have hU' : vx_Zq Bundle.tN "UNASSIGNED_STACK" Bundle.steD A s' s'.heap := by rw [hhp]; exact vx_Zq.moved hW0.alike (hU.kept hS.2.1)
  have hN' : vx_Zq Bundle.tN "SUPPRESSED_SENTINEL" Bundle.listD A s' s'.heap := by rw [hhp]; exact vx_Zq.moved hW0.alike (hN.kept hS.2.1)
  have h : ∀ w ∈ Bundle.ownAtoms own ic cls names, w.before args s' = true := vx_own hat' (vx_isRefq hU'.1) (vx_isRefq hN'.1) hU'.2.word hN'.2.word
  have hown' : s'.vm.findClass own = some m.cls := by rw [hvm]; exact hown
  have hins : (Cond.instantiable cls 6).before args s' = true := h _ (by simp [Bundle.ownAtoms])
  obtain ⟨vm₁, cX, kX, hfX, hkX, -, -, X₁, st1⟩ := Y.newCold hexec (own := own) (C := cls) (index := ik) (n := 6) hown' hk' hins hini'
    (g := F0 m pc ls rest) rfl (by rw [hb]; exact d0) (Nat.le_refl _) (Nat.le_refl _)
  generalize hT1 : (T.setVm vm₁).pushCell { cls := cX, slots := kX.instanceTypes.map defaultValue, vm := .none } = T1 at X₁ st1
  have hcat : (Value.ref T.heap.size).category = 1 := rfl
  have hcellA : T1.heap[T.heap.size]? = some (freshCell cX kX) := by rw [← hT1]; exact State.heap_pushCell_size _ _
  have d3' : decode c.code (pc + 3) = .ok (.dup, 1) := by rw [hb]; exact d3
  have d4' : decode c.code (pc + 4) = .ok (.ldc is, 2) := by rw [hb]; exact d4
  have hstr' : vk_R own is text sa s' := vk_R.warm hW0 hstr
  obtain ⟨U, hsteps, hrun, hend, hW, hsame, ce, hce, hO⟩ := X₁.ctorThrowS hexec htr (own := own) (cls := cls) (names := names) (ic := ic) hown' hcls hnames h (fun x hx => nomatch hx) hfX hkX hcellA (by rw [hhp, hT]; exact Nat.le_refl _) (msg := .ref sa) rfl
    (g := { method := m, pc := pc + 6, locals := ls, stack := .ref sa :: .ref T.heap.size :: .ref T.heap.size :: rest, locked := none }) rfl hsize rfl rfl (rest := rest) rfl
    (by rw [hb]; exact d6) (by rw [hb]; exact d9) hout hRframes (by simp only [List.map_cons, List.sum_cons, hcat]; omega) hlocks
  obtain ⟨f1, f2⟩ := vx_frame hsame
  rw [hhp] at f1 f2
  have hWs : s.WarmedH U.vm := State.WarmedH.trans hW0 hW
  have hcl : s.vm.findClass cls = some ce.cls := by
    have h9 := hO.cls
    rw [hvm] at h9
    exact h9
  have hall : s.sameButNew ({ U with vm := s.vm } : State) locs mc ms := by
    subst hA
    obtain ⟨e1, e2⟩ := hsame
    rw [State.setFrames_setFrames] at e1
    have h2 : (T.setVm s.vm).sameButNew ({ U with vm := s.vm } : State) [] (0 + 1) (0 + 6) := ⟨e1, e2⟩
    have h3 := X.same.trans h2
    rw [List.append_nil] at h3
    exact h3.mono hc hs
  refine ⟨U, ?_, .threw T.heap.size, hrun, hend, Or.inr ⟨T.heap.size, rfl, cls, ce, locs, hx U hWs.alike f1 (fun q hq => f2 q hq (fun z hz => nomatch hz)), hce, hO.vm, hcl, hWs, hall, hf⟩⟩
  refine st1 _ ?_
  show Steps p.tables e below (T1.setTop { method := m, pc := pc + 3, locals := ls, stack := .ref T.heap.size :: rest, locked := none }) _
  jvm_step X₁.here [X₁.here.top, hexec, d3', Value.category]
  exact X₁.ldcString hexec (own := own) (text := text) (index := is) (a := sa) hown' hstr'.1 hstr'.2
    (g := { method := m, pc := pc + 4, locals := ls, stack := .ref T.heap.size :: .ref T.heap.size :: rest, locked := none }) rfl d4' _ hsteps
/-- 'throw new E("text")', the text by a wide index -/
theorem vx_throwSW {cc : ByteArray} {pc : Nat} (hexec : p.tables.exec = Jvm.exec) (hb : c.code = cc) (hl : l.stackTraces = false) {own cls text : String} {names : List String} {ik is ic mc ms sa : Nat} {A : Nat → Prop}
    (hown : s.vm.findClass own = some m.cls) (hcls : Bundle.fit cls = true) (hnames : ∀ n ∈ names, Bundle.fit n = true)
    (hk : (Cond.classLink own ik cls).before args s = true) (hini : (Cond.initialized cls).before args s = true) (hstr : vk_R own is text sa s) (hat : ∀ w ∈ vx_atS own ic cls names, w.before args s = true)
    (hgood : ∀ w ∈ Cond.classLink own ik cls :: Cond.initialized cls :: vx_atS own ic cls names, vx_ot w = true)
    (hU : vx_Zq Bundle.tN "UNASSIGNED_STACK" Bundle.steD A s s.heap) (hN : vx_Zq Bundle.tN "SUPPRESSED_SENTINEL" Bundle.listD A s s.heap) (hS : va_S A s.heap H locs) (hsize : ls.size = c.maxLocals)
    (d0 : decode cc pc = .ok (.new ik, 3)) (d3 : decode cc (pc + 3) = .ok (.dup, 1)) (d4 : decode cc (pc + 4) = .ok (.ldc_w is, 3)) (d7 : decode cc (pc + 7) = .ok (.invokespecial ic, 3)) (d10 : decode cc (pc + 10) = .ok (.athrow, 1))
    (hout : ∀ x ∈ c.exceptionTable.toList, covers x (pc + 10) = false)
    (hRframes : names.length + 3 < R.frames) (hRlocals : (rest.map fun v => v.category).sum + (13 * (names.length + 1) + 43) ≤ R.locals) (hRcells : cells + 1 ≤ R.cells) (hRslots : slots + 6 ≤ R.slots) (hlocks : meth.locks = false)
    (hx : ∀ t : State, s.vm.Alike t.vm → H.size ≤ t.heap.size → (∀ q : Nat, q < H.size → t.heap[q]? = H[q]?) → XC cls s t)
    (hf : ∀ z ∈ locs, free z.base) (hc : cells + 1 ≤ mc) (hs : slots + 6 ≤ ms) :
    W p l e R s m args below meth c H locs cells slots (vx_MQ below Qc XC args s mc ms free) (F0 m pc ls rest) := by
  intro T hT X
  have htr : e.platform.stackTraces = false := (show e.platform.stackTraces = l.stackTraces by rw [X.admits.platform]).trans hl
  have Y := vx_rebase X (R' := { frames := R.frames, locals := R.locals, cells := 1, slots := 6 }) (Nat.le_refl _) (Nat.le_refl _) hRcells hRslots
  obtain ⟨s', hA⟩ : ∃ z, z = (T.setVm s.vm).setFrames (.invoking m args :: below) := ⟨_, rfl⟩
  rw [← hA] at Y
  have hvm : s'.vm = s.vm := by rw [hA]; rfl
  have hhp : s'.heap = H := by rw [hA]; exact hT
  have hW0 : s.WarmedH s'.vm := by rw [hvm]; exact State.WarmedH.refl s
  have hat' : ∀ w ∈ vx_atS own ic cls names, w.before args s' = true := fun w hw => vx_ot_at hW0 hvm.symm (hgood w (List.mem_cons_of_mem _ (List.mem_cons_of_mem _ hw))) (hat w hw)
  have hk' : (Cond.classLink own ik cls).before args s' = true := vx_ot_at hW0 hvm.symm (hgood _ List.mem_cons_self) hk
  have hini' : (Cond.initialized cls).before args s' = true := vx_ot_at hW0 hvm.symm (hgood _ (List.mem_cons_of_mem _ List.mem_cons_self)) hini
  have hU' : vx_Zq Bundle.tN "UNASSIGNED_STACK" Bundle.steD A s' s'.heap := by rw [hhp]; exact vx_Zq.moved hW0.alike (hU.kept hS.2.1)
  have hN' : vx_Zq Bundle.tN "SUPPRESSED_SENTINEL" Bundle.listD A s' s'.heap := by rw [hhp]; exact vx_Zq.moved hW0.alike (hN.kept hS.2.1)
  have h : ∀ w ∈ Bundle.ownAtoms own ic cls names, w.before args s' = true := vx_own hat' (vx_isRefq hU'.1) (vx_isRefq hN'.1) hU'.2.word hN'.2.word
  have hown' : s'.vm.findClass own = some m.cls := by rw [hvm]; exact hown
  have hins : (Cond.instantiable cls 6).before args s' = true := h _ (by simp [Bundle.ownAtoms])
  obtain ⟨vm₁, cX, kX, hfX, hkX, -, -, X₁, st1⟩ := Y.newCold hexec (own := own) (C := cls) (index := ik) (n := 6) hown' hk' hins hini'
    (g := F0 m pc ls rest) rfl (by rw [hb]; exact d0) (Nat.le_refl _) (Nat.le_refl _)
  generalize hT1 : (T.setVm vm₁).pushCell { cls := cX, slots := kX.instanceTypes.map defaultValue, vm := .none } = T1 at X₁ st1
  have hcat : (Value.ref T.heap.size).category = 1 := rfl
  have hcellA : T1.heap[T.heap.size]? = some (freshCell cX kX) := by rw [← hT1]; exact State.heap_pushCell_size _ _
  have d3' : decode c.code (pc + 3) = .ok (.dup, 1) := by rw [hb]; exact d3
  have d4' : decode c.code (pc + 4) = .ok (.ldc_w is, 3) := by rw [hb]; exact d4
  have hstr' : vk_R own is text sa s' := vk_R.warm hW0 hstr
  obtain ⟨U, hsteps, hrun, hend, hW, hsame, ce, hce, hO⟩ := X₁.ctorThrowS hexec htr (own := own) (cls := cls) (names := names) (ic := ic) hown' hcls hnames h (fun x hx => nomatch hx) hfX hkX hcellA (by rw [hhp, hT]; exact Nat.le_refl _) (msg := .ref sa) rfl
    (g := { method := m, pc := pc + 7, locals := ls, stack := .ref sa :: .ref T.heap.size :: .ref T.heap.size :: rest, locked := none }) rfl hsize rfl rfl (rest := rest) rfl
    (by rw [hb]; exact d7) (by rw [hb]; exact d10) hout hRframes (by simp only [List.map_cons, List.sum_cons, hcat]; omega) hlocks
  obtain ⟨f1, f2⟩ := vx_frame hsame
  rw [hhp] at f1 f2
  have hWs : s.WarmedH U.vm := State.WarmedH.trans hW0 hW
  have hcl : s.vm.findClass cls = some ce.cls := by
    have h9 := hO.cls
    rw [hvm] at h9
    exact h9
  have hall : s.sameButNew ({ U with vm := s.vm } : State) locs mc ms := by
    subst hA
    obtain ⟨e1, e2⟩ := hsame
    rw [State.setFrames_setFrames] at e1
    have h2 : (T.setVm s.vm).sameButNew ({ U with vm := s.vm } : State) [] (0 + 1) (0 + 6) := ⟨e1, e2⟩
    have h3 := X.same.trans h2
    rw [List.append_nil] at h3
    exact h3.mono hc hs
  refine ⟨U, ?_, .threw T.heap.size, hrun, hend, Or.inr ⟨T.heap.size, rfl, cls, ce, locs, hx U hWs.alike f1 (fun q hq => f2 q hq (fun z hz => nomatch hz)), hce, hO.vm, hcl, hWs, hall, hf⟩⟩
  refine st1 _ ?_
  show Steps p.tables e below (T1.setTop { method := m, pc := pc + 3, locals := ls, stack := .ref T.heap.size :: rest, locked := none }) _
  jvm_step X₁.here [X₁.here.top, hexec, d3', Value.category]
  exact X₁.ldcStringW hexec (own := own) (text := text) (index := is) (a := sa) hown' hstr'.1 hstr'.2
    (g := { method := m, pc := pc + 4, locals := ls, stack := .ref T.heap.size :: .ref T.heap.size :: rest, locked := none }) rfl d4' _ hsteps
end Ends
section Bodies
variable {l : Launch}
theorem vx_ofW {y : MethodName} {ws ws' : List Cond} {rm : Room} {Pc : Array Value → State → Prop} {Qc : Array Value → State → Outcome → State → Prop} {XC : String → State → State → Prop} {mc ms : Nat} {free : Addr → Prop} {cc : ByteArray} {maxL : Nat} {ret : Option FieldType}
    (hy : plainName y.cls = true) (hw : ws = Cond.code y cc maxL ret :: ws')
    (body : ∀ p e s m args below meth c s₁, BodyLoose p l y (headSpec ws rm) cc maxL ret e s m args below meth c s₁ → c.maxLocals = maxL → (∀ x ∈ c.exceptionTable.toList, False) → Pc args s →
      W p l e (headSpec ws rm).room s m args below meth c s.heap [] 0 0 (vx_MQ below Qc XC args s mc ms free) (entryFrame m args maxL)) : vx_Met l y ws rm Pc Qc XC mc ms free := by
  refine MetFree.of_bodyS (code := cc) (maxLocals := maxL) (ret := ret) hy ?_ ?_
  · intro args s m h hn
    obtain ⟨meth, c, h1, h2, h3, h4, h5, h6, -, -⟩ := Cond.code_spec hn (atoms_spec (ws := ws) h _ (by rw [hw]; exact List.mem_cons_self))
    exact ⟨meth, c, h1, h2, h3, h4, h5, h6⟩
  · intro p e s m args below meth c s₁ B hml hP _
    have hh0 : s₁.heap = s.heap := by rw [B.state]; rfl
    have ht : ∀ x ∈ c.exceptionTable.toList, False := by
      obtain ⟨meth9, c9, h1, h2, -, -, -, -, h7, -⟩ := Cond.code_spec B.named (atoms_spec (ws := ws) B.pre _ (by rw [hw]; exact List.mem_cons_self))
      cases Option.some.inj (h1.symm.trans B.method)
      cases Option.some.inj (h2.symm.trans (Stand.of_body B).code)
      intro x hx
      rw [Array.isEmpty_iff.mp h7] at hx
      cases hx
    obtain ⟨t, a1, o, b1, b2, b3⟩ := body p e s m args below meth c s₁ B hml ht hP s₁ hh0 (Stand.of_body B)
    exact ⟨t, o, a1, b1, b2, b3⟩
/-- the table of a body with handlers -/
theorem vx_table {p : Program} {x y : MethodName} {S : Spec} {cc bytes : ByteArray} {maxL maxL' : Nat} {ret ret' : Option FieldType} {e : Env} {s s₁ : State} {m : MethodId} {args : Array Value} {below : List Frame} {meth : Method} {c : Code} {hh : List (Nat × Nat × Nat × Nat)}
    (B : BodyLoose p l y S cc maxL ret e s m args below meth c s₁) (h : (Cond.codeWith y bytes maxL' ret' hh).before args s = true) : c.exceptionTable.toList = tableOf hh := by
  obtain ⟨m9, meth9, c9, hn9, h1, h2, -, -, h6, -⟩ := Cond.codeWith_spec h
  cases Option.some.inj (hn9.symm.trans B.named)
  cases Option.some.inj (h1.symm.trans B.method)
  cases Option.some.inj (h2.symm.trans (Stand.of_body B).code)
  rw [← h6, table_eq]
end Bodies
end VXA
/-! ===== END ===== -/
/-! ===== BEGIN a static call of a method with an exception table ===== -/
section VXS
variable {p : Program} {l : Launch} {e : Env} {R : Room} {s : State} {m : MethodId} {args : Array Value} {below : List Frame} {meth : Method} {c : Code} {T : State} {H : Heap} {locs : List Loc} {cells slots : Nat}
abbrev vx_CSW (R : Room) (s : State) (args : Array Value) (own : String) (index : Nat) (y : MethodName) (bytes : ByteArray) (maxL : Nat) (ret : Option FieldType) (hh : List (Nat × Nat × Nat × Nat)) (ws : List Cond) (rm : Room) (mc ms n : Nat) : Prop :=
  (rm.cells = mc ∧ rm.slots = ms ∧ rm.frames + 1 ≤ R.frames ∧ 8 + (maxL + 11) + rm.locals ≤ R.locals ∧ (∀ w ∈ ws, ∀ (a' : Array Value) (U : State), s.WarmedH U.vm → w.before a' U = true) ∧ Cond.codeWith y bytes maxL ret hh ∈ ws) ∧
  (Cond.codeWith y bytes maxL ret hh).before args s = true ∧ (Cond.initialized y.cls).before args s = true ∧ (y.cls ≠ "java/lang/invoke/MethodHandle" ∧ y.cls ≠ "java/lang/invoke/VarHandle") ∧
  (∀ sig, parseMethodDescriptor y.desc = some sig → n = sig.parameters.length) ∧ (Cond.methodLink own index y).before args s = true ∧ (Cond.static y).before args s = true
theorem vx_cwSW {own : String} {index maxL mc ms : Nat} {y : MethodName} {bytes : ByteArray} {ret : Option FieldType} {hh : List (Nat × Nat × Nat × Nat)} {Ts ws ws' : List Cond} {rm : Room} (n : Nat) (ht : ∀ w ∈ Ts, w.before args s = true) (hT : GoodIn Ts (va_wsS own index y ws)) (hw : ws = Cond.codeWith y bytes maxL ret hh :: ws') (hrc : rm.cells = mc) (hrs : rm.slots = ms)
    (hd : y.cls ≠ "java/lang/invoke/MethodHandle" ∧ y.cls ≠ "java/lang/invoke/VarHandle" ∧ (parseMethodDescriptor y.desc).map (fun d => d.parameters.length) = some n) (hR : rm.frames + 1 ≤ R.frames ∧ 8 + (maxL + 11) + rm.locals ≤ R.locals) :
    vx_CSW R s args own index y bytes maxL ret hh ws rm mc ms n := by
  have ok : ∀ w ∈ va_wsS own index y ws, w.before args s = true := fun w h => ht w (hT w h).1
  have hG : GoodIn Ts ws := fun w h => hT w (by unfold va_wsS; exact List.mem_append_right _ h)
  have hc : Cond.codeWith y bytes maxL ret hh ∈ ws := by rw [hw]; exact List.mem_cons_self
  refine ⟨⟨hrc, hrs, hR.1, hR.2, pay_in ht hG, hc⟩, ht _ (hG _ hc).1, ok _ (by simp [va_wsS]), ⟨hd.1, hd.2.1⟩, fun sig h => ?_, ok _ (by simp [va_wsS]), ok _ (by simp [va_wsS])⟩
  have h2 := hd.2.2
  rw [h] at h2
  exact (Option.some.inj h2).symm
theorem vx_callSW (X : Stand p l e R s m args below meth c T locs cells slots) (hexec : p.tables.exec = Jvm.exec) {own : String} {index : Nat} {y : MethodName} {bytes : ByteArray} {maxL : Nat} {ret : Option FieldType} {hh : List (Nat × Nat × Nat × Nat)}
    (hown : s.vm.findClass own = some m.cls) (hlink : (Cond.methodLink own index y).before args s = true) (hstat : (Cond.static y).before args s = true) (hinit : (Cond.initialized y.cls).before args s = true)
    (hcode : (Cond.codeWith y bytes maxL ret hh).before args s = true) (hy : y.cls ≠ "java/lang/invoke/MethodHandle" ∧ y.cls ≠ "java/lang/invoke/VarHandle")
    {W9 : Nat} {Pre : Pt → Array Value → Prop} {Post : Pt → Array Value → Option Value → Pt → Prop} (hK : Back l R p e below s args y 3 W9 Pre Post)
    {g : JFrame} (hg : g.method = m) (hsize : g.locals.size = c.maxLocals) {argsL rest : List Value} (hlen : ∀ sig, parseMethodDescriptor y.desc = some sig → argsL.length = sig.parameters.length)
    (hstack : g.stack = argsL.reverse ++ rest) (hW : 2 * g.monitorRoom + (rest.map fun v => v.category).sum ≤ W9) (hdg : decode c.code g.pc = .ok (.invokestatic index, 3))
    (hpre : ∀ vm₁, s.WarmedH vm₁ → Pre ⟨T.setVm vm₁, locs, cells, slots⟩ argsL.toArray) :
    ∃ (v : Option Value) (vm₁ : Vm) (B : Pt), s.WarmedH vm₁ ∧ Stand p l e R s m args below meth c B.U B.locs B.cells B.slots ∧ Post ⟨T.setVm vm₁, locs, cells, slots⟩ argsL.toArray v B ∧
      ∀ target, Steps p.tables e below (B.U.setTop { g with pc := g.pc + 3, stack := v.toList ++ rest }) target → Steps p.tables e below (T.setTop g) target := by
  obtain ⟨mk, methM, cM, hnamed, hmethM, -, -, -, -, -, -, hsigM⟩ := Cond.codeWith_spec hcode
  have hstatic : methM.isStatic = true := Cond.static_spec hnamed hmethM hstat
  obtain ⟨kP, hkP, -⟩ := className_of_methodNamed hnamed
  have hinitP : kP.init = .initialized := Cond.initialized_spec (findClass_of_methodNamed hnamed) hkP hinit
  obtain ⟨vm₁, X₁, hstep₁⟩ := X.invokestatic hexec hown hlink hnamed hmethM hstatic hkP hinitP hy (g := g) hg (argsL := argsL) (rest := rest) (hlen _ hsigM) hstack hdg
  obtain ⟨v, B, X', hpost, hsteps⟩ := hK m meth c ⟨T.setVm vm₁, locs, cells, slots⟩ { g with stack := rest } (.invokestatic index) mk argsL.toArray X₁ hg hsize hdg hW (X₁.named hnamed) (hpre vm₁ X₁.warmed)
  exact ⟨v, vm₁, B, X₁.warmed, X', hpost, fun target h => hstep₁ _ fun acts => by rw [doInvoke_state]; exact hsteps.trans h⟩
theorem vx_runSW {y : MethodName} {bytes cc : ByteArray} {maxL nL mc ms n index : Nat} {ret : Option FieldType} {hh : List (Nat × Nat × Nat × Nat)} {ws : List Cond} {rm : Room} {Pc : Array Value → State → Prop} {Qc : Array Value → State → Outcome → State → Prop} {free : Addr → Prop} {Ts : List Cond} {own : String} {As rest : List Value} {g : JFrame}
    (S : CallFix p m c cc nL s args Ts own) (hM : Met l y ws rm Pc Qc mc ms free) (cw : vx_CSW R s args own index y bytes maxL ret hh ws rm mc ms n) (hp : PreS s H Pc As)
    (hg : g.method = m) (hn : As.length = n) (hsize : g.locals.size = nL) (hstack : g.stack = As.reverse ++ rest) (hW : 2 * g.monitorRoom + (rest.map fun v => v.category).sum ≤ 8) (hdg : decode cc g.pc = .ok (.invokestatic index, 3)) (hf : cells + mc ≤ R.cells ∧ slots + ms ≤ R.slots) :
    va_Run p l e R s m args below meth c H locs cells slots mc ms g rest (Qc As.toArray) (free) := by
  obtain ⟨⟨hrc, hrs, hfr, hlo, hws, hcw⟩, hcode, hini, hy, hlen, hl, hstt⟩ := cw
  have hK : Back l R p e below s args y 3 8 (PreOf R mc ms Pc) (PostOf Qc mc ms free) := va_backW (hh := hh) (bytes := bytes) (maxL := maxL) (ret := ret) hM hp.1 hrc hrs hfr hlo hws hcw (fun a' U hW => word_at hW (Or.inl (by first | rfl | simp [Cond.onTables, Cond.keeps, Cond.steady])) hini)
  obtain ⟨hx, hb, hml, ho, -⟩ := S
  intro T hT X
  obtain ⟨v, vm₁, ⟨U', l2, c2, s2⟩, hW₁, X', ⟨g', mk, t, L, e1, e2, hq, h1, hL, h2, h3⟩, st⟩ := vx_callSW X hx (hh := hh) (bytes := bytes) (maxL := maxL) (ret := ret) ho hl hstt hini hcode hy hK hg (hsize.trans hml.symm) (argsL := As) (rest := rest) (fun sig h => hn.trans (hlen sig h)) hstack hW (by rw [hb]; exact hdg)
    (fun vm₁ hW₁ => ⟨hf.1, hf.2, hp.2 (T.setVm vm₁) hT hW₁⟩)
  dsimp only [Pt.U, Pt.locs, Pt.cells, Pt.slots] at X' e1 e2 h1 h2 h3 st
  subst h1; subst h2; subst h3
  exact ⟨v, (T.setVm vm₁).calling g' mk As.toArray, t, U', L, hT, X', hL, e1, e2, hq, st⟩
/-- not caught here, past rows that name other classes: it goes on to the caller -/
theorem vx_outP {p : Program} {l : Launch} {e : Env} {R : Room} {s : State} {m : MethodId} {args : Array Value} {below : List Frame} {meth : Method} {c : Code} {H : Heap} {locs : List Loc} {cells slots : Nat} {free : Addr → Prop} {ls : Array Slot} {rest : List Value} {Qc : Array Value → State → Outcome → State → Prop} {XC : String → State → State → Prop}
    {pc : Nat} {own E : String} {ce : Cell} {q : Addr} {mc ms : Nat} (hown : s.vm.findClass own = some m.cls) (hlocks : meth.locks = false)
    (hpass : ∀ z ∈ c.exceptionTable.toList, covers z pc = false ∨ (z.catchType ≠ 0 ∧ ∃ nm : String, (Cond.classLink own z.catchType nm).before args s = true ∧ va_Nc E nm s)) (hcell : H[q]? = some ce) (hv : ce.vm = .none) (hcl : s.vm.findClass E = some ce.cls)
    (hx : ∀ t : State, t.heap = H → s.vm.Alike t.vm → XC E s t) (hf : ∀ z ∈ locs, free z.base) (hc : cells ≤ mc) (hs : slots ≤ ms) :
    vx_W p l e R s m args below meth c H locs cells slots (vx_MQ below Qc XC args s mc ms free) (F0 m pc ls rest) q := by
  intro T hT X
  have hpl : e.platform.magicAccessors = ({} : Platform).magicAccessors := by rw [X.admits.platform]
  obtain ⟨vm', hW', X', st⟩ := X.outThrough hlocks q (g := F0 m pc ls rest) rfl rfl rfl (cell := ce) (by rw [hT]; exact hcell) (by rw [hv]; rfl)
    (by obtain ⟨k9, h9, -⟩ := Vm.findClass_spec hcl; exact ⟨k9, h9⟩) (fun z hz => by
      rcases hpass z hz with h | ⟨hz0, nm, hl1, hn1⟩
      · exact Or.inl h
      · obtain ⟨c6, hc6, hcl6⟩ := Cond.classLink_spec hown hl1 e.platform hpl
        obtain ⟨a8, b8, h1, h2, h3⟩ := hn1
        cases Option.some.inj (h1.symm.trans hcl)
        cases Option.some.inj (h2.symm.trans hc6)
        exact Or.inr ⟨hz0, _, hcl6, h3⟩)
  obtain ⟨g₀, hfr⟩ := X'.frames_eq
  have hcell9 : ((T.setVm vm').setFrames (.throwing q :: below)).heap[q]? = some ce := by
    show T.heap[q]? = some ce
    rw [hT]; exact hcell
  have hend : Ended ((T.setVm vm').setFrames (.throwing q :: below)) below (.threw q) := State.frames_setFrames _ (State.cur_lt_of_frames hfr)
  refine ⟨(T.setVm vm').setFrames (.throwing q :: below), ?_, .threw q, X'.here.running, hend, Or.inr ⟨q, rfl, E, ce, locs, hx _ hT (X'.ends _).1.alike, hcell9, hv, hcl, (X'.ends _).1, (X'.ends _).2.mono hc hs, hf⟩⟩
  rw [X.pushThrowing_eq]
  exact st
/-- a thing of a world lies in the heap -/
theorem vx_lt {D : va_G} {cl : List vw_C} {ws : va_W} {H1 : Heap} (h : va_P D cl ws H1) {k : Nat} {q : Nat × va_E} (hk : ws[k]? = some q) : q.1 < H1.size := (h k q hk).lt
end VXS
/-! ===== END ===== -/
/-! ===== BEGIN methods with a table of their own: called by a name, returning or throwing ===== -/
section VXH
/-! vx_backW, vx_callVX, vx_callSX, vx_callVW, vx_runVW, vx_runVX, vx_runSX, vx_ofWH follow the same proofs as their sisters above (Free/Laws.lean, Shelf42/LK1.lean); vx_outP calls Shelf42/NT130.lean (outThrough). -/
section
variable {l : Launch} {R : Room} {p : Program} {e : Env} {below : List Frame} {s : State} {sargs : Array Value} {y : MethodName} {len W9 : Nat}
theorem vx_backW {ws : List Cond} {rm : Room} {Pc : Array Value → State → Prop} {Qc : Array Value → State → Outcome → State → Prop} {XC : String → State → State → Prop} {mc ms : Nat} {free : Addr → Prop} {bytes : ByteArray} {maxL : Nat} {ret : Option FieldType} {hh : List (Nat × Nat × Nat × Nat)}
    (hM : vx_Met l y ws rm Pc Qc XC mc ms free) (hblind : FrameBlind Pc) (hrc : rm.cells = mc) (hrs : rm.slots = ms)
    (hframes : rm.frames + 1 ≤ R.frames) (hlocals : W9 + (maxL + 11) + rm.locals ≤ R.locals)
    (hws : ∀ w ∈ ws, ∀ a' U, s.WarmedH U.vm → w.before a' U = true) (hcode : Cond.codeWith y bytes maxL ret hh ∈ ws) (hinit : ∀ a' U, s.WarmedH U.vm → (Cond.initialized y.cls).before a' U = true) :
    vx_Back l R p e below s sargs y len W9 (PreOf R mc ms Pc) (PostOf Qc mc ms free) (vx_Post XC mc ms free) := by
  intro m meth c A g ig mk a X hg hsize hdg hW hn hp
  have h1 : (headSpec ws rm).pre.before a A.U = true := atoms_intro fun w hw => hws w hw _ _ X.warmed
  have h2 : (Cond.codeWith y bytes maxL ret hh).before a A.U = true := hws _ hcode _ _ X.warmed
  have h3 : (Cond.initialized y.cls).before a A.U = true := hinit _ _ X.warmed
  have h4 : A.cells + (headSpec ws rm).room.cells ≤ R.cells := by rw [show (headSpec ws rm).room.cells = mc from hrc]; exact hp.1
  have h5 : A.slots + (headSpec ws rm).room.slots ≤ R.slots := by rw [show (headSpec ws rm).room.slots = ms from hrs]; exact hp.2.1
  have hPc : Pc a (A.U.calling g mk a) := hblind _ _ _ _ hp.2.2
  obtain ⟨U, Ls, c0, s0⟩ := A
  dsimp only [Pt.U, Pt.locs, Pt.cells, Pt.slots] at h1 h2 h3 h4 h5 X hn hPc ⊢
  obtain ⟨m9, methY, cY, hn9, hmY, hcY, -, hlY, -⟩ := Cond.codeWith_spec h2
  cases Option.some.inj (hn9.symm.trans hn)
  obtain ⟨kY, hkY, -⟩ := className_of_methodNamed hn
  have hinitY : kY.init = .initialized := Cond.initialized_spec (findClass_of_methodNamed hn) hkY h3
  have h : At U g.method c below := by rw [hg]; exact X.here
  have hlocals9 : W9 + (maxL + 11) + (headSpec ws rm).room.locals ≤ R.locals := hlocals
  have happ : (headSpec ws rm).appliesLoose y e.platform (U.calling g mk a) = true :=
    Spec.appliesLoose_calling (g := g) h hdg hn hkY hinitY
      (X.room_calling (g := g) (R' := (headSpec ws rm).room) hsize hmY hcY hframes (by rw [hlY]; omega) h4 h5) h1
  obtain ⟨mid, hmid⟩ := h.above
  have hfr : (U.setTop g).frames = (.java g :: mid) ++ below := by rw [State.frames_setTop' g h.top, hmid]; rfl
  obtain ⟨o, s₂, hsteps, -, hend, hq⟩ := Steps.callFree hM p X.admits X.cas X.clock (acts := []) hfr happ hPc trivial
  have hq' : vx_Q Qc XC mc ms free a (U.calling g mk a) o s₂ := hq
  rw [State.frames_setTop' g h.top] at hend
  obtain ⟨g₀, hg0⟩ := Option.isSome_iff_exists.mp h.top
  obtain ⟨r, hr⟩ := State.topJava?_eq_some.mp hg0
  have hr' : (({ U with heap := s₂.heap, slotsUsed := s₂.slotsUsed } : State).setVm s₂.vm).frames = .java g₀ :: r := hr
  rcases hq' with ⟨hqc, L, hfe, hL⟩ | ⟨q, rfl, E, ce, L, hx, hce, hcv, hcl, hW₂, hsm, hL⟩
  · obtain ⟨⟨v, rfl⟩, hW₂, e2, q2, q3, q4, q5, q6⟩ := id hfe
    have e3 : s₂ = ({ (U.calling g mk a).setFrames s₂.frames with heap := s₂.heap, slotsUsed := s₂.slotsUsed } : State).setVm s₂.vm := by
      have : s₂ = ({ s₂ with vm := (U.calling g mk a).vm } : State).setVm s₂.vm := rfl
      rw [e2] at this
      exact this
    obtain ⟨c₂, i₂, len₂, hc₂, hd₂, hf₂⟩ := hend
    have hW' : U.WarmedH s₂.vm := hW₂
    have hcc : c₂ = c := by
      have h1 : s₂.code? g.method = U.code? g.method := by
        rw [State.code?_eq, State.code?_eq, hW'.alike.method?]
      exact Option.some.inj (hc₂.symm.trans (h1.trans h.code))
    subst hcc
    have hlen : len₂ = len := by rw [hdg] at hd₂; cases hd₂; rfl
    subst hlen
    have hs₂ : s₂ = (({ U with heap := s₂.heap, slotsUsed := s₂.slotsUsed } : State).setVm s₂.vm).setTop { g with pc := g.pc + len₂, stack := v.toList ++ g.stack } := by
      refine e3.trans ?_
      rw [hf₂, State.calling_eq h.top, State.setFrames_setFrames, State.setTop_of_frames _ hr', hr]
      rfl
    have hsame : U.sameButNew ({ U with heap := s₂.heap, slotsUsed := s₂.slotsUsed } : State) L mc ms := by
      refine ⟨?_, q2, q3, q4, q5, q6⟩
      obtain ⟨t, ht, -⟩ := State.frames_cons hr
      show ({ U with heap := s₂.heap, slotsUsed := s₂.slotsUsed } : State) = { U.setFrames U.frames with heap := s₂.heap, slotsUsed := s₂.slotsUsed }
      rw [State.setFrames_self ht]
    subst hg
    refine Or.inl ⟨v, ⟨(({ U with heap := s₂.heap, slotsUsed := s₂.slotsUsed } : State).setVm s₂.vm), Ls ++ L, c0 + mc, s0 + ms⟩,
      ⟨X.admits, X.cas, X.clock, X.frames, X.room, X.hears, X.method, X.code, (X.here.setHeapUsed s₂.heap s₂.slotsUsed).setVm hW'.alike, X.tail, State.WarmedH.trans X.warmed hW', X.limits, X.bytes, X.same.trans (hsame.setVm s.vm)⟩,
      ⟨g, mk, s₂, L, rfl, rfl, hqc, rfl, hL, rfl, rfl⟩, ?_⟩
    show Steps p.tables e below _ ((({ U with heap := s₂.heap, slotsUsed := s₂.slotsUsed } : State).setVm s₂.vm).setTop { g with pc := g.pc + len₂, stack := v.toList ++ g.stack })
    rw [← hs₂]
    exact hsteps
  · obtain ⟨e2, q2, q3, q4, q5, q6⟩ := id hsm
    have e3 : s₂ = ({ (U.calling g mk a).setFrames s₂.frames with heap := s₂.heap, slotsUsed := s₂.slotsUsed } : State).setVm s₂.vm := by
      have : s₂ = ({ s₂ with vm := (U.calling g mk a).vm } : State).setVm s₂.vm := rfl
      rw [e2] at this
      exact this
    have hf₂ : s₂.frames = .throwing q :: .java g :: U.frames.tail := hend
    have hW' : U.WarmedH s₂.vm := hW₂
    have hs₂ : s₂ = ((({ U with heap := s₂.heap, slotsUsed := s₂.slotsUsed } : State).setVm s₂.vm).setTop g).pushFrame (.throwing q) := by
      refine e3.trans ?_
      rw [hf₂, State.calling_eq h.top, State.setFrames_setFrames, State.pushFrame, State.frames_setTop _ hr', State.setTop_of_frames _ hr', State.setFrames_setFrames, hr]
      rfl
    have hsame : U.sameButNew ({ U with heap := s₂.heap, slotsUsed := s₂.slotsUsed } : State) L mc ms := by
      refine ⟨?_, q2, q3, q4, q5, q6⟩
      obtain ⟨t, ht, -⟩ := State.frames_cons hr
      show ({ U with heap := s₂.heap, slotsUsed := s₂.slotsUsed } : State) = { U.setFrames U.frames with heap := s₂.heap, slotsUsed := s₂.slotsUsed }
      rw [State.setFrames_self ht]
    subst hg
    refine Or.inr ⟨q, ⟨(({ U with heap := s₂.heap, slotsUsed := s₂.slotsUsed } : State).setVm s₂.vm), Ls ++ L, c0 + mc, s0 + ms⟩,
      ⟨X.admits, X.cas, X.clock, X.frames, X.room, X.hears, X.method, X.code, (X.here.setHeapUsed s₂.heap s₂.slotsUsed).setVm hW'.alike, X.tail, State.WarmedH.trans X.warmed hW', X.limits, X.bytes, X.same.trans (hsame.setVm s.vm)⟩,
      ⟨g, mk, s₂, L, E, ce, rfl, rfl, hx, hce, hcv, hcl, rfl, hL, rfl, rfl⟩, ?_⟩
    show Steps p.tables e below _ (((({ U with heap := s₂.heap, slotsUsed := s₂.slotsUsed } : State).setVm s₂.vm).setTop g).pushFrame (.throwing q))
    rw [← hs₂]
    exact hsteps
end
variable {p : Program} {l : Launch} {e : Env} {R : Room} {s : State} {m : MethodId} {args : Array Value} {below : List Frame} {meth : Method} {c : Code} {T : State} {H : Heap} {locs : List Loc} {cells slots : Nat}
theorem vx_callVX (X : Stand p l e R s m args below meth c T locs cells slots) (hexec : p.tables.exec = Jvm.exec) {own C : String} {index : Nat} {y : MethodName} {bytes : ByteArray} {maxL : Nat} {ret : Option FieldType} {hh : List (Nat × Nat × Nat × Nat)}
    (hown : s.vm.findClass own = some m.cls) (hlink : (Cond.methodLink own index y).before args s = true) (hinst : (Cond.instanceMethod y).before args s = true) (hsel : (Cond.selects C y y).before args s = true)
    (hcode : (Cond.codeWith y bytes maxL ret hh).before args s = true) (hy : y.cls ≠ "java/lang/invoke/MethodHandle" ∧ y.cls ≠ "java/lang/invoke/VarHandle")
    {W9 : Nat} {Pre : Pt → Array Value → Prop} {Post : Pt → Array Value → Option Value → Pt → Prop} {PostX : Pt → Array Value → Addr → Pt → Prop} (hK : vx_Back l R p e below s args y 3 W9 Pre Post PostX)
    {b : Addr} {cellB : Cell} (hcell : T.heap[b]? = some cellB) (hobj : cellB.vm.isStatics = false) (hcls : s.vm.findClass C = some cellB.cls)
    {g : JFrame} (hg : g.method = m) (hsize : g.locals.size = c.maxLocals) {argsL rest : List Value} (hlen : ∀ sig, parseMethodDescriptor y.desc = some sig → argsL.length = sig.parameters.length)
    (hstack : g.stack = argsL.reverse ++ .ref b :: rest) (hW : 2 * g.monitorRoom + (rest.map fun v => v.category).sum ≤ W9) (hdg : decode c.code g.pc = .ok (.invokevirtual index, 3))
    (hpre : ∀ vm₁, s.WarmedH vm₁ → Pre ⟨T.setVm vm₁, locs, cells, slots⟩ (Value.ref b :: argsL).toArray) :
    (∃ (v : Option Value) (vm₁ : Vm) (B : Pt), s.WarmedH vm₁ ∧ Stand p l e R s m args below meth c B.U B.locs B.cells B.slots ∧ Post ⟨T.setVm vm₁, locs, cells, slots⟩ (Value.ref b :: argsL).toArray v B ∧
      ∀ target, Steps p.tables e below (B.U.setTop { g with pc := g.pc + 3, stack := v.toList ++ rest }) target → Steps p.tables e below (T.setTop g) target) ∨
    (∃ (q : Addr) (vm₁ : Vm) (B : Pt), s.WarmedH vm₁ ∧ Stand p l e R s m args below meth c B.U B.locs B.cells B.slots ∧ PostX ⟨T.setVm vm₁, locs, cells, slots⟩ (Value.ref b :: argsL).toArray q B ∧
      Steps p.tables e below (T.setTop g) ((B.U.setTop { g with stack := rest }).pushFrame (.throwing q))) := by
  obtain ⟨mk, methM, hnamed, hmethM, hstM, habM⟩ := Cond.instanceMethod_spec hinst
  obtain ⟨m8, methM', cM, hn8, hmethM', -, -, -, -, -, -, hsigM⟩ := Cond.codeWith_spec hcode
  cases Option.some.inj (hn8.symm.trans hnamed)
  cases hmethM.symm.trans hmethM'
  obtain ⟨c2, r2, m2, q1, q2, q3, q4, kP, hkP, hkPi⟩ := Cond.selects_spec hsel
  cases hcls.symm.trans q1
  cases (State.methodFound?_of_named hnamed hy).symm.trans q2
  cases hnamed.symm.trans q3
  have hselP : selectMethod e.platform s.vm cellB.cls mk = .method mk := by rw [Launch.admits_selectMethod X.admits]; exact q4
  obtain ⟨vm₁, X₁, hstep₁⟩ := X.invokevirtual hexec hown hlink hnamed hmethM hstM hkP hkPi hy (a := b) (cell := cellB) hcell
    (fun z h => by rw [h] at hobj; cases hobj) hselP hmethM habM hkP hkPi (g := g) hg (argsL := argsL) (rest := rest) (hlen _ hsigM) hstack hdg
  rcases hK m meth c ⟨T.setVm vm₁, locs, cells, slots⟩ { g with stack := rest } (.invokevirtual index) mk (Value.ref b :: argsL).toArray X₁ hg hsize hdg hW (X₁.named hnamed) (hpre vm₁ X₁.warmed) with ⟨v, B, X', hpost, hsteps⟩ | ⟨q, B, X', hpost, hsteps⟩
  · exact Or.inl ⟨v, vm₁, B, X₁.warmed, X', hpost, fun target h => hstep₁ _ fun acts => by rw [doInvoke_state]; exact hsteps.trans h⟩
  · exact Or.inr ⟨q, vm₁, B, X₁.warmed, X', hpost, hstep₁ _ fun acts => by rw [doInvoke_state]; exact hsteps⟩
theorem vx_callSX (X : Stand p l e R s m args below meth c T locs cells slots) (hexec : p.tables.exec = Jvm.exec) {own : String} {index : Nat} {y : MethodName} {bytes : ByteArray} {maxL : Nat} {ret : Option FieldType} {hh : List (Nat × Nat × Nat × Nat)}
    (hown : s.vm.findClass own = some m.cls) (hlink : (Cond.methodLink own index y).before args s = true) (hstat : (Cond.static y).before args s = true) (hinit : (Cond.initialized y.cls).before args s = true)
    (hcode : (Cond.codeWith y bytes maxL ret hh).before args s = true) (hy : y.cls ≠ "java/lang/invoke/MethodHandle" ∧ y.cls ≠ "java/lang/invoke/VarHandle")
    {W9 : Nat} {Pre : Pt → Array Value → Prop} {Post : Pt → Array Value → Option Value → Pt → Prop} {PostX : Pt → Array Value → Addr → Pt → Prop} (hK : vx_Back l R p e below s args y 3 W9 Pre Post PostX)
    {g : JFrame} (hg : g.method = m) (hsize : g.locals.size = c.maxLocals) {argsL rest : List Value} (hlen : ∀ sig, parseMethodDescriptor y.desc = some sig → argsL.length = sig.parameters.length)
    (hstack : g.stack = argsL.reverse ++ rest) (hW : 2 * g.monitorRoom + (rest.map fun v => v.category).sum ≤ W9) (hdg : decode c.code g.pc = .ok (.invokestatic index, 3))
    (hpre : ∀ vm₁, s.WarmedH vm₁ → Pre ⟨T.setVm vm₁, locs, cells, slots⟩ argsL.toArray) :
    (∃ (v : Option Value) (vm₁ : Vm) (B : Pt), s.WarmedH vm₁ ∧ Stand p l e R s m args below meth c B.U B.locs B.cells B.slots ∧ Post ⟨T.setVm vm₁, locs, cells, slots⟩ argsL.toArray v B ∧
      ∀ target, Steps p.tables e below (B.U.setTop { g with pc := g.pc + 3, stack := v.toList ++ rest }) target → Steps p.tables e below (T.setTop g) target) ∨
    (∃ (q : Addr) (vm₁ : Vm) (B : Pt), s.WarmedH vm₁ ∧ Stand p l e R s m args below meth c B.U B.locs B.cells B.slots ∧ PostX ⟨T.setVm vm₁, locs, cells, slots⟩ argsL.toArray q B ∧
      Steps p.tables e below (T.setTop g) ((B.U.setTop { g with stack := rest }).pushFrame (.throwing q))) := by
  obtain ⟨mk, methM, cM, hnamed, hmethM, -, -, -, -, -, -, hsigM⟩ := Cond.codeWith_spec hcode
  have hstatic : methM.isStatic = true := Cond.static_spec hnamed hmethM hstat
  obtain ⟨kP, hkP, -⟩ := className_of_methodNamed hnamed
  have hinitP : kP.init = .initialized := Cond.initialized_spec (findClass_of_methodNamed hnamed) hkP hinit
  obtain ⟨vm₁, X₁, hstep₁⟩ := X.invokestatic hexec hown hlink hnamed hmethM hstatic hkP hinitP hy (g := g) hg (argsL := argsL) (rest := rest) (hlen _ hsigM) hstack hdg
  rcases hK m meth c ⟨T.setVm vm₁, locs, cells, slots⟩ { g with stack := rest } (.invokestatic index) mk argsL.toArray X₁ hg hsize hdg hW (X₁.named hnamed) (hpre vm₁ X₁.warmed) with ⟨v, B, X', hpost, hsteps⟩ | ⟨q, B, X', hpost, hsteps⟩
  · exact Or.inl ⟨v, vm₁, B, X₁.warmed, X', hpost, fun target h => hstep₁ _ fun acts => by rw [doInvoke_state]; exact hsteps.trans h⟩
  · exact Or.inr ⟨q, vm₁, B, X₁.warmed, X', hpost, hstep₁ _ fun acts => by rw [doInvoke_state]; exact hsteps⟩
theorem vx_callVW (X : Stand p l e R s m args below meth c T locs cells slots) (hexec : p.tables.exec = Jvm.exec) {own C : String} {index : Nat} {y : MethodName} {bytes : ByteArray} {maxL : Nat} {ret : Option FieldType} {hh : List (Nat × Nat × Nat × Nat)}
    (hown : s.vm.findClass own = some m.cls) (hlink : (Cond.methodLink own index y).before args s = true) (hinst : (Cond.instanceMethod y).before args s = true) (hsel : (Cond.selects C y y).before args s = true)
    (hcode : (Cond.codeWith y bytes maxL ret hh).before args s = true) (hy : y.cls ≠ "java/lang/invoke/MethodHandle" ∧ y.cls ≠ "java/lang/invoke/VarHandle")
    {W9 : Nat} {Pre : Pt → Array Value → Prop} {Post : Pt → Array Value → Option Value → Pt → Prop} (hK : Back l R p e below s args y 3 W9 Pre Post)
    {b : Addr} {cellB : Cell} (hcell : T.heap[b]? = some cellB) (hobj : cellB.vm.isStatics = false) (hcls : s.vm.findClass C = some cellB.cls)
    {g : JFrame} (hg : g.method = m) (hsize : g.locals.size = c.maxLocals) {argsL rest : List Value} (hlen : ∀ sig, parseMethodDescriptor y.desc = some sig → argsL.length = sig.parameters.length)
    (hstack : g.stack = argsL.reverse ++ .ref b :: rest) (hW : 2 * g.monitorRoom + (rest.map fun v => v.category).sum ≤ W9) (hdg : decode c.code g.pc = .ok (.invokevirtual index, 3))
    (hpre : ∀ vm₁, s.WarmedH vm₁ → Pre ⟨T.setVm vm₁, locs, cells, slots⟩ (Value.ref b :: argsL).toArray) :
    ∃ (v : Option Value) (vm₁ : Vm) (B : Pt), s.WarmedH vm₁ ∧ Stand p l e R s m args below meth c B.U B.locs B.cells B.slots ∧ Post ⟨T.setVm vm₁, locs, cells, slots⟩ (Value.ref b :: argsL).toArray v B ∧
      ∀ target, Steps p.tables e below (B.U.setTop { g with pc := g.pc + 3, stack := v.toList ++ rest }) target → Steps p.tables e below (T.setTop g) target := by
  obtain ⟨mk, methM, hnamed, hmethM, hstM, habM⟩ := Cond.instanceMethod_spec hinst
  obtain ⟨m8, methM', cM, hn8, hmethM', -, -, -, -, -, -, hsigM⟩ := Cond.codeWith_spec hcode
  cases Option.some.inj (hn8.symm.trans hnamed)
  cases hmethM.symm.trans hmethM'
  obtain ⟨c2, r2, m2, q1, q2, q3, q4, kP, hkP, hkPi⟩ := Cond.selects_spec hsel
  cases hcls.symm.trans q1
  cases (State.methodFound?_of_named hnamed hy).symm.trans q2
  cases hnamed.symm.trans q3
  have hselP : selectMethod e.platform s.vm cellB.cls mk = .method mk := by rw [Launch.admits_selectMethod X.admits]; exact q4
  obtain ⟨vm₁, X₁, hstep₁⟩ := X.invokevirtual hexec hown hlink hnamed hmethM hstM hkP hkPi hy (a := b) (cell := cellB) hcell
    (fun z h => by rw [h] at hobj; cases hobj) hselP hmethM habM hkP hkPi (g := g) hg (argsL := argsL) (rest := rest) (hlen _ hsigM) hstack hdg
  obtain ⟨v, B, X', hpost, hsteps⟩ := hK m meth c ⟨T.setVm vm₁, locs, cells, slots⟩ { g with stack := rest } (.invokevirtual index) mk (Value.ref b :: argsL).toArray X₁ hg hsize hdg hW (X₁.named hnamed) (hpre vm₁ X₁.warmed)
  exact ⟨v, vm₁, B, X₁.warmed, X', hpost, fun target h => hstep₁ _ fun acts => by rw [doInvoke_state]; exact hsteps.trans h⟩
abbrev vx_CVW (R : Room) (s : State) (args : Array Value) (own C : String) (index : Nat) (y : MethodName) (bytes : ByteArray) (maxL : Nat) (ret : Option FieldType) (hh : List (Nat × Nat × Nat × Nat)) (ws : List Cond) (rm : Room) (mc ms n : Nat) : Prop :=
  (rm.cells = mc ∧ rm.slots = ms ∧ rm.frames + 1 ≤ R.frames ∧ 8 + (maxL + 11) + rm.locals ≤ R.locals ∧ (∀ w ∈ ws, ∀ (a' : Array Value) (U : State), s.WarmedH U.vm → w.before a' U = true) ∧ Cond.codeWith y bytes maxL ret hh ∈ ws) ∧
  (Cond.codeWith y bytes maxL ret hh).before args s = true ∧ (Cond.initialized y.cls).before args s = true ∧ (y.cls ≠ "java/lang/invoke/MethodHandle" ∧ y.cls ≠ "java/lang/invoke/VarHandle") ∧
  (∀ sig, parseMethodDescriptor y.desc = some sig → n = sig.parameters.length) ∧ (Cond.methodLink own index y).before args s = true ∧ (Cond.instanceMethod y).before args s = true ∧ (Cond.selects C y y).before args s = true
theorem vx_cwVW {own C : String} {index maxL mc ms : Nat} {y : MethodName} {bytes : ByteArray} {ret : Option FieldType} {hh : List (Nat × Nat × Nat × Nat)} {Ts ws ws' : List Cond} {rm : Room} (n : Nat) (ht : ∀ w ∈ Ts, w.before args s = true) (hT : GoodIn Ts (wsV own index C y ws)) (hw : ws = Cond.codeWith y bytes maxL ret hh :: ws') (hrc : rm.cells = mc) (hrs : rm.slots = ms)
    (hd : y.cls = C ∧ y.cls ≠ "java/lang/invoke/MethodHandle" ∧ y.cls ≠ "java/lang/invoke/VarHandle" ∧ (parseMethodDescriptor y.desc).map (fun d => d.parameters.length) = some n) (hR : rm.frames + 1 ≤ R.frames ∧ 8 + (maxL + 11) + rm.locals ≤ R.locals) :
    vx_CVW R s args own C index y bytes maxL ret hh ws rm mc ms n := by
  obtain ⟨hC, hd⟩ := hd
  subst hC
  have ok : ∀ w ∈ wsV own index y.cls y ws, w.before args s = true := fun w h => ht w (hT w h).1
  have hG : GoodIn Ts ws := fun w h => hT w (by unfold wsV; exact List.mem_append_right _ h)
  have hc : Cond.codeWith y bytes maxL ret hh ∈ ws := by rw [hw]; exact List.mem_cons_self
  refine ⟨⟨hrc, hrs, hR.1, hR.2, pay_in ht hG, hc⟩, ht _ (hG _ hc).1, ok _ (by simp [wsV]), ⟨hd.1, hd.2.1⟩, fun sig h => ?_, ok _ (by simp [wsV]), ok _ (by simp [wsV]), ok _ (by simp [wsV])⟩
  have h2 := hd.2.2
  rw [h] at h2
  exact (Option.some.inj h2).symm
theorem vx_runVW {y : MethodName} {bytes cc : ByteArray} {maxL nL mc ms n index : Nat} {ret : Option FieldType} {hh : List (Nat × Nat × Nat × Nat)} {ws : List Cond} {rm : Room} {Pc : Array Value → State → Prop} {Qc : Array Value → State → Outcome → State → Prop} {free : Addr → Prop} {Ts : List Cond} {own C : String} {b : Addr} {As rest : List Value} {g : JFrame}
    (S : CallFix p m c cc nL s args Ts own) (hM : Met l y ws rm Pc Qc mc ms free) (cw : vx_CVW R s args own C index y bytes maxL ret hh ws rm mc ms n) (hp : PreV s H C b Pc As)
    (hg : g.method = m) (hn : As.length = n) (hsize : g.locals.size = nL) (hstack : g.stack = As.reverse ++ .ref b :: rest) (hW : 2 * g.monitorRoom + (rest.map fun v => v.category).sum ≤ 8) (hdg : decode cc g.pc = .ok (.invokevirtual index, 3)) (hf : cells + mc ≤ R.cells ∧ slots + ms ≤ R.slots) :
    va_Run p l e R s m args below meth c H locs cells slots mc ms g rest (Qc (Value.ref b :: As).toArray) free := by
  obtain ⟨⟨hrc, hrs, hfr, hlo, hws, hcw⟩, hcode, hini, hy, hlen, hl, hin, hse⟩ := cw
  have hK : Back l R p e below s args y 3 8 (PreOf R mc ms Pc) (PostOf Qc mc ms free) := va_backW (hh := hh) (bytes := bytes) (maxL := maxL) (ret := ret) hM hp.1 hrc hrs hfr hlo hws hcw (fun a' U hW => word_at hW (Or.inl (by first | rfl | simp [Cond.onTables, Cond.keeps, Cond.steady])) hini)
  obtain ⟨hx, hb, hml, ho, -⟩ := S
  obtain ⟨-, ⟨cellB, hcB, hoB, hclB⟩, hPc⟩ := hp
  intro T hT X
  obtain ⟨v, vm₁, ⟨U', l2, c2, s2⟩, hW₁, X', ⟨g', mk, t, L, e1, e2, hq, h1, hL, h2, h3⟩, st⟩ := vx_callVW X hx (C := C) (hh := hh) (bytes := bytes) (maxL := maxL) (ret := ret) ho hl hin hse hcode hy hK (by rw [hT]; exact hcB) hoB hclB hg (hsize.trans hml.symm) (argsL := As) (rest := rest) (fun sig h => hn.trans (hlen sig h)) hstack hW (by rw [hb]; exact hdg)
    (fun vm₁ hW₁ => ⟨hf.1, hf.2, hPc (T.setVm vm₁) hT hW₁⟩)
  dsimp only [Pt.U, Pt.locs, Pt.cells, Pt.slots] at X' e1 e2 h1 h2 h3 st
  subst h1; subst h2; subst h3
  exact ⟨v, (T.setVm vm₁).calling g' mk (Value.ref b :: As).toArray, t, U', L, hT, X', hL, e1, e2, hq, st⟩
section
variable {y : MethodName} {bytes cc : ByteArray} {maxL nL mc ms n index : Nat} {ret : Option FieldType} {ws : List Cond} {rm : Room} {Pc : Array Value → State → Prop} {Qc : Array Value → State → Outcome → State → Prop} {XC : String → State → State → Prop} {free : Addr → Prop} {Ts : List Cond} {own C : String} {b : Addr} {As rest : List Value} {g : JFrame}
theorem vx_runVX {hh : List (Nat × Nat × Nat × Nat)} (S : CallFix p m c cc nL s args Ts own) (hM : vx_Met l y ws rm Pc Qc XC mc ms free) (cw : vx_CVW R s args own C index y bytes maxL ret hh ws rm mc ms n) (hp : PreV s H C b Pc As)
    (hg : g.method = m) (hn : As.length = n) (hsize : g.locals.size = nL) (hstack : g.stack = As.reverse ++ .ref b :: rest) (hW : 2 * g.monitorRoom + (rest.map fun v => v.category).sum ≤ 8) (hdg : decode cc g.pc = .ok (.invokevirtual index, 3)) (hf : cells + mc ≤ R.cells ∧ slots + ms ≤ R.slots) :
    vx_Run p l e R s m args below meth c H locs cells slots mc ms g rest (Qc (Value.ref b :: As).toArray) XC free := by
  obtain ⟨⟨hrc, hrs, hfr, hlo, hws, hcw⟩, hcode, hini, hy, hlen, hl, hin, hse⟩ := cw
  have hK : vx_Back l R p e below s args y 3 8 (PreOf R mc ms Pc) (PostOf Qc mc ms free) (vx_Post XC mc ms free) := vx_backW (hh := hh) (bytes := bytes) (maxL := maxL) (ret := ret) hM hp.1 hrc hrs hfr hlo hws hcw (fun a' U hW => word_at hW (Or.inl (by first | rfl | simp [Cond.onTables, Cond.keeps, Cond.steady])) hini)
  obtain ⟨hx, hb, hml, ho, -⟩ := S
  obtain ⟨-, ⟨cellB, hcB, hoB, hclB⟩, hPc⟩ := hp
  intro T hT X
  rcases vx_callVX X hx (C := C) (hh := hh) (bytes := bytes) (maxL := maxL) (ret := ret) ho hl hin hse hcode hy hK (by rw [hT]; exact hcB) hoB hclB hg (hsize.trans hml.symm) (argsL := As) (rest := rest) (fun sig h => hn.trans (hlen sig h)) hstack hW (by rw [hb]; exact hdg)
    (fun vm₁ hW₁ => ⟨hf.1, hf.2, hPc (T.setVm vm₁) hT hW₁⟩) with ⟨v, vm₁, ⟨U', l2, c2, s2⟩, hW₁, X', ⟨g', mk, t, L, e1, e2, hq, h1, hL, h2, h3⟩, st⟩ | ⟨q, vm₁, ⟨U', l2, c2, s2⟩, hW₁, X', ⟨g', mk, t, L, E, ce, e1, e2, hq, hce, hcv, hcl, h1, hL, h2, h3⟩, st⟩
  · dsimp only [Pt.U, Pt.locs, Pt.cells, Pt.slots] at X' e1 e2 h1 h2 h3 st
    subst h1; subst h2; subst h3
    exact Or.inl ⟨v, (T.setVm vm₁).calling g' mk (Value.ref b :: As).toArray, t, U', L, hT, X', hL, e1, e2, hq, st⟩
  · dsimp only [Pt.U, Pt.locs, Pt.cells, Pt.slots] at X' e1 e2 h1 h2 h3 st hcl
    subst h1; subst h2; subst h3
    exact Or.inr ⟨q, (T.setVm vm₁).calling g' mk (Value.ref b :: As).toArray, t, U', L, E, ce, hT, X', hL, e1, e2, hq, hce, hcv, vx_cls hW₁ hcl, st⟩
theorem vx_runSX {hh : List (Nat × Nat × Nat × Nat)} (S : CallFix p m c cc nL s args Ts own) (hM : vx_Met l y ws rm Pc Qc XC mc ms free) (cw : vx_CSW R s args own index y bytes maxL ret hh ws rm mc ms n) (hp : PreS s H Pc As)
    (hg : g.method = m) (hn : As.length = n) (hsize : g.locals.size = nL) (hstack : g.stack = As.reverse ++ rest) (hW : 2 * g.monitorRoom + (rest.map fun v => v.category).sum ≤ 8) (hdg : decode cc g.pc = .ok (.invokestatic index, 3)) (hf : cells + mc ≤ R.cells ∧ slots + ms ≤ R.slots) :
    vx_Run p l e R s m args below meth c H locs cells slots mc ms g rest (Qc As.toArray) XC free := by
  obtain ⟨⟨hrc, hrs, hfr, hlo, hws, hcw⟩, hcode, hini, hy, hlen, hl, hstt⟩ := cw
  have hK : vx_Back l R p e below s args y 3 8 (PreOf R mc ms Pc) (PostOf Qc mc ms free) (vx_Post XC mc ms free) := vx_backW (hh := hh) (bytes := bytes) (maxL := maxL) (ret := ret) hM hp.1 hrc hrs hfr hlo hws hcw (fun a' U hW => word_at hW (Or.inl (by first | rfl | simp [Cond.onTables, Cond.keeps, Cond.steady])) hini)
  obtain ⟨hx, hb, hml, ho, -⟩ := S
  intro T hT X
  rcases vx_callSX X hx (hh := hh) (bytes := bytes) (maxL := maxL) (ret := ret) ho hl hstt hini hcode hy hK hg (hsize.trans hml.symm) (argsL := As) (rest := rest) (fun sig h => hn.trans (hlen sig h)) hstack hW (by rw [hb]; exact hdg)
    (fun vm₁ hW₁ => ⟨hf.1, hf.2, hp.2 (T.setVm vm₁) hT hW₁⟩) with ⟨v, vm₁, ⟨U', l2, c2, s2⟩, hW₁, X', ⟨g', mk, t, L, e1, e2, hq, h1, hL, h2, h3⟩, st⟩ | ⟨q, vm₁, ⟨U', l2, c2, s2⟩, hW₁, X', ⟨g', mk, t, L, E, ce, e1, e2, hq, hce, hcv, hcl, h1, hL, h2, h3⟩, st⟩
  · dsimp only [Pt.U, Pt.locs, Pt.cells, Pt.slots] at X' e1 e2 h1 h2 h3 st
    subst h1; subst h2; subst h3
    exact Or.inl ⟨v, (T.setVm vm₁).calling g' mk As.toArray, t, U', L, hT, X', hL, e1, e2, hq, st⟩
  · dsimp only [Pt.U, Pt.locs, Pt.cells, Pt.slots] at X' e1 e2 h1 h2 h3 st hcl
    subst h1; subst h2; subst h3
    exact Or.inr ⟨q, (T.setVm vm₁).calling g' mk As.toArray, t, U', L, E, ce, hT, X', hL, e1, e2, hq, hce, hcv, vx_cls hW₁ hcl, st⟩
end
end VXH
theorem vx_ofWH {l : Launch} {y : MethodName} {ws ws' : List Cond} {rm : Room} {Pc : Array Value → State → Prop} {Qc : Array Value → State → Outcome → State → Prop} {XC : String → State → State → Prop} {mc ms : Nat} {free : Addr → Prop} {cc : ByteArray} {maxL : Nat} {ret : Option FieldType} {hh : List (Nat × Nat × Nat × Nat)}
    (hy : plainName y.cls = true) (hw : ws = Cond.codeWith y cc maxL ret hh :: ws')
    (body : ∀ p e s m args below meth c s₁, BodyLoose p l y (headSpec ws rm) cc maxL ret e s m args below meth c s₁ → c.maxLocals = maxL → Pc args s →
      W p l e (headSpec ws rm).room s m args below meth c s.heap [] 0 0 (vx_MQ below Qc XC args s mc ms free) (entryFrame m args maxL)) : vx_Met l y ws rm Pc Qc XC mc ms free := by
  refine MetFree.of_bodyS (code := cc) (maxLocals := maxL) (ret := ret) hy ?_ ?_
  · intro args s m h hn
    obtain ⟨m9, meth, c, hn9, h1, h2, h3, h4, -, h5, h6, -⟩ := Cond.codeWith_spec (atoms_spec (ws := ws) h _ (by rw [hw]; exact List.mem_cons_self))
    cases hn.symm.trans hn9
    exact ⟨meth, c, h1, h2, h3, h4, h5, h6⟩
  · intro p e s m args below meth c s₁ B hml hP _
    have hh0 : s₁.heap = s.heap := by rw [B.state]; rfl
    obtain ⟨t, a1, o, b1, b2, b3⟩ := body p e s m args below meth c s₁ B hml hP s₁ hh0 (Stand.of_body B)
    exact ⟨t, o, a1, b1, b2, b3⟩
/-! ===== END ===== -/

/-! ===== BEGIN printed: names, fields, word lists, decode rows ===== -/
def RX0 : String := "RowReplicator$Publication"
def TX0 : u_T := fun k => match k with
  | 0 => ("RowReplicator$Publication", "columns", "[I", true)
  | 1 => ("RowReplicator$Publication", "relations", "[I", true)
  | 2 => ("RowReplicator$Publication", "numbers", "[I", true)
  | _ => ("RowReplicator$Publication", "masks", "[I", true)
def tyX0 : Nat → FieldType := fun k => match k with
  | 0 => .array .int
  | 1 => .array .int
  | 2 => .array .int
  | _ => .array .int
abbrev wsX00 : List Cond := u_ws RX0 TX0 4
theorem nmX0 : ∀ a, a < 4 → ∀ b, b < 4 → a ≠ b → (TX0 a).2.1 ≠ (TX0 b).2.1 := by decide +kernel
theorem tyX0_ok : ∀ k, k < 4 → parseFieldDescriptor (TX0 k).2.2.1 = some (tyX0 k) := by decide +kernel
abbrev cX0_init : ByteArray := prog_2_method_1_code
def yX0_init : MethodName := ⟨RX0, "<init>", "()V"⟩
abbrev cX0_choose : ByteArray := prog_2_method_2_code
def yX0_choose : MethodName := ⟨RX0, "choose", "(II)I"⟩
abbrev cX0_lets : ByteArray := prog_2_method_3_code
def yX0_lets : MethodName := ⟨RX0, "lets", "(II)Z"⟩
def RX1 : String := "RowReplicator$Publisher"
def TX1 : u_T := fun k => match k with
  | 0 => ("RowReplicator$Publisher", "rows", "[I", true)
  | 1 => ("RowReplicator$Publisher", "commitCount", "I", false)
  | 2 => ("RowReplicator$Publisher", "changeCounts", "[I", true)
  | 3 => ("RowReplicator$Publisher", "changedTables", "[I", true)
  | 4 => ("RowReplicator$Publisher", "changedKeys", "[I", true)
  | 5 => ("RowReplicator$Publisher", "newRows", "[I", true)
  | _ => ("RowReplicator$Publisher", "committedRows", "[I", true)
def tyX1 : Nat → FieldType := fun k => match k with
  | 0 => .array .int
  | 1 => .int
  | 2 => .array .int
  | 3 => .array .int
  | 4 => .array .int
  | 5 => .array .int
  | _ => .array .int
abbrev wsX10 : List Cond := u_ws RX1 TX1 7
theorem nmX1 : ∀ a, a < 7 → ∀ b, b < 7 → a ≠ b → (TX1 a).2.1 ≠ (TX1 b).2.1 := by decide +kernel
theorem tyX1_ok : ∀ k, k < 7 → parseFieldDescriptor (TX1 k).2.2.1 = some (tyX1 k) := by decide +kernel
abbrev cX1_init : ByteArray := prog_3_method_1_code
def yX1_init : MethodName := ⟨RX1, "<init>", "()V"⟩
abbrev cX1_openChanges : ByteArray := prog_3_method_2_code
def yX1_openChanges : MethodName := ⟨RX1, "openChanges", "()I"⟩
abbrev cX1_change : ByteArray := prog_3_method_3_code
def yX1_change : MethodName := ⟨RX1, "change", "(III)V"⟩
abbrev cX1_close : ByteArray := prog_3_method_4_code
def yX1_close : MethodName := ⟨RX1, "close", "()V"⟩
abbrev cX1_undo : ByteArray := prog_3_method_5_code
def yX1_undo : MethodName := ⟨RX1, "undo", "()V"⟩
abbrev cX1_rowAsOf : ByteArray := prog_3_method_6_code
def yX1_rowAsOf : MethodName := ⟨RX1, "rowAsOf", "(II)I"⟩
def RX2 : String := "RowReplicator$Subscriber"
def TX2 : u_T := fun k => match k with
  | 0 => ("RowReplicator$Subscriber", "rows", "[I", true)
  | 1 => ("RowReplicator$Subscriber", "copies", "[I", true)
  | 2 => ("RowReplicator$Subscriber", "publication", "LRowReplicator$Publication;", false)
  | 3 => ("RowReplicator$Subscriber", "state", "I", false)
  | _ => ("RowReplicator$Subscriber", "slot", "I", false)
def tyX2 : Nat → FieldType := fun k => match k with
  | 0 => .array .int
  | 1 => .array .int
  | 2 => .object "RowReplicator$Publication"
  | 3 => .int
  | _ => .int
abbrev wsX20 : List Cond := u_ws RX2 TX2 5
theorem nmX2 : ∀ a, a < 5 → ∀ b, b < 5 → a ≠ b → (TX2 a).2.1 ≠ (TX2 b).2.1 := by decide +kernel
theorem tyX2_ok : ∀ k, k < 5 → parseFieldDescriptor (TX2 k).2.2.1 = some (tyX2 k) := by decide +kernel
abbrev cX2_init : ByteArray := prog_4_method_1_code
def yX2_init : MethodName := ⟨RX2, "<init>", "()V"⟩
abbrev cX2_follow : ByteArray := prog_4_method_2_code
def yX2_follow : MethodName := ⟨RX2, "follow", "(LRowReplicator$Publication;I)V"⟩
abbrev cX2_leave : ByteArray := prog_4_method_3_code
def yX2_leave : MethodName := ⟨RX2, "leave", "()V"⟩
abbrev cX2_forgetTables : ByteArray := prog_4_method_4_code
def yX2_forgetTables : MethodName := ⟨RX2, "forgetTables", "()V"⟩
abbrev cX2_holdsLog : ByteArray := prog_4_method_5_code
def yX2_holdsLog : MethodName := ⟨RX2, "holdsLog", "()Z"⟩
abbrev cX2_commitsBehind : ByteArray := prog_4_method_6_code
def yX2_commitsBehind : MethodName := ⟨RX2, "commitsBehind", "(I)I"⟩
abbrev cX2_takesChangesOf : ByteArray := prog_4_method_7_code
def yX2_takesChangesOf : MethodName := ⟨RX2, "takesChangesOf", "(II)Z"⟩
abbrev cX2_accept : ByteArray := prog_4_method_8_code
def yX2_accept : MethodName := ⟨RX2, "accept", "([I)V"⟩
def RX3 : String := "RowReplicator$Trial"
def TX3 : u_T := fun k => match k with
  | 0 => ("RowReplicator$Trial", "oldRows", "[I", true)
  | _ => ("RowReplicator$Trial", "rows", "[I", true)
def tyX3 : Nat → FieldType := fun k => match k with
  | 0 => .array .int
  | _ => .array .int
abbrev wsX30 : List Cond := u_ws RX3 TX3 2
theorem nmX3 : ∀ a, a < 2 → ∀ b, b < 2 → a ≠ b → (TX3 a).2.1 ≠ (TX3 b).2.1 := by decide +kernel
theorem tyX3_ok : ∀ k, k < 2 → parseFieldDescriptor (TX3 k).2.2.1 = some (tyX3 k) := by decide +kernel
abbrev cX3_init : ByteArray := prog_5_method_1_code
def yX3_init : MethodName := ⟨RX3, "<init>", "()V"⟩
abbrev cX3_applies : ByteArray := prog_5_method_2_code
def yX3_applies : MethodName := ⟨RX3, "applies", "(LRowReplicator$Publisher;LRowReplicator$Publication;LRowReplicator$Subscriber;)Z"⟩
abbrev cX3_takeAll : ByteArray := prog_5_method_3_code
def yX3_takeAll : MethodName := ⟨RX3, "takeAll", "(LRowReplicator$Publication;I)V"⟩
abbrev cX3_follows : ByteArray := prog_5_method_4_code
def yX3_follows : MethodName := ⟨RX3, "follows", "(LRowReplicator$Publication;III)Z"⟩
def RX4 : String := "RowReplicator"
def TX4 : u_T := fun k => match k with
  | 0 => ("RowReplicator", "publisher", "LRowReplicator$Publisher;", true)
  | 1 => ("RowReplicator", "publications", "[LRowReplicator$Publication;", true)
  | 2 => ("RowReplicator", "subscribers", "[LRowReplicator$Subscriber;", true)
  | 3 => ("RowReplicator", "trial", "LRowReplicator$Trial;", true)
  | _ => ("RowReplicator", "limit", "I", false)
def tyX4 : Nat → FieldType := fun k => match k with
  | 0 => .object "RowReplicator$Publisher"
  | 1 => .array (.object "RowReplicator$Publication")
  | 2 => .array (.object "RowReplicator$Subscriber")
  | 3 => .object "RowReplicator$Trial"
  | _ => .int
abbrev wsX40 : List Cond := u_ws RX4 TX4 5
theorem nmX4 : ∀ a, a < 5 → ∀ b, b < 5 → a ≠ b → (TX4 a).2.1 ≠ (TX4 b).2.1 := by decide +kernel
theorem tyX4_ok : ∀ k, k < 5 → parseFieldDescriptor (TX4 k).2.2.1 = some (tyX4 k) := by decide +kernel
abbrev cX4_init : ByteArray := prog_1_method_1_code
def yX4_init : MethodName := ⟨RX4, "<init>", "()V"⟩
abbrev cX4_put : ByteArray := prog_1_method_2_code
def yX4_put : MethodName := ⟨RX4, "put", "(IIIII)Z"⟩
abbrev cX4_take : ByteArray := prog_1_method_3_code
def yX4_take : MethodName := ⟨RX4, "take", "(II)V"⟩
abbrev cX4_truncate : ByteArray := prog_1_method_4_code
def yX4_truncate : MethodName := ⟨RX4, "truncate", "(I)I"⟩
abbrev cX4_commit : ByteArray := prog_1_method_5_code
def yX4_commit : MethodName := ⟨RX4, "commit", "()I"⟩
abbrev cX4_rollBack : ByteArray := prog_1_method_6_code
def yX4_rollBack : MethodName := ⟨RX4, "rollBack", "()I"⟩
abbrev cX4_at : ByteArray := prog_1_method_7_code
def yX4_at : MethodName := ⟨RX4, "at", "(III)I"⟩
abbrev cX4_commits : ByteArray := prog_1_method_8_code
def yX4_commits : MethodName := ⟨RX4, "commits", "()I"⟩
abbrev cX4_setLimit : ByteArray := prog_1_method_9_code
def yX4_setLimit : MethodName := ⟨RX4, "setLimit", "(I)I"⟩
abbrev cX4_setCondition : ByteArray := prog_1_method_10_code
def yX4_setCondition : MethodName := ⟨RX4, "setCondition", "(IIIII)I"⟩
abbrev cX4_setColumns : ByteArray := prog_1_method_11_code
def yX4_setColumns : MethodName := ⟨RX4, "setColumns", "(III)I"⟩
abbrev cX4_subscribe : ByteArray := prog_1_method_12_code
def yX4_subscribe : MethodName := ⟨RX4, "subscribe", "(II)I"⟩
abbrev cX4_drop : ByteArray := prog_1_method_13_code
def yX4_drop : MethodName := ⟨RX4, "drop", "(I)I"⟩
abbrev cX4_copy : ByteArray := prog_1_method_14_code
def yX4_copy : MethodName := ⟨RX4, "copy", "(II)I"⟩
abbrev cX4_receive : ByteArray := prog_1_method_15_code
def yX4_receive : MethodName := ⟨RX4, "receive", "(II)I"⟩
abbrev cX4_goOn : ByteArray := prog_1_method_16_code
def yX4_goOn : MethodName := ⟨RX4, "goOn", "(IZ)I"⟩
abbrev cX4_own : ByteArray := prog_1_method_17_code
def yX4_own : MethodName := ⟨RX4, "own", "(IIII)Z"⟩
abbrev cX4_state : ByteArray := prog_1_method_18_code
def yX4_state : MethodName := ⟨RX4, "state", "(I)I"⟩
abbrev cX4_lag : ByteArray := prog_1_method_19_code
def yX4_lag : MethodName := ⟨RX4, "lag", "(I)I"⟩
abbrev cX4_copiedAt : ByteArray := prog_1_method_20_code
def yX4_copiedAt : MethodName := ⟨RX4, "copiedAt", "(II)I"⟩
abbrev cX4_seen : ByteArray := prog_1_method_21_code
def yX4_seen : MethodName := ⟨RX4, "seen", "(IIII)I"⟩
abbrev cX4_isFaithful : ByteArray := prog_1_method_22_code
def yX4_isFaithful : MethodName := ⟨RX4, "isFaithful", "(II)Z"⟩
abbrev cX4_cutLaggards : ByteArray := prog_1_method_23_code
def yX4_cutLaggards : MethodName := ⟨RX4, "cutLaggards", "()I"⟩
abbrev cX4_forgetCopies : ByteArray := prog_1_method_24_code
def yX4_forgetCopies : MethodName := ⟨RX4, "forgetCopies", "(LRowReplicator$Publication;I)I"⟩
abbrev cX4_checkRoomForChange : ByteArray := prog_1_method_25_code
def yX4_checkRoomForChange : MethodName := ⟨RX4, "checkRoomForChange", "()V"⟩
abbrev cX4_checkTable : ByteArray := prog_1_method_26_code
def yX4_checkTable : MethodName := ⟨RX4, "checkTable", "(I)V"⟩
abbrev cX4_checkKey : ByteArray := prog_1_method_27_code
def yX4_checkKey : MethodName := ⟨RX4, "checkKey", "(II)V"⟩
abbrev cX4_checkColumn : ByteArray := prog_1_method_28_code
def yX4_checkColumn : MethodName := ⟨RX4, "checkColumn", "(I)V"⟩
abbrev cX4_checkPublication : ByteArray := prog_1_method_29_code
def yX4_checkPublication : MethodName := ⟨RX4, "checkPublication", "(I)V"⟩
abbrev cX4_checkSubscriber : ByteArray := prog_1_method_30_code
def yX4_checkSubscriber : MethodName := ⟨RX4, "checkSubscriber", "(I)V"⟩
abbrev cX4_checkNumber : ByteArray := prog_1_method_31_code
def yX4_checkNumber : MethodName := ⟨RX4, "checkNumber", "(I)V"⟩
abbrev cX4_placeOf : ByteArray := prog_1_method_32_code
def yX4_placeOf : MethodName := ⟨RX4, "placeOf", "(II)I"⟩
abbrev cX4_rowOf : ByteArray := prog_1_method_33_code
def yX4_rowOf : MethodName := ⟨RX4, "rowOf", "(III)I"⟩
abbrev cX4_numberIn : ByteArray := prog_1_method_34_code
def yX4_numberIn : MethodName := ⟨RX4, "numberIn", "(II)I"⟩
abbrev cX4_maskOf : ByteArray := prog_1_method_35_code
def yX4_maskOf : MethodName := ⟨RX4, "maskOf", "(I)I"⟩
def RX5 : String := "RowReplicatorModel"
def TX5 : u_T := fun k => match k with
  | 0 => ("RowReplicatorModel", "row", "[I", true)
  | 1 => ("RowReplicatorModel", "kept", "[I", true)
  | 2 => ("RowReplicatorModel", "commits", "I", false)
  | 3 => ("RowReplicatorModel", "limit", "I", false)
  | 4 => ("RowReplicatorModel", "changes", "[I", true)
  | 5 => ("RowReplicatorModel", "table", "[I", true)
  | 6 => ("RowReplicatorModel", "key", "[I", true)
  | 7 => ("RowReplicatorModel", "fresh", "[I", true)
  | 8 => ("RowReplicatorModel", "column", "[I", true)
  | 9 => ("RowReplicatorModel", "relation", "[I", true)
  | 10 => ("RowReplicatorModel", "number", "[I", true)
  | 11 => ("RowReplicatorModel", "list", "[I", true)
  | 12 => ("RowReplicatorModel", "book", "[I", true)
  | 13 => ("RowReplicatorModel", "state", "[I", true)
  | 14 => ("RowReplicatorModel", "slot", "[I", true)
  | 15 => ("RowReplicatorModel", "copied", "[I", true)
  | 16 => ("RowReplicatorModel", "seen", "[I", true)
  | 17 => ("RowReplicatorModel", "there", "[I", true)
  | 18 => ("RowReplicatorModel", "here", "[I", true)
  | _ => ("RowReplicatorModel", "thrown", "I", false)
def tyX5 : Nat → FieldType := fun k => match k with
  | 0 => .array .int
  | 1 => .array .int
  | 2 => .int
  | 3 => .int
  | 4 => .array .int
  | 5 => .array .int
  | 6 => .array .int
  | 7 => .array .int
  | 8 => .array .int
  | 9 => .array .int
  | 10 => .array .int
  | 11 => .array .int
  | 12 => .array .int
  | 13 => .array .int
  | 14 => .array .int
  | 15 => .array .int
  | 16 => .array .int
  | 17 => .array .int
  | 18 => .array .int
  | _ => .int
abbrev wsX50 : List Cond := u_ws RX5 TX5 20
theorem nmX5 : ∀ a, a < 20 → ∀ b, b < 20 → a ≠ b → (TX5 a).2.1 ≠ (TX5 b).2.1 := by decide +kernel
theorem tyX5_ok : ∀ k, k < 20 → parseFieldDescriptor (TX5 k).2.2.1 = some (tyX5 k) := by decide +kernel
abbrev cX5_init : ByteArray := prog_7_method_1_code
def yX5_init : MethodName := ⟨RX5, "<init>", "()V"⟩
abbrev cX5_thrown : ByteArray := prog_7_method_2_code
def yX5_thrown : MethodName := ⟨RX5, "thrown", "()I"⟩
abbrev cX5_fails : ByteArray := prog_7_method_3_code
def yX5_fails : MethodName := ⟨RX5, "fails", "(I)Z"⟩
abbrev cX5_isIn : ByteArray := prog_7_method_4_code
def yX5_isIn : MethodName := ⟨RX5, "isIn", "(III)Z"⟩
abbrev cX5_isTable : ByteArray := prog_7_method_5_code
def yX5_isTable : MethodName := ⟨RX5, "isTable", "(I)Z"⟩
abbrev cX5_isRow : ByteArray := prog_7_method_6_code
def yX5_isRow : MethodName := ⟨RX5, "isRow", "(II)Z"⟩
abbrev cX5_isThird : ByteArray := prog_7_method_7_code
def yX5_isThird : MethodName := ⟨RX5, "isThird", "(I)Z"⟩
abbrev cX5_enters : ByteArray := prog_7_method_8_code
def yX5_enters : MethodName := ⟨RX5, "enters", "(III)V"⟩
abbrev cX5_goes : ByteArray := prog_7_method_9_code
def yX5_goes : MethodName := ⟨RX5, "goes", "([IIII)V"⟩
abbrev cX5_isFull : ByteArray := prog_7_method_10_code
def yX5_isFull : MethodName := ⟨RX5, "isFull", "()Z"⟩
abbrev cX5_isNumber : ByteArray := prog_7_method_11_code
def yX5_isNumber : MethodName := ⟨RX5, "isNumber", "(I)Z"⟩
abbrev cX5_put : ByteArray := prog_7_method_12_code
def yX5_put : MethodName := ⟨RX5, "put", "(IIIII)Z"⟩
abbrev cX5_take : ByteArray := prog_7_method_13_code
def yX5_take : MethodName := ⟨RX5, "take", "(II)V"⟩
abbrev cX5_truncate : ByteArray := prog_7_method_14_code
def yX5_truncate : MethodName := ⟨RX5, "truncate", "(I)I"⟩
abbrev cX5_cuts : ByteArray := prog_7_method_15_code
def yX5_cuts : MethodName := ⟨RX5, "cuts", "()I"⟩
abbrev cX5_commit : ByteArray := prog_7_method_16_code
def yX5_commit : MethodName := ⟨RX5, "commit", "()I"⟩
abbrev cX5_rollBack : ByteArray := prog_7_method_17_code
def yX5_rollBack : MethodName := ⟨RX5, "rollBack", "()I"⟩
abbrev cX5_numberOf : ByteArray := prog_7_method_18_code
def yX5_numberOf : MethodName := ⟨RX5, "numberOf", "(II)I"⟩
abbrev cX5_at : ByteArray := prog_7_method_19_code
def yX5_at : MethodName := ⟨RX5, "at", "(III)I"⟩
abbrev cX5_commits : ByteArray := prog_7_method_20_code
def yX5_commits : MethodName := ⟨RX5, "commits", "()I"⟩
abbrev cX5_setLimit : ByteArray := prog_7_method_21_code
def yX5_setLimit : MethodName := ⟨RX5, "setLimit", "(I)I"⟩
abbrev cX5_forgets : ByteArray := prog_7_method_22_code
def yX5_forgets : MethodName := ⟨RX5, "forgets", "(II)I"⟩
abbrev cX5_setCondition : ByteArray := prog_7_method_23_code
def yX5_setCondition : MethodName := ⟨RX5, "setCondition", "(IIIII)I"⟩
abbrev cX5_setColumns : ByteArray := prog_7_method_24_code
def yX5_setColumns : MethodName := ⟨RX5, "setColumns", "(III)I"⟩
abbrev cX5_counts : ByteArray := prog_7_method_25_code
def yX5_counts : MethodName := ⟨RX5, "counts", "(III)Z"⟩
abbrev cX5_chosen : ByteArray := prog_7_method_26_code
def yX5_chosen : MethodName := ⟨RX5, "chosen", "(III)I"⟩
abbrev cX5_subscribe : ByteArray := prog_7_method_27_code
def yX5_subscribe : MethodName := ⟨RX5, "subscribe", "(II)I"⟩
abbrev cX5_drop : ByteArray := prog_7_method_28_code
def yX5_drop : MethodName := ⟨RX5, "drop", "(I)I"⟩
abbrev cX5_chosenAt : ByteArray := prog_7_method_29_code
def yX5_chosenAt : MethodName := ⟨RX5, "chosenAt", "(IIII)I"⟩
abbrev cX5_copy : ByteArray := prog_7_method_30_code
def yX5_copy : MethodName := ⟨RX5, "copy", "(II)I"⟩
abbrev cX5_applies : ByteArray := prog_7_method_31_code
def yX5_applies : MethodName := ⟨RX5, "applies", "(IIII)Z"⟩
abbrev cX5_tries : ByteArray := prog_7_method_32_code
def yX5_tries : MethodName := ⟨RX5, "tries", "(I)Z"⟩
abbrev cX5_receive : ByteArray := prog_7_method_33_code
def yX5_receive : MethodName := ⟨RX5, "receive", "(II)I"⟩
abbrev cX5_goOn : ByteArray := prog_7_method_34_code
def yX5_goOn : MethodName := ⟨RX5, "goOn", "(IZ)I"⟩
abbrev cX5_own : ByteArray := prog_7_method_35_code
def yX5_own : MethodName := ⟨RX5, "own", "(IIII)Z"⟩
abbrev cX5_state : ByteArray := prog_7_method_36_code
def yX5_state : MethodName := ⟨RX5, "state", "(I)I"⟩
abbrev cX5_lag : ByteArray := prog_7_method_37_code
def yX5_lag : MethodName := ⟨RX5, "lag", "(I)I"⟩
abbrev cX5_copiedAt : ByteArray := prog_7_method_38_code
def yX5_copiedAt : MethodName := ⟨RX5, "copiedAt", "(II)I"⟩
abbrev cX5_seen : ByteArray := prog_7_method_39_code
def yX5_seen : MethodName := ⟨RX5, "seen", "(IIII)I"⟩
abbrev cX5_isFaithful : ByteArray := prog_7_method_40_code
def yX5_isFaithful : MethodName := ⟨RX5, "isFaithful", "(II)Z"⟩
def RJ9 : String := "java/lang/Math"
def TJ9 : u_T := fun k => match k with
  | _ => ("", "", "", false)
def tyJ9 : Nat → FieldType := fun k => match k with
  | _ => .int
abbrev wsJ90 : List Cond := u_ws RJ9 TJ9 0
theorem nmJ9 : ∀ a, a < 0 → ∀ b, b < 0 → a ≠ b → (TJ9 a).2.1 ≠ (TJ9 b).2.1 := by decide +kernel
theorem tyJ9_ok : ∀ k, k < 0 → parseFieldDescriptor (TJ9 k).2.2.1 = some (tyJ9 k) := by decide +kernel
abbrev cJ9_max_7cf53 : ByteArray := prog_12_method_65_code
def yJ9_max_7cf53 : MethodName := ⟨RJ9, "max", "(II)I"⟩
def RJ0 : String := "java/lang/String"
def TJ0 : u_T := fun k => match k with
  | _ => ("", "", "", false)
def tyJ0 : Nat → FieldType := fun k => match k with
  | _ => .int
abbrev wsJ00 : List Cond := u_ws RJ0 TJ0 0
theorem nmJ0 : ∀ a, a < 0 → ∀ b, b < 0 → a ≠ b → (TJ0 a).2.1 ≠ (TJ0 b).2.1 := by decide +kernel
theorem tyJ0_ok : ∀ k, k < 0 → parseFieldDescriptor (TJ0 k).2.2.1 = some (tyJ0 k) := by decide +kernel
def RJ10 : String := "java/lang/System"
def TJ10 : u_T := fun k => match k with
  | _ => ("", "", "", false)
def tyJ10 : Nat → FieldType := fun k => match k with
  | _ => .int
abbrev wsJ100 : List Cond := u_ws RJ10 TJ10 0
theorem nmJ10 : ∀ a, a < 0 → ∀ b, b < 0 → a ≠ b → (TJ10 a).2.1 ≠ (TJ10 b).2.1 := by decide +kernel
theorem tyJ10_ok : ∀ k, k < 0 → parseFieldDescriptor (TJ10 k).2.2.1 = some (tyJ10 k) := by decide +kernel
def RL : String := "RowReplicatorLaw"
abbrev cL_put : ByteArray := method_3_code
def yL_put : MethodName := ⟨RL, "put", "(LRowReplicator;IIIII[J)I"⟩
abbrev cL_take : ByteArray := method_4_code
def yL_take : MethodName := ⟨RL, "take", "(LRowReplicator;II)I"⟩
abbrev cL_truncate : ByteArray := method_5_code
def yL_truncate : MethodName := ⟨RL, "truncate", "(LRowReplicator;I[J)I"⟩
abbrev cL_commit : ByteArray := method_6_code
def yL_commit : MethodName := ⟨RL, "commit", "(LRowReplicator;[J)I"⟩
abbrev cL_at : ByteArray := method_7_code
def yL_at : MethodName := ⟨RL, "at", "(LRowReplicator;III[J)I"⟩
abbrev cL_setLimit : ByteArray := method_8_code
def yL_setLimit : MethodName := ⟨RL, "setLimit", "(LRowReplicator;I[J)I"⟩
abbrev cL_setCondition : ByteArray := method_9_code
def yL_setCondition : MethodName := ⟨RL, "setCondition", "(LRowReplicator;IIIII[J)I"⟩
abbrev cL_setColumns : ByteArray := method_10_code
def yL_setColumns : MethodName := ⟨RL, "setColumns", "(LRowReplicator;III[J)I"⟩
abbrev cL_subscribe : ByteArray := method_11_code
def yL_subscribe : MethodName := ⟨RL, "subscribe", "(LRowReplicator;II[J)I"⟩
abbrev cL_drop : ByteArray := method_12_code
def yL_drop : MethodName := ⟨RL, "drop", "(LRowReplicator;I[J)I"⟩
abbrev cL_copy : ByteArray := method_13_code
def yL_copy : MethodName := ⟨RL, "copy", "(LRowReplicator;II[J)I"⟩
abbrev cL_receive : ByteArray := method_14_code
def yL_receive : MethodName := ⟨RL, "receive", "(LRowReplicator;II[J)I"⟩
abbrev cL_goOn : ByteArray := method_15_code
def yL_goOn : MethodName := ⟨RL, "goOn", "(LRowReplicator;IZ[J)I"⟩
abbrev cL_own : ByteArray := method_16_code
def yL_own : MethodName := ⟨RL, "own", "(LRowReplicator;IIII[J)I"⟩
abbrev cL_state : ByteArray := method_17_code
def yL_state : MethodName := ⟨RL, "state", "(LRowReplicator;I[J)I"⟩
abbrev cL_lag : ByteArray := method_18_code
def yL_lag : MethodName := ⟨RL, "lag", "(LRowReplicator;I[J)I"⟩
abbrev cL_copiedAt : ByteArray := method_19_code
def yL_copiedAt : MethodName := ⟨RL, "copiedAt", "(LRowReplicator;II[J)I"⟩
abbrev cL_seen : ByteArray := method_20_code
def yL_seen : MethodName := ⟨RL, "seen", "(LRowReplicator;IIII[J)I"⟩
abbrev cL_isFaithful : ByteArray := method_21_code
def yL_isFaithful : MethodName := ⟨RL, "isFaithful", "(LRowReplicator;II[J)I"⟩
abbrev cL_law : ByteArray := code
def yL_law : MethodName := ⟨RL, "law", "([I)Z"⟩
def wsX0_init : List Cond := .code yX0_init cX0_init 2 none :: ([.methodLink RX0 3 objectInit, .instanceMethod objectInit, .code objectInit ⟨#[0xb1]⟩ 1 none, .arrayClass .int, .fieldLink RX0 9 "RowReplicator$Publication" "columns" "[I", .fieldLink RX0 15 "RowReplicator$Publication" "relations" "[I", .fieldLink RX0 18 "RowReplicator$Publication" "numbers" "[I", .fieldLink RX0 21 "RowReplicator$Publication" "masks" "[I", .constant RX0 24 (2097151)] ++ wsX00)
def wsX4_numberIn : List Cond := .code yX4_numberIn cX4_numberIn 2 (some .int) :: ([])
def wsX0_lets : List Cond := .code yX0_lets cX0_lets 3 (some .boolean) :: ([.fieldLink RX0 15 "RowReplicator$Publication" "relations" "[I", .fieldLink RX0 18 "RowReplicator$Publication" "numbers" "[I"] ++ wsX00)
def wsX0_choose : List Cond := .code yX0_choose cX0_choose 3 (some .int) :: ([.fieldLink RX0 9 "RowReplicator$Publication" "columns" "[I", .fieldLink RX0 21 "RowReplicator$Publication" "masks" "[I", .static yX4_numberIn, .initialized RX4, .code yX4_numberIn cX4_numberIn 2 (some .int), .methodLink RX0 29 yX0_lets, .instanceMethod yX0_lets, .selects RX0 yX0_lets yX0_lets, .initialized RX0, .code yX0_lets cX0_lets 3 (some .boolean), .fieldLink RX0 15 "RowReplicator$Publication" "relations" "[I", .fieldLink RX0 18 "RowReplicator$Publication" "numbers" "[I"] ++ wsX00)
def wsX1_init : List Cond := .code yX1_init cX1_init 2 none :: ([.methodLink RX1 3 objectInit, .instanceMethod objectInit, .code objectInit ⟨#[0xb1]⟩ 1 none, .arrayClass .int, .fieldLink RX1 9 "RowReplicator$Publisher" "rows" "[I", .fieldLink RX1 15 "RowReplicator$Publisher" "commitCount" "I", .fieldLink RX1 19 "RowReplicator$Publisher" "changeCounts" "[I", .fieldLink RX1 22 "RowReplicator$Publisher" "changedTables" "[I", .fieldLink RX1 25 "RowReplicator$Publisher" "changedKeys" "[I", .fieldLink RX1 28 "RowReplicator$Publisher" "newRows" "[I", .fieldLink RX1 31 "RowReplicator$Publisher" "committedRows" "[I"] ++ wsX10)
def wsX1_openChanges : List Cond := .code yX1_openChanges cX1_openChanges 1 (some .int) :: ([.fieldLink RX1 19 "RowReplicator$Publisher" "changeCounts" "[I", .fieldLink RX1 15 "RowReplicator$Publisher" "commitCount" "I"] ++ wsX10)
def wsX4_placeOf : List Cond := .code yX4_placeOf cX4_placeOf 2 (some .int) :: ([])
def wsX1_change : List Cond := .code yX1_change cX1_change 8 none :: ([.fieldLink RX1 15 "RowReplicator$Publisher" "commitCount" "I", .fieldLink RX1 19 "RowReplicator$Publisher" "changeCounts" "[I", .fieldLink RX1 22 "RowReplicator$Publisher" "changedTables" "[I", .fieldLink RX1 25 "RowReplicator$Publisher" "changedKeys" "[I", .fieldLink RX1 28 "RowReplicator$Publisher" "newRows" "[I", .fieldLink RX1 9 "RowReplicator$Publisher" "rows" "[I", .static yX4_placeOf, .initialized RX4, .code yX4_placeOf cX4_placeOf 2 (some .int)] ++ wsX10)
def wsX1_close : List Cond := .code yX1_close cX1_close 1 none :: ([.fieldLink RX1 15 "RowReplicator$Publisher" "commitCount" "I", .fieldLink RX1 9 "RowReplicator$Publisher" "rows" "[I", .fieldLink RX1 31 "RowReplicator$Publisher" "committedRows" "[I", .methodLink RX1 38 arraycopyName, .native arraycopyName, .static arraycopyName, .initialized "java/lang/System"] ++ wsX10)
def wsX1_undo : List Cond := .code yX1_undo cX1_undo 1 none :: ([.fieldLink RX1 19 "RowReplicator$Publisher" "changeCounts" "[I", .fieldLink RX1 15 "RowReplicator$Publisher" "commitCount" "I", .fieldLink RX1 31 "RowReplicator$Publisher" "committedRows" "[I", .fieldLink RX1 9 "RowReplicator$Publisher" "rows" "[I", .methodLink RX1 38 arraycopyName, .native arraycopyName, .static arraycopyName, .initialized "java/lang/System"] ++ wsX10)
def wsX1_rowAsOf : List Cond := .code yX1_rowAsOf cX1_rowAsOf 3 (some .int) :: ([.fieldLink RX1 31 "RowReplicator$Publisher" "committedRows" "[I"] ++ wsX10)
def wsX2_init : List Cond := .code yX2_init cX2_init 2 none :: ([.methodLink RX2 3 objectInit, .instanceMethod objectInit, .code objectInit ⟨#[0xb1]⟩ 1 none, .arrayClass .int, .fieldLink RX2 9 "RowReplicator$Subscriber" "rows" "[I", .fieldLink RX2 15 "RowReplicator$Subscriber" "copies" "[I", .fieldLink RX2 18 "RowReplicator$Subscriber" "publication" "LRowReplicator$Publication;", .fieldLink RX2 22 "RowReplicator$Subscriber" "state" "I", .fieldLink RX2 26 "RowReplicator$Subscriber" "slot" "I"] ++ wsX20)
def wsX2_forgetTables : List Cond := .code yX2_forgetTables cX2_forgetTables 2 none :: ([.fieldLink RX2 15 "RowReplicator$Subscriber" "copies" "[I"] ++ wsX20)
def wsX2_follow : List Cond := .code yX2_follow cX2_follow 3 none :: ([.fieldLink RX2 18 "RowReplicator$Subscriber" "publication" "LRowReplicator$Publication;", .fieldLink RX2 22 "RowReplicator$Subscriber" "state" "I", .fieldLink RX2 26 "RowReplicator$Subscriber" "slot" "I", .methodLink RX2 29 yX2_forgetTables, .instanceMethod yX2_forgetTables, .selects RX2 yX2_forgetTables yX2_forgetTables, .initialized RX2, .code yX2_forgetTables cX2_forgetTables 2 none, .fieldLink RX2 15 "RowReplicator$Subscriber" "copies" "[I"] ++ wsX20)
def wsX2_leave : List Cond := .code yX2_leave cX2_leave 1 none :: ([.fieldLink RX2 18 "RowReplicator$Subscriber" "publication" "LRowReplicator$Publication;", .fieldLink RX2 22 "RowReplicator$Subscriber" "state" "I", .methodLink RX2 29 yX2_forgetTables, .instanceMethod yX2_forgetTables, .selects RX2 yX2_forgetTables yX2_forgetTables, .initialized RX2, .code yX2_forgetTables cX2_forgetTables 2 none, .fieldLink RX2 15 "RowReplicator$Subscriber" "copies" "[I"] ++ wsX20)
def wsX2_holdsLog : List Cond := .code yX2_holdsLog cX2_holdsLog 1 (some .boolean) :: ([.fieldLink RX2 22 "RowReplicator$Subscriber" "state" "I"] ++ wsX20)
def wsX2_commitsBehind : List Cond := .code yX2_commitsBehind cX2_commitsBehind 2 (some .int) :: ([.fieldLink RX2 26 "RowReplicator$Subscriber" "slot" "I", .methodLink RX2 32 yX2_holdsLog, .instanceMethod yX2_holdsLog, .selects RX2 yX2_holdsLog yX2_holdsLog, .initialized RX2, .code yX2_holdsLog cX2_holdsLog 1 (some .boolean), .fieldLink RX2 22 "RowReplicator$Subscriber" "state" "I"] ++ wsX20)
def wsX2_takesChangesOf : List Cond := .code yX2_takesChangesOf cX2_takesChangesOf 3 (some .boolean) :: ([.fieldLink RX2 15 "RowReplicator$Subscriber" "copies" "[I"] ++ wsX20)
def wsX2_accept : List Cond := .code yX2_accept cX2_accept 2 none :: ([.fieldLink RX2 9 "RowReplicator$Subscriber" "rows" "[I", .methodLink RX2 36 arraycopyName, .native arraycopyName, .static arraycopyName, .initialized "java/lang/System", .fieldLink RX2 26 "RowReplicator$Subscriber" "slot" "I"] ++ wsX20)
def wsX3_init : List Cond := .code yX3_init cX3_init 1 none :: ([.methodLink RX3 3 objectInit, .instanceMethod objectInit, .code objectInit ⟨#[0xb1]⟩ 1 none, .arrayClass .int, .fieldLink RX3 9 "RowReplicator$Trial" "oldRows" "[I", .fieldLink RX3 15 "RowReplicator$Trial" "rows" "[I"] ++ wsX30)
def wsX3_follows : List Cond := .code yX3_follows cX3_follows 9 (some .boolean) :: ([.fieldLink RX3 9 "RowReplicator$Trial" "oldRows" "[I", .fieldLink RX3 15 "RowReplicator$Trial" "rows" "[I", .static yX4_placeOf, .initialized RX4, .code yX4_placeOf cX4_placeOf 2 (some .int), .methodLink RX3 64 yX0_choose, .instanceMethod yX0_choose, .selects RX0 yX0_choose yX0_choose, .initialized RX0, .code yX0_choose cX0_choose 3 (some .int), .fieldLink RX0 9 "RowReplicator$Publication" "columns" "[I", .fieldLink RX0 21 "RowReplicator$Publication" "masks" "[I", .static yX4_numberIn, .code yX4_numberIn cX4_numberIn 2 (some .int), .methodLink RX0 29 yX0_lets, .instanceMethod yX0_lets, .selects RX0 yX0_lets yX0_lets, .code yX0_lets cX0_lets 3 (some .boolean), .fieldLink RX0 15 "RowReplicator$Publication" "relations" "[I", .fieldLink RX0 18 "RowReplicator$Publication" "numbers" "[I"] ++ wsX30 ++ wsX00)
def wsX3_takeAll_r1 : List Cond := [Cond.methodLink RX3 56 yX3_follows, Cond.instanceMethod yX3_follows, Cond.selects RX3 yX3_follows yX3_follows, Cond.initialized RX3, Cond.code yX3_follows cX3_follows 9 (some .boolean), Cond.fieldLink RX3 9 "RowReplicator$Trial" "oldRows" "[I", Cond.fieldLink RX3 15 "RowReplicator$Trial" "rows" "[I", Cond.static yX4_placeOf, Cond.initialized RX4, Cond.code yX4_placeOf cX4_placeOf 2 (some .int), Cond.methodLink RX3 64 yX0_choose, Cond.instanceMethod yX0_choose, Cond.selects RX0 yX0_choose yX0_choose, Cond.initialized RX0, Cond.code yX0_choose cX0_choose 3 (some .int), Cond.fieldLink RX0 9 "RowReplicator$Publication" "columns" "[I", Cond.fieldLink RX0 21 "RowReplicator$Publication" "masks" "[I", Cond.static yX4_numberIn, Cond.code yX4_numberIn cX4_numberIn 2 (some .int), Cond.methodLink RX0 29 yX0_lets, Cond.instanceMethod yX0_lets, Cond.selects RX0 yX0_lets yX0_lets, Cond.code yX0_lets cX0_lets 3 (some .boolean), Cond.fieldLink RX0 15 "RowReplicator$Publication" "relations" "[I"]
def wsX3_takeAll_r2 : List Cond := [Cond.fieldLink RX0 18 "RowReplicator$Publication" "numbers" "[I"]
def wsX3_takeAll : List Cond := .code yX3_takeAll cX3_takeAll 4 none :: ((wsX3_takeAll_r1 ++ wsX3_takeAll_r2) ++ wsX30 ++ wsX00)
def wsX3_applies_r1 : List Cond := [Cond.fieldLink RX3 9 "RowReplicator$Trial" "oldRows" "[I", Cond.methodLink RX3 29 arraycopyName, Cond.native arraycopyName, Cond.static arraycopyName, Cond.initialized "java/lang/System", Cond.fieldLink RX3 15 "RowReplicator$Trial" "rows" "[I", Cond.methodLink RX3 45 yX2_takesChangesOf, Cond.instanceMethod yX2_takesChangesOf, Cond.selects RX2 yX2_takesChangesOf yX2_takesChangesOf, Cond.initialized RX2, Cond.code yX2_takesChangesOf cX2_takesChangesOf 3 (some .boolean), Cond.fieldLink RX2 15 "RowReplicator$Subscriber" "copies" "[I", Cond.methodLink RX3 49 yX3_takeAll, Cond.instanceMethod yX3_takeAll, Cond.selects RX3 yX3_takeAll yX3_takeAll, Cond.initialized RX3, Cond.code yX3_takeAll cX3_takeAll 4 none, Cond.methodLink RX3 56 yX3_follows, Cond.instanceMethod yX3_follows, Cond.selects RX3 yX3_follows yX3_follows, Cond.code yX3_follows cX3_follows 9 (some .boolean), Cond.static yX4_placeOf, Cond.initialized RX4, Cond.code yX4_placeOf cX4_placeOf 2 (some .int)]
def wsX3_applies_r2 : List Cond := [Cond.methodLink RX3 64 yX0_choose, Cond.instanceMethod yX0_choose, Cond.selects RX0 yX0_choose yX0_choose, Cond.initialized RX0, Cond.code yX0_choose cX0_choose 3 (some .int), Cond.fieldLink RX0 9 "RowReplicator$Publication" "columns" "[I", Cond.fieldLink RX0 21 "RowReplicator$Publication" "masks" "[I", Cond.static yX4_numberIn, Cond.code yX4_numberIn cX4_numberIn 2 (some .int), Cond.methodLink RX0 29 yX0_lets, Cond.instanceMethod yX0_lets, Cond.selects RX0 yX0_lets yX0_lets, Cond.code yX0_lets cX0_lets 3 (some .boolean), Cond.fieldLink RX0 15 "RowReplicator$Publication" "relations" "[I", Cond.fieldLink RX0 18 "RowReplicator$Publication" "numbers" "[I"]
def wsX3_applies : List Cond := .code yX3_applies cX3_applies 9 (some .boolean) :: ((wsX3_applies_r1 ++ wsX3_applies_r2) ++ wsX20 ++ wsX10 ++ wsX30 ++ wsX00)
def wsX4_init_r1 : List Cond := [Cond.methodLink RX4 3 objectInit, Cond.instanceMethod objectInit, Cond.code objectInit ⟨#[0xb1]⟩ 1 none, Cond.classLink RX4 9 RX1, Cond.instantiable RX1 7, Cond.initialized RX1, Cond.fieldLink RX4 12 "RowReplicator" "publisher" "LRowReplicator$Publisher;", Cond.classLink RX4 16 RX0, Cond.fieldLink RX4 18 "RowReplicator" "publications" "[LRowReplicator$Publication;", Cond.classLink RX4 22 RX2, Cond.fieldLink RX4 24 "RowReplicator" "subscribers" "[LRowReplicator$Subscriber;", Cond.classLink RX4 28 RX3, Cond.instantiable RX3 2, Cond.initialized RX3, Cond.fieldLink RX4 31 "RowReplicator" "trial" "LRowReplicator$Trial;", Cond.fieldLink RX4 35 "RowReplicator" "limit" "I", Cond.instantiable RX0 4, Cond.initialized RX0, Cond.instantiable RX2 5, Cond.initialized RX2, Cond.methodLink RX4 11 yX1_init, Cond.instanceMethod yX1_init, Cond.code yX1_init cX1_init 2 none, Cond.methodLink RX1 3 objectInit]
def wsX4_init_r2 : List Cond := [Cond.arrayClass .int, Cond.fieldLink RX1 9 "RowReplicator$Publisher" "rows" "[I", Cond.fieldLink RX1 15 "RowReplicator$Publisher" "commitCount" "I", Cond.fieldLink RX1 19 "RowReplicator$Publisher" "changeCounts" "[I", Cond.fieldLink RX1 22 "RowReplicator$Publisher" "changedTables" "[I", Cond.fieldLink RX1 25 "RowReplicator$Publisher" "changedKeys" "[I", Cond.fieldLink RX1 28 "RowReplicator$Publisher" "newRows" "[I", Cond.fieldLink RX1 31 "RowReplicator$Publisher" "committedRows" "[I", Cond.instanceMethod yX3_init, Cond.code yX3_init cX3_init 1 none, Cond.methodLink RX3 3 objectInit, Cond.fieldLink RX3 9 "RowReplicator$Trial" "oldRows" "[I", Cond.fieldLink RX3 15 "RowReplicator$Trial" "rows" "[I", Cond.methodLink RX4 39 yX0_init, Cond.instanceMethod yX0_init, Cond.code yX0_init cX0_init 2 none, Cond.methodLink RX0 3 objectInit, Cond.fieldLink RX0 9 "RowReplicator$Publication" "columns" "[I", Cond.fieldLink RX0 15 "RowReplicator$Publication" "relations" "[I", Cond.fieldLink RX0 18 "RowReplicator$Publication" "numbers" "[I", Cond.fieldLink RX0 21 "RowReplicator$Publication" "masks" "[I", Cond.constant RX0 24 (2097151), Cond.methodLink RX4 40 yX2_init, Cond.instanceMethod yX2_init]
def wsX4_init_r3 : List Cond := [Cond.code yX2_init cX2_init 2 none, Cond.methodLink RX2 3 objectInit, Cond.fieldLink RX2 9 "RowReplicator$Subscriber" "rows" "[I", Cond.fieldLink RX2 15 "RowReplicator$Subscriber" "copies" "[I", Cond.fieldLink RX2 18 "RowReplicator$Subscriber" "publication" "LRowReplicator$Publication;", Cond.fieldLink RX2 22 "RowReplicator$Subscriber" "state" "I", Cond.fieldLink RX2 26 "RowReplicator$Subscriber" "slot" "I"]
def wsX4_init : List Cond := .code yX4_init cX4_init 2 none :: ((wsX4_init_r1 ++ (wsX4_init_r2 ++ wsX4_init_r3)) ++ wsX10 ++ wsX40 ++ wsX30 ++ wsX00 ++ wsX20)
def wsX4_checkTable : List Cond := .code yX4_checkTable cX4_checkTable 1 none :: ([.classLink RX4 199 "java/lang/IndexOutOfBoundsException", .initialized "java/lang/IndexOutOfBoundsException"] ++ (vx_atS RX4 203 "java/lang/IndexOutOfBoundsException" ["java/lang/RuntimeException", "java/lang/Exception"]).filter goodWord)
def wsX4_checkKey : List Cond := .code yX4_checkKey cX4_checkKey 2 none :: ([.classLink RX4 199 "java/lang/IndexOutOfBoundsException", .initialized "java/lang/IndexOutOfBoundsException", .methodLink RX4 75 yX4_checkTable, .static yX4_checkTable, .initialized RX4, .code yX4_checkTable cX4_checkTable 1 none] ++ (vx_atS RX4 203 "java/lang/IndexOutOfBoundsException" ["java/lang/RuntimeException", "java/lang/Exception"]).filter goodWord)
def wsX4_checkNumber : List Cond := .code yX4_checkNumber cX4_checkNumber 1 none :: ([.classLink RX4 102 "java/lang/IllegalArgumentException", .initialized "java/lang/IllegalArgumentException"] ++ (vx_atS RX4 106 "java/lang/IllegalArgumentException" ["java/lang/RuntimeException", "java/lang/Exception"]).filter goodWord)
def wsX4_checkRoomForChange : List Cond := .code yX4_checkRoomForChange cX4_checkRoomForChange 1 none :: ([.classLink RX4 68 "java/lang/IllegalStateException", .initialized "java/lang/IllegalStateException", .fieldLink RX4 12 "RowReplicator" "publisher" "LRowReplicator$Publisher;", .methodLink RX4 90 yX1_openChanges, .instanceMethod yX1_openChanges, .selects RX1 yX1_openChanges yX1_openChanges, .initialized RX1, .code yX1_openChanges cX1_openChanges 1 (some .int), .fieldLink RX1 19 "RowReplicator$Publisher" "changeCounts" "[I", .fieldLink RX1 15 "RowReplicator$Publisher" "commitCount" "I"] ++ wsX40 ++ wsX10 ++ (vx_atS RX4 72 "java/lang/IllegalStateException" ["java/lang/RuntimeException", "java/lang/Exception"]).filter goodWord)
def wsX4_rowOf : List Cond := .code yX4_rowOf cX4_rowOf 3 (some .int) :: ([])
def wsX4_put_r1 : List Cond := [Cond.fieldLink RX4 12 "RowReplicator" "publisher" "LRowReplicator$Publisher;", Cond.methodLink RX4 41 yX4_checkKey, Cond.static yX4_checkKey, Cond.initialized RX4, Cond.code yX4_checkKey cX4_checkKey 2 none, Cond.classLink RX4 199 "java/lang/IndexOutOfBoundsException", Cond.initialized "java/lang/IndexOutOfBoundsException", Cond.methodLink RX4 75 yX4_checkTable, Cond.static yX4_checkTable, Cond.code yX4_checkTable cX4_checkTable 1 none, Cond.methodLink RX4 45 yX4_checkNumber, Cond.static yX4_checkNumber, Cond.code yX4_checkNumber cX4_checkNumber 1 none, Cond.classLink RX4 102 "java/lang/IllegalArgumentException", Cond.initialized "java/lang/IllegalArgumentException", Cond.methodLink RX4 49 yX4_checkRoomForChange, Cond.instanceMethod yX4_checkRoomForChange, Cond.selects RX4 yX4_checkRoomForChange yX4_checkRoomForChange, Cond.code yX4_checkRoomForChange cX4_checkRoomForChange 1 none, Cond.classLink RX4 68 "java/lang/IllegalStateException", Cond.initialized "java/lang/IllegalStateException", Cond.methodLink RX4 90 yX1_openChanges, Cond.instanceMethod yX1_openChanges, Cond.selects RX1 yX1_openChanges yX1_openChanges]
def wsX4_put_r2 : List Cond := [Cond.initialized RX1, Cond.code yX1_openChanges cX1_openChanges 1 (some .int), Cond.fieldLink RX1 19 "RowReplicator$Publisher" "changeCounts" "[I", Cond.fieldLink RX1 15 "RowReplicator$Publisher" "commitCount" "I", Cond.methodLink RX4 56 yX4_placeOf, Cond.static yX4_placeOf, Cond.code yX4_placeOf cX4_placeOf 2 (some .int), Cond.methodLink RX4 60 yX4_rowOf, Cond.static yX4_rowOf, Cond.code yX4_rowOf cX4_rowOf 3 (some .int), Cond.methodLink RX4 64 yX1_change, Cond.instanceMethod yX1_change, Cond.selects RX1 yX1_change yX1_change, Cond.code yX1_change cX1_change 8 none, Cond.fieldLink RX1 22 "RowReplicator$Publisher" "changedTables" "[I", Cond.fieldLink RX1 25 "RowReplicator$Publisher" "changedKeys" "[I", Cond.fieldLink RX1 28 "RowReplicator$Publisher" "newRows" "[I", Cond.fieldLink RX1 9 "RowReplicator$Publisher" "rows" "[I"]
def wsX4_put : List Cond := .code yX4_put cX4_put 7 (some .boolean) :: ((wsX4_put_r1 ++ wsX4_put_r2) ++ wsX40 ++ wsX10 ++ (vx_atS RX4 203 "java/lang/IndexOutOfBoundsException" ["java/lang/RuntimeException", "java/lang/Exception"]).filter goodWord ++ (vx_atS RX4 106 "java/lang/IllegalArgumentException" ["java/lang/RuntimeException", "java/lang/Exception"]).filter goodWord ++ (vx_atS RX4 72 "java/lang/IllegalStateException" ["java/lang/RuntimeException", "java/lang/Exception"]).filter goodWord)
def wsX4_take_r1 : List Cond := [Cond.classLink RX4 68 "java/lang/IllegalStateException", Cond.initialized "java/lang/IllegalStateException", Cond.fieldLink RX4 12 "RowReplicator" "publisher" "LRowReplicator$Publisher;", Cond.methodLink RX4 41 yX4_checkKey, Cond.static yX4_checkKey, Cond.initialized RX4, Cond.code yX4_checkKey cX4_checkKey 2 none, Cond.classLink RX4 199 "java/lang/IndexOutOfBoundsException", Cond.initialized "java/lang/IndexOutOfBoundsException", Cond.methodLink RX4 75 yX4_checkTable, Cond.static yX4_checkTable, Cond.code yX4_checkTable cX4_checkTable 1 none, Cond.methodLink RX4 49 yX4_checkRoomForChange, Cond.instanceMethod yX4_checkRoomForChange, Cond.selects RX4 yX4_checkRoomForChange yX4_checkRoomForChange, Cond.code yX4_checkRoomForChange cX4_checkRoomForChange 1 none, Cond.methodLink RX4 90 yX1_openChanges, Cond.instanceMethod yX1_openChanges, Cond.selects RX1 yX1_openChanges yX1_openChanges, Cond.initialized RX1, Cond.code yX1_openChanges cX1_openChanges 1 (some .int), Cond.fieldLink RX1 19 "RowReplicator$Publisher" "changeCounts" "[I", Cond.fieldLink RX1 15 "RowReplicator$Publisher" "commitCount" "I", Cond.methodLink RX4 56 yX4_placeOf]
def wsX4_take_r2 : List Cond := [Cond.static yX4_placeOf, Cond.code yX4_placeOf cX4_placeOf 2 (some .int), Cond.methodLink RX4 64 yX1_change, Cond.instanceMethod yX1_change, Cond.selects RX1 yX1_change yX1_change, Cond.code yX1_change cX1_change 8 none, Cond.fieldLink RX1 22 "RowReplicator$Publisher" "changedTables" "[I", Cond.fieldLink RX1 25 "RowReplicator$Publisher" "changedKeys" "[I", Cond.fieldLink RX1 28 "RowReplicator$Publisher" "newRows" "[I", Cond.fieldLink RX1 9 "RowReplicator$Publisher" "rows" "[I"]
def wsX4_take : List Cond := .code yX4_take cX4_take 3 none :: ((wsX4_take_r1 ++ wsX4_take_r2) ++ wsX40 ++ wsX10 ++ (vx_atS RX4 72 "java/lang/IllegalStateException" ["java/lang/RuntimeException", "java/lang/Exception"]).filter goodWord ++ (vx_atS RX4 203 "java/lang/IndexOutOfBoundsException" ["java/lang/RuntimeException", "java/lang/Exception"]).filter goodWord)
def wsX4_truncate_r1 : List Cond := [Cond.fieldLink RX4 12 "RowReplicator" "publisher" "LRowReplicator$Publisher;", Cond.methodLink RX4 75 yX4_checkTable, Cond.static yX4_checkTable, Cond.initialized RX4, Cond.code yX4_checkTable cX4_checkTable 1 none, Cond.classLink RX4 199 "java/lang/IndexOutOfBoundsException", Cond.initialized "java/lang/IndexOutOfBoundsException", Cond.methodLink RX4 49 yX4_checkRoomForChange, Cond.instanceMethod yX4_checkRoomForChange, Cond.selects RX4 yX4_checkRoomForChange yX4_checkRoomForChange, Cond.code yX4_checkRoomForChange cX4_checkRoomForChange 1 none, Cond.classLink RX4 68 "java/lang/IllegalStateException", Cond.initialized "java/lang/IllegalStateException", Cond.methodLink RX4 90 yX1_openChanges, Cond.instanceMethod yX1_openChanges, Cond.selects RX1 yX1_openChanges yX1_openChanges, Cond.initialized RX1, Cond.code yX1_openChanges cX1_openChanges 1 (some .int), Cond.fieldLink RX1 19 "RowReplicator$Publisher" "changeCounts" "[I", Cond.fieldLink RX1 15 "RowReplicator$Publisher" "commitCount" "I", Cond.methodLink RX4 56 yX4_placeOf, Cond.static yX4_placeOf, Cond.code yX4_placeOf cX4_placeOf 2 (some .int), Cond.methodLink RX4 64 yX1_change]
def wsX4_truncate_r2 : List Cond := [Cond.instanceMethod yX1_change, Cond.selects RX1 yX1_change yX1_change, Cond.code yX1_change cX1_change 8 none, Cond.fieldLink RX1 22 "RowReplicator$Publisher" "changedTables" "[I", Cond.fieldLink RX1 25 "RowReplicator$Publisher" "changedKeys" "[I", Cond.fieldLink RX1 28 "RowReplicator$Publisher" "newRows" "[I", Cond.fieldLink RX1 9 "RowReplicator$Publisher" "rows" "[I"]
def wsX4_truncate : List Cond := .code yX4_truncate cX4_truncate 4 (some .int) :: ((wsX4_truncate_r1 ++ wsX4_truncate_r2) ++ wsX40 ++ wsX10 ++ (vx_atS RX4 203 "java/lang/IndexOutOfBoundsException" ["java/lang/RuntimeException", "java/lang/Exception"]).filter goodWord ++ (vx_atS RX4 72 "java/lang/IllegalStateException" ["java/lang/RuntimeException", "java/lang/Exception"]).filter goodWord)
def wsX4_cutLaggards : List Cond := .code yX4_cutLaggards cX4_cutLaggards 3 (some .int) :: ([.fieldLink RX4 24 "RowReplicator" "subscribers" "[LRowReplicator$Subscriber;", .fieldLink RX4 12 "RowReplicator" "publisher" "LRowReplicator$Publisher;", .fieldLink RX4 35 "RowReplicator" "limit" "I", .methodLink RX4 178 yX2_commitsBehind, .instanceMethod yX2_commitsBehind, .selects RX2 yX2_commitsBehind yX2_commitsBehind, .initialized RX2, .code yX2_commitsBehind cX2_commitsBehind 2 (some .int), .fieldLink RX2 26 "RowReplicator$Subscriber" "slot" "I", .methodLink RX2 32 yX2_holdsLog, .instanceMethod yX2_holdsLog, .selects RX2 yX2_holdsLog yX2_holdsLog, .code yX2_holdsLog cX2_holdsLog 1 (some .boolean), .fieldLink RX2 22 "RowReplicator$Subscriber" "state" "I"] ++ wsX40 ++ wsX10 ++ wsX20)
def wsX4_commit_r1 : List Cond := [Cond.classLink RX4 68 "java/lang/IllegalStateException", Cond.initialized "java/lang/IllegalStateException", Cond.fieldLink RX4 12 "RowReplicator" "publisher" "LRowReplicator$Publisher;", Cond.methodLink RX4 83 yX1_close, Cond.instanceMethod yX1_close, Cond.selects RX1 yX1_close yX1_close, Cond.initialized RX1, Cond.code yX1_close cX1_close 1 none, Cond.fieldLink RX1 15 "RowReplicator$Publisher" "commitCount" "I", Cond.fieldLink RX1 9 "RowReplicator$Publisher" "rows" "[I", Cond.fieldLink RX1 31 "RowReplicator$Publisher" "committedRows" "[I", Cond.methodLink RX1 38 arraycopyName, Cond.native arraycopyName, Cond.static arraycopyName, Cond.initialized "java/lang/System", Cond.methodLink RX4 86 yX4_cutLaggards, Cond.instanceMethod yX4_cutLaggards, Cond.selects RX4 yX4_cutLaggards yX4_cutLaggards, Cond.initialized RX4, Cond.code yX4_cutLaggards cX4_cutLaggards 3 (some .int), Cond.fieldLink RX4 24 "RowReplicator" "subscribers" "[LRowReplicator$Subscriber;", Cond.fieldLink RX4 35 "RowReplicator" "limit" "I", Cond.methodLink RX4 178 yX2_commitsBehind, Cond.instanceMethod yX2_commitsBehind]
def wsX4_commit_r2 : List Cond := [Cond.selects RX2 yX2_commitsBehind yX2_commitsBehind, Cond.initialized RX2, Cond.code yX2_commitsBehind cX2_commitsBehind 2 (some .int), Cond.fieldLink RX2 26 "RowReplicator$Subscriber" "slot" "I", Cond.methodLink RX2 32 yX2_holdsLog, Cond.instanceMethod yX2_holdsLog, Cond.selects RX2 yX2_holdsLog yX2_holdsLog, Cond.code yX2_holdsLog cX2_holdsLog 1 (some .boolean), Cond.fieldLink RX2 22 "RowReplicator$Subscriber" "state" "I"]
def wsX4_commit : List Cond := .code yX4_commit cX4_commit 1 (some .int) :: ((wsX4_commit_r1 ++ wsX4_commit_r2) ++ wsX40 ++ wsX10 ++ wsX20 ++ (vx_atS RX4 72 "java/lang/IllegalStateException" ["java/lang/RuntimeException", "java/lang/Exception"]).filter goodWord)
def wsX4_rollBack : List Cond := .code yX4_rollBack cX4_rollBack 2 (some .int) :: ([.fieldLink RX4 12 "RowReplicator" "publisher" "LRowReplicator$Publisher;", .methodLink RX4 90 yX1_openChanges, .instanceMethod yX1_openChanges, .selects RX1 yX1_openChanges yX1_openChanges, .initialized RX1, .code yX1_openChanges cX1_openChanges 1 (some .int), .fieldLink RX1 19 "RowReplicator$Publisher" "changeCounts" "[I", .fieldLink RX1 15 "RowReplicator$Publisher" "commitCount" "I", .methodLink RX4 93 yX1_undo, .instanceMethod yX1_undo, .selects RX1 yX1_undo yX1_undo, .code yX1_undo cX1_undo 1 none, .fieldLink RX1 31 "RowReplicator$Publisher" "committedRows" "[I", .fieldLink RX1 9 "RowReplicator$Publisher" "rows" "[I", .methodLink RX1 38 arraycopyName, .native arraycopyName, .static arraycopyName, .initialized "java/lang/System"] ++ wsX40 ++ wsX10)
def wsX4_checkColumn : List Cond := .code yX4_checkColumn cX4_checkColumn 1 none :: ([.classLink RX4 199 "java/lang/IndexOutOfBoundsException", .initialized "java/lang/IndexOutOfBoundsException"] ++ (vx_atS RX4 203 "java/lang/IndexOutOfBoundsException" ["java/lang/RuntimeException", "java/lang/Exception"]).filter goodWord)
def wsX4_at : List Cond := .code yX4_at cX4_at 4 (some .int) :: ([.fieldLink RX4 12 "RowReplicator" "publisher" "LRowReplicator$Publisher;", .methodLink RX4 41 yX4_checkKey, .static yX4_checkKey, .initialized RX4, .code yX4_checkKey cX4_checkKey 2 none, .classLink RX4 199 "java/lang/IndexOutOfBoundsException", .initialized "java/lang/IndexOutOfBoundsException", .methodLink RX4 75 yX4_checkTable, .static yX4_checkTable, .code yX4_checkTable cX4_checkTable 1 none, .methodLink RX4 96 yX4_checkColumn, .static yX4_checkColumn, .code yX4_checkColumn cX4_checkColumn 1 none, .methodLink RX4 56 yX4_placeOf, .static yX4_placeOf, .code yX4_placeOf cX4_placeOf 2 (some .int), .methodLink RX4 99 yX4_numberIn, .static yX4_numberIn, .code yX4_numberIn cX4_numberIn 2 (some .int)] ++ wsX40 ++ wsX10 ++ (vx_atS RX4 203 "java/lang/IndexOutOfBoundsException" ["java/lang/RuntimeException", "java/lang/Exception"]).filter goodWord)
def wsX4_commits : List Cond := .code yX4_commits cX4_commits 1 (some .int) :: ([.fieldLink RX4 12 "RowReplicator" "publisher" "LRowReplicator$Publisher;"] ++ wsX40 ++ wsX10)
def wsX4_setLimit : List Cond := .code yX4_setLimit cX4_setLimit 2 (some .int) :: ([.classLink RX4 102 "java/lang/IllegalArgumentException", .initialized "java/lang/IllegalArgumentException", .fieldLink RX4 35 "RowReplicator" "limit" "I", .methodLink RX4 86 yX4_cutLaggards, .instanceMethod yX4_cutLaggards, .selects RX4 yX4_cutLaggards yX4_cutLaggards, .initialized RX4, .code yX4_cutLaggards cX4_cutLaggards 3 (some .int), .fieldLink RX4 24 "RowReplicator" "subscribers" "[LRowReplicator$Subscriber;", .fieldLink RX4 12 "RowReplicator" "publisher" "LRowReplicator$Publisher;", .methodLink RX4 178 yX2_commitsBehind, .instanceMethod yX2_commitsBehind, .selects RX2 yX2_commitsBehind yX2_commitsBehind, .initialized RX2, .code yX2_commitsBehind cX2_commitsBehind 2 (some .int), .fieldLink RX2 26 "RowReplicator$Subscriber" "slot" "I", .methodLink RX2 32 yX2_holdsLog, .instanceMethod yX2_holdsLog, .selects RX2 yX2_holdsLog yX2_holdsLog, .code yX2_holdsLog cX2_holdsLog 1 (some .boolean), .fieldLink RX2 22 "RowReplicator$Subscriber" "state" "I"] ++ wsX40 ++ wsX10 ++ wsX20 ++ (vx_atS RX4 106 "java/lang/IllegalArgumentException" ["java/lang/RuntimeException", "java/lang/Exception"]).filter goodWord)
def wsX4_checkPublication : List Cond := .code yX4_checkPublication cX4_checkPublication 1 none :: ([.classLink RX4 199 "java/lang/IndexOutOfBoundsException", .initialized "java/lang/IndexOutOfBoundsException"] ++ (vx_atS RX4 203 "java/lang/IndexOutOfBoundsException" ["java/lang/RuntimeException", "java/lang/Exception"]).filter goodWord)
def wsX4_forgetCopies : List Cond := .code yX4_forgetCopies cX4_forgetCopies 6 (some .int) :: ([.fieldLink RX4 24 "RowReplicator" "subscribers" "[LRowReplicator$Subscriber;"] ++ wsX40 ++ wsX20)
def wsX4_setCondition : List Cond := .code yX4_setCondition cX4_setCondition 7 (some .int) :: ([.classLink RX4 102 "java/lang/IllegalArgumentException", .initialized "java/lang/IllegalArgumentException", .fieldLink RX4 18 "RowReplicator" "publications" "[LRowReplicator$Publication;", .methodLink RX4 107 yX4_checkPublication, .static yX4_checkPublication, .initialized RX4, .code yX4_checkPublication cX4_checkPublication 1 none, .classLink RX4 199 "java/lang/IndexOutOfBoundsException", .initialized "java/lang/IndexOutOfBoundsException", .methodLink RX4 75 yX4_checkTable, .static yX4_checkTable, .code yX4_checkTable cX4_checkTable 1 none, .methodLink RX4 96 yX4_checkColumn, .static yX4_checkColumn, .code yX4_checkColumn cX4_checkColumn 1 none, .methodLink RX4 45 yX4_checkNumber, .static yX4_checkNumber, .code yX4_checkNumber cX4_checkNumber 1 none, .methodLink RX4 121 yX4_forgetCopies, .instanceMethod yX4_forgetCopies, .selects RX4 yX4_forgetCopies yX4_forgetCopies, .code yX4_forgetCopies cX4_forgetCopies 6 (some .int), .fieldLink RX4 24 "RowReplicator" "subscribers" "[LRowReplicator$Subscriber;"] ++ wsX40 ++ wsX00 ++ wsX20 ++ (vx_atS RX4 106 "java/lang/IllegalArgumentException" ["java/lang/RuntimeException", "java/lang/Exception"]).filter goodWord ++ (vx_atS RX4 203 "java/lang/IndexOutOfBoundsException" ["java/lang/RuntimeException", "java/lang/Exception"]).filter goodWord)
def wsX4_maskOf : List Cond := .code yX4_maskOf cX4_maskOf 3 (some .int) :: ([])
def wsX4_setColumns : List Cond := .code yX4_setColumns cX4_setColumns 5 (some .int) :: ([.classLink RX4 102 "java/lang/IllegalArgumentException", .initialized "java/lang/IllegalArgumentException", .fieldLink RX4 18 "RowReplicator" "publications" "[LRowReplicator$Publication;", .methodLink RX4 107 yX4_checkPublication, .static yX4_checkPublication, .initialized RX4, .code yX4_checkPublication cX4_checkPublication 1 none, .classLink RX4 199 "java/lang/IndexOutOfBoundsException", .initialized "java/lang/IndexOutOfBoundsException", .methodLink RX4 75 yX4_checkTable, .static yX4_checkTable, .code yX4_checkTable cX4_checkTable 1 none, .methodLink RX4 130 yX4_maskOf, .static yX4_maskOf, .code yX4_maskOf cX4_maskOf 3 (some .int), .methodLink RX4 121 yX4_forgetCopies, .instanceMethod yX4_forgetCopies, .selects RX4 yX4_forgetCopies yX4_forgetCopies, .code yX4_forgetCopies cX4_forgetCopies 6 (some .int), .fieldLink RX4 24 "RowReplicator" "subscribers" "[LRowReplicator$Subscriber;"] ++ wsX40 ++ wsX00 ++ wsX20 ++ (vx_atS RX4 106 "java/lang/IllegalArgumentException" ["java/lang/RuntimeException", "java/lang/Exception"]).filter goodWord ++ (vx_atS RX4 203 "java/lang/IndexOutOfBoundsException" ["java/lang/RuntimeException", "java/lang/Exception"]).filter goodWord)
def wsX4_checkSubscriber : List Cond := .code yX4_checkSubscriber cX4_checkSubscriber 1 none :: ([.classLink RX4 199 "java/lang/IndexOutOfBoundsException", .initialized "java/lang/IndexOutOfBoundsException"] ++ (vx_atS RX4 203 "java/lang/IndexOutOfBoundsException" ["java/lang/RuntimeException", "java/lang/Exception"]).filter goodWord)
def wsX4_subscribe_r1 : List Cond := [Cond.fieldLink RX4 24 "RowReplicator" "subscribers" "[LRowReplicator$Subscriber;", Cond.fieldLink RX4 18 "RowReplicator" "publications" "[LRowReplicator$Publication;", Cond.fieldLink RX4 12 "RowReplicator" "publisher" "LRowReplicator$Publisher;", Cond.methodLink RX4 134 yX4_checkSubscriber, Cond.static yX4_checkSubscriber, Cond.initialized RX4, Cond.code yX4_checkSubscriber cX4_checkSubscriber 1 none, Cond.classLink RX4 199 "java/lang/IndexOutOfBoundsException", Cond.initialized "java/lang/IndexOutOfBoundsException", Cond.methodLink RX4 107 yX4_checkPublication, Cond.static yX4_checkPublication, Cond.code yX4_checkPublication cX4_checkPublication 1 none, Cond.methodLink RX4 140 yX2_follow, Cond.instanceMethod yX2_follow, Cond.selects RX2 yX2_follow yX2_follow, Cond.initialized RX2, Cond.code yX2_follow cX2_follow 3 none, Cond.fieldLink RX2 18 "RowReplicator$Subscriber" "publication" "LRowReplicator$Publication;", Cond.fieldLink RX2 22 "RowReplicator$Subscriber" "state" "I", Cond.fieldLink RX2 26 "RowReplicator$Subscriber" "slot" "I", Cond.methodLink RX2 29 yX2_forgetTables, Cond.instanceMethod yX2_forgetTables, Cond.selects RX2 yX2_forgetTables yX2_forgetTables, Cond.code yX2_forgetTables cX2_forgetTables 2 none]
def wsX4_subscribe_r2 : List Cond := [Cond.fieldLink RX2 15 "RowReplicator$Subscriber" "copies" "[I"]
def wsX4_subscribe : List Cond := .code yX4_subscribe cX4_subscribe 5 (some .int) :: ((wsX4_subscribe_r1 ++ wsX4_subscribe_r2) ++ wsX40 ++ wsX20 ++ wsX10 ++ (vx_atS RX4 203 "java/lang/IndexOutOfBoundsException" ["java/lang/RuntimeException", "java/lang/Exception"]).filter goodWord)
def wsX4_drop : List Cond := .code yX4_drop cX4_drop 4 (some .int) :: ([.fieldLink RX4 24 "RowReplicator" "subscribers" "[LRowReplicator$Subscriber;", .methodLink RX4 134 yX4_checkSubscriber, .static yX4_checkSubscriber, .initialized RX4, .code yX4_checkSubscriber cX4_checkSubscriber 1 none, .classLink RX4 199 "java/lang/IndexOutOfBoundsException", .initialized "java/lang/IndexOutOfBoundsException", .methodLink RX4 144 yX2_leave, .instanceMethod yX2_leave, .selects RX2 yX2_leave yX2_leave, .initialized RX2, .code yX2_leave cX2_leave 1 none, .fieldLink RX2 18 "RowReplicator$Subscriber" "publication" "LRowReplicator$Publication;", .fieldLink RX2 22 "RowReplicator$Subscriber" "state" "I", .methodLink RX2 29 yX2_forgetTables, .instanceMethod yX2_forgetTables, .selects RX2 yX2_forgetTables yX2_forgetTables, .code yX2_forgetTables cX2_forgetTables 2 none, .fieldLink RX2 15 "RowReplicator$Subscriber" "copies" "[I"] ++ wsX40 ++ wsX20 ++ (vx_atS RX4 203 "java/lang/IndexOutOfBoundsException" ["java/lang/RuntimeException", "java/lang/Exception"]).filter goodWord)
def wsX4_copy_r1 : List Cond := [Cond.classLink RX4 68 "java/lang/IllegalStateException", Cond.initialized "java/lang/IllegalStateException", Cond.fieldLink RX4 24 "RowReplicator" "subscribers" "[LRowReplicator$Subscriber;", Cond.fieldLink RX4 12 "RowReplicator" "publisher" "LRowReplicator$Publisher;", Cond.methodLink RX4 134 yX4_checkSubscriber, Cond.static yX4_checkSubscriber, Cond.initialized RX4, Cond.code yX4_checkSubscriber cX4_checkSubscriber 1 none, Cond.classLink RX4 199 "java/lang/IndexOutOfBoundsException", Cond.initialized "java/lang/IndexOutOfBoundsException", Cond.methodLink RX4 75 yX4_checkTable, Cond.static yX4_checkTable, Cond.code yX4_checkTable cX4_checkTable 1 none, Cond.methodLink RX4 90 yX1_openChanges, Cond.instanceMethod yX1_openChanges, Cond.selects RX1 yX1_openChanges yX1_openChanges, Cond.initialized RX1, Cond.code yX1_openChanges cX1_openChanges 1 (some .int), Cond.fieldLink RX1 19 "RowReplicator$Publisher" "changeCounts" "[I", Cond.fieldLink RX1 15 "RowReplicator$Publisher" "commitCount" "I", Cond.methodLink RX4 56 yX4_placeOf, Cond.static yX4_placeOf, Cond.code yX4_placeOf cX4_placeOf 2 (some .int), Cond.methodLink RX4 155 yX0_choose]
def wsX4_copy_r2 : List Cond := [Cond.instanceMethod yX0_choose, Cond.selects RX0 yX0_choose yX0_choose, Cond.initialized RX0, Cond.code yX0_choose cX0_choose 3 (some .int), Cond.fieldLink RX0 9 "RowReplicator$Publication" "columns" "[I", Cond.fieldLink RX0 21 "RowReplicator$Publication" "masks" "[I", Cond.static yX4_numberIn, Cond.code yX4_numberIn cX4_numberIn 2 (some .int), Cond.methodLink RX0 29 yX0_lets, Cond.instanceMethod yX0_lets, Cond.selects RX0 yX0_lets yX0_lets, Cond.code yX0_lets cX0_lets 3 (some .boolean), Cond.fieldLink RX0 15 "RowReplicator$Publication" "relations" "[I", Cond.fieldLink RX0 18 "RowReplicator$Publication" "numbers" "[I"]
def wsX4_copy : List Cond := .code yX4_copy cX4_copy 9 (some .int) :: ((wsX4_copy_r1 ++ wsX4_copy_r2) ++ wsX40 ++ wsX20 ++ wsX10 ++ wsX00 ++ (vx_atS RX4 72 "java/lang/IllegalStateException" ["java/lang/RuntimeException", "java/lang/Exception"]).filter goodWord ++ (vx_atS RX4 203 "java/lang/IndexOutOfBoundsException" ["java/lang/RuntimeException", "java/lang/Exception"]).filter goodWord)
def wsX4_receive_r1 : List Cond := [Cond.classLink RX4 102 "java/lang/IllegalArgumentException", Cond.initialized "java/lang/IllegalArgumentException", Cond.classLink RX4 68 "java/lang/IllegalStateException", Cond.initialized "java/lang/IllegalStateException", Cond.fieldLink RX4 24 "RowReplicator" "subscribers" "[LRowReplicator$Subscriber;", Cond.fieldLink RX4 12 "RowReplicator" "publisher" "LRowReplicator$Publisher;", Cond.fieldLink RX4 31 "RowReplicator" "trial" "LRowReplicator$Trial;", Cond.methodLink RX4 134 yX4_checkSubscriber, Cond.static yX4_checkSubscriber, Cond.initialized RX4, Cond.code yX4_checkSubscriber cX4_checkSubscriber 1 none, Cond.classLink RX4 199 "java/lang/IndexOutOfBoundsException", Cond.initialized "java/lang/IndexOutOfBoundsException", Cond.methodLink RX4 167 yX3_applies, Cond.instanceMethod yX3_applies, Cond.selects RX3 yX3_applies yX3_applies, Cond.initialized RX3, Cond.code yX3_applies cX3_applies 9 (some .boolean), Cond.fieldLink RX3 9 "RowReplicator$Trial" "oldRows" "[I", Cond.methodLink RX3 29 arraycopyName, Cond.native arraycopyName, Cond.static arraycopyName, Cond.initialized "java/lang/System", Cond.fieldLink RX3 15 "RowReplicator$Trial" "rows" "[I"]
def wsX4_receive_r2 : List Cond := [Cond.methodLink RX3 45 yX2_takesChangesOf, Cond.instanceMethod yX2_takesChangesOf, Cond.selects RX2 yX2_takesChangesOf yX2_takesChangesOf, Cond.initialized RX2, Cond.code yX2_takesChangesOf cX2_takesChangesOf 3 (some .boolean), Cond.fieldLink RX2 15 "RowReplicator$Subscriber" "copies" "[I", Cond.methodLink RX3 49 yX3_takeAll, Cond.instanceMethod yX3_takeAll, Cond.selects RX3 yX3_takeAll yX3_takeAll, Cond.code yX3_takeAll cX3_takeAll 4 none, Cond.methodLink RX3 56 yX3_follows, Cond.instanceMethod yX3_follows, Cond.selects RX3 yX3_follows yX3_follows, Cond.code yX3_follows cX3_follows 9 (some .boolean), Cond.static yX4_placeOf, Cond.code yX4_placeOf cX4_placeOf 2 (some .int), Cond.methodLink RX3 64 yX0_choose, Cond.instanceMethod yX0_choose, Cond.selects RX0 yX0_choose yX0_choose, Cond.initialized RX0, Cond.code yX0_choose cX0_choose 3 (some .int), Cond.fieldLink RX0 9 "RowReplicator$Publication" "columns" "[I", Cond.fieldLink RX0 21 "RowReplicator$Publication" "masks" "[I", Cond.static yX4_numberIn]
def wsX4_receive_r3 : List Cond := [Cond.code yX4_numberIn cX4_numberIn 2 (some .int), Cond.methodLink RX0 29 yX0_lets, Cond.instanceMethod yX0_lets, Cond.selects RX0 yX0_lets yX0_lets, Cond.code yX0_lets cX0_lets 3 (some .boolean), Cond.fieldLink RX0 15 "RowReplicator$Publication" "relations" "[I", Cond.fieldLink RX0 18 "RowReplicator$Publication" "numbers" "[I", Cond.methodLink RX4 172 yX2_accept, Cond.instanceMethod yX2_accept, Cond.selects RX2 yX2_accept yX2_accept, Cond.code yX2_accept cX2_accept 2 none, Cond.fieldLink RX2 9 "RowReplicator$Subscriber" "rows" "[I", Cond.methodLink RX2 36 arraycopyName, Cond.fieldLink RX2 26 "RowReplicator$Subscriber" "slot" "I"]
def wsX4_receive : List Cond := .code yX4_receive cX4_receive 6 (some .int) :: ((wsX4_receive_r1 ++ (wsX4_receive_r2 ++ wsX4_receive_r3)) ++ wsX40 ++ wsX20 ++ wsX10 ++ wsX30 ++ wsX00 ++ (vx_atS RX4 106 "java/lang/IllegalArgumentException" ["java/lang/RuntimeException", "java/lang/Exception"]).filter goodWord ++ (vx_atS RX4 72 "java/lang/IllegalStateException" ["java/lang/RuntimeException", "java/lang/Exception"]).filter goodWord ++ (vx_atS RX4 203 "java/lang/IndexOutOfBoundsException" ["java/lang/RuntimeException", "java/lang/Exception"]).filter goodWord)
def wsX4_goOn : List Cond := .code yX4_goOn cX4_goOn 4 (some .int) :: ([.classLink RX4 68 "java/lang/IllegalStateException", .initialized "java/lang/IllegalStateException", .fieldLink RX4 24 "RowReplicator" "subscribers" "[LRowReplicator$Subscriber;", .methodLink RX4 134 yX4_checkSubscriber, .static yX4_checkSubscriber, .initialized RX4, .code yX4_checkSubscriber cX4_checkSubscriber 1 none, .classLink RX4 199 "java/lang/IndexOutOfBoundsException", .initialized "java/lang/IndexOutOfBoundsException"] ++ wsX40 ++ wsX20 ++ (vx_atS RX4 72 "java/lang/IllegalStateException" ["java/lang/RuntimeException", "java/lang/Exception"]).filter goodWord ++ (vx_atS RX4 203 "java/lang/IndexOutOfBoundsException" ["java/lang/RuntimeException", "java/lang/Exception"]).filter goodWord)
def wsX4_own : List Cond := .code yX4_own cX4_own 8 (some .boolean) :: ([.fieldLink RX4 24 "RowReplicator" "subscribers" "[LRowReplicator$Subscriber;", .methodLink RX4 134 yX4_checkSubscriber, .static yX4_checkSubscriber, .initialized RX4, .code yX4_checkSubscriber cX4_checkSubscriber 1 none, .classLink RX4 199 "java/lang/IndexOutOfBoundsException", .initialized "java/lang/IndexOutOfBoundsException", .methodLink RX4 41 yX4_checkKey, .static yX4_checkKey, .code yX4_checkKey cX4_checkKey 2 none, .methodLink RX4 75 yX4_checkTable, .static yX4_checkTable, .code yX4_checkTable cX4_checkTable 1 none, .methodLink RX4 45 yX4_checkNumber, .static yX4_checkNumber, .code yX4_checkNumber cX4_checkNumber 1 none, .classLink RX4 102 "java/lang/IllegalArgumentException", .initialized "java/lang/IllegalArgumentException", .methodLink RX4 56 yX4_placeOf, .static yX4_placeOf, .code yX4_placeOf cX4_placeOf 2 (some .int), .methodLink RX4 60 yX4_rowOf, .static yX4_rowOf, .code yX4_rowOf cX4_rowOf 3 (some .int)] ++ wsX40 ++ wsX20 ++ (vx_atS RX4 203 "java/lang/IndexOutOfBoundsException" ["java/lang/RuntimeException", "java/lang/Exception"]).filter goodWord ++ (vx_atS RX4 106 "java/lang/IllegalArgumentException" ["java/lang/RuntimeException", "java/lang/Exception"]).filter goodWord)
def wsX4_state : List Cond := .code yX4_state cX4_state 2 (some .int) :: ([.fieldLink RX4 24 "RowReplicator" "subscribers" "[LRowReplicator$Subscriber;", .methodLink RX4 134 yX4_checkSubscriber, .static yX4_checkSubscriber, .initialized RX4, .code yX4_checkSubscriber cX4_checkSubscriber 1 none, .classLink RX4 199 "java/lang/IndexOutOfBoundsException", .initialized "java/lang/IndexOutOfBoundsException"] ++ wsX40 ++ wsX20 ++ (vx_atS RX4 203 "java/lang/IndexOutOfBoundsException" ["java/lang/RuntimeException", "java/lang/Exception"]).filter goodWord)
def wsX4_lag : List Cond := .code yX4_lag cX4_lag 2 (some .int) :: ([.fieldLink RX4 24 "RowReplicator" "subscribers" "[LRowReplicator$Subscriber;", .fieldLink RX4 12 "RowReplicator" "publisher" "LRowReplicator$Publisher;", .methodLink RX4 134 yX4_checkSubscriber, .static yX4_checkSubscriber, .initialized RX4, .code yX4_checkSubscriber cX4_checkSubscriber 1 none, .classLink RX4 199 "java/lang/IndexOutOfBoundsException", .initialized "java/lang/IndexOutOfBoundsException", .methodLink RX4 178 yX2_commitsBehind, .instanceMethod yX2_commitsBehind, .selects RX2 yX2_commitsBehind yX2_commitsBehind, .initialized RX2, .code yX2_commitsBehind cX2_commitsBehind 2 (some .int), .fieldLink RX2 26 "RowReplicator$Subscriber" "slot" "I", .methodLink RX2 32 yX2_holdsLog, .instanceMethod yX2_holdsLog, .selects RX2 yX2_holdsLog yX2_holdsLog, .code yX2_holdsLog cX2_holdsLog 1 (some .boolean), .fieldLink RX2 22 "RowReplicator$Subscriber" "state" "I"] ++ wsX40 ++ wsX10 ++ wsX20 ++ (vx_atS RX4 203 "java/lang/IndexOutOfBoundsException" ["java/lang/RuntimeException", "java/lang/Exception"]).filter goodWord)
def wsX4_copiedAt : List Cond := .code yX4_copiedAt cX4_copiedAt 3 (some .int) :: ([.fieldLink RX4 24 "RowReplicator" "subscribers" "[LRowReplicator$Subscriber;", .methodLink RX4 134 yX4_checkSubscriber, .static yX4_checkSubscriber, .initialized RX4, .code yX4_checkSubscriber cX4_checkSubscriber 1 none, .classLink RX4 199 "java/lang/IndexOutOfBoundsException", .initialized "java/lang/IndexOutOfBoundsException", .methodLink RX4 75 yX4_checkTable, .static yX4_checkTable, .code yX4_checkTable cX4_checkTable 1 none] ++ wsX40 ++ wsX20 ++ (vx_atS RX4 203 "java/lang/IndexOutOfBoundsException" ["java/lang/RuntimeException", "java/lang/Exception"]).filter goodWord)
def wsX4_seen : List Cond := .code yX4_seen cX4_seen 5 (some .int) :: ([.fieldLink RX4 24 "RowReplicator" "subscribers" "[LRowReplicator$Subscriber;", .methodLink RX4 134 yX4_checkSubscriber, .static yX4_checkSubscriber, .initialized RX4, .code yX4_checkSubscriber cX4_checkSubscriber 1 none, .classLink RX4 199 "java/lang/IndexOutOfBoundsException", .initialized "java/lang/IndexOutOfBoundsException", .methodLink RX4 41 yX4_checkKey, .static yX4_checkKey, .code yX4_checkKey cX4_checkKey 2 none, .methodLink RX4 75 yX4_checkTable, .static yX4_checkTable, .code yX4_checkTable cX4_checkTable 1 none, .methodLink RX4 96 yX4_checkColumn, .static yX4_checkColumn, .code yX4_checkColumn cX4_checkColumn 1 none, .methodLink RX4 56 yX4_placeOf, .static yX4_placeOf, .code yX4_placeOf cX4_placeOf 2 (some .int), .methodLink RX4 99 yX4_numberIn, .static yX4_numberIn, .code yX4_numberIn cX4_numberIn 2 (some .int)] ++ wsX40 ++ wsX20 ++ (vx_atS RX4 203 "java/lang/IndexOutOfBoundsException" ["java/lang/RuntimeException", "java/lang/Exception"]).filter goodWord)
def wsX4_isFaithful_r1 : List Cond := [Cond.classLink RX4 68 "java/lang/IllegalStateException", Cond.initialized "java/lang/IllegalStateException", Cond.fieldLink RX4 24 "RowReplicator" "subscribers" "[LRowReplicator$Subscriber;", Cond.methodLink RX4 189 Lib.Math.max.name, Cond.static Lib.Math.max.name, Cond.initialized "java/lang/Math", Cond.code Lib.Math.max.name Lib.Math.max.code 2 (some .int), Cond.fieldLink RX4 12 "RowReplicator" "publisher" "LRowReplicator$Publisher;", Cond.methodLink RX4 134 yX4_checkSubscriber, Cond.static yX4_checkSubscriber, Cond.initialized RX4, Cond.code yX4_checkSubscriber cX4_checkSubscriber 1 none, Cond.classLink RX4 199 "java/lang/IndexOutOfBoundsException", Cond.initialized "java/lang/IndexOutOfBoundsException", Cond.methodLink RX4 75 yX4_checkTable, Cond.static yX4_checkTable, Cond.code yX4_checkTable cX4_checkTable 1 none, Cond.methodLink RX4 181 yX2_holdsLog, Cond.instanceMethod yX2_holdsLog, Cond.selects RX2 yX2_holdsLog yX2_holdsLog, Cond.initialized RX2, Cond.code yX2_holdsLog cX2_holdsLog 1 (some .boolean), Cond.fieldLink RX2 22 "RowReplicator$Subscriber" "state" "I", Cond.methodLink RX4 56 yX4_placeOf]
def wsX4_isFaithful_r2 : List Cond := [Cond.static yX4_placeOf, Cond.code yX4_placeOf cX4_placeOf 2 (some .int), Cond.methodLink RX4 194 yX1_rowAsOf, Cond.instanceMethod yX1_rowAsOf, Cond.selects RX1 yX1_rowAsOf yX1_rowAsOf, Cond.initialized RX1, Cond.code yX1_rowAsOf cX1_rowAsOf 3 (some .int), Cond.fieldLink RX1 31 "RowReplicator$Publisher" "committedRows" "[I", Cond.methodLink RX4 155 yX0_choose, Cond.instanceMethod yX0_choose, Cond.selects RX0 yX0_choose yX0_choose, Cond.initialized RX0, Cond.code yX0_choose cX0_choose 3 (some .int), Cond.fieldLink RX0 9 "RowReplicator$Publication" "columns" "[I", Cond.fieldLink RX0 21 "RowReplicator$Publication" "masks" "[I", Cond.static yX4_numberIn, Cond.code yX4_numberIn cX4_numberIn 2 (some .int), Cond.methodLink RX0 29 yX0_lets, Cond.instanceMethod yX0_lets, Cond.selects RX0 yX0_lets yX0_lets, Cond.code yX0_lets cX0_lets 3 (some .boolean), Cond.fieldLink RX0 15 "RowReplicator$Publication" "relations" "[I", Cond.fieldLink RX0 18 "RowReplicator$Publication" "numbers" "[I"]
def wsX4_isFaithful : List Cond := .code yX4_isFaithful cX4_isFaithful 9 (some .boolean) :: ((wsX4_isFaithful_r1 ++ wsX4_isFaithful_r2) ++ wsX40 ++ wsX20 ++ wsX10 ++ wsX00 ++ (vx_atS RX4 72 "java/lang/IllegalStateException" ["java/lang/RuntimeException", "java/lang/Exception"]).filter goodWord ++ (vx_atS RX4 203 "java/lang/IndexOutOfBoundsException" ["java/lang/RuntimeException", "java/lang/Exception"]).filter goodWord)
def wsX5_init : List Cond := .code yX5_init cX5_init 2 none :: ([.methodLink RX5 1 objectInit, .instanceMethod objectInit, .code objectInit ⟨#[0xb1]⟩ 1 none, .arrayClass .int, .fieldLink RX5 7 "RowReplicatorModel" "row" "[I", .fieldLink RX5 13 "RowReplicatorModel" "kept" "[I", .fieldLink RX5 16 "RowReplicatorModel" "limit" "I", .fieldLink RX5 20 "RowReplicatorModel" "changes" "[I", .fieldLink RX5 23 "RowReplicatorModel" "table" "[I", .fieldLink RX5 26 "RowReplicatorModel" "key" "[I", .fieldLink RX5 29 "RowReplicatorModel" "fresh" "[I", .fieldLink RX5 32 "RowReplicatorModel" "column" "[I", .fieldLink RX5 35 "RowReplicatorModel" "relation" "[I", .fieldLink RX5 38 "RowReplicatorModel" "number" "[I", .fieldLink RX5 41 "RowReplicatorModel" "list" "[I", .fieldLink RX5 44 "RowReplicatorModel" "book" "[I", .fieldLink RX5 47 "RowReplicatorModel" "state" "[I", .fieldLink RX5 50 "RowReplicatorModel" "slot" "[I", .fieldLink RX5 53 "RowReplicatorModel" "copied" "[I", .fieldLink RX5 56 "RowReplicatorModel" "seen" "[I", .fieldLink RX5 59 "RowReplicatorModel" "there" "[I", .fieldLink RX5 62 "RowReplicatorModel" "here" "[I"] ++ wsX50)
def wsX5_thrown : List Cond := .code yX5_thrown cX5_thrown 1 (some .int) :: ([.fieldLink RX5 65 "RowReplicatorModel" "thrown" "I"] ++ wsX50)
def wsX5_fails : List Cond := .code yX5_fails cX5_fails 2 (some .boolean) :: ([.fieldLink RX5 65 "RowReplicatorModel" "thrown" "I"] ++ wsX50)
def wsX5_isIn : List Cond := .code yX5_isIn cX5_isIn 3 (some .boolean) :: ([])
def wsX5_isTable : List Cond := .code yX5_isTable cX5_isTable 1 (some .boolean) :: ([.methodLink RX5 68 yX5_isIn, .static yX5_isIn, .initialized RX5, .code yX5_isIn cX5_isIn 3 (some .boolean)])
def wsX5_isRow : List Cond := .code yX5_isRow cX5_isRow 2 (some .boolean) :: ([.methodLink RX5 72 yX5_isTable, .static yX5_isTable, .initialized RX5, .code yX5_isTable cX5_isTable 1 (some .boolean), .methodLink RX5 68 yX5_isIn, .static yX5_isIn, .code yX5_isIn cX5_isIn 3 (some .boolean)])
def wsX5_isThird : List Cond := .code yX5_isThird cX5_isThird 1 (some .boolean) :: ([.methodLink RX5 68 yX5_isIn, .static yX5_isIn, .initialized RX5, .code yX5_isIn cX5_isIn 3 (some .boolean)])
def wsX5_goes : List Cond := .code yX5_goes cX5_goes 5 none :: ([])
def wsX5_enters : List Cond := .code yX5_enters cX5_enters 5 none :: ([.fieldLink RX5 76 "RowReplicatorModel" "commits" "I", .fieldLink RX5 20 "RowReplicatorModel" "changes" "[I", .fieldLink RX5 23 "RowReplicatorModel" "table" "[I", .fieldLink RX5 26 "RowReplicatorModel" "key" "[I", .fieldLink RX5 29 "RowReplicatorModel" "fresh" "[I", .fieldLink RX5 7 "RowReplicatorModel" "row" "[I", .methodLink RX5 79 yX5_goes, .static yX5_goes, .initialized RX5, .code yX5_goes cX5_goes 5 none] ++ wsX50)
def wsX5_isFull : List Cond := .code yX5_isFull cX5_isFull 1 (some .boolean) :: ([.fieldLink RX5 20 "RowReplicatorModel" "changes" "[I", .fieldLink RX5 76 "RowReplicatorModel" "commits" "I"] ++ wsX50)
def wsX5_isNumber : List Cond := .code yX5_isNumber cX5_isNumber 1 (some .boolean) :: ([.methodLink RX5 68 yX5_isIn, .static yX5_isIn, .initialized RX5, .code yX5_isIn cX5_isIn 3 (some .boolean)])
def wsX5_put_r1 : List Cond := [Cond.fieldLink RX5 7 "RowReplicatorModel" "row" "[I", Cond.methodLink RX5 83 yX5_isNumber, Cond.static yX5_isNumber, Cond.initialized RX5, Cond.code yX5_isNumber cX5_isNumber 1 (some .boolean), Cond.methodLink RX5 68 yX5_isIn, Cond.static yX5_isIn, Cond.code yX5_isIn cX5_isIn 3 (some .boolean), Cond.methodLink RX5 86 yX5_isRow, Cond.static yX5_isRow, Cond.code yX5_isRow cX5_isRow 2 (some .boolean), Cond.methodLink RX5 72 yX5_isTable, Cond.static yX5_isTable, Cond.code yX5_isTable cX5_isTable 1 (some .boolean), Cond.methodLink RX5 90 yX5_isFull, Cond.instanceMethod yX5_isFull, Cond.selects RX5 yX5_isFull yX5_isFull, Cond.code yX5_isFull cX5_isFull 1 (some .boolean), Cond.fieldLink RX5 20 "RowReplicatorModel" "changes" "[I", Cond.fieldLink RX5 76 "RowReplicatorModel" "commits" "I", Cond.methodLink RX5 94 yX5_fails, Cond.instanceMethod yX5_fails, Cond.selects RX5 yX5_fails yX5_fails, Cond.code yX5_fails cX5_fails 2 (some .boolean)]
def wsX5_put_r2 : List Cond := [Cond.fieldLink RX5 65 "RowReplicatorModel" "thrown" "I", Cond.methodLink RX5 97 yX5_enters, Cond.instanceMethod yX5_enters, Cond.selects RX5 yX5_enters yX5_enters, Cond.code yX5_enters cX5_enters 5 none, Cond.fieldLink RX5 23 "RowReplicatorModel" "table" "[I", Cond.fieldLink RX5 26 "RowReplicatorModel" "key" "[I", Cond.fieldLink RX5 29 "RowReplicatorModel" "fresh" "[I", Cond.methodLink RX5 79 yX5_goes, Cond.static yX5_goes, Cond.code yX5_goes cX5_goes 5 none]
def wsX5_put : List Cond := .code yX5_put cX5_put 8 (some .boolean) :: ((wsX5_put_r1 ++ wsX5_put_r2) ++ wsX50)
def wsX5_take_r1 : List Cond := [Cond.fieldLink RX5 7 "RowReplicatorModel" "row" "[I", Cond.methodLink RX5 86 yX5_isRow, Cond.static yX5_isRow, Cond.initialized RX5, Cond.code yX5_isRow cX5_isRow 2 (some .boolean), Cond.methodLink RX5 72 yX5_isTable, Cond.static yX5_isTable, Cond.code yX5_isTable cX5_isTable 1 (some .boolean), Cond.methodLink RX5 68 yX5_isIn, Cond.static yX5_isIn, Cond.code yX5_isIn cX5_isIn 3 (some .boolean), Cond.methodLink RX5 90 yX5_isFull, Cond.instanceMethod yX5_isFull, Cond.selects RX5 yX5_isFull yX5_isFull, Cond.code yX5_isFull cX5_isFull 1 (some .boolean), Cond.fieldLink RX5 20 "RowReplicatorModel" "changes" "[I", Cond.fieldLink RX5 76 "RowReplicatorModel" "commits" "I", Cond.methodLink RX5 94 yX5_fails, Cond.instanceMethod yX5_fails, Cond.selects RX5 yX5_fails yX5_fails, Cond.code yX5_fails cX5_fails 2 (some .boolean), Cond.fieldLink RX5 65 "RowReplicatorModel" "thrown" "I", Cond.methodLink RX5 97 yX5_enters, Cond.instanceMethod yX5_enters]
def wsX5_take_r2 : List Cond := [Cond.selects RX5 yX5_enters yX5_enters, Cond.code yX5_enters cX5_enters 5 none, Cond.fieldLink RX5 23 "RowReplicatorModel" "table" "[I", Cond.fieldLink RX5 26 "RowReplicatorModel" "key" "[I", Cond.fieldLink RX5 29 "RowReplicatorModel" "fresh" "[I", Cond.methodLink RX5 79 yX5_goes, Cond.static yX5_goes, Cond.code yX5_goes cX5_goes 5 none]
def wsX5_take : List Cond := .code yX5_take cX5_take 4 none :: ((wsX5_take_r1 ++ wsX5_take_r2) ++ wsX50)
def wsX5_truncate_r1 : List Cond := [Cond.fieldLink RX5 7 "RowReplicatorModel" "row" "[I", Cond.methodLink RX5 72 yX5_isTable, Cond.static yX5_isTable, Cond.initialized RX5, Cond.code yX5_isTable cX5_isTable 1 (some .boolean), Cond.methodLink RX5 68 yX5_isIn, Cond.static yX5_isIn, Cond.code yX5_isIn cX5_isIn 3 (some .boolean), Cond.methodLink RX5 90 yX5_isFull, Cond.instanceMethod yX5_isFull, Cond.selects RX5 yX5_isFull yX5_isFull, Cond.code yX5_isFull cX5_isFull 1 (some .boolean), Cond.fieldLink RX5 20 "RowReplicatorModel" "changes" "[I", Cond.fieldLink RX5 76 "RowReplicatorModel" "commits" "I", Cond.methodLink RX5 94 yX5_fails, Cond.instanceMethod yX5_fails, Cond.selects RX5 yX5_fails yX5_fails, Cond.code yX5_fails cX5_fails 2 (some .boolean), Cond.fieldLink RX5 65 "RowReplicatorModel" "thrown" "I", Cond.methodLink RX5 97 yX5_enters, Cond.instanceMethod yX5_enters, Cond.selects RX5 yX5_enters yX5_enters, Cond.code yX5_enters cX5_enters 5 none, Cond.fieldLink RX5 23 "RowReplicatorModel" "table" "[I"]
def wsX5_truncate_r2 : List Cond := [Cond.fieldLink RX5 26 "RowReplicatorModel" "key" "[I", Cond.fieldLink RX5 29 "RowReplicatorModel" "fresh" "[I", Cond.methodLink RX5 79 yX5_goes, Cond.static yX5_goes, Cond.code yX5_goes cX5_goes 5 none]
def wsX5_truncate : List Cond := .code yX5_truncate cX5_truncate 4 (some .int) :: ((wsX5_truncate_r1 ++ wsX5_truncate_r2) ++ wsX50)
def wsX5_cuts : List Cond := .code yX5_cuts cX5_cuts 3 (some .int) :: ([.fieldLink RX5 47 "RowReplicatorModel" "state" "[I", .fieldLink RX5 76 "RowReplicatorModel" "commits" "I", .fieldLink RX5 50 "RowReplicatorModel" "slot" "[I", .fieldLink RX5 16 "RowReplicatorModel" "limit" "I", .methodLink RX5 68 yX5_isIn, .static yX5_isIn, .initialized RX5, .code yX5_isIn cX5_isIn 3 (some .boolean)] ++ wsX50)
def wsX5_commit : List Cond := .code yX5_commit cX5_commit 2 (some .int) :: ([.fieldLink RX5 76 "RowReplicatorModel" "commits" "I", .fieldLink RX5 20 "RowReplicatorModel" "changes" "[I", .fieldLink RX5 13 "RowReplicatorModel" "kept" "[I", .fieldLink RX5 7 "RowReplicatorModel" "row" "[I", .methodLink RX5 94 yX5_fails, .instanceMethod yX5_fails, .selects RX5 yX5_fails yX5_fails, .initialized RX5, .code yX5_fails cX5_fails 2 (some .boolean), .fieldLink RX5 65 "RowReplicatorModel" "thrown" "I", .methodLink RX5 101 yX5_cuts, .instanceMethod yX5_cuts, .selects RX5 yX5_cuts yX5_cuts, .code yX5_cuts cX5_cuts 3 (some .int), .fieldLink RX5 47 "RowReplicatorModel" "state" "[I", .fieldLink RX5 50 "RowReplicatorModel" "slot" "[I", .fieldLink RX5 16 "RowReplicatorModel" "limit" "I", .methodLink RX5 68 yX5_isIn, .static yX5_isIn, .code yX5_isIn cX5_isIn 3 (some .boolean)] ++ wsX50)
def wsX5_rollBack : List Cond := .code yX5_rollBack cX5_rollBack 3 (some .int) :: ([.fieldLink RX5 65 "RowReplicatorModel" "thrown" "I", .fieldLink RX5 20 "RowReplicatorModel" "changes" "[I", .fieldLink RX5 76 "RowReplicatorModel" "commits" "I", .fieldLink RX5 7 "RowReplicatorModel" "row" "[I", .fieldLink RX5 13 "RowReplicatorModel" "kept" "[I"] ++ wsX50)
def wsX5_numberOf : List Cond := .code yX5_numberOf cX5_numberOf 2 (some .int) :: ([])
def wsX5_at : List Cond := .code yX5_at cX5_at 4 (some .int) :: ([.fieldLink RX5 7 "RowReplicatorModel" "row" "[I", .methodLink RX5 86 yX5_isRow, .static yX5_isRow, .initialized RX5, .code yX5_isRow cX5_isRow 2 (some .boolean), .methodLink RX5 72 yX5_isTable, .static yX5_isTable, .code yX5_isTable cX5_isTable 1 (some .boolean), .methodLink RX5 68 yX5_isIn, .static yX5_isIn, .code yX5_isIn cX5_isIn 3 (some .boolean), .methodLink RX5 105 yX5_isThird, .static yX5_isThird, .code yX5_isThird cX5_isThird 1 (some .boolean), .methodLink RX5 94 yX5_fails, .instanceMethod yX5_fails, .selects RX5 yX5_fails yX5_fails, .code yX5_fails cX5_fails 2 (some .boolean), .fieldLink RX5 65 "RowReplicatorModel" "thrown" "I", .methodLink RX5 108 yX5_numberOf, .static yX5_numberOf, .code yX5_numberOf cX5_numberOf 2 (some .int)] ++ wsX50)
def wsX5_commits : List Cond := .code yX5_commits cX5_commits 1 (some .int) :: ([.fieldLink RX5 65 "RowReplicatorModel" "thrown" "I", .fieldLink RX5 76 "RowReplicatorModel" "commits" "I"] ++ wsX50)
def wsX5_setLimit : List Cond := .code yX5_setLimit cX5_setLimit 2 (some .int) :: ([.fieldLink RX5 16 "RowReplicatorModel" "limit" "I", .methodLink RX5 68 yX5_isIn, .static yX5_isIn, .initialized RX5, .code yX5_isIn cX5_isIn 3 (some .boolean), .methodLink RX5 94 yX5_fails, .instanceMethod yX5_fails, .selects RX5 yX5_fails yX5_fails, .code yX5_fails cX5_fails 2 (some .boolean), .fieldLink RX5 65 "RowReplicatorModel" "thrown" "I", .methodLink RX5 101 yX5_cuts, .instanceMethod yX5_cuts, .selects RX5 yX5_cuts yX5_cuts, .code yX5_cuts cX5_cuts 3 (some .int), .fieldLink RX5 47 "RowReplicatorModel" "state" "[I", .fieldLink RX5 76 "RowReplicatorModel" "commits" "I", .fieldLink RX5 50 "RowReplicatorModel" "slot" "[I"] ++ wsX50)
def wsX5_forgets : List Cond := .code yX5_forgets cX5_forgets 5 (some .int) :: ([.fieldLink RX5 47 "RowReplicatorModel" "state" "[I", .fieldLink RX5 44 "RowReplicatorModel" "book" "[I", .fieldLink RX5 53 "RowReplicatorModel" "copied" "[I"] ++ wsX50)
def wsX5_setCondition_r1 : List Cond := [Cond.fieldLink RX5 32 "RowReplicatorModel" "column" "[I", Cond.fieldLink RX5 35 "RowReplicatorModel" "relation" "[I", Cond.fieldLink RX5 38 "RowReplicatorModel" "number" "[I", Cond.methodLink RX5 105 yX5_isThird, Cond.static yX5_isThird, Cond.initialized RX5, Cond.code yX5_isThird cX5_isThird 1 (some .boolean), Cond.methodLink RX5 68 yX5_isIn, Cond.static yX5_isIn, Cond.code yX5_isIn cX5_isIn 3 (some .boolean), Cond.methodLink RX5 72 yX5_isTable, Cond.static yX5_isTable, Cond.code yX5_isTable cX5_isTable 1 (some .boolean), Cond.methodLink RX5 83 yX5_isNumber, Cond.static yX5_isNumber, Cond.code yX5_isNumber cX5_isNumber 1 (some .boolean), Cond.methodLink RX5 94 yX5_fails, Cond.instanceMethod yX5_fails, Cond.selects RX5 yX5_fails yX5_fails, Cond.code yX5_fails cX5_fails 2 (some .boolean), Cond.fieldLink RX5 65 "RowReplicatorModel" "thrown" "I", Cond.methodLink RX5 112 yX5_forgets, Cond.instanceMethod yX5_forgets, Cond.selects RX5 yX5_forgets yX5_forgets]
def wsX5_setCondition_r2 : List Cond := [Cond.code yX5_forgets cX5_forgets 5 (some .int), Cond.fieldLink RX5 47 "RowReplicatorModel" "state" "[I", Cond.fieldLink RX5 44 "RowReplicatorModel" "book" "[I", Cond.fieldLink RX5 53 "RowReplicatorModel" "copied" "[I"]
def wsX5_setCondition : List Cond := .code yX5_setCondition cX5_setCondition 7 (some .int) :: ((wsX5_setCondition_r1 ++ wsX5_setCondition_r2) ++ wsX50)
def wsX5_setColumns : List Cond := .code yX5_setColumns cX5_setColumns 4 (some .int) :: ([.fieldLink RX5 41 "RowReplicatorModel" "list" "[I", .methodLink RX5 105 yX5_isThird, .static yX5_isThird, .initialized RX5, .code yX5_isThird cX5_isThird 1 (some .boolean), .methodLink RX5 68 yX5_isIn, .static yX5_isIn, .code yX5_isIn cX5_isIn 3 (some .boolean), .methodLink RX5 72 yX5_isTable, .static yX5_isTable, .code yX5_isTable cX5_isTable 1 (some .boolean), .methodLink RX5 94 yX5_fails, .instanceMethod yX5_fails, .selects RX5 yX5_fails yX5_fails, .code yX5_fails cX5_fails 2 (some .boolean), .fieldLink RX5 65 "RowReplicatorModel" "thrown" "I", .methodLink RX5 112 yX5_forgets, .instanceMethod yX5_forgets, .selects RX5 yX5_forgets yX5_forgets, .code yX5_forgets cX5_forgets 5 (some .int), .fieldLink RX5 47 "RowReplicatorModel" "state" "[I", .fieldLink RX5 44 "RowReplicatorModel" "book" "[I", .fieldLink RX5 53 "RowReplicatorModel" "copied" "[I"] ++ wsX50)
def wsX5_counts : List Cond := .code yX5_counts cX5_counts 6 (some .boolean) :: ([.fieldLink RX5 32 "RowReplicatorModel" "column" "[I", .fieldLink RX5 35 "RowReplicatorModel" "relation" "[I", .fieldLink RX5 38 "RowReplicatorModel" "number" "[I", .methodLink RX5 108 yX5_numberOf, .static yX5_numberOf, .initialized RX5, .code yX5_numberOf cX5_numberOf 2 (some .int)] ++ wsX50)
def wsX5_chosen : List Cond := .code yX5_chosen cX5_chosen 7 (some .int) :: ([.fieldLink RX5 41 "RowReplicatorModel" "list" "[I", .methodLink RX5 108 yX5_numberOf, .static yX5_numberOf, .initialized RX5, .code yX5_numberOf cX5_numberOf 2 (some .int)] ++ wsX50)
def wsX5_subscribe : List Cond := .code yX5_subscribe cX5_subscribe 5 (some .int) :: ([.fieldLink RX5 47 "RowReplicatorModel" "state" "[I", .fieldLink RX5 44 "RowReplicatorModel" "book" "[I", .fieldLink RX5 50 "RowReplicatorModel" "slot" "[I", .fieldLink RX5 76 "RowReplicatorModel" "commits" "I", .fieldLink RX5 53 "RowReplicatorModel" "copied" "[I", .methodLink RX5 105 yX5_isThird, .static yX5_isThird, .initialized RX5, .code yX5_isThird cX5_isThird 1 (some .boolean), .methodLink RX5 68 yX5_isIn, .static yX5_isIn, .code yX5_isIn cX5_isIn 3 (some .boolean), .methodLink RX5 94 yX5_fails, .instanceMethod yX5_fails, .selects RX5 yX5_fails yX5_fails, .code yX5_fails cX5_fails 2 (some .boolean), .fieldLink RX5 65 "RowReplicatorModel" "thrown" "I"] ++ wsX50)
def wsX5_drop : List Cond := .code yX5_drop cX5_drop 4 (some .int) :: ([.fieldLink RX5 47 "RowReplicatorModel" "state" "[I", .fieldLink RX5 53 "RowReplicatorModel" "copied" "[I", .methodLink RX5 105 yX5_isThird, .static yX5_isThird, .initialized RX5, .code yX5_isThird cX5_isThird 1 (some .boolean), .methodLink RX5 68 yX5_isIn, .static yX5_isIn, .code yX5_isIn cX5_isIn 3 (some .boolean), .methodLink RX5 94 yX5_fails, .instanceMethod yX5_fails, .selects RX5 yX5_fails yX5_fails, .code yX5_fails cX5_fails 2 (some .boolean), .fieldLink RX5 65 "RowReplicatorModel" "thrown" "I"] ++ wsX50)
def wsX5_chosenAt : List Cond := .code yX5_chosenAt cX5_chosenAt 6 (some .int) :: ([.fieldLink RX5 13 "RowReplicatorModel" "kept" "[I", .methodLink RX5 115 yX5_counts, .instanceMethod yX5_counts, .selects RX5 yX5_counts yX5_counts, .initialized RX5, .code yX5_counts cX5_counts 6 (some .boolean), .fieldLink RX5 32 "RowReplicatorModel" "column" "[I", .fieldLink RX5 35 "RowReplicatorModel" "relation" "[I", .fieldLink RX5 38 "RowReplicatorModel" "number" "[I", .methodLink RX5 108 yX5_numberOf, .static yX5_numberOf, .code yX5_numberOf cX5_numberOf 2 (some .int), .methodLink RX5 118 yX5_chosen, .instanceMethod yX5_chosen, .selects RX5 yX5_chosen yX5_chosen, .code yX5_chosen cX5_chosen 7 (some .int), .fieldLink RX5 41 "RowReplicatorModel" "list" "[I"] ++ wsX50)
def wsX5_copy_r1 : List Cond := [Cond.fieldLink RX5 47 "RowReplicatorModel" "state" "[I", Cond.fieldLink RX5 20 "RowReplicatorModel" "changes" "[I", Cond.fieldLink RX5 76 "RowReplicatorModel" "commits" "I", Cond.fieldLink RX5 56 "RowReplicatorModel" "seen" "[I", Cond.fieldLink RX5 44 "RowReplicatorModel" "book" "[I", Cond.fieldLink RX5 53 "RowReplicatorModel" "copied" "[I", Cond.methodLink RX5 105 yX5_isThird, Cond.static yX5_isThird, Cond.initialized RX5, Cond.code yX5_isThird cX5_isThird 1 (some .boolean), Cond.methodLink RX5 68 yX5_isIn, Cond.static yX5_isIn, Cond.code yX5_isIn cX5_isIn 3 (some .boolean), Cond.methodLink RX5 72 yX5_isTable, Cond.static yX5_isTable, Cond.code yX5_isTable cX5_isTable 1 (some .boolean), Cond.methodLink RX5 94 yX5_fails, Cond.instanceMethod yX5_fails, Cond.selects RX5 yX5_fails yX5_fails, Cond.code yX5_fails cX5_fails 2 (some .boolean), Cond.fieldLink RX5 65 "RowReplicatorModel" "thrown" "I", Cond.methodLink RX5 122 yX5_chosenAt, Cond.instanceMethod yX5_chosenAt, Cond.selects RX5 yX5_chosenAt yX5_chosenAt]
def wsX5_copy_r2 : List Cond := [Cond.code yX5_chosenAt cX5_chosenAt 6 (some .int), Cond.fieldLink RX5 13 "RowReplicatorModel" "kept" "[I", Cond.methodLink RX5 115 yX5_counts, Cond.instanceMethod yX5_counts, Cond.selects RX5 yX5_counts yX5_counts, Cond.code yX5_counts cX5_counts 6 (some .boolean), Cond.fieldLink RX5 32 "RowReplicatorModel" "column" "[I", Cond.fieldLink RX5 35 "RowReplicatorModel" "relation" "[I", Cond.fieldLink RX5 38 "RowReplicatorModel" "number" "[I", Cond.methodLink RX5 108 yX5_numberOf, Cond.static yX5_numberOf, Cond.code yX5_numberOf cX5_numberOf 2 (some .int), Cond.methodLink RX5 118 yX5_chosen, Cond.instanceMethod yX5_chosen, Cond.selects RX5 yX5_chosen yX5_chosen, Cond.code yX5_chosen cX5_chosen 7 (some .int), Cond.fieldLink RX5 41 "RowReplicatorModel" "list" "[I"]
def wsX5_copy : List Cond := .code yX5_copy cX5_copy 6 (some .int) :: ((wsX5_copy_r1 ++ wsX5_copy_r2) ++ wsX50)
def wsX5_applies : List Cond := .code yX5_applies cX5_applies 8 (some .boolean) :: ([.fieldLink RX5 44 "RowReplicatorModel" "book" "[I", .fieldLink RX5 59 "RowReplicatorModel" "there" "[I", .fieldLink RX5 62 "RowReplicatorModel" "here" "[I", .methodLink RX5 115 yX5_counts, .instanceMethod yX5_counts, .selects RX5 yX5_counts yX5_counts, .initialized RX5, .code yX5_counts cX5_counts 6 (some .boolean), .fieldLink RX5 32 "RowReplicatorModel" "column" "[I", .fieldLink RX5 35 "RowReplicatorModel" "relation" "[I", .fieldLink RX5 38 "RowReplicatorModel" "number" "[I", .methodLink RX5 108 yX5_numberOf, .static yX5_numberOf, .code yX5_numberOf cX5_numberOf 2 (some .int), .methodLink RX5 118 yX5_chosen, .instanceMethod yX5_chosen, .selects RX5 yX5_chosen yX5_chosen, .code yX5_chosen cX5_chosen 7 (some .int), .fieldLink RX5 41 "RowReplicatorModel" "list" "[I"] ++ wsX50)
def wsX5_tries_r1 : List Cond := [Cond.fieldLink RX5 50 "RowReplicatorModel" "slot" "[I", Cond.fieldLink RX5 59 "RowReplicatorModel" "there" "[I", Cond.fieldLink RX5 13 "RowReplicatorModel" "kept" "[I", Cond.fieldLink RX5 62 "RowReplicatorModel" "here" "[I", Cond.fieldLink RX5 56 "RowReplicatorModel" "seen" "[I", Cond.fieldLink RX5 20 "RowReplicatorModel" "changes" "[I", Cond.fieldLink RX5 23 "RowReplicatorModel" "table" "[I", Cond.fieldLink RX5 53 "RowReplicatorModel" "copied" "[I", Cond.fieldLink RX5 26 "RowReplicatorModel" "key" "[I", Cond.fieldLink RX5 29 "RowReplicatorModel" "fresh" "[I", Cond.methodLink RX5 68 yX5_isIn, Cond.static yX5_isIn, Cond.initialized RX5, Cond.code yX5_isIn cX5_isIn 3 (some .boolean), Cond.methodLink RX5 126 yX5_applies, Cond.instanceMethod yX5_applies, Cond.selects RX5 yX5_applies yX5_applies, Cond.code yX5_applies cX5_applies 8 (some .boolean), Cond.fieldLink RX5 44 "RowReplicatorModel" "book" "[I", Cond.methodLink RX5 115 yX5_counts, Cond.instanceMethod yX5_counts, Cond.selects RX5 yX5_counts yX5_counts, Cond.code yX5_counts cX5_counts 6 (some .boolean), Cond.fieldLink RX5 32 "RowReplicatorModel" "column" "[I"]
def wsX5_tries_r2 : List Cond := [Cond.fieldLink RX5 35 "RowReplicatorModel" "relation" "[I", Cond.fieldLink RX5 38 "RowReplicatorModel" "number" "[I", Cond.methodLink RX5 108 yX5_numberOf, Cond.static yX5_numberOf, Cond.code yX5_numberOf cX5_numberOf 2 (some .int), Cond.methodLink RX5 118 yX5_chosen, Cond.instanceMethod yX5_chosen, Cond.selects RX5 yX5_chosen yX5_chosen, Cond.code yX5_chosen cX5_chosen 7 (some .int), Cond.fieldLink RX5 41 "RowReplicatorModel" "list" "[I", Cond.methodLink RX5 79 yX5_goes, Cond.static yX5_goes, Cond.code yX5_goes cX5_goes 5 none]
def wsX5_tries : List Cond := .code yX5_tries cX5_tries 9 (some .boolean) :: ((wsX5_tries_r1 ++ wsX5_tries_r2) ++ wsX50)
def wsX5_receive_r1 : List Cond := [Cond.fieldLink RX5 47 "RowReplicatorModel" "state" "[I", Cond.fieldLink RX5 50 "RowReplicatorModel" "slot" "[I", Cond.fieldLink RX5 76 "RowReplicatorModel" "commits" "I", Cond.methodLink RX5 105 yX5_isThird, Cond.static yX5_isThird, Cond.initialized RX5, Cond.code yX5_isThird cX5_isThird 1 (some .boolean), Cond.methodLink RX5 68 yX5_isIn, Cond.static yX5_isIn, Cond.code yX5_isIn cX5_isIn 3 (some .boolean), Cond.methodLink RX5 94 yX5_fails, Cond.instanceMethod yX5_fails, Cond.selects RX5 yX5_fails yX5_fails, Cond.code yX5_fails cX5_fails 2 (some .boolean), Cond.fieldLink RX5 65 "RowReplicatorModel" "thrown" "I", Cond.methodLink RX5 130 yX5_tries, Cond.instanceMethod yX5_tries, Cond.selects RX5 yX5_tries yX5_tries, Cond.code yX5_tries cX5_tries 9 (some .boolean), Cond.fieldLink RX5 59 "RowReplicatorModel" "there" "[I", Cond.fieldLink RX5 13 "RowReplicatorModel" "kept" "[I", Cond.fieldLink RX5 62 "RowReplicatorModel" "here" "[I", Cond.fieldLink RX5 56 "RowReplicatorModel" "seen" "[I", Cond.fieldLink RX5 20 "RowReplicatorModel" "changes" "[I"]
def wsX5_receive_r2 : List Cond := [Cond.fieldLink RX5 23 "RowReplicatorModel" "table" "[I", Cond.fieldLink RX5 53 "RowReplicatorModel" "copied" "[I", Cond.fieldLink RX5 26 "RowReplicatorModel" "key" "[I", Cond.fieldLink RX5 29 "RowReplicatorModel" "fresh" "[I", Cond.methodLink RX5 126 yX5_applies, Cond.instanceMethod yX5_applies, Cond.selects RX5 yX5_applies yX5_applies, Cond.code yX5_applies cX5_applies 8 (some .boolean), Cond.fieldLink RX5 44 "RowReplicatorModel" "book" "[I", Cond.methodLink RX5 115 yX5_counts, Cond.instanceMethod yX5_counts, Cond.selects RX5 yX5_counts yX5_counts, Cond.code yX5_counts cX5_counts 6 (some .boolean), Cond.fieldLink RX5 32 "RowReplicatorModel" "column" "[I", Cond.fieldLink RX5 35 "RowReplicatorModel" "relation" "[I", Cond.fieldLink RX5 38 "RowReplicatorModel" "number" "[I", Cond.methodLink RX5 108 yX5_numberOf, Cond.static yX5_numberOf, Cond.code yX5_numberOf cX5_numberOf 2 (some .int), Cond.methodLink RX5 118 yX5_chosen, Cond.instanceMethod yX5_chosen, Cond.selects RX5 yX5_chosen yX5_chosen, Cond.code yX5_chosen cX5_chosen 7 (some .int), Cond.fieldLink RX5 41 "RowReplicatorModel" "list" "[I"]
def wsX5_receive_r3 : List Cond := [Cond.methodLink RX5 79 yX5_goes, Cond.static yX5_goes, Cond.code yX5_goes cX5_goes 5 none]
def wsX5_receive : List Cond := .code yX5_receive cX5_receive 4 (some .int) :: ((wsX5_receive_r1 ++ (wsX5_receive_r2 ++ wsX5_receive_r3)) ++ wsX50)
def wsX5_goOn : List Cond := .code yX5_goOn cX5_goOn 3 (some .int) :: ([.fieldLink RX5 47 "RowReplicatorModel" "state" "[I", .fieldLink RX5 50 "RowReplicatorModel" "slot" "[I", .methodLink RX5 105 yX5_isThird, .static yX5_isThird, .initialized RX5, .code yX5_isThird cX5_isThird 1 (some .boolean), .methodLink RX5 68 yX5_isIn, .static yX5_isIn, .code yX5_isIn cX5_isIn 3 (some .boolean), .methodLink RX5 94 yX5_fails, .instanceMethod yX5_fails, .selects RX5 yX5_fails yX5_fails, .code yX5_fails cX5_fails 2 (some .boolean), .fieldLink RX5 65 "RowReplicatorModel" "thrown" "I"] ++ wsX50)
def wsX5_own : List Cond := .code yX5_own cX5_own 7 (some .boolean) :: ([.fieldLink RX5 56 "RowReplicatorModel" "seen" "[I", .methodLink RX5 105 yX5_isThird, .static yX5_isThird, .initialized RX5, .code yX5_isThird cX5_isThird 1 (some .boolean), .methodLink RX5 68 yX5_isIn, .static yX5_isIn, .code yX5_isIn cX5_isIn 3 (some .boolean), .methodLink RX5 86 yX5_isRow, .static yX5_isRow, .code yX5_isRow cX5_isRow 2 (some .boolean), .methodLink RX5 72 yX5_isTable, .static yX5_isTable, .code yX5_isTable cX5_isTable 1 (some .boolean), .methodLink RX5 94 yX5_fails, .instanceMethod yX5_fails, .selects RX5 yX5_fails yX5_fails, .code yX5_fails cX5_fails 2 (some .boolean), .fieldLink RX5 65 "RowReplicatorModel" "thrown" "I"] ++ wsX50)
def wsX5_state : List Cond := .code yX5_state cX5_state 2 (some .int) :: ([.fieldLink RX5 47 "RowReplicatorModel" "state" "[I", .methodLink RX5 105 yX5_isThird, .static yX5_isThird, .initialized RX5, .code yX5_isThird cX5_isThird 1 (some .boolean), .methodLink RX5 68 yX5_isIn, .static yX5_isIn, .code yX5_isIn cX5_isIn 3 (some .boolean), .methodLink RX5 94 yX5_fails, .instanceMethod yX5_fails, .selects RX5 yX5_fails yX5_fails, .code yX5_fails cX5_fails 2 (some .boolean), .fieldLink RX5 65 "RowReplicatorModel" "thrown" "I"] ++ wsX50)
def wsX5_lag : List Cond := .code yX5_lag cX5_lag 2 (some .int) :: ([.fieldLink RX5 47 "RowReplicatorModel" "state" "[I", .fieldLink RX5 76 "RowReplicatorModel" "commits" "I", .fieldLink RX5 50 "RowReplicatorModel" "slot" "[I", .methodLink RX5 105 yX5_isThird, .static yX5_isThird, .initialized RX5, .code yX5_isThird cX5_isThird 1 (some .boolean), .methodLink RX5 68 yX5_isIn, .static yX5_isIn, .code yX5_isIn cX5_isIn 3 (some .boolean), .methodLink RX5 94 yX5_fails, .instanceMethod yX5_fails, .selects RX5 yX5_fails yX5_fails, .code yX5_fails cX5_fails 2 (some .boolean), .fieldLink RX5 65 "RowReplicatorModel" "thrown" "I"] ++ wsX50)
def wsX5_copiedAt : List Cond := .code yX5_copiedAt cX5_copiedAt 3 (some .int) :: ([.fieldLink RX5 53 "RowReplicatorModel" "copied" "[I", .methodLink RX5 105 yX5_isThird, .static yX5_isThird, .initialized RX5, .code yX5_isThird cX5_isThird 1 (some .boolean), .methodLink RX5 68 yX5_isIn, .static yX5_isIn, .code yX5_isIn cX5_isIn 3 (some .boolean), .methodLink RX5 72 yX5_isTable, .static yX5_isTable, .code yX5_isTable cX5_isTable 1 (some .boolean), .methodLink RX5 94 yX5_fails, .instanceMethod yX5_fails, .selects RX5 yX5_fails yX5_fails, .code yX5_fails cX5_fails 2 (some .boolean), .fieldLink RX5 65 "RowReplicatorModel" "thrown" "I"] ++ wsX50)
def wsX5_seen : List Cond := .code yX5_seen cX5_seen 6 (some .int) :: ([.fieldLink RX5 56 "RowReplicatorModel" "seen" "[I", .methodLink RX5 105 yX5_isThird, .static yX5_isThird, .initialized RX5, .code yX5_isThird cX5_isThird 1 (some .boolean), .methodLink RX5 68 yX5_isIn, .static yX5_isIn, .code yX5_isIn cX5_isIn 3 (some .boolean), .methodLink RX5 86 yX5_isRow, .static yX5_isRow, .code yX5_isRow cX5_isRow 2 (some .boolean), .methodLink RX5 72 yX5_isTable, .static yX5_isTable, .code yX5_isTable cX5_isTable 1 (some .boolean), .methodLink RX5 94 yX5_fails, .instanceMethod yX5_fails, .selects RX5 yX5_fails yX5_fails, .code yX5_fails cX5_fails 2 (some .boolean), .fieldLink RX5 65 "RowReplicatorModel" "thrown" "I", .methodLink RX5 108 yX5_numberOf, .static yX5_numberOf, .code yX5_numberOf cX5_numberOf 2 (some .int)] ++ wsX50)
def wsX5_isFaithful_r1 : List Cond := [Cond.fieldLink RX5 47 "RowReplicatorModel" "state" "[I", Cond.fieldLink RX5 53 "RowReplicatorModel" "copied" "[I", Cond.fieldLink RX5 50 "RowReplicatorModel" "slot" "[I", Cond.fieldLink RX5 56 "RowReplicatorModel" "seen" "[I", Cond.fieldLink RX5 44 "RowReplicatorModel" "book" "[I", Cond.methodLink RX5 105 yX5_isThird, Cond.static yX5_isThird, Cond.initialized RX5, Cond.code yX5_isThird cX5_isThird 1 (some .boolean), Cond.methodLink RX5 68 yX5_isIn, Cond.static yX5_isIn, Cond.code yX5_isIn cX5_isIn 3 (some .boolean), Cond.methodLink RX5 72 yX5_isTable, Cond.static yX5_isTable, Cond.code yX5_isTable cX5_isTable 1 (some .boolean), Cond.methodLink RX5 94 yX5_fails, Cond.instanceMethod yX5_fails, Cond.selects RX5 yX5_fails yX5_fails, Cond.code yX5_fails cX5_fails 2 (some .boolean), Cond.fieldLink RX5 65 "RowReplicatorModel" "thrown" "I", Cond.methodLink RX5 122 yX5_chosenAt, Cond.instanceMethod yX5_chosenAt, Cond.selects RX5 yX5_chosenAt yX5_chosenAt, Cond.code yX5_chosenAt cX5_chosenAt 6 (some .int)]
def wsX5_isFaithful_r2 : List Cond := [Cond.fieldLink RX5 13 "RowReplicatorModel" "kept" "[I", Cond.methodLink RX5 115 yX5_counts, Cond.instanceMethod yX5_counts, Cond.selects RX5 yX5_counts yX5_counts, Cond.code yX5_counts cX5_counts 6 (some .boolean), Cond.fieldLink RX5 32 "RowReplicatorModel" "column" "[I", Cond.fieldLink RX5 35 "RowReplicatorModel" "relation" "[I", Cond.fieldLink RX5 38 "RowReplicatorModel" "number" "[I", Cond.methodLink RX5 108 yX5_numberOf, Cond.static yX5_numberOf, Cond.code yX5_numberOf cX5_numberOf 2 (some .int), Cond.methodLink RX5 118 yX5_chosen, Cond.instanceMethod yX5_chosen, Cond.selects RX5 yX5_chosen yX5_chosen, Cond.code yX5_chosen cX5_chosen 7 (some .int), Cond.fieldLink RX5 41 "RowReplicatorModel" "list" "[I"]
def wsX5_isFaithful : List Cond := .code yX5_isFaithful cX5_isFaithful 7 (some .boolean) :: ((wsX5_isFaithful_r1 ++ wsX5_isFaithful_r2) ++ wsX50)
def wsJ9_max_7cf53 : List Cond := .code yJ9_max_7cf53 cJ9_max_7cf53 2 (some .int) :: ([])
def wsL_put_r1 : List Cond := [Cond.classLink RL 13 "java/lang/IndexOutOfBoundsException", Cond.classLink RL 15 "java/lang/IllegalArgumentException", Cond.classLink RL 17 "java/lang/IllegalStateException", Cond.methodLink RL 7 yX4_put, Cond.instanceMethod yX4_put, Cond.selects RX4 yX4_put yX4_put, Cond.initialized RX4, Cond.code yX4_put cX4_put 7 (some .boolean), Cond.fieldLink RX4 12 "RowReplicator" "publisher" "LRowReplicator$Publisher;", Cond.methodLink RX4 41 yX4_checkKey, Cond.static yX4_checkKey, Cond.code yX4_checkKey cX4_checkKey 2 none, Cond.classLink RX4 199 "java/lang/IndexOutOfBoundsException", Cond.initialized "java/lang/IndexOutOfBoundsException", Cond.methodLink RX4 75 yX4_checkTable, Cond.static yX4_checkTable, Cond.code yX4_checkTable cX4_checkTable 1 none, Cond.methodLink RX4 45 yX4_checkNumber, Cond.static yX4_checkNumber, Cond.code yX4_checkNumber cX4_checkNumber 1 none, Cond.classLink RX4 102 "java/lang/IllegalArgumentException", Cond.initialized "java/lang/IllegalArgumentException", Cond.methodLink RX4 49 yX4_checkRoomForChange, Cond.instanceMethod yX4_checkRoomForChange]
def wsL_put_r2 : List Cond := [Cond.selects RX4 yX4_checkRoomForChange yX4_checkRoomForChange, Cond.code yX4_checkRoomForChange cX4_checkRoomForChange 1 none, Cond.classLink RX4 68 "java/lang/IllegalStateException", Cond.initialized "java/lang/IllegalStateException", Cond.methodLink RX4 90 yX1_openChanges, Cond.instanceMethod yX1_openChanges, Cond.selects RX1 yX1_openChanges yX1_openChanges, Cond.initialized RX1, Cond.code yX1_openChanges cX1_openChanges 1 (some .int), Cond.fieldLink RX1 19 "RowReplicator$Publisher" "changeCounts" "[I", Cond.fieldLink RX1 15 "RowReplicator$Publisher" "commitCount" "I", Cond.methodLink RX4 56 yX4_placeOf, Cond.static yX4_placeOf, Cond.code yX4_placeOf cX4_placeOf 2 (some .int), Cond.methodLink RX4 60 yX4_rowOf, Cond.static yX4_rowOf, Cond.code yX4_rowOf cX4_rowOf 3 (some .int), Cond.methodLink RX4 64 yX1_change, Cond.instanceMethod yX1_change, Cond.selects RX1 yX1_change yX1_change, Cond.code yX1_change cX1_change 8 none, Cond.fieldLink RX1 22 "RowReplicator$Publisher" "changedTables" "[I", Cond.fieldLink RX1 25 "RowReplicator$Publisher" "changedKeys" "[I", Cond.fieldLink RX1 28 "RowReplicator$Publisher" "newRows" "[I"]
def wsL_put_r3 : List Cond := [Cond.fieldLink RX1 9 "RowReplicator$Publisher" "rows" "[I"]
def wsL_put : List Cond := .codeWith yL_put cL_put 8 (some .int) [(0, 23, 26, 13), (0, 23, 30, 15), (0, 23, 34, 17)] :: ((wsL_put_r1 ++ (wsL_put_r2 ++ wsL_put_r3)) ++ wsX40 ++ wsX10 ++ (vx_atS RX4 203 "java/lang/IndexOutOfBoundsException" ["java/lang/RuntimeException", "java/lang/Exception"]).filter goodWord ++ (vx_atS RX4 106 "java/lang/IllegalArgumentException" ["java/lang/RuntimeException", "java/lang/Exception"]).filter goodWord ++ (vx_atS RX4 72 "java/lang/IllegalStateException" ["java/lang/RuntimeException", "java/lang/Exception"]).filter goodWord)
def wsL_take_r1 : List Cond := [Cond.classLink RL 13 "java/lang/IndexOutOfBoundsException", Cond.classLink RL 17 "java/lang/IllegalStateException", Cond.methodLink RL 19 yX4_take, Cond.instanceMethod yX4_take, Cond.selects RX4 yX4_take yX4_take, Cond.initialized RX4, Cond.code yX4_take cX4_take 3 none, Cond.classLink RX4 68 "java/lang/IllegalStateException", Cond.initialized "java/lang/IllegalStateException", Cond.fieldLink RX4 12 "RowReplicator" "publisher" "LRowReplicator$Publisher;", Cond.methodLink RX4 41 yX4_checkKey, Cond.static yX4_checkKey, Cond.code yX4_checkKey cX4_checkKey 2 none, Cond.classLink RX4 199 "java/lang/IndexOutOfBoundsException", Cond.initialized "java/lang/IndexOutOfBoundsException", Cond.methodLink RX4 75 yX4_checkTable, Cond.static yX4_checkTable, Cond.code yX4_checkTable cX4_checkTable 1 none, Cond.methodLink RX4 49 yX4_checkRoomForChange, Cond.instanceMethod yX4_checkRoomForChange, Cond.selects RX4 yX4_checkRoomForChange yX4_checkRoomForChange, Cond.code yX4_checkRoomForChange cX4_checkRoomForChange 1 none, Cond.methodLink RX4 90 yX1_openChanges, Cond.instanceMethod yX1_openChanges]
def wsL_take_r2 : List Cond := [Cond.selects RX1 yX1_openChanges yX1_openChanges, Cond.initialized RX1, Cond.code yX1_openChanges cX1_openChanges 1 (some .int), Cond.fieldLink RX1 19 "RowReplicator$Publisher" "changeCounts" "[I", Cond.fieldLink RX1 15 "RowReplicator$Publisher" "commitCount" "I", Cond.methodLink RX4 56 yX4_placeOf, Cond.static yX4_placeOf, Cond.code yX4_placeOf cX4_placeOf 2 (some .int), Cond.methodLink RX4 64 yX1_change, Cond.instanceMethod yX1_change, Cond.selects RX1 yX1_change yX1_change, Cond.code yX1_change cX1_change 8 none, Cond.fieldLink RX1 22 "RowReplicator$Publisher" "changedTables" "[I", Cond.fieldLink RX1 25 "RowReplicator$Publisher" "changedKeys" "[I", Cond.fieldLink RX1 28 "RowReplicator$Publisher" "newRows" "[I", Cond.fieldLink RX1 9 "RowReplicator$Publisher" "rows" "[I"]
def wsL_take : List Cond := .codeWith yL_take cL_take 4 (some .int) [(0, 6, 9, 13), (0, 6, 12, 17)] :: ((wsL_take_r1 ++ wsL_take_r2) ++ wsX40 ++ wsX10 ++ (vx_atS RX4 72 "java/lang/IllegalStateException" ["java/lang/RuntimeException", "java/lang/Exception"]).filter goodWord ++ (vx_atS RX4 203 "java/lang/IndexOutOfBoundsException" ["java/lang/RuntimeException", "java/lang/Exception"]).filter goodWord)
def wsL_truncate_r1 : List Cond := [Cond.classLink RL 13 "java/lang/IndexOutOfBoundsException", Cond.classLink RL 17 "java/lang/IllegalStateException", Cond.methodLink RL 23 yX4_truncate, Cond.instanceMethod yX4_truncate, Cond.selects RX4 yX4_truncate yX4_truncate, Cond.initialized RX4, Cond.code yX4_truncate cX4_truncate 4 (some .int), Cond.fieldLink RX4 12 "RowReplicator" "publisher" "LRowReplicator$Publisher;", Cond.methodLink RX4 75 yX4_checkTable, Cond.static yX4_checkTable, Cond.code yX4_checkTable cX4_checkTable 1 none, Cond.classLink RX4 199 "java/lang/IndexOutOfBoundsException", Cond.initialized "java/lang/IndexOutOfBoundsException", Cond.methodLink RX4 49 yX4_checkRoomForChange, Cond.instanceMethod yX4_checkRoomForChange, Cond.selects RX4 yX4_checkRoomForChange yX4_checkRoomForChange, Cond.code yX4_checkRoomForChange cX4_checkRoomForChange 1 none, Cond.classLink RX4 68 "java/lang/IllegalStateException", Cond.initialized "java/lang/IllegalStateException", Cond.methodLink RX4 90 yX1_openChanges, Cond.instanceMethod yX1_openChanges, Cond.selects RX1 yX1_openChanges yX1_openChanges, Cond.initialized RX1, Cond.code yX1_openChanges cX1_openChanges 1 (some .int)]
def wsL_truncate_r2 : List Cond := [Cond.fieldLink RX1 19 "RowReplicator$Publisher" "changeCounts" "[I", Cond.fieldLink RX1 15 "RowReplicator$Publisher" "commitCount" "I", Cond.methodLink RX4 56 yX4_placeOf, Cond.static yX4_placeOf, Cond.code yX4_placeOf cX4_placeOf 2 (some .int), Cond.methodLink RX4 64 yX1_change, Cond.instanceMethod yX1_change, Cond.selects RX1 yX1_change yX1_change, Cond.code yX1_change cX1_change 8 none, Cond.fieldLink RX1 22 "RowReplicator$Publisher" "changedTables" "[I", Cond.fieldLink RX1 25 "RowReplicator$Publisher" "changedKeys" "[I", Cond.fieldLink RX1 28 "RowReplicator$Publisher" "newRows" "[I", Cond.fieldLink RX1 9 "RowReplicator$Publisher" "rows" "[I"]
def wsL_truncate : List Cond := .codeWith yL_truncate cL_truncate 4 (some .int) [(0, 9, 12, 13), (0, 9, 15, 17)] :: ((wsL_truncate_r1 ++ wsL_truncate_r2) ++ wsX40 ++ wsX10 ++ (vx_atS RX4 203 "java/lang/IndexOutOfBoundsException" ["java/lang/RuntimeException", "java/lang/Exception"]).filter goodWord ++ (vx_atS RX4 72 "java/lang/IllegalStateException" ["java/lang/RuntimeException", "java/lang/Exception"]).filter goodWord)
def wsL_commit_r1 : List Cond := [Cond.classLink RL 17 "java/lang/IllegalStateException", Cond.methodLink RL 27 yX4_commit, Cond.instanceMethod yX4_commit, Cond.selects RX4 yX4_commit yX4_commit, Cond.initialized RX4, Cond.code yX4_commit cX4_commit 1 (some .int), Cond.classLink RX4 68 "java/lang/IllegalStateException", Cond.initialized "java/lang/IllegalStateException", Cond.fieldLink RX4 12 "RowReplicator" "publisher" "LRowReplicator$Publisher;", Cond.methodLink RX4 83 yX1_close, Cond.instanceMethod yX1_close, Cond.selects RX1 yX1_close yX1_close, Cond.initialized RX1, Cond.code yX1_close cX1_close 1 none, Cond.fieldLink RX1 15 "RowReplicator$Publisher" "commitCount" "I", Cond.fieldLink RX1 9 "RowReplicator$Publisher" "rows" "[I", Cond.fieldLink RX1 31 "RowReplicator$Publisher" "committedRows" "[I", Cond.methodLink RX1 38 arraycopyName, Cond.native arraycopyName, Cond.static arraycopyName, Cond.initialized "java/lang/System", Cond.methodLink RX4 86 yX4_cutLaggards, Cond.instanceMethod yX4_cutLaggards, Cond.selects RX4 yX4_cutLaggards yX4_cutLaggards]
def wsL_commit_r2 : List Cond := [Cond.code yX4_cutLaggards cX4_cutLaggards 3 (some .int), Cond.fieldLink RX4 24 "RowReplicator" "subscribers" "[LRowReplicator$Subscriber;", Cond.fieldLink RX4 35 "RowReplicator" "limit" "I", Cond.methodLink RX4 178 yX2_commitsBehind, Cond.instanceMethod yX2_commitsBehind, Cond.selects RX2 yX2_commitsBehind yX2_commitsBehind, Cond.initialized RX2, Cond.code yX2_commitsBehind cX2_commitsBehind 2 (some .int), Cond.fieldLink RX2 26 "RowReplicator$Subscriber" "slot" "I", Cond.methodLink RX2 32 yX2_holdsLog, Cond.instanceMethod yX2_holdsLog, Cond.selects RX2 yX2_holdsLog yX2_holdsLog, Cond.code yX2_holdsLog cX2_holdsLog 1 (some .boolean), Cond.fieldLink RX2 22 "RowReplicator$Subscriber" "state" "I"]
def wsL_commit : List Cond := .codeWith yL_commit cL_commit 3 (some .int) [(0, 8, 11, 17)] :: ((wsL_commit_r1 ++ wsL_commit_r2) ++ wsX40 ++ wsX10 ++ wsX20 ++ (vx_atS RX4 72 "java/lang/IllegalStateException" ["java/lang/RuntimeException", "java/lang/Exception"]).filter goodWord)
def wsL_at : List Cond := .codeWith yL_at cL_at 6 (some .int) [(0, 12, 15, 13)] :: ([.classLink RL 13 "java/lang/IndexOutOfBoundsException", .methodLink RL 31 yX4_at, .instanceMethod yX4_at, .selects RX4 yX4_at yX4_at, .initialized RX4, .code yX4_at cX4_at 4 (some .int), .fieldLink RX4 12 "RowReplicator" "publisher" "LRowReplicator$Publisher;", .methodLink RX4 41 yX4_checkKey, .static yX4_checkKey, .code yX4_checkKey cX4_checkKey 2 none, .classLink RX4 199 "java/lang/IndexOutOfBoundsException", .initialized "java/lang/IndexOutOfBoundsException", .methodLink RX4 75 yX4_checkTable, .static yX4_checkTable, .code yX4_checkTable cX4_checkTable 1 none, .methodLink RX4 96 yX4_checkColumn, .static yX4_checkColumn, .code yX4_checkColumn cX4_checkColumn 1 none, .methodLink RX4 56 yX4_placeOf, .static yX4_placeOf, .code yX4_placeOf cX4_placeOf 2 (some .int), .methodLink RX4 99 yX4_numberIn, .static yX4_numberIn, .code yX4_numberIn cX4_numberIn 2 (some .int)] ++ wsX40 ++ wsX10 ++ (vx_atS RX4 203 "java/lang/IndexOutOfBoundsException" ["java/lang/RuntimeException", "java/lang/Exception"]).filter goodWord)
def wsL_setLimit_r1 : List Cond := [Cond.classLink RL 15 "java/lang/IllegalArgumentException", Cond.methodLink RL 35 yX4_setLimit, Cond.instanceMethod yX4_setLimit, Cond.selects RX4 yX4_setLimit yX4_setLimit, Cond.initialized RX4, Cond.code yX4_setLimit cX4_setLimit 2 (some .int), Cond.classLink RX4 102 "java/lang/IllegalArgumentException", Cond.initialized "java/lang/IllegalArgumentException", Cond.fieldLink RX4 35 "RowReplicator" "limit" "I", Cond.methodLink RX4 86 yX4_cutLaggards, Cond.instanceMethod yX4_cutLaggards, Cond.selects RX4 yX4_cutLaggards yX4_cutLaggards, Cond.code yX4_cutLaggards cX4_cutLaggards 3 (some .int), Cond.fieldLink RX4 24 "RowReplicator" "subscribers" "[LRowReplicator$Subscriber;", Cond.fieldLink RX4 12 "RowReplicator" "publisher" "LRowReplicator$Publisher;", Cond.methodLink RX4 178 yX2_commitsBehind, Cond.instanceMethod yX2_commitsBehind, Cond.selects RX2 yX2_commitsBehind yX2_commitsBehind, Cond.initialized RX2, Cond.code yX2_commitsBehind cX2_commitsBehind 2 (some .int), Cond.fieldLink RX2 26 "RowReplicator$Subscriber" "slot" "I", Cond.methodLink RX2 32 yX2_holdsLog, Cond.instanceMethod yX2_holdsLog, Cond.selects RX2 yX2_holdsLog yX2_holdsLog]
def wsL_setLimit_r2 : List Cond := [Cond.code yX2_holdsLog cX2_holdsLog 1 (some .boolean), Cond.fieldLink RX2 22 "RowReplicator$Subscriber" "state" "I"]
def wsL_setLimit : List Cond := .codeWith yL_setLimit cL_setLimit 4 (some .int) [(0, 9, 12, 15)] :: ((wsL_setLimit_r1 ++ wsL_setLimit_r2) ++ wsX40 ++ wsX10 ++ wsX20 ++ (vx_atS RX4 106 "java/lang/IllegalArgumentException" ["java/lang/RuntimeException", "java/lang/Exception"]).filter goodWord)
def wsL_setCondition_r1 : List Cond := [Cond.classLink RL 13 "java/lang/IndexOutOfBoundsException", Cond.classLink RL 15 "java/lang/IllegalArgumentException", Cond.methodLink RL 38 yX4_setCondition, Cond.instanceMethod yX4_setCondition, Cond.selects RX4 yX4_setCondition yX4_setCondition, Cond.initialized RX4, Cond.code yX4_setCondition cX4_setCondition 7 (some .int), Cond.classLink RX4 102 "java/lang/IllegalArgumentException", Cond.initialized "java/lang/IllegalArgumentException", Cond.fieldLink RX4 18 "RowReplicator" "publications" "[LRowReplicator$Publication;", Cond.methodLink RX4 107 yX4_checkPublication, Cond.static yX4_checkPublication, Cond.code yX4_checkPublication cX4_checkPublication 1 none, Cond.classLink RX4 199 "java/lang/IndexOutOfBoundsException", Cond.initialized "java/lang/IndexOutOfBoundsException", Cond.methodLink RX4 75 yX4_checkTable, Cond.static yX4_checkTable, Cond.code yX4_checkTable cX4_checkTable 1 none, Cond.methodLink RX4 96 yX4_checkColumn, Cond.static yX4_checkColumn, Cond.code yX4_checkColumn cX4_checkColumn 1 none, Cond.methodLink RX4 45 yX4_checkNumber, Cond.static yX4_checkNumber, Cond.code yX4_checkNumber cX4_checkNumber 1 none]
def wsL_setCondition_r2 : List Cond := [Cond.methodLink RX4 121 yX4_forgetCopies, Cond.instanceMethod yX4_forgetCopies, Cond.selects RX4 yX4_forgetCopies yX4_forgetCopies, Cond.code yX4_forgetCopies cX4_forgetCopies 6 (some .int), Cond.fieldLink RX4 24 "RowReplicator" "subscribers" "[LRowReplicator$Subscriber;"]
def wsL_setCondition : List Cond := .codeWith yL_setCondition cL_setCondition 8 (some .int) [(0, 16, 19, 13), (0, 16, 23, 15)] :: ((wsL_setCondition_r1 ++ wsL_setCondition_r2) ++ wsX40 ++ wsX00 ++ wsX20 ++ (vx_atS RX4 106 "java/lang/IllegalArgumentException" ["java/lang/RuntimeException", "java/lang/Exception"]).filter goodWord ++ (vx_atS RX4 203 "java/lang/IndexOutOfBoundsException" ["java/lang/RuntimeException", "java/lang/Exception"]).filter goodWord)
def wsL_setColumns_r1 : List Cond := [Cond.classLink RL 13 "java/lang/IndexOutOfBoundsException", Cond.classLink RL 15 "java/lang/IllegalArgumentException", Cond.methodLink RL 42 yX4_setColumns, Cond.instanceMethod yX4_setColumns, Cond.selects RX4 yX4_setColumns yX4_setColumns, Cond.initialized RX4, Cond.code yX4_setColumns cX4_setColumns 5 (some .int), Cond.classLink RX4 102 "java/lang/IllegalArgumentException", Cond.initialized "java/lang/IllegalArgumentException", Cond.fieldLink RX4 18 "RowReplicator" "publications" "[LRowReplicator$Publication;", Cond.methodLink RX4 107 yX4_checkPublication, Cond.static yX4_checkPublication, Cond.code yX4_checkPublication cX4_checkPublication 1 none, Cond.classLink RX4 199 "java/lang/IndexOutOfBoundsException", Cond.initialized "java/lang/IndexOutOfBoundsException", Cond.methodLink RX4 75 yX4_checkTable, Cond.static yX4_checkTable, Cond.code yX4_checkTable cX4_checkTable 1 none, Cond.methodLink RX4 130 yX4_maskOf, Cond.static yX4_maskOf, Cond.code yX4_maskOf cX4_maskOf 3 (some .int), Cond.methodLink RX4 121 yX4_forgetCopies, Cond.instanceMethod yX4_forgetCopies, Cond.selects RX4 yX4_forgetCopies yX4_forgetCopies]
def wsL_setColumns_r2 : List Cond := [Cond.code yX4_forgetCopies cX4_forgetCopies 6 (some .int), Cond.fieldLink RX4 24 "RowReplicator" "subscribers" "[LRowReplicator$Subscriber;"]
def wsL_setColumns : List Cond := .codeWith yL_setColumns cL_setColumns 6 (some .int) [(0, 12, 15, 13), (0, 12, 19, 15)] :: ((wsL_setColumns_r1 ++ wsL_setColumns_r2) ++ wsX40 ++ wsX00 ++ wsX20 ++ (vx_atS RX4 106 "java/lang/IllegalArgumentException" ["java/lang/RuntimeException", "java/lang/Exception"]).filter goodWord ++ (vx_atS RX4 203 "java/lang/IndexOutOfBoundsException" ["java/lang/RuntimeException", "java/lang/Exception"]).filter goodWord)
def wsL_subscribe_r1 : List Cond := [Cond.classLink RL 13 "java/lang/IndexOutOfBoundsException", Cond.methodLink RL 45 yX4_subscribe, Cond.instanceMethod yX4_subscribe, Cond.selects RX4 yX4_subscribe yX4_subscribe, Cond.initialized RX4, Cond.code yX4_subscribe cX4_subscribe 5 (some .int), Cond.fieldLink RX4 24 "RowReplicator" "subscribers" "[LRowReplicator$Subscriber;", Cond.fieldLink RX4 18 "RowReplicator" "publications" "[LRowReplicator$Publication;", Cond.fieldLink RX4 12 "RowReplicator" "publisher" "LRowReplicator$Publisher;", Cond.methodLink RX4 134 yX4_checkSubscriber, Cond.static yX4_checkSubscriber, Cond.code yX4_checkSubscriber cX4_checkSubscriber 1 none, Cond.classLink RX4 199 "java/lang/IndexOutOfBoundsException", Cond.initialized "java/lang/IndexOutOfBoundsException", Cond.methodLink RX4 107 yX4_checkPublication, Cond.static yX4_checkPublication, Cond.code yX4_checkPublication cX4_checkPublication 1 none, Cond.methodLink RX4 140 yX2_follow, Cond.instanceMethod yX2_follow, Cond.selects RX2 yX2_follow yX2_follow, Cond.initialized RX2, Cond.code yX2_follow cX2_follow 3 none, Cond.fieldLink RX2 18 "RowReplicator$Subscriber" "publication" "LRowReplicator$Publication;", Cond.fieldLink RX2 22 "RowReplicator$Subscriber" "state" "I"]
def wsL_subscribe_r2 : List Cond := [Cond.fieldLink RX2 26 "RowReplicator$Subscriber" "slot" "I", Cond.methodLink RX2 29 yX2_forgetTables, Cond.instanceMethod yX2_forgetTables, Cond.selects RX2 yX2_forgetTables yX2_forgetTables, Cond.code yX2_forgetTables cX2_forgetTables 2 none, Cond.fieldLink RX2 15 "RowReplicator$Subscriber" "copies" "[I"]
def wsL_subscribe : List Cond := .codeWith yL_subscribe cL_subscribe 5 (some .int) [(0, 10, 13, 13)] :: ((wsL_subscribe_r1 ++ wsL_subscribe_r2) ++ wsX40 ++ wsX20 ++ wsX10 ++ (vx_atS RX4 203 "java/lang/IndexOutOfBoundsException" ["java/lang/RuntimeException", "java/lang/Exception"]).filter goodWord)
def wsL_drop : List Cond := .codeWith yL_drop cL_drop 4 (some .int) [(0, 9, 12, 13)] :: ([.classLink RL 13 "java/lang/IndexOutOfBoundsException", .methodLink RL 49 yX4_drop, .instanceMethod yX4_drop, .selects RX4 yX4_drop yX4_drop, .initialized RX4, .code yX4_drop cX4_drop 4 (some .int), .fieldLink RX4 24 "RowReplicator" "subscribers" "[LRowReplicator$Subscriber;", .methodLink RX4 134 yX4_checkSubscriber, .static yX4_checkSubscriber, .code yX4_checkSubscriber cX4_checkSubscriber 1 none, .classLink RX4 199 "java/lang/IndexOutOfBoundsException", .initialized "java/lang/IndexOutOfBoundsException", .methodLink RX4 144 yX2_leave, .instanceMethod yX2_leave, .selects RX2 yX2_leave yX2_leave, .initialized RX2, .code yX2_leave cX2_leave 1 none, .fieldLink RX2 18 "RowReplicator$Subscriber" "publication" "LRowReplicator$Publication;", .fieldLink RX2 22 "RowReplicator$Subscriber" "state" "I", .methodLink RX2 29 yX2_forgetTables, .instanceMethod yX2_forgetTables, .selects RX2 yX2_forgetTables yX2_forgetTables, .code yX2_forgetTables cX2_forgetTables 2 none, .fieldLink RX2 15 "RowReplicator$Subscriber" "copies" "[I"] ++ wsX40 ++ wsX20 ++ (vx_atS RX4 203 "java/lang/IndexOutOfBoundsException" ["java/lang/RuntimeException", "java/lang/Exception"]).filter goodWord)
def wsL_copy_r1 : List Cond := [Cond.classLink RL 13 "java/lang/IndexOutOfBoundsException", Cond.classLink RL 17 "java/lang/IllegalStateException", Cond.methodLink RL 52 yX4_copy, Cond.instanceMethod yX4_copy, Cond.selects RX4 yX4_copy yX4_copy, Cond.initialized RX4, Cond.code yX4_copy cX4_copy 9 (some .int), Cond.classLink RX4 68 "java/lang/IllegalStateException", Cond.initialized "java/lang/IllegalStateException", Cond.fieldLink RX4 24 "RowReplicator" "subscribers" "[LRowReplicator$Subscriber;", Cond.fieldLink RX4 12 "RowReplicator" "publisher" "LRowReplicator$Publisher;", Cond.methodLink RX4 134 yX4_checkSubscriber, Cond.static yX4_checkSubscriber, Cond.code yX4_checkSubscriber cX4_checkSubscriber 1 none, Cond.classLink RX4 199 "java/lang/IndexOutOfBoundsException", Cond.initialized "java/lang/IndexOutOfBoundsException", Cond.methodLink RX4 75 yX4_checkTable, Cond.static yX4_checkTable, Cond.code yX4_checkTable cX4_checkTable 1 none, Cond.methodLink RX4 90 yX1_openChanges, Cond.instanceMethod yX1_openChanges, Cond.selects RX1 yX1_openChanges yX1_openChanges, Cond.initialized RX1, Cond.code yX1_openChanges cX1_openChanges 1 (some .int)]
def wsL_copy_r2 : List Cond := [Cond.fieldLink RX1 19 "RowReplicator$Publisher" "changeCounts" "[I", Cond.fieldLink RX1 15 "RowReplicator$Publisher" "commitCount" "I", Cond.methodLink RX4 56 yX4_placeOf, Cond.static yX4_placeOf, Cond.code yX4_placeOf cX4_placeOf 2 (some .int), Cond.methodLink RX4 155 yX0_choose, Cond.instanceMethod yX0_choose, Cond.selects RX0 yX0_choose yX0_choose, Cond.initialized RX0, Cond.code yX0_choose cX0_choose 3 (some .int), Cond.fieldLink RX0 9 "RowReplicator$Publication" "columns" "[I", Cond.fieldLink RX0 21 "RowReplicator$Publication" "masks" "[I", Cond.static yX4_numberIn, Cond.code yX4_numberIn cX4_numberIn 2 (some .int), Cond.methodLink RX0 29 yX0_lets, Cond.instanceMethod yX0_lets, Cond.selects RX0 yX0_lets yX0_lets, Cond.code yX0_lets cX0_lets 3 (some .boolean), Cond.fieldLink RX0 15 "RowReplicator$Publication" "relations" "[I", Cond.fieldLink RX0 18 "RowReplicator$Publication" "numbers" "[I"]
def wsL_copy : List Cond := .codeWith yL_copy cL_copy 5 (some .int) [(0, 10, 13, 13), (0, 10, 17, 17)] :: ((wsL_copy_r1 ++ wsL_copy_r2) ++ wsX40 ++ wsX20 ++ wsX10 ++ wsX00 ++ (vx_atS RX4 72 "java/lang/IllegalStateException" ["java/lang/RuntimeException", "java/lang/Exception"]).filter goodWord ++ (vx_atS RX4 203 "java/lang/IndexOutOfBoundsException" ["java/lang/RuntimeException", "java/lang/Exception"]).filter goodWord)
def wsL_receive_r1 : List Cond := [Cond.classLink RL 13 "java/lang/IndexOutOfBoundsException", Cond.classLink RL 15 "java/lang/IllegalArgumentException", Cond.classLink RL 17 "java/lang/IllegalStateException", Cond.methodLink RL 55 yX4_receive, Cond.instanceMethod yX4_receive, Cond.selects RX4 yX4_receive yX4_receive, Cond.initialized RX4, Cond.code yX4_receive cX4_receive 6 (some .int), Cond.classLink RX4 102 "java/lang/IllegalArgumentException", Cond.initialized "java/lang/IllegalArgumentException", Cond.classLink RX4 68 "java/lang/IllegalStateException", Cond.initialized "java/lang/IllegalStateException", Cond.fieldLink RX4 24 "RowReplicator" "subscribers" "[LRowReplicator$Subscriber;", Cond.fieldLink RX4 12 "RowReplicator" "publisher" "LRowReplicator$Publisher;", Cond.fieldLink RX4 31 "RowReplicator" "trial" "LRowReplicator$Trial;", Cond.methodLink RX4 134 yX4_checkSubscriber, Cond.static yX4_checkSubscriber, Cond.code yX4_checkSubscriber cX4_checkSubscriber 1 none, Cond.classLink RX4 199 "java/lang/IndexOutOfBoundsException", Cond.initialized "java/lang/IndexOutOfBoundsException", Cond.methodLink RX4 167 yX3_applies, Cond.instanceMethod yX3_applies, Cond.selects RX3 yX3_applies yX3_applies, Cond.initialized RX3]
def wsL_receive_r2 : List Cond := [Cond.code yX3_applies cX3_applies 9 (some .boolean), Cond.fieldLink RX3 9 "RowReplicator$Trial" "oldRows" "[I", Cond.methodLink RX3 29 arraycopyName, Cond.native arraycopyName, Cond.static arraycopyName, Cond.initialized "java/lang/System", Cond.fieldLink RX3 15 "RowReplicator$Trial" "rows" "[I", Cond.methodLink RX3 45 yX2_takesChangesOf, Cond.instanceMethod yX2_takesChangesOf, Cond.selects RX2 yX2_takesChangesOf yX2_takesChangesOf, Cond.initialized RX2, Cond.code yX2_takesChangesOf cX2_takesChangesOf 3 (some .boolean), Cond.fieldLink RX2 15 "RowReplicator$Subscriber" "copies" "[I", Cond.methodLink RX3 49 yX3_takeAll, Cond.instanceMethod yX3_takeAll, Cond.selects RX3 yX3_takeAll yX3_takeAll, Cond.code yX3_takeAll cX3_takeAll 4 none, Cond.methodLink RX3 56 yX3_follows, Cond.instanceMethod yX3_follows, Cond.selects RX3 yX3_follows yX3_follows, Cond.code yX3_follows cX3_follows 9 (some .boolean), Cond.static yX4_placeOf, Cond.code yX4_placeOf cX4_placeOf 2 (some .int), Cond.methodLink RX3 64 yX0_choose]
def wsL_receive_r3 : List Cond := [Cond.instanceMethod yX0_choose, Cond.selects RX0 yX0_choose yX0_choose, Cond.initialized RX0, Cond.code yX0_choose cX0_choose 3 (some .int), Cond.fieldLink RX0 9 "RowReplicator$Publication" "columns" "[I", Cond.fieldLink RX0 21 "RowReplicator$Publication" "masks" "[I", Cond.static yX4_numberIn, Cond.code yX4_numberIn cX4_numberIn 2 (some .int), Cond.methodLink RX0 29 yX0_lets, Cond.instanceMethod yX0_lets, Cond.selects RX0 yX0_lets yX0_lets, Cond.code yX0_lets cX0_lets 3 (some .boolean), Cond.fieldLink RX0 15 "RowReplicator$Publication" "relations" "[I", Cond.fieldLink RX0 18 "RowReplicator$Publication" "numbers" "[I", Cond.methodLink RX4 172 yX2_accept, Cond.instanceMethod yX2_accept, Cond.selects RX2 yX2_accept yX2_accept, Cond.code yX2_accept cX2_accept 2 none, Cond.fieldLink RX2 9 "RowReplicator$Subscriber" "rows" "[I", Cond.methodLink RX2 36 arraycopyName, Cond.fieldLink RX2 26 "RowReplicator$Subscriber" "slot" "I"]
def wsL_receive : List Cond := .codeWith yL_receive cL_receive 5 (some .int) [(0, 10, 13, 13), (0, 10, 17, 15), (0, 10, 21, 17)] :: ((wsL_receive_r1 ++ (wsL_receive_r2 ++ wsL_receive_r3)) ++ wsX40 ++ wsX20 ++ wsX10 ++ wsX30 ++ wsX00 ++ (vx_atS RX4 106 "java/lang/IllegalArgumentException" ["java/lang/RuntimeException", "java/lang/Exception"]).filter goodWord ++ (vx_atS RX4 72 "java/lang/IllegalStateException" ["java/lang/RuntimeException", "java/lang/Exception"]).filter goodWord ++ (vx_atS RX4 203 "java/lang/IndexOutOfBoundsException" ["java/lang/RuntimeException", "java/lang/Exception"]).filter goodWord)
def wsL_goOn : List Cond := .codeWith yL_goOn cL_goOn 5 (some .int) [(0, 10, 13, 13), (0, 10, 17, 17)] :: ([.classLink RL 13 "java/lang/IndexOutOfBoundsException", .classLink RL 17 "java/lang/IllegalStateException", .methodLink RL 58 yX4_goOn, .instanceMethod yX4_goOn, .selects RX4 yX4_goOn yX4_goOn, .initialized RX4, .code yX4_goOn cX4_goOn 4 (some .int), .classLink RX4 68 "java/lang/IllegalStateException", .initialized "java/lang/IllegalStateException", .fieldLink RX4 24 "RowReplicator" "subscribers" "[LRowReplicator$Subscriber;", .methodLink RX4 134 yX4_checkSubscriber, .static yX4_checkSubscriber, .code yX4_checkSubscriber cX4_checkSubscriber 1 none, .classLink RX4 199 "java/lang/IndexOutOfBoundsException", .initialized "java/lang/IndexOutOfBoundsException"] ++ wsX40 ++ wsX20 ++ (vx_atS RX4 72 "java/lang/IllegalStateException" ["java/lang/RuntimeException", "java/lang/Exception"]).filter goodWord ++ (vx_atS RX4 203 "java/lang/IndexOutOfBoundsException" ["java/lang/RuntimeException", "java/lang/Exception"]).filter goodWord)
def wsL_own_r1 : List Cond := [Cond.classLink RL 13 "java/lang/IndexOutOfBoundsException", Cond.classLink RL 15 "java/lang/IllegalArgumentException", Cond.methodLink RL 62 yX4_own, Cond.instanceMethod yX4_own, Cond.selects RX4 yX4_own yX4_own, Cond.initialized RX4, Cond.code yX4_own cX4_own 8 (some .boolean), Cond.fieldLink RX4 24 "RowReplicator" "subscribers" "[LRowReplicator$Subscriber;", Cond.methodLink RX4 134 yX4_checkSubscriber, Cond.static yX4_checkSubscriber, Cond.code yX4_checkSubscriber cX4_checkSubscriber 1 none, Cond.classLink RX4 199 "java/lang/IndexOutOfBoundsException", Cond.initialized "java/lang/IndexOutOfBoundsException", Cond.methodLink RX4 41 yX4_checkKey, Cond.static yX4_checkKey, Cond.code yX4_checkKey cX4_checkKey 2 none, Cond.methodLink RX4 75 yX4_checkTable, Cond.static yX4_checkTable, Cond.code yX4_checkTable cX4_checkTable 1 none, Cond.methodLink RX4 45 yX4_checkNumber, Cond.static yX4_checkNumber, Cond.code yX4_checkNumber cX4_checkNumber 1 none, Cond.classLink RX4 102 "java/lang/IllegalArgumentException", Cond.initialized "java/lang/IllegalArgumentException"]
def wsL_own_r2 : List Cond := [Cond.methodLink RX4 56 yX4_placeOf, Cond.static yX4_placeOf, Cond.code yX4_placeOf cX4_placeOf 2 (some .int), Cond.methodLink RX4 60 yX4_rowOf, Cond.static yX4_rowOf, Cond.code yX4_rowOf cX4_rowOf 3 (some .int)]
def wsL_own : List Cond := .codeWith yL_own cL_own 7 (some .int) [(0, 21, 24, 13), (0, 21, 28, 15)] :: ((wsL_own_r1 ++ wsL_own_r2) ++ wsX40 ++ wsX20 ++ (vx_atS RX4 203 "java/lang/IndexOutOfBoundsException" ["java/lang/RuntimeException", "java/lang/Exception"]).filter goodWord ++ (vx_atS RX4 106 "java/lang/IllegalArgumentException" ["java/lang/RuntimeException", "java/lang/Exception"]).filter goodWord)
def wsL_state : List Cond := .codeWith yL_state cL_state 4 (some .int) [(0, 9, 12, 13)] :: ([.classLink RL 13 "java/lang/IndexOutOfBoundsException", .methodLink RL 66 yX4_state, .instanceMethod yX4_state, .selects RX4 yX4_state yX4_state, .initialized RX4, .code yX4_state cX4_state 2 (some .int), .fieldLink RX4 24 "RowReplicator" "subscribers" "[LRowReplicator$Subscriber;", .methodLink RX4 134 yX4_checkSubscriber, .static yX4_checkSubscriber, .code yX4_checkSubscriber cX4_checkSubscriber 1 none, .classLink RX4 199 "java/lang/IndexOutOfBoundsException", .initialized "java/lang/IndexOutOfBoundsException"] ++ wsX40 ++ wsX20 ++ (vx_atS RX4 203 "java/lang/IndexOutOfBoundsException" ["java/lang/RuntimeException", "java/lang/Exception"]).filter goodWord)
def wsL_lag : List Cond := .codeWith yL_lag cL_lag 4 (some .int) [(0, 9, 12, 13)] :: ([.classLink RL 13 "java/lang/IndexOutOfBoundsException", .methodLink RL 69 yX4_lag, .instanceMethod yX4_lag, .selects RX4 yX4_lag yX4_lag, .initialized RX4, .code yX4_lag cX4_lag 2 (some .int), .fieldLink RX4 24 "RowReplicator" "subscribers" "[LRowReplicator$Subscriber;", .fieldLink RX4 12 "RowReplicator" "publisher" "LRowReplicator$Publisher;", .methodLink RX4 134 yX4_checkSubscriber, .static yX4_checkSubscriber, .code yX4_checkSubscriber cX4_checkSubscriber 1 none, .classLink RX4 199 "java/lang/IndexOutOfBoundsException", .initialized "java/lang/IndexOutOfBoundsException", .methodLink RX4 178 yX2_commitsBehind, .instanceMethod yX2_commitsBehind, .selects RX2 yX2_commitsBehind yX2_commitsBehind, .initialized RX2, .code yX2_commitsBehind cX2_commitsBehind 2 (some .int), .fieldLink RX2 26 "RowReplicator$Subscriber" "slot" "I", .methodLink RX2 32 yX2_holdsLog, .instanceMethod yX2_holdsLog, .selects RX2 yX2_holdsLog yX2_holdsLog, .code yX2_holdsLog cX2_holdsLog 1 (some .boolean), .fieldLink RX2 22 "RowReplicator$Subscriber" "state" "I"] ++ wsX40 ++ wsX10 ++ wsX20 ++ (vx_atS RX4 203 "java/lang/IndexOutOfBoundsException" ["java/lang/RuntimeException", "java/lang/Exception"]).filter goodWord)
def wsL_copiedAt : List Cond := .codeWith yL_copiedAt cL_copiedAt 5 (some .int) [(0, 10, 13, 13)] :: ([.classLink RL 13 "java/lang/IndexOutOfBoundsException", .methodLink RL 72 yX4_copiedAt, .instanceMethod yX4_copiedAt, .selects RX4 yX4_copiedAt yX4_copiedAt, .initialized RX4, .code yX4_copiedAt cX4_copiedAt 3 (some .int), .fieldLink RX4 24 "RowReplicator" "subscribers" "[LRowReplicator$Subscriber;", .methodLink RX4 134 yX4_checkSubscriber, .static yX4_checkSubscriber, .code yX4_checkSubscriber cX4_checkSubscriber 1 none, .classLink RX4 199 "java/lang/IndexOutOfBoundsException", .initialized "java/lang/IndexOutOfBoundsException", .methodLink RX4 75 yX4_checkTable, .static yX4_checkTable, .code yX4_checkTable cX4_checkTable 1 none] ++ wsX40 ++ wsX20 ++ (vx_atS RX4 203 "java/lang/IndexOutOfBoundsException" ["java/lang/RuntimeException", "java/lang/Exception"]).filter goodWord)
def wsL_seen_r1 : List Cond := [Cond.classLink RL 13 "java/lang/IndexOutOfBoundsException", Cond.methodLink RL 75 yX4_seen, Cond.instanceMethod yX4_seen, Cond.selects RX4 yX4_seen yX4_seen, Cond.initialized RX4, Cond.code yX4_seen cX4_seen 5 (some .int), Cond.fieldLink RX4 24 "RowReplicator" "subscribers" "[LRowReplicator$Subscriber;", Cond.methodLink RX4 134 yX4_checkSubscriber, Cond.static yX4_checkSubscriber, Cond.code yX4_checkSubscriber cX4_checkSubscriber 1 none, Cond.classLink RX4 199 "java/lang/IndexOutOfBoundsException", Cond.initialized "java/lang/IndexOutOfBoundsException", Cond.methodLink RX4 41 yX4_checkKey, Cond.static yX4_checkKey, Cond.code yX4_checkKey cX4_checkKey 2 none, Cond.methodLink RX4 75 yX4_checkTable, Cond.static yX4_checkTable, Cond.code yX4_checkTable cX4_checkTable 1 none, Cond.methodLink RX4 96 yX4_checkColumn, Cond.static yX4_checkColumn, Cond.code yX4_checkColumn cX4_checkColumn 1 none, Cond.methodLink RX4 56 yX4_placeOf, Cond.static yX4_placeOf, Cond.code yX4_placeOf cX4_placeOf 2 (some .int)]
def wsL_seen_r2 : List Cond := [Cond.methodLink RX4 99 yX4_numberIn, Cond.static yX4_numberIn, Cond.code yX4_numberIn cX4_numberIn 2 (some .int)]
def wsL_seen : List Cond := .codeWith yL_seen cL_seen 7 (some .int) [(0, 14, 17, 13)] :: ((wsL_seen_r1 ++ wsL_seen_r2) ++ wsX40 ++ wsX20 ++ (vx_atS RX4 203 "java/lang/IndexOutOfBoundsException" ["java/lang/RuntimeException", "java/lang/Exception"]).filter goodWord)
def wsL_isFaithful_r1 : List Cond := [Cond.classLink RL 13 "java/lang/IndexOutOfBoundsException", Cond.classLink RL 17 "java/lang/IllegalStateException", Cond.methodLink RL 79 yX4_isFaithful, Cond.instanceMethod yX4_isFaithful, Cond.selects RX4 yX4_isFaithful yX4_isFaithful, Cond.initialized RX4, Cond.code yX4_isFaithful cX4_isFaithful 9 (some .boolean), Cond.classLink RX4 68 "java/lang/IllegalStateException", Cond.initialized "java/lang/IllegalStateException", Cond.fieldLink RX4 24 "RowReplicator" "subscribers" "[LRowReplicator$Subscriber;", Cond.methodLink RX4 189 Lib.Math.max.name, Cond.static Lib.Math.max.name, Cond.initialized "java/lang/Math", Cond.code Lib.Math.max.name Lib.Math.max.code 2 (some .int), Cond.fieldLink RX4 12 "RowReplicator" "publisher" "LRowReplicator$Publisher;", Cond.methodLink RX4 134 yX4_checkSubscriber, Cond.static yX4_checkSubscriber, Cond.code yX4_checkSubscriber cX4_checkSubscriber 1 none, Cond.classLink RX4 199 "java/lang/IndexOutOfBoundsException", Cond.initialized "java/lang/IndexOutOfBoundsException", Cond.methodLink RX4 75 yX4_checkTable, Cond.static yX4_checkTable, Cond.code yX4_checkTable cX4_checkTable 1 none, Cond.methodLink RX4 181 yX2_holdsLog]
def wsL_isFaithful_r2 : List Cond := [Cond.instanceMethod yX2_holdsLog, Cond.selects RX2 yX2_holdsLog yX2_holdsLog, Cond.initialized RX2, Cond.code yX2_holdsLog cX2_holdsLog 1 (some .boolean), Cond.fieldLink RX2 22 "RowReplicator$Subscriber" "state" "I", Cond.methodLink RX4 56 yX4_placeOf, Cond.static yX4_placeOf, Cond.code yX4_placeOf cX4_placeOf 2 (some .int), Cond.methodLink RX4 194 yX1_rowAsOf, Cond.instanceMethod yX1_rowAsOf, Cond.selects RX1 yX1_rowAsOf yX1_rowAsOf, Cond.initialized RX1, Cond.code yX1_rowAsOf cX1_rowAsOf 3 (some .int), Cond.fieldLink RX1 31 "RowReplicator$Publisher" "committedRows" "[I", Cond.methodLink RX4 155 yX0_choose, Cond.instanceMethod yX0_choose, Cond.selects RX0 yX0_choose yX0_choose, Cond.initialized RX0, Cond.code yX0_choose cX0_choose 3 (some .int), Cond.fieldLink RX0 9 "RowReplicator$Publication" "columns" "[I", Cond.fieldLink RX0 21 "RowReplicator$Publication" "masks" "[I", Cond.static yX4_numberIn, Cond.code yX4_numberIn cX4_numberIn 2 (some .int), Cond.methodLink RX0 29 yX0_lets]
def wsL_isFaithful_r3 : List Cond := [Cond.instanceMethod yX0_lets, Cond.selects RX0 yX0_lets yX0_lets, Cond.code yX0_lets cX0_lets 3 (some .boolean), Cond.fieldLink RX0 15 "RowReplicator$Publication" "relations" "[I", Cond.fieldLink RX0 18 "RowReplicator$Publication" "numbers" "[I"]
def wsL_isFaithful : List Cond := .codeWith yL_isFaithful cL_isFaithful 5 (some .int) [(0, 17, 20, 13), (0, 17, 24, 17)] :: ((wsL_isFaithful_r1 ++ (wsL_isFaithful_r2 ++ wsL_isFaithful_r3)) ++ wsX40 ++ wsX20 ++ wsX10 ++ wsX00 ++ (vx_atS RX4 72 "java/lang/IllegalStateException" ["java/lang/RuntimeException", "java/lang/Exception"]).filter goodWord ++ (vx_atS RX4 203 "java/lang/IndexOutOfBoundsException" ["java/lang/RuntimeException", "java/lang/Exception"]).filter goodWord)
def wsL_law0_r1 : List Cond := [Cond.classLink RL 8 RX4, Cond.instantiable RX4 5, Cond.initialized RX4, Cond.classLink RL 84 RX5, Cond.instantiable RX5 20, Cond.initialized RX5, Cond.arrayClass .long, Cond.methodLink RL 83 yX4_init, Cond.instanceMethod yX4_init, Cond.code yX4_init cX4_init 2 none, Cond.methodLink RX4 3 objectInit, Cond.instanceMethod objectInit, Cond.code objectInit ⟨#[0xb1]⟩ 1 none, Cond.classLink RX4 9 RX1, Cond.instantiable RX1 7, Cond.initialized RX1, Cond.fieldLink RX4 12 "RowReplicator" "publisher" "LRowReplicator$Publisher;", Cond.classLink RX4 16 RX0, Cond.fieldLink RX4 18 "RowReplicator" "publications" "[LRowReplicator$Publication;", Cond.classLink RX4 22 RX2, Cond.fieldLink RX4 24 "RowReplicator" "subscribers" "[LRowReplicator$Subscriber;", Cond.classLink RX4 28 RX3, Cond.instantiable RX3 2, Cond.initialized RX3]
def wsL_law0_r2 : List Cond := [Cond.fieldLink RX4 31 "RowReplicator" "trial" "LRowReplicator$Trial;", Cond.fieldLink RX4 35 "RowReplicator" "limit" "I", Cond.instantiable RX0 4, Cond.initialized RX0, Cond.instantiable RX2 5, Cond.initialized RX2, Cond.methodLink RX4 11 yX1_init, Cond.instanceMethod yX1_init, Cond.code yX1_init cX1_init 2 none, Cond.methodLink RX1 3 objectInit, Cond.arrayClass .int, Cond.fieldLink RX1 9 "RowReplicator$Publisher" "rows" "[I", Cond.fieldLink RX1 15 "RowReplicator$Publisher" "commitCount" "I", Cond.fieldLink RX1 19 "RowReplicator$Publisher" "changeCounts" "[I", Cond.fieldLink RX1 22 "RowReplicator$Publisher" "changedTables" "[I", Cond.fieldLink RX1 25 "RowReplicator$Publisher" "changedKeys" "[I", Cond.fieldLink RX1 28 "RowReplicator$Publisher" "newRows" "[I", Cond.fieldLink RX1 31 "RowReplicator$Publisher" "committedRows" "[I", Cond.instanceMethod yX3_init, Cond.code yX3_init cX3_init 1 none, Cond.methodLink RX3 3 objectInit, Cond.fieldLink RX3 9 "RowReplicator$Trial" "oldRows" "[I", Cond.fieldLink RX3 15 "RowReplicator$Trial" "rows" "[I", Cond.methodLink RX4 39 yX0_init]
def wsL_law0_r3 : List Cond := [Cond.instanceMethod yX0_init, Cond.code yX0_init cX0_init 2 none, Cond.methodLink RX0 3 objectInit, Cond.fieldLink RX0 9 "RowReplicator$Publication" "columns" "[I", Cond.fieldLink RX0 15 "RowReplicator$Publication" "relations" "[I", Cond.fieldLink RX0 18 "RowReplicator$Publication" "numbers" "[I", Cond.fieldLink RX0 21 "RowReplicator$Publication" "masks" "[I", Cond.constant RX0 24 (2097151), Cond.methodLink RX4 40 yX2_init, Cond.instanceMethod yX2_init, Cond.code yX2_init cX2_init 2 none, Cond.methodLink RX2 3 objectInit, Cond.fieldLink RX2 9 "RowReplicator$Subscriber" "rows" "[I", Cond.fieldLink RX2 15 "RowReplicator$Subscriber" "copies" "[I", Cond.fieldLink RX2 18 "RowReplicator$Subscriber" "publication" "LRowReplicator$Publication;", Cond.fieldLink RX2 22 "RowReplicator$Subscriber" "state" "I", Cond.fieldLink RX2 26 "RowReplicator$Subscriber" "slot" "I", Cond.methodLink RL 86 yX5_init, Cond.instanceMethod yX5_init, Cond.code yX5_init cX5_init 2 none, Cond.methodLink RX5 1 objectInit, Cond.fieldLink RX5 7 "RowReplicatorModel" "row" "[I", Cond.fieldLink RX5 13 "RowReplicatorModel" "kept" "[I", Cond.fieldLink RX5 16 "RowReplicatorModel" "limit" "I"]
def wsL_law0_r4 : List Cond := [Cond.fieldLink RX5 20 "RowReplicatorModel" "changes" "[I", Cond.fieldLink RX5 23 "RowReplicatorModel" "table" "[I", Cond.fieldLink RX5 26 "RowReplicatorModel" "key" "[I", Cond.fieldLink RX5 29 "RowReplicatorModel" "fresh" "[I", Cond.fieldLink RX5 32 "RowReplicatorModel" "column" "[I", Cond.fieldLink RX5 35 "RowReplicatorModel" "relation" "[I", Cond.fieldLink RX5 38 "RowReplicatorModel" "number" "[I", Cond.fieldLink RX5 41 "RowReplicatorModel" "list" "[I", Cond.fieldLink RX5 44 "RowReplicatorModel" "book" "[I", Cond.fieldLink RX5 47 "RowReplicatorModel" "state" "[I", Cond.fieldLink RX5 50 "RowReplicatorModel" "slot" "[I", Cond.fieldLink RX5 53 "RowReplicatorModel" "copied" "[I", Cond.fieldLink RX5 56 "RowReplicatorModel" "seen" "[I", Cond.fieldLink RX5 59 "RowReplicatorModel" "there" "[I", Cond.fieldLink RX5 62 "RowReplicatorModel" "here" "[I", Cond.methodLink RL 87 yL_put, Cond.static yL_put, Cond.initialized RL, Cond.codeWith yL_put cL_put 8 (some .int) [(0, 23, 26, 13), (0, 23, 30, 15), (0, 23, 34, 17)], Cond.classLink RL 13 "java/lang/IndexOutOfBoundsException", Cond.classLink RL 15 "java/lang/IllegalArgumentException", Cond.classLink RL 17 "java/lang/IllegalStateException", Cond.methodLink RL 7 yX4_put, Cond.instanceMethod yX4_put]
def wsL_law0_r5 : List Cond := [Cond.selects RX4 yX4_put yX4_put, Cond.code yX4_put cX4_put 7 (some .boolean), Cond.methodLink RX4 41 yX4_checkKey, Cond.static yX4_checkKey, Cond.code yX4_checkKey cX4_checkKey 2 none, Cond.classLink RX4 199 "java/lang/IndexOutOfBoundsException", Cond.initialized "java/lang/IndexOutOfBoundsException", Cond.methodLink RX4 75 yX4_checkTable, Cond.static yX4_checkTable, Cond.code yX4_checkTable cX4_checkTable 1 none, Cond.methodLink RX4 45 yX4_checkNumber, Cond.static yX4_checkNumber, Cond.code yX4_checkNumber cX4_checkNumber 1 none, Cond.classLink RX4 102 "java/lang/IllegalArgumentException", Cond.initialized "java/lang/IllegalArgumentException", Cond.methodLink RX4 49 yX4_checkRoomForChange, Cond.instanceMethod yX4_checkRoomForChange, Cond.selects RX4 yX4_checkRoomForChange yX4_checkRoomForChange, Cond.code yX4_checkRoomForChange cX4_checkRoomForChange 1 none, Cond.classLink RX4 68 "java/lang/IllegalStateException", Cond.initialized "java/lang/IllegalStateException", Cond.methodLink RX4 90 yX1_openChanges, Cond.instanceMethod yX1_openChanges, Cond.selects RX1 yX1_openChanges yX1_openChanges]
def wsL_law0_r6 : List Cond := [Cond.code yX1_openChanges cX1_openChanges 1 (some .int), Cond.methodLink RX4 56 yX4_placeOf, Cond.static yX4_placeOf, Cond.code yX4_placeOf cX4_placeOf 2 (some .int), Cond.methodLink RX4 60 yX4_rowOf, Cond.static yX4_rowOf, Cond.code yX4_rowOf cX4_rowOf 3 (some .int), Cond.methodLink RX4 64 yX1_change, Cond.instanceMethod yX1_change, Cond.selects RX1 yX1_change yX1_change, Cond.code yX1_change cX1_change 8 none, Cond.methodLink RL 92 yX5_put, Cond.instanceMethod yX5_put, Cond.selects RX5 yX5_put yX5_put, Cond.code yX5_put cX5_put 8 (some .boolean), Cond.methodLink RX5 83 yX5_isNumber, Cond.static yX5_isNumber, Cond.code yX5_isNumber cX5_isNumber 1 (some .boolean), Cond.methodLink RX5 68 yX5_isIn, Cond.static yX5_isIn, Cond.code yX5_isIn cX5_isIn 3 (some .boolean), Cond.methodLink RX5 86 yX5_isRow, Cond.static yX5_isRow, Cond.code yX5_isRow cX5_isRow 2 (some .boolean)]
def wsL_law0_r7 : List Cond := [Cond.methodLink RX5 72 yX5_isTable, Cond.static yX5_isTable, Cond.code yX5_isTable cX5_isTable 1 (some .boolean), Cond.methodLink RX5 90 yX5_isFull, Cond.instanceMethod yX5_isFull, Cond.selects RX5 yX5_isFull yX5_isFull, Cond.code yX5_isFull cX5_isFull 1 (some .boolean), Cond.fieldLink RX5 76 "RowReplicatorModel" "commits" "I", Cond.methodLink RX5 94 yX5_fails, Cond.instanceMethod yX5_fails, Cond.selects RX5 yX5_fails yX5_fails, Cond.code yX5_fails cX5_fails 2 (some .boolean), Cond.fieldLink RX5 65 "RowReplicatorModel" "thrown" "I", Cond.methodLink RX5 97 yX5_enters, Cond.instanceMethod yX5_enters, Cond.selects RX5 yX5_enters yX5_enters, Cond.code yX5_enters cX5_enters 5 none, Cond.methodLink RX5 79 yX5_goes, Cond.static yX5_goes, Cond.code yX5_goes cX5_goes 5 none, Cond.methodLink RL 93 yX5_thrown, Cond.instanceMethod yX5_thrown, Cond.selects RX5 yX5_thrown yX5_thrown, Cond.code yX5_thrown cX5_thrown 1 (some .int)]
def wsL_law0_r8 : List Cond := [Cond.methodLink RL 96 yL_take, Cond.static yL_take, Cond.codeWith yL_take cL_take 4 (some .int) [(0, 6, 9, 13), (0, 6, 12, 17)], Cond.methodLink RL 19 yX4_take, Cond.instanceMethod yX4_take, Cond.selects RX4 yX4_take yX4_take, Cond.code yX4_take cX4_take 3 none, Cond.methodLink RL 99 yX5_take, Cond.instanceMethod yX5_take, Cond.selects RX5 yX5_take yX5_take, Cond.code yX5_take cX5_take 4 none, Cond.methodLink RL 100 yL_truncate, Cond.static yL_truncate, Cond.codeWith yL_truncate cL_truncate 4 (some .int) [(0, 9, 12, 13), (0, 9, 15, 17)], Cond.methodLink RL 23 yX4_truncate, Cond.instanceMethod yX4_truncate, Cond.selects RX4 yX4_truncate yX4_truncate, Cond.code yX4_truncate cX4_truncate 4 (some .int), Cond.methodLink RL 103 yX5_truncate, Cond.instanceMethod yX5_truncate, Cond.selects RX5 yX5_truncate yX5_truncate, Cond.code yX5_truncate cX5_truncate 4 (some .int), Cond.methodLink RL 104 yL_commit, Cond.static yL_commit]
def wsL_law0_r9 : List Cond := [Cond.codeWith yL_commit cL_commit 3 (some .int) [(0, 8, 11, 17)], Cond.methodLink RL 27 yX4_commit, Cond.instanceMethod yX4_commit, Cond.selects RX4 yX4_commit yX4_commit, Cond.code yX4_commit cX4_commit 1 (some .int), Cond.methodLink RX4 83 yX1_close, Cond.instanceMethod yX1_close, Cond.selects RX1 yX1_close yX1_close, Cond.code yX1_close cX1_close 1 none, Cond.methodLink RX1 38 arraycopyName, Cond.native arraycopyName, Cond.static arraycopyName, Cond.initialized "java/lang/System", Cond.methodLink RX4 86 yX4_cutLaggards, Cond.instanceMethod yX4_cutLaggards, Cond.selects RX4 yX4_cutLaggards yX4_cutLaggards, Cond.code yX4_cutLaggards cX4_cutLaggards 3 (some .int), Cond.methodLink RX4 178 yX2_commitsBehind, Cond.instanceMethod yX2_commitsBehind, Cond.selects RX2 yX2_commitsBehind yX2_commitsBehind, Cond.code yX2_commitsBehind cX2_commitsBehind 2 (some .int), Cond.methodLink RX2 32 yX2_holdsLog, Cond.instanceMethod yX2_holdsLog, Cond.selects RX2 yX2_holdsLog yX2_holdsLog]
def wsL_law0_r10 : List Cond := [Cond.code yX2_holdsLog cX2_holdsLog 1 (some .boolean), Cond.methodLink RL 107 yX5_commit, Cond.instanceMethod yX5_commit, Cond.selects RX5 yX5_commit yX5_commit, Cond.code yX5_commit cX5_commit 2 (some .int), Cond.methodLink RX5 101 yX5_cuts, Cond.instanceMethod yX5_cuts, Cond.selects RX5 yX5_cuts yX5_cuts, Cond.code yX5_cuts cX5_cuts 3 (some .int), Cond.methodLink RL 108 yX4_rollBack, Cond.instanceMethod yX4_rollBack, Cond.selects RX4 yX4_rollBack yX4_rollBack, Cond.code yX4_rollBack cX4_rollBack 2 (some .int), Cond.methodLink RX4 93 yX1_undo, Cond.instanceMethod yX1_undo, Cond.selects RX1 yX1_undo yX1_undo, Cond.code yX1_undo cX1_undo 1 none, Cond.methodLink RL 111 yX5_rollBack, Cond.instanceMethod yX5_rollBack, Cond.selects RX5 yX5_rollBack yX5_rollBack, Cond.code yX5_rollBack cX5_rollBack 3 (some .int), Cond.methodLink RL 112 yL_at, Cond.static yL_at, Cond.codeWith yL_at cL_at 6 (some .int) [(0, 12, 15, 13)]]
def wsL_law0_r11 : List Cond := [Cond.methodLink RL 31 yX4_at, Cond.instanceMethod yX4_at, Cond.selects RX4 yX4_at yX4_at, Cond.code yX4_at cX4_at 4 (some .int), Cond.methodLink RX4 96 yX4_checkColumn, Cond.static yX4_checkColumn, Cond.code yX4_checkColumn cX4_checkColumn 1 none, Cond.methodLink RX4 99 yX4_numberIn, Cond.static yX4_numberIn, Cond.code yX4_numberIn cX4_numberIn 2 (some .int), Cond.methodLink RL 115 yX5_at, Cond.instanceMethod yX5_at, Cond.selects RX5 yX5_at yX5_at, Cond.code yX5_at cX5_at 4 (some .int), Cond.methodLink RX5 105 yX5_isThird, Cond.static yX5_isThird, Cond.code yX5_isThird cX5_isThird 1 (some .boolean), Cond.methodLink RX5 108 yX5_numberOf, Cond.static yX5_numberOf, Cond.code yX5_numberOf cX5_numberOf 2 (some .int), Cond.methodLink RL 116 yX4_commits, Cond.instanceMethod yX4_commits, Cond.selects RX4 yX4_commits yX4_commits, Cond.code yX4_commits cX4_commits 1 (some .int)]
def wsL_law0_r12 : List Cond := [Cond.methodLink RL 119 yX5_commits, Cond.instanceMethod yX5_commits, Cond.selects RX5 yX5_commits yX5_commits, Cond.code yX5_commits cX5_commits 1 (some .int), Cond.methodLink RL 120 yL_setLimit, Cond.static yL_setLimit, Cond.codeWith yL_setLimit cL_setLimit 4 (some .int) [(0, 9, 12, 15)], Cond.methodLink RL 35 yX4_setLimit, Cond.instanceMethod yX4_setLimit, Cond.selects RX4 yX4_setLimit yX4_setLimit, Cond.code yX4_setLimit cX4_setLimit 2 (some .int), Cond.methodLink RL 122 yX5_setLimit, Cond.instanceMethod yX5_setLimit, Cond.selects RX5 yX5_setLimit yX5_setLimit, Cond.code yX5_setLimit cX5_setLimit 2 (some .int), Cond.methodLink RL 123 yL_setCondition, Cond.static yL_setCondition, Cond.codeWith yL_setCondition cL_setCondition 8 (some .int) [(0, 16, 19, 13), (0, 16, 23, 15)], Cond.methodLink RL 38 yX4_setCondition, Cond.instanceMethod yX4_setCondition, Cond.selects RX4 yX4_setCondition yX4_setCondition, Cond.code yX4_setCondition cX4_setCondition 7 (some .int), Cond.methodLink RX4 107 yX4_checkPublication, Cond.static yX4_checkPublication]
def wsL_law0_r13 : List Cond := [Cond.code yX4_checkPublication cX4_checkPublication 1 none, Cond.methodLink RX4 121 yX4_forgetCopies, Cond.instanceMethod yX4_forgetCopies, Cond.selects RX4 yX4_forgetCopies yX4_forgetCopies, Cond.code yX4_forgetCopies cX4_forgetCopies 6 (some .int), Cond.methodLink RL 125 yX5_setCondition, Cond.instanceMethod yX5_setCondition, Cond.selects RX5 yX5_setCondition yX5_setCondition, Cond.code yX5_setCondition cX5_setCondition 7 (some .int), Cond.methodLink RX5 112 yX5_forgets, Cond.instanceMethod yX5_forgets, Cond.selects RX5 yX5_forgets yX5_forgets, Cond.code yX5_forgets cX5_forgets 5 (some .int), Cond.methodLink RL 126 yL_setColumns, Cond.static yL_setColumns, Cond.codeWith yL_setColumns cL_setColumns 6 (some .int) [(0, 12, 15, 13), (0, 12, 19, 15)], Cond.methodLink RL 42 yX4_setColumns, Cond.instanceMethod yX4_setColumns, Cond.selects RX4 yX4_setColumns yX4_setColumns, Cond.code yX4_setColumns cX4_setColumns 5 (some .int), Cond.methodLink RX4 130 yX4_maskOf, Cond.static yX4_maskOf, Cond.code yX4_maskOf cX4_maskOf 3 (some .int), Cond.methodLink RL 128 yX5_setColumns]
def wsL_law0_r14 : List Cond := [Cond.instanceMethod yX5_setColumns, Cond.selects RX5 yX5_setColumns yX5_setColumns, Cond.code yX5_setColumns cX5_setColumns 4 (some .int), Cond.methodLink RL 129 yL_subscribe, Cond.static yL_subscribe, Cond.codeWith yL_subscribe cL_subscribe 5 (some .int) [(0, 10, 13, 13)], Cond.methodLink RL 45 yX4_subscribe, Cond.instanceMethod yX4_subscribe, Cond.selects RX4 yX4_subscribe yX4_subscribe, Cond.code yX4_subscribe cX4_subscribe 5 (some .int), Cond.methodLink RX4 134 yX4_checkSubscriber, Cond.static yX4_checkSubscriber, Cond.code yX4_checkSubscriber cX4_checkSubscriber 1 none, Cond.methodLink RX4 140 yX2_follow, Cond.instanceMethod yX2_follow, Cond.selects RX2 yX2_follow yX2_follow, Cond.code yX2_follow cX2_follow 3 none, Cond.methodLink RX2 29 yX2_forgetTables, Cond.instanceMethod yX2_forgetTables, Cond.selects RX2 yX2_forgetTables yX2_forgetTables, Cond.code yX2_forgetTables cX2_forgetTables 2 none, Cond.methodLink RL 132 yX5_subscribe, Cond.instanceMethod yX5_subscribe, Cond.selects RX5 yX5_subscribe yX5_subscribe]
def wsL_law0_r15 : List Cond := [Cond.code yX5_subscribe cX5_subscribe 5 (some .int), Cond.methodLink RL 133 yL_drop, Cond.static yL_drop, Cond.codeWith yL_drop cL_drop 4 (some .int) [(0, 9, 12, 13)], Cond.methodLink RL 49 yX4_drop, Cond.instanceMethod yX4_drop, Cond.selects RX4 yX4_drop yX4_drop, Cond.code yX4_drop cX4_drop 4 (some .int), Cond.methodLink RX4 144 yX2_leave, Cond.instanceMethod yX2_leave, Cond.selects RX2 yX2_leave yX2_leave, Cond.code yX2_leave cX2_leave 1 none, Cond.methodLink RL 135 yX5_drop, Cond.instanceMethod yX5_drop, Cond.selects RX5 yX5_drop yX5_drop, Cond.code yX5_drop cX5_drop 4 (some .int), Cond.methodLink RL 136 yL_copy, Cond.static yL_copy, Cond.codeWith yL_copy cL_copy 5 (some .int) [(0, 10, 13, 13), (0, 10, 17, 17)], Cond.methodLink RL 52 yX4_copy, Cond.instanceMethod yX4_copy, Cond.selects RX4 yX4_copy yX4_copy, Cond.code yX4_copy cX4_copy 9 (some .int), Cond.methodLink RX4 155 yX0_choose]
def wsL_law0_r16 : List Cond := [Cond.instanceMethod yX0_choose, Cond.selects RX0 yX0_choose yX0_choose, Cond.code yX0_choose cX0_choose 3 (some .int), Cond.methodLink RX0 29 yX0_lets, Cond.instanceMethod yX0_lets, Cond.selects RX0 yX0_lets yX0_lets, Cond.code yX0_lets cX0_lets 3 (some .boolean), Cond.methodLink RL 138 yX5_copy, Cond.instanceMethod yX5_copy, Cond.selects RX5 yX5_copy yX5_copy, Cond.code yX5_copy cX5_copy 6 (some .int), Cond.methodLink RX5 122 yX5_chosenAt, Cond.instanceMethod yX5_chosenAt, Cond.selects RX5 yX5_chosenAt yX5_chosenAt, Cond.code yX5_chosenAt cX5_chosenAt 6 (some .int), Cond.methodLink RX5 115 yX5_counts, Cond.instanceMethod yX5_counts, Cond.selects RX5 yX5_counts yX5_counts, Cond.code yX5_counts cX5_counts 6 (some .boolean), Cond.methodLink RX5 118 yX5_chosen, Cond.instanceMethod yX5_chosen, Cond.selects RX5 yX5_chosen yX5_chosen, Cond.code yX5_chosen cX5_chosen 7 (some .int), Cond.methodLink RL 139 yL_receive]
def wsL_law0_r17 : List Cond := [Cond.static yL_receive, Cond.codeWith yL_receive cL_receive 5 (some .int) [(0, 10, 13, 13), (0, 10, 17, 15), (0, 10, 21, 17)], Cond.methodLink RL 55 yX4_receive, Cond.instanceMethod yX4_receive, Cond.selects RX4 yX4_receive yX4_receive, Cond.code yX4_receive cX4_receive 6 (some .int), Cond.methodLink RX4 167 yX3_applies, Cond.instanceMethod yX3_applies, Cond.selects RX3 yX3_applies yX3_applies, Cond.code yX3_applies cX3_applies 9 (some .boolean), Cond.methodLink RX3 29 arraycopyName, Cond.methodLink RX3 45 yX2_takesChangesOf, Cond.instanceMethod yX2_takesChangesOf, Cond.selects RX2 yX2_takesChangesOf yX2_takesChangesOf, Cond.code yX2_takesChangesOf cX2_takesChangesOf 3 (some .boolean), Cond.methodLink RX3 49 yX3_takeAll, Cond.instanceMethod yX3_takeAll, Cond.selects RX3 yX3_takeAll yX3_takeAll, Cond.code yX3_takeAll cX3_takeAll 4 none, Cond.methodLink RX3 56 yX3_follows, Cond.instanceMethod yX3_follows, Cond.selects RX3 yX3_follows yX3_follows, Cond.code yX3_follows cX3_follows 9 (some .boolean), Cond.methodLink RX3 64 yX0_choose]
def wsL_law0_r18 : List Cond := [Cond.methodLink RX4 172 yX2_accept, Cond.instanceMethod yX2_accept, Cond.selects RX2 yX2_accept yX2_accept, Cond.code yX2_accept cX2_accept 2 none, Cond.methodLink RX2 36 arraycopyName, Cond.methodLink RL 141 yX5_receive, Cond.instanceMethod yX5_receive, Cond.selects RX5 yX5_receive yX5_receive, Cond.code yX5_receive cX5_receive 4 (some .int), Cond.methodLink RX5 130 yX5_tries, Cond.instanceMethod yX5_tries, Cond.selects RX5 yX5_tries yX5_tries, Cond.code yX5_tries cX5_tries 9 (some .boolean), Cond.methodLink RX5 126 yX5_applies, Cond.instanceMethod yX5_applies, Cond.selects RX5 yX5_applies yX5_applies, Cond.code yX5_applies cX5_applies 8 (some .boolean), Cond.methodLink RL 142 yL_goOn, Cond.static yL_goOn, Cond.codeWith yL_goOn cL_goOn 5 (some .int) [(0, 10, 13, 13), (0, 10, 17, 17)], Cond.methodLink RL 58 yX4_goOn, Cond.instanceMethod yX4_goOn, Cond.selects RX4 yX4_goOn yX4_goOn, Cond.code yX4_goOn cX4_goOn 4 (some .int)]
def wsL_law0_r19 : List Cond := [Cond.methodLink RL 145 yX5_goOn, Cond.instanceMethod yX5_goOn, Cond.selects RX5 yX5_goOn yX5_goOn, Cond.code yX5_goOn cX5_goOn 3 (some .int), Cond.methodLink RL 146 yL_own, Cond.static yL_own, Cond.codeWith yL_own cL_own 7 (some .int) [(0, 21, 24, 13), (0, 21, 28, 15)], Cond.methodLink RL 62 yX4_own, Cond.instanceMethod yX4_own, Cond.selects RX4 yX4_own yX4_own, Cond.code yX4_own cX4_own 8 (some .boolean), Cond.methodLink RL 149 yX5_own, Cond.instanceMethod yX5_own, Cond.selects RX5 yX5_own yX5_own, Cond.code yX5_own cX5_own 7 (some .boolean), Cond.methodLink RL 150 yL_state, Cond.static yL_state, Cond.codeWith yL_state cL_state 4 (some .int) [(0, 9, 12, 13)], Cond.methodLink RL 66 yX4_state, Cond.instanceMethod yX4_state, Cond.selects RX4 yX4_state yX4_state, Cond.code yX4_state cX4_state 2 (some .int), Cond.methodLink RL 152 yX5_state, Cond.instanceMethod yX5_state]
def wsL_law0_r20 : List Cond := [Cond.selects RX5 yX5_state yX5_state, Cond.code yX5_state cX5_state 2 (some .int), Cond.methodLink RL 153 yL_lag, Cond.static yL_lag, Cond.codeWith yL_lag cL_lag 4 (some .int) [(0, 9, 12, 13)], Cond.methodLink RL 69 yX4_lag, Cond.instanceMethod yX4_lag, Cond.selects RX4 yX4_lag yX4_lag, Cond.code yX4_lag cX4_lag 2 (some .int), Cond.methodLink RL 155 yX5_lag, Cond.instanceMethod yX5_lag, Cond.selects RX5 yX5_lag yX5_lag, Cond.code yX5_lag cX5_lag 2 (some .int), Cond.methodLink RL 156 yL_copiedAt, Cond.static yL_copiedAt, Cond.codeWith yL_copiedAt cL_copiedAt 5 (some .int) [(0, 10, 13, 13)], Cond.methodLink RL 72 yX4_copiedAt, Cond.instanceMethod yX4_copiedAt, Cond.selects RX4 yX4_copiedAt yX4_copiedAt, Cond.code yX4_copiedAt cX4_copiedAt 3 (some .int), Cond.methodLink RL 158 yX5_copiedAt, Cond.instanceMethod yX5_copiedAt, Cond.selects RX5 yX5_copiedAt yX5_copiedAt, Cond.code yX5_copiedAt cX5_copiedAt 3 (some .int)]
def wsL_law0_r21 : List Cond := [Cond.methodLink RL 159 yL_seen, Cond.static yL_seen, Cond.codeWith yL_seen cL_seen 7 (some .int) [(0, 14, 17, 13)], Cond.methodLink RL 75 yX4_seen, Cond.instanceMethod yX4_seen, Cond.selects RX4 yX4_seen yX4_seen, Cond.code yX4_seen cX4_seen 5 (some .int), Cond.methodLink RL 161 yX5_seen, Cond.instanceMethod yX5_seen, Cond.selects RX5 yX5_seen yX5_seen, Cond.code yX5_seen cX5_seen 6 (some .int), Cond.methodLink RL 162 yL_isFaithful, Cond.static yL_isFaithful, Cond.codeWith yL_isFaithful cL_isFaithful 5 (some .int) [(0, 17, 20, 13), (0, 17, 24, 17)], Cond.methodLink RL 79 yX4_isFaithful, Cond.instanceMethod yX4_isFaithful, Cond.selects RX4 yX4_isFaithful yX4_isFaithful, Cond.code yX4_isFaithful cX4_isFaithful 9 (some .boolean), Cond.methodLink RX4 189 Lib.Math.max.name, Cond.static Lib.Math.max.name, Cond.initialized "java/lang/Math", Cond.code Lib.Math.max.name Lib.Math.max.code 2 (some .int), Cond.methodLink RX4 181 yX2_holdsLog, Cond.methodLink RX4 194 yX1_rowAsOf]
def wsL_law0_r22 : List Cond := [Cond.instanceMethod yX1_rowAsOf, Cond.selects RX1 yX1_rowAsOf yX1_rowAsOf, Cond.code yX1_rowAsOf cX1_rowAsOf 3 (some .int), Cond.methodLink RL 164 yX5_isFaithful, Cond.instanceMethod yX5_isFaithful, Cond.selects RX5 yX5_isFaithful yX5_isFaithful, Cond.code yX5_isFaithful cX5_isFaithful 7 (some .boolean)]
def wsL_law0 : List Cond := (wsL_law0_r1 ++ (wsL_law0_r2 ++ (wsL_law0_r3 ++ (wsL_law0_r4 ++ (wsL_law0_r5 ++ (wsL_law0_r6 ++ (wsL_law0_r7 ++ (wsL_law0_r8 ++ (wsL_law0_r9 ++ (wsL_law0_r10 ++ (wsL_law0_r11 ++ (wsL_law0_r12 ++ (wsL_law0_r13 ++ (wsL_law0_r14 ++ (wsL_law0_r15 ++ (wsL_law0_r16 ++ (wsL_law0_r17 ++ (wsL_law0_r18 ++ (wsL_law0_r19 ++ (wsL_law0_r20 ++ (wsL_law0_r21 ++ wsL_law0_r22))))))))))))))))))))) ++ wsX40 ++ wsX50 ++ wsX10 ++ wsX30 ++ wsX00 ++ wsX20 ++ ([] : List Cond)
def wsL_law : List Cond := wsL_law0 ++ (vx_atS RX4 203 "java/lang/IndexOutOfBoundsException" ["java/lang/RuntimeException", "java/lang/Exception"]).filter goodWord ++ (vx_atS RX4 106 "java/lang/IllegalArgumentException" ["java/lang/RuntimeException", "java/lang/Exception"]).filter goodWord ++ (vx_atS RX4 72 "java/lang/IllegalStateException" ["java/lang/RuntimeException", "java/lang/Exception"]).filter goodWord
abbrev vwCl : List vw_C := [(RX0, TX0, 4), (RX1, TX1, 7), (RX2, TX2, 5), (RX3, TX3, 2), (RX4, TX4, 5), (RX5, TX5, 20)]
end
section
set_option maxRecDepth 20000 in
theorem in_wsL_law0_r1 : ∀ w ∈ wsL_law0_r1, w ∈ lw_tbl := fun w h => (goodIn_p wsL_law0_r1 [37, 40] (by decide +kernel) (by decide +kernel) w h).1
set_option maxRecDepth 20000 in
theorem in_wsL_law0_r2 : ∀ w ∈ wsL_law0_r2, w ∈ lw_tbl := fun w h => (goodIn_p wsL_law0_r2 [45, 85] (by decide +kernel) (by decide +kernel) w h).1
set_option maxRecDepth 20000 in
theorem in_wsL_law0_r3 : ∀ w ∈ wsL_law0_r3, w ∈ lw_tbl := fun w h => (goodIn_p wsL_law0_r3 [98, 121, 548] (by decide +kernel) (by decide +kernel) w h).1
set_option maxRecDepth 20000 in
theorem in_wsL_law0_r4 : ∀ w ∈ wsL_law0_r4, w ∈ lw_tbl := fun w h => (goodIn_p wsL_law0_r4 [] (by decide +kernel) (by decide +kernel) w h).1
set_option maxRecDepth 20000 in
theorem in_wsL_law0_r5 : ∀ w ∈ wsL_law0_r5, w ∈ lw_tbl := fun w h => (goodIn_p wsL_law0_r5 [190, 193, 196, 268, 288] (by decide +kernel) (by decide +kernel) w h).1
set_option maxRecDepth 20000 in
theorem in_wsL_law0_r6 : ∀ w ∈ wsL_law0_r6, w ∈ lw_tbl := fun w h => (goodIn_p wsL_law0_r6 [169, 307, 310, 314, 618, 621, 624, 627] (by decide +kernel) (by decide +kernel) w h).1
set_option maxRecDepth 20000 in
theorem in_wsL_law0_r7 : ∀ w ∈ wsL_law0_r7, w ∈ lw_tbl := fun w h => (goodIn_p wsL_law0_r7 [630, 634, 638, 642, 645, 614] (by decide +kernel) (by decide +kernel) w h).1
set_option maxRecDepth 20000 in
theorem in_wsL_law0_r8 : ∀ w ∈ wsL_law0_r8, w ∈ lw_tbl := fun w h => (goodIn_p wsL_law0_r8 [322, 649, 330, 653] (by decide +kernel) (by decide +kernel) w h).1
set_option maxRecDepth 20000 in
theorem in_wsL_law0_r9 : ∀ w ∈ wsL_law0_r9, w ∈ lw_tbl := fun w h => (goodIn_p wsL_law0_r9 [337, 342, 346, 350] (by decide +kernel) (by decide +kernel) w h).1
set_option maxRecDepth 20000 in
theorem in_wsL_law0_r10 : ∀ w ∈ wsL_law0_r10, w ∈ lw_tbl := fun w h => (goodIn_p wsL_law0_r10 [354, 657, 661, 165, 173, 665] (by decide +kernel) (by decide +kernel) w h).1
set_option maxRecDepth 20000 in
theorem in_wsL_law0_r11 : ∀ w ∈ wsL_law0_r11, w ∈ lw_tbl := fun w h => (goodIn_p wsL_law0_r11 [361, 364, 368, 669, 672, 675, 180] (by decide +kernel) (by decide +kernel) w h).1
set_option maxRecDepth 20000 in
theorem in_wsL_law0_r12 : ∀ w ∈ wsL_law0_r12, w ∈ lw_tbl := fun w h => (goodIn_p wsL_law0_r12 [679, 375, 683, 383] (by decide +kernel) (by decide +kernel) w h).1
set_option maxRecDepth 20000 in
theorem in_wsL_law0_r13 : ∀ w ∈ wsL_law0_r13, w ∈ lw_tbl := fun w h => (goodIn_p wsL_law0_r13 [386, 392, 687, 691, 399, 403] (by decide +kernel) (by decide +kernel) w h).1
set_option maxRecDepth 20000 in
theorem in_wsL_law0_r14 : ∀ w ∈ wsL_law0_r14, w ∈ lw_tbl := fun w h => (goodIn_p wsL_law0_r14 [695, 410, 413, 418, 422] (by decide +kernel) (by decide +kernel) w h).1
set_option maxRecDepth 20000 in
theorem in_wsL_law0_r15 : ∀ w ∈ wsL_law0_r15, w ∈ lw_tbl := fun w h => (goodIn_p wsL_law0_r15 [699, 429, 433, 703, 440] (by decide +kernel) (by decide +kernel) w h).1
set_option maxRecDepth 20000 in
theorem in_wsL_law0_r16 : ∀ w ∈ wsL_law0_r16, w ∈ lw_tbl := fun w h => (goodIn_p wsL_law0_r16 [446, 451, 707, 711, 715, 719] (by decide +kernel) (by decide +kernel) w h).1
set_option maxRecDepth 20000 in
theorem in_wsL_law0_r17 : ∀ w ∈ wsL_law0_r17, w ∈ lw_tbl := fun w h => (goodIn_p wsL_law0_r17 [458, 463, 468, 472, 476] (by decide +kernel) (by decide +kernel) w h).1
set_option maxRecDepth 20000 in
theorem in_wsL_law0_r18 : ∀ w ∈ wsL_law0_r18, w ∈ lw_tbl := fun w h => (goodIn_p wsL_law0_r18 [482, 723, 727, 731, 490] (by decide +kernel) (by decide +kernel) w h).1
set_option maxRecDepth 20000 in
theorem in_wsL_law0_r19 : ∀ w ∈ wsL_law0_r19, w ∈ lw_tbl := fun w h => (goodIn_p wsL_law0_r19 [735, 498, 739, 505] (by decide +kernel) (by decide +kernel) w h).1
set_option maxRecDepth 20000 in
theorem in_wsL_law0_r20 : ∀ w ∈ wsL_law0_r20, w ∈ lw_tbl := fun w h => (goodIn_p wsL_law0_r20 [743, 512, 747, 519, 751] (by decide +kernel) (by decide +kernel) w h).1
set_option maxRecDepth 20000 in
theorem in_wsL_law0_r21 : ∀ w ∈ wsL_law0_r21, w ∈ lw_tbl := fun w h => (goodIn_p wsL_law0_r21 [526, 755, 533, 539] (by decide +kernel) (by decide +kernel) w h).1
set_option maxRecDepth 20000 in
theorem in_wsL_law0_r22 : ∀ w ∈ wsL_law0_r22, w ∈ lw_tbl := fun w h => (goodIn_p wsL_law0_r22 [543, 759] (by decide +kernel) (by decide +kernel) w h).1
set_option maxRecDepth 20000 in
theorem in_wsX40 : ∀ w ∈ wsX40, w ∈ lw_tbl := by decide +kernel
set_option maxRecDepth 20000 in
theorem in_wsX50 : ∀ w ∈ wsX50, w ∈ lw_tbl := by decide +kernel
set_option maxRecDepth 20000 in
theorem in_wsX10 : ∀ w ∈ wsX10, w ∈ lw_tbl := by decide +kernel
set_option maxRecDepth 20000 in
theorem in_wsX30 : ∀ w ∈ wsX30, w ∈ lw_tbl := by decide +kernel
set_option maxRecDepth 20000 in
theorem in_wsX00 : ∀ w ∈ wsX00, w ∈ lw_tbl := by decide +kernel
set_option maxRecDepth 20000 in
theorem in_wsX20 : ∀ w ∈ wsX20, w ∈ lw_tbl := by decide +kernel
theorem in_app {a b : List Cond} (ha : ∀ w ∈ a, w ∈ lw_tbl) (hb : ∀ w ∈ b, w ∈ lw_tbl) : ∀ w ∈ a ++ b, w ∈ lw_tbl := fun w h => (List.mem_append.mp h).elim (ha w) (hb w)
theorem wsL_law_in0 : ∀ w ∈ wsL_law0, w ∈ lw_tbl := (in_app (in_app (in_app (in_app (in_app (in_app (in_app (in_app in_wsL_law0_r1 (in_app in_wsL_law0_r2 (in_app in_wsL_law0_r3 (in_app in_wsL_law0_r4 (in_app in_wsL_law0_r5 (in_app in_wsL_law0_r6 (in_app in_wsL_law0_r7 (in_app in_wsL_law0_r8 (in_app in_wsL_law0_r9 (in_app in_wsL_law0_r10 (in_app in_wsL_law0_r11 (in_app in_wsL_law0_r12 (in_app in_wsL_law0_r13 (in_app in_wsL_law0_r14 (in_app in_wsL_law0_r15 (in_app in_wsL_law0_r16 (in_app in_wsL_law0_r17 (in_app in_wsL_law0_r18 (in_app in_wsL_law0_r19 (in_app in_wsL_law0_r20 (in_app in_wsL_law0_r21 in_wsL_law0_r22))))))))))))))))))))) in_wsX40) in_wsX50) in_wsX10) in_wsX30) in_wsX00) in_wsX20) (fun _ h => nomatch h))
theorem wsL_law_x0 : ∀ w ∈ (vx_atS RX4 203 "java/lang/IndexOutOfBoundsException" ["java/lang/RuntimeException", "java/lang/Exception"]).filter goodWord, w ∈ lw_tbl := by decide +kernel
theorem wsL_law_x1 : ∀ w ∈ (vx_atS RX4 106 "java/lang/IllegalArgumentException" ["java/lang/RuntimeException", "java/lang/Exception"]).filter goodWord, w ∈ lw_tbl := by decide +kernel
theorem wsL_law_x2 : ∀ w ∈ (vx_atS RX4 72 "java/lang/IllegalStateException" ["java/lang/RuntimeException", "java/lang/Exception"]).filter goodWord, w ∈ lw_tbl := by decide +kernel
theorem wsL_law_in : ∀ w ∈ wsL_law, w ∈ lw_tbl := fun w h => (List.mem_append.mp h).elim (fun h => (List.mem_append.mp h).elim (fun h => (List.mem_append.mp h).elim (fun h => wsL_law_in0 w h) (fun h => wsL_law_x0 w h)) (fun h => wsL_law_x1 w h)) (fun h => wsL_law_x2 w h)
theorem inlX0 : ∀ w ∈ wsX00, w ∈ wsL_law := fun _ h => List.mem_append_left _ (List.mem_append_left _ (List.mem_append_left _ (List.mem_append_left _ (List.mem_append_left _ (List.mem_append_right _ h)))))
theorem inX0 : ∀ w ∈ wsX00, w ∈ lw_tbl := fun w h => wsL_law_in w (inlX0 w h)
theorem inlX1 : ∀ w ∈ wsX10, w ∈ wsL_law := fun _ h => List.mem_append_left _ (List.mem_append_left _ (List.mem_append_left _ (List.mem_append_left _ (List.mem_append_left _ (List.mem_append_left _ (List.mem_append_left _ (List.mem_append_right _ h)))))))
theorem inX1 : ∀ w ∈ wsX10, w ∈ lw_tbl := fun w h => wsL_law_in w (inlX1 w h)
theorem inlX2 : ∀ w ∈ wsX20, w ∈ wsL_law := fun _ h => List.mem_append_left _ (List.mem_append_left _ (List.mem_append_left _ (List.mem_append_left _ (List.mem_append_right _ h))))
theorem inX2 : ∀ w ∈ wsX20, w ∈ lw_tbl := fun w h => wsL_law_in w (inlX2 w h)
theorem inlX3 : ∀ w ∈ wsX30, w ∈ wsL_law := fun _ h => List.mem_append_left _ (List.mem_append_left _ (List.mem_append_left _ (List.mem_append_left _ (List.mem_append_left _ (List.mem_append_left _ (List.mem_append_right _ h))))))
theorem inX3 : ∀ w ∈ wsX30, w ∈ lw_tbl := fun w h => wsL_law_in w (inlX3 w h)
theorem inlX4 : ∀ w ∈ wsX40, w ∈ wsL_law := fun _ h => List.mem_append_left _ (List.mem_append_left _ (List.mem_append_left _ (List.mem_append_left _ (List.mem_append_left _ (List.mem_append_left _ (List.mem_append_left _ (List.mem_append_left _ (List.mem_append_left _ (List.mem_append_right _ h)))))))))
theorem inX4 : ∀ w ∈ wsX40, w ∈ lw_tbl := fun w h => wsL_law_in w (inlX4 w h)
theorem inlX5 : ∀ w ∈ wsX50, w ∈ wsL_law := fun _ h => List.mem_append_left _ (List.mem_append_left _ (List.mem_append_left _ (List.mem_append_left _ (List.mem_append_left _ (List.mem_append_left _ (List.mem_append_left _ (List.mem_append_left _ (List.mem_append_right _ h))))))))
theorem inX5 : ∀ w ∈ wsX50, w ∈ lw_tbl := fun w h => wsL_law_in w (inlX5 w h)
theorem inJ9 : ∀ w ∈ wsJ90, w ∈ lw_tbl := by decide +kernel
theorem inJ0 : ∀ w ∈ wsJ00, w ∈ lw_tbl := by decide +kernel
theorem inJ10 : ∀ w ∈ wsJ100, w ∈ lw_tbl := by decide +kernel
end
section
theorem dX0_init_0 : decode cX0_init 0 = .ok (.aload_n 0, 1) := by decide +kernel
theorem dX0_init_1 : decode cX0_init 1 = .ok (.invokespecial 3, 3) := by decide +kernel
theorem dX0_init_4 : decode cX0_init 4 = .ok (.aload_n 0, 1) := by decide +kernel
theorem dX0_init_5 : decode cX0_init 5 = .ok (.iconst 2, 1) := by decide +kernel
theorem dX0_init_6 : decode cX0_init 6 = .ok (.newarray .int, 2) := by decide +kernel
theorem dX0_init_8 : decode cX0_init 8 = .ok (.putfield 9, 3) := by decide +kernel
theorem dX0_init_11 : decode cX0_init 11 = .ok (.aload_n 0, 1) := by decide +kernel
theorem dX0_init_12 : decode cX0_init 12 = .ok (.iconst 2, 1) := by decide +kernel
theorem dX0_init_13 : decode cX0_init 13 = .ok (.newarray .int, 2) := by decide +kernel
theorem dX0_init_15 : decode cX0_init 15 = .ok (.putfield 15, 3) := by decide +kernel
theorem dX0_init_18 : decode cX0_init 18 = .ok (.aload_n 0, 1) := by decide +kernel
theorem dX0_init_19 : decode cX0_init 19 = .ok (.iconst 2, 1) := by decide +kernel
theorem dX0_init_20 : decode cX0_init 20 = .ok (.newarray .int, 2) := by decide +kernel
theorem dX0_init_22 : decode cX0_init 22 = .ok (.putfield 18, 3) := by decide +kernel
theorem dX0_init_25 : decode cX0_init 25 = .ok (.aload_n 0, 1) := by decide +kernel
theorem dX0_init_26 : decode cX0_init 26 = .ok (.iconst 2, 1) := by decide +kernel
theorem dX0_init_27 : decode cX0_init 27 = .ok (.newarray .int, 2) := by decide +kernel
theorem dX0_init_29 : decode cX0_init 29 = .ok (.putfield 21, 3) := by decide +kernel
theorem dX0_init_32 : decode cX0_init 32 = .ok (.iconst 0, 1) := by decide +kernel
theorem dX0_init_33 : decode cX0_init 33 = .ok (.istore_n 1, 1) := by decide +kernel
theorem dX0_init_34 : decode cX0_init 34 = .ok (.iload_n 1, 1) := by decide +kernel
theorem dX0_init_35 : decode cX0_init 35 = .ok (.iconst 2, 1) := by decide +kernel
theorem dX0_init_36 : decode cX0_init 36 = .ok (.if_icmp .ge 17, 3) := by decide +kernel
theorem dX0_init_39 : decode cX0_init 39 = .ok (.aload_n 0, 1) := by decide +kernel
theorem dX0_init_40 : decode cX0_init 40 = .ok (.getfield 21, 3) := by decide +kernel
theorem dX0_init_43 : decode cX0_init 43 = .ok (.iload_n 1, 1) := by decide +kernel
theorem dX0_init_44 : decode cX0_init 44 = .ok (.ldc 24, 2) := by decide +kernel
theorem dX0_init_46 : decode cX0_init 46 = .ok (.iastore, 1) := by decide +kernel
theorem dX0_init_47 : decode cX0_init 47 = .ok (.iinc 1 1, 3) := by decide +kernel
theorem dX0_init_50 : decode cX0_init 50 = .ok (.goto (-16), 3) := by decide +kernel
theorem dX0_init_53 : decode cX0_init 53 = .ok (.return_, 1) := by decide +kernel
set_option maxRecDepth 20000 in
theorem ggX0_choose_X4_numberIn : GoodIn wsX0_choose wsX4_numberIn := goodIn_r _ [5] (by decide +kernel) (by decide +kernel)
set_option maxRecDepth 20000 in
theorem gX0_choose_X4_numberIn_n25 : GoodIn wsX0_choose (wsX4_numberIn) := ggX0_choose_X4_numberIn
set_option maxRecDepth 20000 in
theorem ggX0_choose_X0_lets : GoodIn wsX0_choose wsX0_lets := goodIn_r _ [10, 11, 12, 13, 14, 15, 16] (by decide +kernel) (by decide +kernel)
set_option maxRecDepth 20000 in
theorem gX0_choose_X0_lets : GoodIn wsX0_choose (wsV RX0 29 RX0 yX0_lets wsX0_lets) := goodIn_app (goodIn_of _ (by decide +kernel)) ggX0_choose_X0_lets
theorem dX0_choose_0 : decode cX0_choose 0 = .ok (.iload_n 2, 1) := by decide +kernel
theorem dX0_choose_1 : decode cX0_choose 1 = .ok (.iconst (-1), 1) := by decide +kernel
theorem dX0_choose_2 : decode cX0_choose 2 = .ok (.if_icmp .eq 32, 3) := by decide +kernel
theorem dX0_choose_5 : decode cX0_choose 5 = .ok (.aload_n 0, 1) := by decide +kernel
theorem dX0_choose_6 : decode cX0_choose 6 = .ok (.iload_n 1, 1) := by decide +kernel
theorem dX0_choose_7 : decode cX0_choose 7 = .ok (.iload_n 2, 1) := by decide +kernel
theorem dX0_choose_8 : decode cX0_choose 8 = .ok (.aload_n 0, 1) := by decide +kernel
theorem dX0_choose_9 : decode cX0_choose 9 = .ok (.getfield 9, 3) := by decide +kernel
theorem dX0_choose_12 : decode cX0_choose 12 = .ok (.iload_n 1, 1) := by decide +kernel
theorem dX0_choose_13 : decode cX0_choose 13 = .ok (.iaload, 1) := by decide +kernel
theorem dX0_choose_14 : decode cX0_choose 14 = .ok (.invokestatic 25, 3) := by decide +kernel
theorem dX0_choose_17 : decode cX0_choose 17 = .ok (.invokevirtual 29, 3) := by decide +kernel
theorem dX0_choose_20 : decode cX0_choose 20 = .ok (.ifCond .eq 14, 3) := by decide +kernel
theorem dX0_choose_23 : decode cX0_choose 23 = .ok (.iload_n 2, 1) := by decide +kernel
theorem dX0_choose_24 : decode cX0_choose 24 = .ok (.aload_n 0, 1) := by decide +kernel
theorem dX0_choose_25 : decode cX0_choose 25 = .ok (.getfield 21, 3) := by decide +kernel
theorem dX0_choose_28 : decode cX0_choose 28 = .ok (.iload_n 1, 1) := by decide +kernel
theorem dX0_choose_29 : decode cX0_choose 29 = .ok (.iaload, 1) := by decide +kernel
theorem dX0_choose_30 : decode cX0_choose 30 = .ok (.iand, 1) := by decide +kernel
theorem dX0_choose_31 : decode cX0_choose 31 = .ok (.goto 4, 3) := by decide +kernel
theorem dX0_choose_34 : decode cX0_choose 34 = .ok (.iconst (-1), 1) := by decide +kernel
theorem dX0_choose_35 : decode cX0_choose 35 = .ok (.ireturn, 1) := by decide +kernel
theorem dX0_lets_0 : decode cX0_lets 0 = .ok (.aload_n 0, 1) := by decide +kernel
theorem dX0_lets_1 : decode cX0_lets 1 = .ok (.getfield 15, 3) := by decide +kernel
theorem dX0_lets_4 : decode cX0_lets 4 = .ok (.iload_n 1, 1) := by decide +kernel
theorem dX0_lets_5 : decode cX0_lets 5 = .ok (.iaload, 1) := by decide +kernel
theorem dX0_lets_6 : decode cX0_lets 6 = .ok (.lookupswitch 58 #[(1, 26), (2, 42)], 26) := by decide +kernel
theorem dX0_lets_32 : decode cX0_lets 32 = .ok (.iload_n 2, 1) := by decide +kernel
theorem dX0_lets_33 : decode cX0_lets 33 = .ok (.aload_n 0, 1) := by decide +kernel
theorem dX0_lets_34 : decode cX0_lets 34 = .ok (.getfield 18, 3) := by decide +kernel
theorem dX0_lets_37 : decode cX0_lets 37 = .ok (.iload_n 1, 1) := by decide +kernel
theorem dX0_lets_38 : decode cX0_lets 38 = .ok (.iaload, 1) := by decide +kernel
theorem dX0_lets_39 : decode cX0_lets 39 = .ok (.if_icmp .ge 7, 3) := by decide +kernel
theorem dX0_lets_42 : decode cX0_lets 42 = .ok (.iconst 1, 1) := by decide +kernel
theorem dX0_lets_43 : decode cX0_lets 43 = .ok (.goto 4, 3) := by decide +kernel
theorem dX0_lets_46 : decode cX0_lets 46 = .ok (.iconst 0, 1) := by decide +kernel
theorem dX0_lets_47 : decode cX0_lets 47 = .ok (.ireturn, 1) := by decide +kernel
theorem dX0_lets_48 : decode cX0_lets 48 = .ok (.iload_n 2, 1) := by decide +kernel
theorem dX0_lets_49 : decode cX0_lets 49 = .ok (.aload_n 0, 1) := by decide +kernel
theorem dX0_lets_50 : decode cX0_lets 50 = .ok (.getfield 18, 3) := by decide +kernel
theorem dX0_lets_53 : decode cX0_lets 53 = .ok (.iload_n 1, 1) := by decide +kernel
theorem dX0_lets_54 : decode cX0_lets 54 = .ok (.iaload, 1) := by decide +kernel
theorem dX0_lets_55 : decode cX0_lets 55 = .ok (.if_icmp .lt 7, 3) := by decide +kernel
theorem dX0_lets_58 : decode cX0_lets 58 = .ok (.iconst 1, 1) := by decide +kernel
theorem dX0_lets_59 : decode cX0_lets 59 = .ok (.goto 4, 3) := by decide +kernel
theorem dX0_lets_62 : decode cX0_lets 62 = .ok (.iconst 0, 1) := by decide +kernel
theorem dX0_lets_63 : decode cX0_lets 63 = .ok (.ireturn, 1) := by decide +kernel
theorem dX0_lets_64 : decode cX0_lets 64 = .ok (.iconst 1, 1) := by decide +kernel
theorem dX0_lets_65 : decode cX0_lets 65 = .ok (.ireturn, 1) := by decide +kernel
theorem dX1_init_0 : decode cX1_init 0 = .ok (.aload_n 0, 1) := by decide +kernel
theorem dX1_init_1 : decode cX1_init 1 = .ok (.invokespecial 3, 3) := by decide +kernel
theorem dX1_init_4 : decode cX1_init 4 = .ok (.aload_n 0, 1) := by decide +kernel
theorem dX1_init_5 : decode cX1_init 5 = .ok (.bipush 24, 2) := by decide +kernel
theorem dX1_init_7 : decode cX1_init 7 = .ok (.newarray .int, 2) := by decide +kernel
theorem dX1_init_9 : decode cX1_init 9 = .ok (.putfield 9, 3) := by decide +kernel
theorem dX1_init_12 : decode cX1_init 12 = .ok (.aload_n 0, 1) := by decide +kernel
theorem dX1_init_13 : decode cX1_init 13 = .ok (.iconst 0, 1) := by decide +kernel
theorem dX1_init_14 : decode cX1_init 14 = .ok (.putfield 15, 3) := by decide +kernel
theorem dX1_init_17 : decode cX1_init 17 = .ok (.aload_n 0, 1) := by decide +kernel
theorem dX1_init_18 : decode cX1_init 18 = .ok (.bipush 51, 2) := by decide +kernel
theorem dX1_init_20 : decode cX1_init 20 = .ok (.newarray .int, 2) := by decide +kernel
theorem dX1_init_22 : decode cX1_init 22 = .ok (.putfield 19, 3) := by decide +kernel
theorem dX1_init_25 : decode cX1_init 25 = .ok (.aload_n 0, 1) := by decide +kernel
theorem dX1_init_26 : decode cX1_init 26 = .ok (.sipush 612, 3) := by decide +kernel
theorem dX1_init_29 : decode cX1_init 29 = .ok (.newarray .int, 2) := by decide +kernel
theorem dX1_init_31 : decode cX1_init 31 = .ok (.putfield 22, 3) := by decide +kernel
theorem dX1_init_34 : decode cX1_init 34 = .ok (.aload_n 0, 1) := by decide +kernel
theorem dX1_init_35 : decode cX1_init 35 = .ok (.sipush 612, 3) := by decide +kernel
theorem dX1_init_38 : decode cX1_init 38 = .ok (.newarray .int, 2) := by decide +kernel
theorem dX1_init_40 : decode cX1_init 40 = .ok (.putfield 25, 3) := by decide +kernel
theorem dX1_init_43 : decode cX1_init 43 = .ok (.aload_n 0, 1) := by decide +kernel
theorem dX1_init_44 : decode cX1_init 44 = .ok (.sipush 612, 3) := by decide +kernel
theorem dX1_init_47 : decode cX1_init 47 = .ok (.newarray .int, 2) := by decide +kernel
theorem dX1_init_49 : decode cX1_init 49 = .ok (.putfield 28, 3) := by decide +kernel
theorem dX1_init_52 : decode cX1_init 52 = .ok (.aload_n 0, 1) := by decide +kernel
theorem dX1_init_53 : decode cX1_init 53 = .ok (.sipush 1224, 3) := by decide +kernel
theorem dX1_init_56 : decode cX1_init 56 = .ok (.newarray .int, 2) := by decide +kernel
theorem dX1_init_58 : decode cX1_init 58 = .ok (.putfield 31, 3) := by decide +kernel
theorem dX1_init_61 : decode cX1_init 61 = .ok (.iconst 0, 1) := by decide +kernel
theorem dX1_init_62 : decode cX1_init 62 = .ok (.istore_n 1, 1) := by decide +kernel
theorem dX1_init_63 : decode cX1_init 63 = .ok (.iload_n 1, 1) := by decide +kernel
theorem dX1_init_64 : decode cX1_init 64 = .ok (.bipush 24, 2) := by decide +kernel
theorem dX1_init_66 : decode cX1_init 66 = .ok (.if_icmp .ge 23, 3) := by decide +kernel
theorem dX1_init_69 : decode cX1_init 69 = .ok (.aload_n 0, 1) := by decide +kernel
theorem dX1_init_70 : decode cX1_init 70 = .ok (.getfield 9, 3) := by decide +kernel
theorem dX1_init_73 : decode cX1_init 73 = .ok (.iload_n 1, 1) := by decide +kernel
theorem dX1_init_74 : decode cX1_init 74 = .ok (.iconst (-1), 1) := by decide +kernel
theorem dX1_init_75 : decode cX1_init 75 = .ok (.iastore, 1) := by decide +kernel
theorem dX1_init_76 : decode cX1_init 76 = .ok (.aload_n 0, 1) := by decide +kernel
theorem dX1_init_77 : decode cX1_init 77 = .ok (.getfield 31, 3) := by decide +kernel
theorem dX1_init_80 : decode cX1_init 80 = .ok (.iload_n 1, 1) := by decide +kernel
theorem dX1_init_81 : decode cX1_init 81 = .ok (.iconst (-1), 1) := by decide +kernel
theorem dX1_init_82 : decode cX1_init 82 = .ok (.iastore, 1) := by decide +kernel
theorem dX1_init_83 : decode cX1_init 83 = .ok (.iinc 1 1, 3) := by decide +kernel
theorem dX1_init_86 : decode cX1_init 86 = .ok (.goto (-23), 3) := by decide +kernel
theorem dX1_init_89 : decode cX1_init 89 = .ok (.return_, 1) := by decide +kernel
theorem dX1_openChanges_0 : decode cX1_openChanges 0 = .ok (.aload_n 0, 1) := by decide +kernel
theorem dX1_openChanges_1 : decode cX1_openChanges 1 = .ok (.getfield 19, 3) := by decide +kernel
theorem dX1_openChanges_4 : decode cX1_openChanges 4 = .ok (.aload_n 0, 1) := by decide +kernel
theorem dX1_openChanges_5 : decode cX1_openChanges 5 = .ok (.getfield 15, 3) := by decide +kernel
theorem dX1_openChanges_8 : decode cX1_openChanges 8 = .ok (.iaload, 1) := by decide +kernel
theorem dX1_openChanges_9 : decode cX1_openChanges 9 = .ok (.ireturn, 1) := by decide +kernel
set_option maxRecDepth 20000 in
theorem ggX1_change_X4_placeOf : GoodIn wsX1_change wsX4_placeOf := goodIn_r _ [9] (by decide +kernel) (by decide +kernel)
set_option maxRecDepth 20000 in
theorem gX1_change_X4_placeOf_n34 : GoodIn wsX1_change (wsX4_placeOf) := ggX1_change_X4_placeOf
theorem dX1_change_0 : decode cX1_change 0 = .ok (.aload_n 0, 1) := by decide +kernel
theorem dX1_change_1 : decode cX1_change 1 = .ok (.getfield 15, 3) := by decide +kernel
theorem dX1_change_4 : decode cX1_change 4 = .ok (.bipush 12, 2) := by decide +kernel
theorem dX1_change_6 : decode cX1_change 6 = .ok (.imul, 1) := by decide +kernel
theorem dX1_change_7 : decode cX1_change 7 = .ok (.aload_n 0, 1) := by decide +kernel
theorem dX1_change_8 : decode cX1_change 8 = .ok (.getfield 19, 3) := by decide +kernel
theorem dX1_change_11 : decode cX1_change 11 = .ok (.aload_n 0, 1) := by decide +kernel
theorem dX1_change_12 : decode cX1_change 12 = .ok (.getfield 15, 3) := by decide +kernel
theorem dX1_change_15 : decode cX1_change 15 = .ok (.iaload, 1) := by decide +kernel
theorem dX1_change_16 : decode cX1_change 16 = .ok (.iadd, 1) := by decide +kernel
theorem dX1_change_17 : decode cX1_change 17 = .ok (.istore 4, 2) := by decide +kernel
theorem dX1_change_19 : decode cX1_change 19 = .ok (.aload_n 0, 1) := by decide +kernel
theorem dX1_change_20 : decode cX1_change 20 = .ok (.getfield 22, 3) := by decide +kernel
theorem dX1_change_23 : decode cX1_change 23 = .ok (.iload 4, 2) := by decide +kernel
theorem dX1_change_25 : decode cX1_change 25 = .ok (.iload_n 1, 1) := by decide +kernel
theorem dX1_change_26 : decode cX1_change 26 = .ok (.iastore, 1) := by decide +kernel
theorem dX1_change_27 : decode cX1_change 27 = .ok (.aload_n 0, 1) := by decide +kernel
theorem dX1_change_28 : decode cX1_change 28 = .ok (.getfield 25, 3) := by decide +kernel
theorem dX1_change_31 : decode cX1_change 31 = .ok (.iload 4, 2) := by decide +kernel
theorem dX1_change_33 : decode cX1_change 33 = .ok (.iload_n 2, 1) := by decide +kernel
theorem dX1_change_34 : decode cX1_change 34 = .ok (.iastore, 1) := by decide +kernel
theorem dX1_change_35 : decode cX1_change 35 = .ok (.aload_n 0, 1) := by decide +kernel
theorem dX1_change_36 : decode cX1_change 36 = .ok (.getfield 28, 3) := by decide +kernel
theorem dX1_change_39 : decode cX1_change 39 = .ok (.iload 4, 2) := by decide +kernel
theorem dX1_change_41 : decode cX1_change 41 = .ok (.iload_n 3, 1) := by decide +kernel
theorem dX1_change_42 : decode cX1_change 42 = .ok (.iastore, 1) := by decide +kernel
theorem dX1_change_43 : decode cX1_change 43 = .ok (.aload_n 0, 1) := by decide +kernel
theorem dX1_change_44 : decode cX1_change 44 = .ok (.getfield 19, 3) := by decide +kernel
theorem dX1_change_47 : decode cX1_change 47 = .ok (.aload_n 0, 1) := by decide +kernel
theorem dX1_change_48 : decode cX1_change 48 = .ok (.getfield 15, 3) := by decide +kernel
theorem dX1_change_51 : decode cX1_change 51 = .ok (.dup2, 1) := by decide +kernel
theorem dX1_change_52 : decode cX1_change 52 = .ok (.iaload, 1) := by decide +kernel
theorem dX1_change_53 : decode cX1_change 53 = .ok (.iconst 1, 1) := by decide +kernel
theorem dX1_change_54 : decode cX1_change 54 = .ok (.iadd, 1) := by decide +kernel
theorem dX1_change_55 : decode cX1_change 55 = .ok (.iastore, 1) := by decide +kernel
theorem dX1_change_56 : decode cX1_change 56 = .ok (.iload_n 2, 1) := by decide +kernel
theorem dX1_change_57 : decode cX1_change 57 = .ok (.iconst (-1), 1) := by decide +kernel
theorem dX1_change_58 : decode cX1_change 58 = .ok (.if_icmp .ne 7, 3) := by decide +kernel
theorem dX1_change_61 : decode cX1_change 61 = .ok (.iconst 0, 1) := by decide +kernel
theorem dX1_change_62 : decode cX1_change 62 = .ok (.goto 4, 3) := by decide +kernel
theorem dX1_change_65 : decode cX1_change 65 = .ok (.iload_n 2, 1) := by decide +kernel
theorem dX1_change_66 : decode cX1_change 66 = .ok (.istore 5, 2) := by decide +kernel
theorem dX1_change_68 : decode cX1_change 68 = .ok (.iload_n 2, 1) := by decide +kernel
theorem dX1_change_69 : decode cX1_change 69 = .ok (.iconst (-1), 1) := by decide +kernel
theorem dX1_change_70 : decode cX1_change 70 = .ok (.if_icmp .ne 8, 3) := by decide +kernel
theorem dX1_change_73 : decode cX1_change 73 = .ok (.bipush 12, 2) := by decide +kernel
theorem dX1_change_75 : decode cX1_change 75 = .ok (.goto 6, 3) := by decide +kernel
theorem dX1_change_78 : decode cX1_change 78 = .ok (.iload_n 2, 1) := by decide +kernel
theorem dX1_change_79 : decode cX1_change 79 = .ok (.iconst 1, 1) := by decide +kernel
theorem dX1_change_80 : decode cX1_change 80 = .ok (.iadd, 1) := by decide +kernel
theorem dX1_change_81 : decode cX1_change 81 = .ok (.istore 6, 2) := by decide +kernel
theorem dX1_change_83 : decode cX1_change 83 = .ok (.iload 5, 2) := by decide +kernel
theorem dX1_change_85 : decode cX1_change 85 = .ok (.istore 7, 2) := by decide +kernel
theorem dX1_change_87 : decode cX1_change 87 = .ok (.iload 7, 2) := by decide +kernel
theorem dX1_change_89 : decode cX1_change 89 = .ok (.iload 6, 2) := by decide +kernel
theorem dX1_change_91 : decode cX1_change 91 = .ok (.if_icmp .ge 21, 3) := by decide +kernel
theorem dX1_change_94 : decode cX1_change 94 = .ok (.aload_n 0, 1) := by decide +kernel
theorem dX1_change_95 : decode cX1_change 95 = .ok (.getfield 9, 3) := by decide +kernel
theorem dX1_change_98 : decode cX1_change 98 = .ok (.iload_n 1, 1) := by decide +kernel
theorem dX1_change_99 : decode cX1_change 99 = .ok (.iload 7, 2) := by decide +kernel
theorem dX1_change_101 : decode cX1_change 101 = .ok (.invokestatic 34, 3) := by decide +kernel
theorem dX1_change_104 : decode cX1_change 104 = .ok (.iload_n 3, 1) := by decide +kernel
theorem dX1_change_105 : decode cX1_change 105 = .ok (.iastore, 1) := by decide +kernel
theorem dX1_change_106 : decode cX1_change 106 = .ok (.iinc 7 1, 3) := by decide +kernel
theorem dX1_change_109 : decode cX1_change 109 = .ok (.goto (-22), 3) := by decide +kernel
theorem dX1_change_112 : decode cX1_change 112 = .ok (.return_, 1) := by decide +kernel
theorem dX1_close_0 : decode cX1_close 0 = .ok (.aload_n 0, 1) := by decide +kernel
theorem dX1_close_1 : decode cX1_close 1 = .ok (.dup, 1) := by decide +kernel
theorem dX1_close_2 : decode cX1_close 2 = .ok (.getfield 15, 3) := by decide +kernel
theorem dX1_close_5 : decode cX1_close 5 = .ok (.iconst 1, 1) := by decide +kernel
theorem dX1_close_6 : decode cX1_close 6 = .ok (.iadd, 1) := by decide +kernel
theorem dX1_close_7 : decode cX1_close 7 = .ok (.putfield 15, 3) := by decide +kernel
theorem dX1_close_10 : decode cX1_close 10 = .ok (.aload_n 0, 1) := by decide +kernel
theorem dX1_close_11 : decode cX1_close 11 = .ok (.getfield 9, 3) := by decide +kernel
theorem dX1_close_14 : decode cX1_close 14 = .ok (.iconst 0, 1) := by decide +kernel
theorem dX1_close_15 : decode cX1_close 15 = .ok (.aload_n 0, 1) := by decide +kernel
theorem dX1_close_16 : decode cX1_close 16 = .ok (.getfield 31, 3) := by decide +kernel
theorem dX1_close_19 : decode cX1_close 19 = .ok (.aload_n 0, 1) := by decide +kernel
theorem dX1_close_20 : decode cX1_close 20 = .ok (.getfield 15, 3) := by decide +kernel
theorem dX1_close_23 : decode cX1_close 23 = .ok (.bipush 24, 2) := by decide +kernel
theorem dX1_close_25 : decode cX1_close 25 = .ok (.imul, 1) := by decide +kernel
theorem dX1_close_26 : decode cX1_close 26 = .ok (.bipush 24, 2) := by decide +kernel
theorem dX1_close_28 : decode cX1_close 28 = .ok (.invokestatic 38, 3) := by decide +kernel
theorem dX1_close_31 : decode cX1_close 31 = .ok (.return_, 1) := by decide +kernel
theorem dX1_undo_0 : decode cX1_undo 0 = .ok (.aload_n 0, 1) := by decide +kernel
theorem dX1_undo_1 : decode cX1_undo 1 = .ok (.getfield 19, 3) := by decide +kernel
theorem dX1_undo_4 : decode cX1_undo 4 = .ok (.aload_n 0, 1) := by decide +kernel
theorem dX1_undo_5 : decode cX1_undo 5 = .ok (.getfield 15, 3) := by decide +kernel
theorem dX1_undo_8 : decode cX1_undo 8 = .ok (.iconst 0, 1) := by decide +kernel
theorem dX1_undo_9 : decode cX1_undo 9 = .ok (.iastore, 1) := by decide +kernel
theorem dX1_undo_10 : decode cX1_undo 10 = .ok (.aload_n 0, 1) := by decide +kernel
theorem dX1_undo_11 : decode cX1_undo 11 = .ok (.getfield 31, 3) := by decide +kernel
theorem dX1_undo_14 : decode cX1_undo 14 = .ok (.aload_n 0, 1) := by decide +kernel
theorem dX1_undo_15 : decode cX1_undo 15 = .ok (.getfield 15, 3) := by decide +kernel
theorem dX1_undo_18 : decode cX1_undo 18 = .ok (.bipush 24, 2) := by decide +kernel
theorem dX1_undo_20 : decode cX1_undo 20 = .ok (.imul, 1) := by decide +kernel
theorem dX1_undo_21 : decode cX1_undo 21 = .ok (.aload_n 0, 1) := by decide +kernel
theorem dX1_undo_22 : decode cX1_undo 22 = .ok (.getfield 9, 3) := by decide +kernel
theorem dX1_undo_25 : decode cX1_undo 25 = .ok (.iconst 0, 1) := by decide +kernel
theorem dX1_undo_26 : decode cX1_undo 26 = .ok (.bipush 24, 2) := by decide +kernel
theorem dX1_undo_28 : decode cX1_undo 28 = .ok (.invokestatic 38, 3) := by decide +kernel
theorem dX1_undo_31 : decode cX1_undo 31 = .ok (.return_, 1) := by decide +kernel
theorem dX1_rowAsOf_0 : decode cX1_rowAsOf 0 = .ok (.aload_n 0, 1) := by decide +kernel
theorem dX1_rowAsOf_1 : decode cX1_rowAsOf 1 = .ok (.getfield 31, 3) := by decide +kernel
theorem dX1_rowAsOf_4 : decode cX1_rowAsOf 4 = .ok (.iload_n 1, 1) := by decide +kernel
theorem dX1_rowAsOf_5 : decode cX1_rowAsOf 5 = .ok (.bipush 24, 2) := by decide +kernel
theorem dX1_rowAsOf_7 : decode cX1_rowAsOf 7 = .ok (.imul, 1) := by decide +kernel
theorem dX1_rowAsOf_8 : decode cX1_rowAsOf 8 = .ok (.iload_n 2, 1) := by decide +kernel
theorem dX1_rowAsOf_9 : decode cX1_rowAsOf 9 = .ok (.iadd, 1) := by decide +kernel
theorem dX1_rowAsOf_10 : decode cX1_rowAsOf 10 = .ok (.iaload, 1) := by decide +kernel
theorem dX1_rowAsOf_11 : decode cX1_rowAsOf 11 = .ok (.ireturn, 1) := by decide +kernel
theorem dX2_init_0 : decode cX2_init 0 = .ok (.aload_n 0, 1) := by decide +kernel
theorem dX2_init_1 : decode cX2_init 1 = .ok (.invokespecial 3, 3) := by decide +kernel
theorem dX2_init_4 : decode cX2_init 4 = .ok (.aload_n 0, 1) := by decide +kernel
theorem dX2_init_5 : decode cX2_init 5 = .ok (.bipush 24, 2) := by decide +kernel
theorem dX2_init_7 : decode cX2_init 7 = .ok (.newarray .int, 2) := by decide +kernel
theorem dX2_init_9 : decode cX2_init 9 = .ok (.putfield 9, 3) := by decide +kernel
theorem dX2_init_12 : decode cX2_init 12 = .ok (.aload_n 0, 1) := by decide +kernel
theorem dX2_init_13 : decode cX2_init 13 = .ok (.iconst 2, 1) := by decide +kernel
theorem dX2_init_14 : decode cX2_init 14 = .ok (.newarray .int, 2) := by decide +kernel
theorem dX2_init_16 : decode cX2_init 16 = .ok (.putfield 15, 3) := by decide +kernel
theorem dX2_init_19 : decode cX2_init 19 = .ok (.aload_n 0, 1) := by decide +kernel
theorem dX2_init_20 : decode cX2_init 20 = .ok (.aconst_null, 1) := by decide +kernel
theorem dX2_init_21 : decode cX2_init 21 = .ok (.putfield 18, 3) := by decide +kernel
theorem dX2_init_24 : decode cX2_init 24 = .ok (.aload_n 0, 1) := by decide +kernel
theorem dX2_init_25 : decode cX2_init 25 = .ok (.iconst 0, 1) := by decide +kernel
theorem dX2_init_26 : decode cX2_init 26 = .ok (.putfield 22, 3) := by decide +kernel
theorem dX2_init_29 : decode cX2_init 29 = .ok (.aload_n 0, 1) := by decide +kernel
theorem dX2_init_30 : decode cX2_init 30 = .ok (.iconst 0, 1) := by decide +kernel
theorem dX2_init_31 : decode cX2_init 31 = .ok (.putfield 26, 3) := by decide +kernel
theorem dX2_init_34 : decode cX2_init 34 = .ok (.iconst 0, 1) := by decide +kernel
theorem dX2_init_35 : decode cX2_init 35 = .ok (.istore_n 1, 1) := by decide +kernel
theorem dX2_init_36 : decode cX2_init 36 = .ok (.iload_n 1, 1) := by decide +kernel
theorem dX2_init_37 : decode cX2_init 37 = .ok (.bipush 24, 2) := by decide +kernel
theorem dX2_init_39 : decode cX2_init 39 = .ok (.if_icmp .ge 16, 3) := by decide +kernel
theorem dX2_init_42 : decode cX2_init 42 = .ok (.aload_n 0, 1) := by decide +kernel
theorem dX2_init_43 : decode cX2_init 43 = .ok (.getfield 9, 3) := by decide +kernel
theorem dX2_init_46 : decode cX2_init 46 = .ok (.iload_n 1, 1) := by decide +kernel
theorem dX2_init_47 : decode cX2_init 47 = .ok (.iconst (-1), 1) := by decide +kernel
theorem dX2_init_48 : decode cX2_init 48 = .ok (.iastore, 1) := by decide +kernel
theorem dX2_init_49 : decode cX2_init 49 = .ok (.iinc 1 1, 3) := by decide +kernel
theorem dX2_init_52 : decode cX2_init 52 = .ok (.goto (-16), 3) := by decide +kernel
theorem dX2_init_55 : decode cX2_init 55 = .ok (.iconst 0, 1) := by decide +kernel
theorem dX2_init_56 : decode cX2_init 56 = .ok (.istore_n 1, 1) := by decide +kernel
theorem dX2_init_57 : decode cX2_init 57 = .ok (.iload_n 1, 1) := by decide +kernel
theorem dX2_init_58 : decode cX2_init 58 = .ok (.iconst 2, 1) := by decide +kernel
theorem dX2_init_59 : decode cX2_init 59 = .ok (.if_icmp .ge 16, 3) := by decide +kernel
theorem dX2_init_62 : decode cX2_init 62 = .ok (.aload_n 0, 1) := by decide +kernel
theorem dX2_init_63 : decode cX2_init 63 = .ok (.getfield 15, 3) := by decide +kernel
theorem dX2_init_66 : decode cX2_init 66 = .ok (.iload_n 1, 1) := by decide +kernel
theorem dX2_init_67 : decode cX2_init 67 = .ok (.iconst (-1), 1) := by decide +kernel
theorem dX2_init_68 : decode cX2_init 68 = .ok (.iastore, 1) := by decide +kernel
theorem dX2_init_69 : decode cX2_init 69 = .ok (.iinc 1 1, 3) := by decide +kernel
theorem dX2_init_72 : decode cX2_init 72 = .ok (.goto (-15), 3) := by decide +kernel
theorem dX2_init_75 : decode cX2_init 75 = .ok (.return_, 1) := by decide +kernel
set_option maxRecDepth 20000 in
theorem ggX2_follow_X2_forgetTables : GoodIn wsX2_follow wsX2_forgetTables := goodIn_r _ [8, 9, 10, 11, 12, 13, 14] (by decide +kernel) (by decide +kernel)
set_option maxRecDepth 20000 in
theorem gX2_follow_X2_forgetTables : GoodIn wsX2_follow (wsV RX2 29 RX2 yX2_forgetTables wsX2_forgetTables) := goodIn_app (goodIn_of _ (by decide +kernel)) ggX2_follow_X2_forgetTables
theorem dX2_follow_0 : decode cX2_follow 0 = .ok (.aload_n 0, 1) := by decide +kernel
theorem dX2_follow_1 : decode cX2_follow 1 = .ok (.aload_n 1, 1) := by decide +kernel
theorem dX2_follow_2 : decode cX2_follow 2 = .ok (.putfield 18, 3) := by decide +kernel
theorem dX2_follow_5 : decode cX2_follow 5 = .ok (.aload_n 0, 1) := by decide +kernel
theorem dX2_follow_6 : decode cX2_follow 6 = .ok (.iconst 1, 1) := by decide +kernel
theorem dX2_follow_7 : decode cX2_follow 7 = .ok (.putfield 22, 3) := by decide +kernel
theorem dX2_follow_10 : decode cX2_follow 10 = .ok (.aload_n 0, 1) := by decide +kernel
theorem dX2_follow_11 : decode cX2_follow 11 = .ok (.iload_n 2, 1) := by decide +kernel
theorem dX2_follow_12 : decode cX2_follow 12 = .ok (.putfield 26, 3) := by decide +kernel
theorem dX2_follow_15 : decode cX2_follow 15 = .ok (.aload_n 0, 1) := by decide +kernel
theorem dX2_follow_16 : decode cX2_follow 16 = .ok (.invokevirtual 29, 3) := by decide +kernel
theorem dX2_follow_19 : decode cX2_follow 19 = .ok (.return_, 1) := by decide +kernel
set_option maxRecDepth 20000 in
theorem ggX2_leave_X2_forgetTables : GoodIn wsX2_leave wsX2_forgetTables := goodIn_r _ [7, 8, 9, 10, 11, 12, 13] (by decide +kernel) (by decide +kernel)
set_option maxRecDepth 20000 in
theorem gX2_leave_X2_forgetTables : GoodIn wsX2_leave (wsV RX2 29 RX2 yX2_forgetTables wsX2_forgetTables) := goodIn_app (goodIn_of _ (by decide +kernel)) ggX2_leave_X2_forgetTables
theorem dX2_leave_0 : decode cX2_leave 0 = .ok (.aload_n 0, 1) := by decide +kernel
theorem dX2_leave_1 : decode cX2_leave 1 = .ok (.aconst_null, 1) := by decide +kernel
theorem dX2_leave_2 : decode cX2_leave 2 = .ok (.putfield 18, 3) := by decide +kernel
theorem dX2_leave_5 : decode cX2_leave 5 = .ok (.aload_n 0, 1) := by decide +kernel
theorem dX2_leave_6 : decode cX2_leave 6 = .ok (.iconst 0, 1) := by decide +kernel
theorem dX2_leave_7 : decode cX2_leave 7 = .ok (.putfield 22, 3) := by decide +kernel
theorem dX2_leave_10 : decode cX2_leave 10 = .ok (.aload_n 0, 1) := by decide +kernel
theorem dX2_leave_11 : decode cX2_leave 11 = .ok (.invokevirtual 29, 3) := by decide +kernel
theorem dX2_leave_14 : decode cX2_leave 14 = .ok (.return_, 1) := by decide +kernel
theorem dX2_forgetTables_0 : decode cX2_forgetTables 0 = .ok (.iconst 0, 1) := by decide +kernel
theorem dX2_forgetTables_1 : decode cX2_forgetTables 1 = .ok (.istore_n 1, 1) := by decide +kernel
theorem dX2_forgetTables_2 : decode cX2_forgetTables 2 = .ok (.iload_n 1, 1) := by decide +kernel
theorem dX2_forgetTables_3 : decode cX2_forgetTables 3 = .ok (.iconst 2, 1) := by decide +kernel
theorem dX2_forgetTables_4 : decode cX2_forgetTables 4 = .ok (.if_icmp .ge 16, 3) := by decide +kernel
theorem dX2_forgetTables_7 : decode cX2_forgetTables 7 = .ok (.aload_n 0, 1) := by decide +kernel
theorem dX2_forgetTables_8 : decode cX2_forgetTables 8 = .ok (.getfield 15, 3) := by decide +kernel
theorem dX2_forgetTables_11 : decode cX2_forgetTables 11 = .ok (.iload_n 1, 1) := by decide +kernel
theorem dX2_forgetTables_12 : decode cX2_forgetTables 12 = .ok (.iconst (-1), 1) := by decide +kernel
theorem dX2_forgetTables_13 : decode cX2_forgetTables 13 = .ok (.iastore, 1) := by decide +kernel
theorem dX2_forgetTables_14 : decode cX2_forgetTables 14 = .ok (.iinc 1 1, 3) := by decide +kernel
theorem dX2_forgetTables_17 : decode cX2_forgetTables 17 = .ok (.goto (-15), 3) := by decide +kernel
theorem dX2_forgetTables_20 : decode cX2_forgetTables 20 = .ok (.return_, 1) := by decide +kernel
theorem dX2_holdsLog_0 : decode cX2_holdsLog 0 = .ok (.aload_n 0, 1) := by decide +kernel
theorem dX2_holdsLog_1 : decode cX2_holdsLog 1 = .ok (.getfield 22, 3) := by decide +kernel
theorem dX2_holdsLog_4 : decode cX2_holdsLog 4 = .ok (.iconst 1, 1) := by decide +kernel
theorem dX2_holdsLog_5 : decode cX2_holdsLog 5 = .ok (.if_icmp .eq 11, 3) := by decide +kernel
theorem dX2_holdsLog_8 : decode cX2_holdsLog 8 = .ok (.aload_n 0, 1) := by decide +kernel
theorem dX2_holdsLog_9 : decode cX2_holdsLog 9 = .ok (.getfield 22, 3) := by decide +kernel
theorem dX2_holdsLog_12 : decode cX2_holdsLog 12 = .ok (.iconst 2, 1) := by decide +kernel
theorem dX2_holdsLog_13 : decode cX2_holdsLog 13 = .ok (.if_icmp .ne 7, 3) := by decide +kernel
theorem dX2_holdsLog_16 : decode cX2_holdsLog 16 = .ok (.iconst 1, 1) := by decide +kernel
theorem dX2_holdsLog_17 : decode cX2_holdsLog 17 = .ok (.goto 4, 3) := by decide +kernel
theorem dX2_holdsLog_20 : decode cX2_holdsLog 20 = .ok (.iconst 0, 1) := by decide +kernel
theorem dX2_holdsLog_21 : decode cX2_holdsLog 21 = .ok (.ireturn, 1) := by decide +kernel
set_option maxRecDepth 20000 in
theorem ggX2_commitsBehind_X2_holdsLog : GoodIn wsX2_commitsBehind wsX2_holdsLog := goodIn_r _ [6, 7, 8, 9, 10, 11, 12] (by decide +kernel) (by decide +kernel)
set_option maxRecDepth 20000 in
theorem gX2_commitsBehind_X2_holdsLog : GoodIn wsX2_commitsBehind (wsV RX2 32 RX2 yX2_holdsLog wsX2_holdsLog) := goodIn_app (goodIn_of _ (by decide +kernel)) ggX2_commitsBehind_X2_holdsLog
theorem dX2_commitsBehind_0 : decode cX2_commitsBehind 0 = .ok (.aload_n 0, 1) := by decide +kernel
theorem dX2_commitsBehind_1 : decode cX2_commitsBehind 1 = .ok (.invokevirtual 32, 3) := by decide +kernel
theorem dX2_commitsBehind_4 : decode cX2_commitsBehind 4 = .ok (.ifCond .eq 12, 3) := by decide +kernel
theorem dX2_commitsBehind_7 : decode cX2_commitsBehind 7 = .ok (.iload_n 1, 1) := by decide +kernel
theorem dX2_commitsBehind_8 : decode cX2_commitsBehind 8 = .ok (.aload_n 0, 1) := by decide +kernel
theorem dX2_commitsBehind_9 : decode cX2_commitsBehind 9 = .ok (.getfield 26, 3) := by decide +kernel
theorem dX2_commitsBehind_12 : decode cX2_commitsBehind 12 = .ok (.isub, 1) := by decide +kernel
theorem dX2_commitsBehind_13 : decode cX2_commitsBehind 13 = .ok (.goto 4, 3) := by decide +kernel
theorem dX2_commitsBehind_16 : decode cX2_commitsBehind 16 = .ok (.iconst 0, 1) := by decide +kernel
theorem dX2_commitsBehind_17 : decode cX2_commitsBehind 17 = .ok (.ireturn, 1) := by decide +kernel
theorem dX2_takesChangesOf_0 : decode cX2_takesChangesOf 0 = .ok (.aload_n 0, 1) := by decide +kernel
theorem dX2_takesChangesOf_1 : decode cX2_takesChangesOf 1 = .ok (.getfield 15, 3) := by decide +kernel
theorem dX2_takesChangesOf_4 : decode cX2_takesChangesOf 4 = .ok (.iload_n 1, 1) := by decide +kernel
theorem dX2_takesChangesOf_5 : decode cX2_takesChangesOf 5 = .ok (.iaload, 1) := by decide +kernel
theorem dX2_takesChangesOf_6 : decode cX2_takesChangesOf 6 = .ok (.iconst (-1), 1) := by decide +kernel
theorem dX2_takesChangesOf_7 : decode cX2_takesChangesOf 7 = .ok (.if_icmp .eq 17, 3) := by decide +kernel
theorem dX2_takesChangesOf_10 : decode cX2_takesChangesOf 10 = .ok (.aload_n 0, 1) := by decide +kernel
theorem dX2_takesChangesOf_11 : decode cX2_takesChangesOf 11 = .ok (.getfield 15, 3) := by decide +kernel
theorem dX2_takesChangesOf_14 : decode cX2_takesChangesOf 14 = .ok (.iload_n 1, 1) := by decide +kernel
theorem dX2_takesChangesOf_15 : decode cX2_takesChangesOf 15 = .ok (.iaload, 1) := by decide +kernel
theorem dX2_takesChangesOf_16 : decode cX2_takesChangesOf 16 = .ok (.iload_n 2, 1) := by decide +kernel
theorem dX2_takesChangesOf_17 : decode cX2_takesChangesOf 17 = .ok (.if_icmp .ge 7, 3) := by decide +kernel
theorem dX2_takesChangesOf_20 : decode cX2_takesChangesOf 20 = .ok (.iconst 1, 1) := by decide +kernel
theorem dX2_takesChangesOf_21 : decode cX2_takesChangesOf 21 = .ok (.goto 4, 3) := by decide +kernel
theorem dX2_takesChangesOf_24 : decode cX2_takesChangesOf 24 = .ok (.iconst 0, 1) := by decide +kernel
theorem dX2_takesChangesOf_25 : decode cX2_takesChangesOf 25 = .ok (.ireturn, 1) := by decide +kernel
theorem dX2_accept_0 : decode cX2_accept 0 = .ok (.aload_n 1, 1) := by decide +kernel
theorem dX2_accept_1 : decode cX2_accept 1 = .ok (.iconst 0, 1) := by decide +kernel
theorem dX2_accept_2 : decode cX2_accept 2 = .ok (.aload_n 0, 1) := by decide +kernel
theorem dX2_accept_3 : decode cX2_accept 3 = .ok (.getfield 9, 3) := by decide +kernel
theorem dX2_accept_6 : decode cX2_accept 6 = .ok (.iconst 0, 1) := by decide +kernel
theorem dX2_accept_7 : decode cX2_accept 7 = .ok (.bipush 24, 2) := by decide +kernel
theorem dX2_accept_9 : decode cX2_accept 9 = .ok (.invokestatic 36, 3) := by decide +kernel
theorem dX2_accept_12 : decode cX2_accept 12 = .ok (.aload_n 0, 1) := by decide +kernel
theorem dX2_accept_13 : decode cX2_accept 13 = .ok (.dup, 1) := by decide +kernel
theorem dX2_accept_14 : decode cX2_accept 14 = .ok (.getfield 26, 3) := by decide +kernel
theorem dX2_accept_17 : decode cX2_accept 17 = .ok (.iconst 1, 1) := by decide +kernel
theorem dX2_accept_18 : decode cX2_accept 18 = .ok (.iadd, 1) := by decide +kernel
theorem dX2_accept_19 : decode cX2_accept 19 = .ok (.putfield 26, 3) := by decide +kernel
theorem dX2_accept_22 : decode cX2_accept 22 = .ok (.return_, 1) := by decide +kernel
theorem dX3_init_0 : decode cX3_init 0 = .ok (.aload_n 0, 1) := by decide +kernel
theorem dX3_init_1 : decode cX3_init 1 = .ok (.invokespecial 3, 3) := by decide +kernel
theorem dX3_init_4 : decode cX3_init 4 = .ok (.aload_n 0, 1) := by decide +kernel
theorem dX3_init_5 : decode cX3_init 5 = .ok (.bipush 24, 2) := by decide +kernel
theorem dX3_init_7 : decode cX3_init 7 = .ok (.newarray .int, 2) := by decide +kernel
theorem dX3_init_9 : decode cX3_init 9 = .ok (.putfield 9, 3) := by decide +kernel
theorem dX3_init_12 : decode cX3_init 12 = .ok (.aload_n 0, 1) := by decide +kernel
theorem dX3_init_13 : decode cX3_init 13 = .ok (.bipush 24, 2) := by decide +kernel
theorem dX3_init_15 : decode cX3_init 15 = .ok (.newarray .int, 2) := by decide +kernel
theorem dX3_init_17 : decode cX3_init 17 = .ok (.putfield 15, 3) := by decide +kernel
theorem dX3_init_20 : decode cX3_init 20 = .ok (.return_, 1) := by decide +kernel
set_option maxRecDepth 20000 in
theorem ggX3_applies_X2_takesChangesOf : GoodIn wsX3_applies wsX2_takesChangesOf := goodIn_r _ [11, 12, 40, 41, 42, 43, 44] (by decide +kernel) (by decide +kernel)
set_option maxRecDepth 20000 in
theorem gX3_applies_X2_takesChangesOf : GoodIn wsX3_applies (wsV RX3 45 RX2 yX2_takesChangesOf wsX2_takesChangesOf) := goodIn_app (goodIn_of _ (by decide +kernel)) ggX3_applies_X2_takesChangesOf
set_option maxRecDepth 20000 in
theorem ggX3_applies_X3_takeAll : GoodIn wsX3_applies wsX3_takeAll := goodIn_r _ [17, 18, 19, 20, 16, 21, 1, 6, 22, 23, 24, 25, 26, 27, 28, 29, 30, 31, 32, 33, 34, 35, 36, 37, 38, 39, 52, 53, 54, 55, 56, 57] (by decide +kernel) (by decide +kernel)
set_option maxRecDepth 20000 in
theorem gX3_applies_X3_takeAll : GoodIn wsX3_applies (wsV RX3 49 RX3 yX3_takeAll wsX3_takeAll) := goodIn_app (goodIn_of _ (by decide +kernel)) ggX3_applies_X3_takeAll
set_option maxRecDepth 20000 in
theorem ggX3_applies_X3_follows : GoodIn wsX3_applies wsX3_follows := goodIn_r _ [21, 1, 6, 22, 23, 24, 25, 26, 27, 28, 29, 30, 31, 32, 33, 34, 35, 36, 37, 38, 39, 52, 53, 54, 55, 56, 57] (by decide +kernel) (by decide +kernel)
set_option maxRecDepth 20000 in
theorem gX3_applies_X3_follows : GoodIn wsX3_applies (wsV RX3 56 RX3 yX3_follows wsX3_follows) := goodIn_app (goodIn_of _ (by decide +kernel)) ggX3_applies_X3_follows
theorem dX3_applies_0 : decode cX3_applies 0 = .ok (.aload_n 3, 1) := by decide +kernel
theorem dX3_applies_1 : decode cX3_applies 1 = .ok (.getfield 18, 3) := by decide +kernel
theorem dX3_applies_4 : decode cX3_applies 4 = .ok (.istore 4, 2) := by decide +kernel
theorem dX3_applies_6 : decode cX3_applies 6 = .ok (.aload_n 1, 1) := by decide +kernel
theorem dX3_applies_7 : decode cX3_applies 7 = .ok (.getfield 24, 3) := by decide +kernel
theorem dX3_applies_10 : decode cX3_applies 10 = .ok (.iload 4, 2) := by decide +kernel
theorem dX3_applies_12 : decode cX3_applies 12 = .ok (.bipush 24, 2) := by decide +kernel
theorem dX3_applies_14 : decode cX3_applies 14 = .ok (.imul, 1) := by decide +kernel
theorem dX3_applies_15 : decode cX3_applies 15 = .ok (.aload_n 0, 1) := by decide +kernel
theorem dX3_applies_16 : decode cX3_applies 16 = .ok (.getfield 9, 3) := by decide +kernel
theorem dX3_applies_19 : decode cX3_applies 19 = .ok (.iconst 0, 1) := by decide +kernel
theorem dX3_applies_20 : decode cX3_applies 20 = .ok (.bipush 24, 2) := by decide +kernel
theorem dX3_applies_22 : decode cX3_applies 22 = .ok (.invokestatic 29, 3) := by decide +kernel
theorem dX3_applies_25 : decode cX3_applies 25 = .ok (.aload_n 3, 1) := by decide +kernel
theorem dX3_applies_26 : decode cX3_applies 26 = .ok (.getfield 35, 3) := by decide +kernel
theorem dX3_applies_29 : decode cX3_applies 29 = .ok (.iconst 0, 1) := by decide +kernel
theorem dX3_applies_30 : decode cX3_applies 30 = .ok (.aload_n 0, 1) := by decide +kernel
theorem dX3_applies_31 : decode cX3_applies 31 = .ok (.getfield 15, 3) := by decide +kernel
theorem dX3_applies_34 : decode cX3_applies 34 = .ok (.iconst 0, 1) := by decide +kernel
theorem dX3_applies_35 : decode cX3_applies 35 = .ok (.bipush 24, 2) := by decide +kernel
theorem dX3_applies_37 : decode cX3_applies 37 = .ok (.invokestatic 29, 3) := by decide +kernel
theorem dX3_applies_40 : decode cX3_applies 40 = .ok (.iconst 0, 1) := by decide +kernel
theorem dX3_applies_41 : decode cX3_applies 41 = .ok (.istore 5, 2) := by decide +kernel
theorem dX3_applies_43 : decode cX3_applies 43 = .ok (.iload 5, 2) := by decide +kernel
theorem dX3_applies_45 : decode cX3_applies 45 = .ok (.aload_n 1, 1) := by decide +kernel
theorem dX3_applies_46 : decode cX3_applies 46 = .ok (.getfield 36, 3) := by decide +kernel
theorem dX3_applies_49 : decode cX3_applies 49 = .ok (.iload 4, 2) := by decide +kernel
theorem dX3_applies_51 : decode cX3_applies 51 = .ok (.iaload, 1) := by decide +kernel
theorem dX3_applies_52 : decode cX3_applies 52 = .ok (.if_icmp .ge 90, 3) := by decide +kernel
theorem dX3_applies_55 : decode cX3_applies 55 = .ok (.iload 4, 2) := by decide +kernel
theorem dX3_applies_57 : decode cX3_applies 57 = .ok (.bipush 12, 2) := by decide +kernel
theorem dX3_applies_59 : decode cX3_applies 59 = .ok (.imul, 1) := by decide +kernel
theorem dX3_applies_60 : decode cX3_applies 60 = .ok (.iload 5, 2) := by decide +kernel
theorem dX3_applies_62 : decode cX3_applies 62 = .ok (.iadd, 1) := by decide +kernel
theorem dX3_applies_63 : decode cX3_applies 63 = .ok (.istore 6, 2) := by decide +kernel
theorem dX3_applies_65 : decode cX3_applies 65 = .ok (.aload_n 1, 1) := by decide +kernel
theorem dX3_applies_66 : decode cX3_applies 66 = .ok (.getfield 39, 3) := by decide +kernel
theorem dX3_applies_69 : decode cX3_applies 69 = .ok (.iload 6, 2) := by decide +kernel
theorem dX3_applies_71 : decode cX3_applies 71 = .ok (.iaload, 1) := by decide +kernel
theorem dX3_applies_72 : decode cX3_applies 72 = .ok (.istore 7, 2) := by decide +kernel
theorem dX3_applies_74 : decode cX3_applies 74 = .ok (.aload_n 1, 1) := by decide +kernel
theorem dX3_applies_75 : decode cX3_applies 75 = .ok (.getfield 42, 3) := by decide +kernel
theorem dX3_applies_78 : decode cX3_applies 78 = .ok (.iload 6, 2) := by decide +kernel
theorem dX3_applies_80 : decode cX3_applies 80 = .ok (.iaload, 1) := by decide +kernel
theorem dX3_applies_81 : decode cX3_applies 81 = .ok (.istore 8, 2) := by decide +kernel
theorem dX3_applies_83 : decode cX3_applies 83 = .ok (.aload_n 3, 1) := by decide +kernel
theorem dX3_applies_84 : decode cX3_applies 84 = .ok (.iload 7, 2) := by decide +kernel
theorem dX3_applies_86 : decode cX3_applies 86 = .ok (.iload 4, 2) := by decide +kernel
theorem dX3_applies_88 : decode cX3_applies 88 = .ok (.iconst 1, 1) := by decide +kernel
theorem dX3_applies_89 : decode cX3_applies 89 = .ok (.iadd, 1) := by decide +kernel
theorem dX3_applies_90 : decode cX3_applies 90 = .ok (.invokevirtual 45, 3) := by decide +kernel
theorem dX3_applies_93 : decode cX3_applies 93 = .ok (.ifCond .ne 6, 3) := by decide +kernel
theorem dX3_applies_96 : decode cX3_applies 96 = .ok (.goto 40, 3) := by decide +kernel
theorem dX3_applies_99 : decode cX3_applies 99 = .ok (.iload 8, 2) := by decide +kernel
theorem dX3_applies_101 : decode cX3_applies 101 = .ok (.iconst (-1), 1) := by decide +kernel
theorem dX3_applies_102 : decode cX3_applies 102 = .ok (.if_icmp .ne 13, 3) := by decide +kernel
theorem dX3_applies_105 : decode cX3_applies 105 = .ok (.aload_n 0, 1) := by decide +kernel
theorem dX3_applies_106 : decode cX3_applies 106 = .ok (.aload_n 2, 1) := by decide +kernel
theorem dX3_applies_107 : decode cX3_applies 107 = .ok (.iload 7, 2) := by decide +kernel
theorem dX3_applies_109 : decode cX3_applies 109 = .ok (.invokevirtual 49, 3) := by decide +kernel
theorem dX3_applies_112 : decode cX3_applies 112 = .ok (.goto 24, 3) := by decide +kernel
theorem dX3_applies_115 : decode cX3_applies 115 = .ok (.aload_n 0, 1) := by decide +kernel
theorem dX3_applies_116 : decode cX3_applies 116 = .ok (.aload_n 2, 1) := by decide +kernel
theorem dX3_applies_117 : decode cX3_applies 117 = .ok (.iload 7, 2) := by decide +kernel
theorem dX3_applies_119 : decode cX3_applies 119 = .ok (.iload 8, 2) := by decide +kernel
theorem dX3_applies_121 : decode cX3_applies 121 = .ok (.aload_n 1, 1) := by decide +kernel
theorem dX3_applies_122 : decode cX3_applies 122 = .ok (.getfield 53, 3) := by decide +kernel
theorem dX3_applies_125 : decode cX3_applies 125 = .ok (.iload 6, 2) := by decide +kernel
theorem dX3_applies_127 : decode cX3_applies 127 = .ok (.iaload, 1) := by decide +kernel
theorem dX3_applies_128 : decode cX3_applies 128 = .ok (.invokevirtual 56, 3) := by decide +kernel
theorem dX3_applies_131 : decode cX3_applies 131 = .ok (.ifCond .ne 5, 3) := by decide +kernel
theorem dX3_applies_134 : decode cX3_applies 134 = .ok (.iconst 0, 1) := by decide +kernel
theorem dX3_applies_135 : decode cX3_applies 135 = .ok (.ireturn, 1) := by decide +kernel
theorem dX3_applies_136 : decode cX3_applies 136 = .ok (.iinc 5 1, 3) := by decide +kernel
theorem dX3_applies_139 : decode cX3_applies 139 = .ok (.goto (-96), 3) := by decide +kernel
theorem dX3_applies_142 : decode cX3_applies 142 = .ok (.iconst 1, 1) := by decide +kernel
theorem dX3_applies_143 : decode cX3_applies 143 = .ok (.ireturn, 1) := by decide +kernel
set_option maxRecDepth 20000 in
theorem ggX3_takeAll_X3_follows : GoodIn wsX3_takeAll wsX3_follows := goodIn_r _ [5, 6, 7, 8, 9, 10, 11, 12, 13, 14, 15, 16, 17, 18, 19, 20, 21, 22, 23, 24, 25, 26, 27, 28, 29, 30, 31] (by decide +kernel) (by decide +kernel)
set_option maxRecDepth 20000 in
theorem gX3_takeAll_X3_follows : GoodIn wsX3_takeAll (wsV RX3 56 RX3 yX3_follows wsX3_follows) := goodIn_app (goodIn_of _ (by decide +kernel)) ggX3_takeAll_X3_follows
theorem dX3_takeAll_0 : decode cX3_takeAll 0 = .ok (.iconst 0, 1) := by decide +kernel
theorem dX3_takeAll_1 : decode cX3_takeAll 1 = .ok (.istore_n 3, 1) := by decide +kernel
theorem dX3_takeAll_2 : decode cX3_takeAll 2 = .ok (.iload_n 3, 1) := by decide +kernel
theorem dX3_takeAll_3 : decode cX3_takeAll 3 = .ok (.bipush 12, 2) := by decide +kernel
theorem dX3_takeAll_5 : decode cX3_takeAll 5 = .ok (.if_icmp .ge 18, 3) := by decide +kernel
theorem dX3_takeAll_8 : decode cX3_takeAll 8 = .ok (.aload_n 0, 1) := by decide +kernel
theorem dX3_takeAll_9 : decode cX3_takeAll 9 = .ok (.aload_n 1, 1) := by decide +kernel
theorem dX3_takeAll_10 : decode cX3_takeAll 10 = .ok (.iload_n 2, 1) := by decide +kernel
theorem dX3_takeAll_11 : decode cX3_takeAll 11 = .ok (.iload_n 3, 1) := by decide +kernel
theorem dX3_takeAll_12 : decode cX3_takeAll 12 = .ok (.iconst (-1), 1) := by decide +kernel
theorem dX3_takeAll_13 : decode cX3_takeAll 13 = .ok (.invokevirtual 56, 3) := by decide +kernel
theorem dX3_takeAll_16 : decode cX3_takeAll 16 = .ok (.pop, 1) := by decide +kernel
theorem dX3_takeAll_17 : decode cX3_takeAll 17 = .ok (.iinc 3 1, 3) := by decide +kernel
theorem dX3_takeAll_20 : decode cX3_takeAll 20 = .ok (.goto (-18), 3) := by decide +kernel
theorem dX3_takeAll_23 : decode cX3_takeAll 23 = .ok (.return_, 1) := by decide +kernel
set_option maxRecDepth 20000 in
theorem ggX3_follows_X4_placeOf : GoodIn wsX3_follows wsX4_placeOf := goodIn_r _ [5] (by decide +kernel) (by decide +kernel)
set_option maxRecDepth 20000 in
theorem gX3_follows_X4_placeOf_n60 : GoodIn wsX3_follows (wsX4_placeOf) := ggX3_follows_X4_placeOf
set_option maxRecDepth 20000 in
theorem ggX3_follows_X0_choose : GoodIn wsX3_follows wsX0_choose := goodIn_r _ [10, 11, 12, 13, 4, 14, 15, 16, 17, 9, 18, 19, 20, 23, 24, 25, 26] (by decide +kernel) (by decide +kernel)
set_option maxRecDepth 20000 in
theorem gX3_follows_X0_choose : GoodIn wsX3_follows (wsV RX3 64 RX0 yX0_choose wsX0_choose) := goodIn_app (goodIn_of _ (by decide +kernel)) ggX3_follows_X0_choose
theorem dX3_follows_0 : decode cX3_follows 0 = .ok (.iload_n 2, 1) := by decide +kernel
theorem dX3_follows_1 : decode cX3_follows 1 = .ok (.iload_n 3, 1) := by decide +kernel
theorem dX3_follows_2 : decode cX3_follows 2 = .ok (.invokestatic 60, 3) := by decide +kernel
theorem dX3_follows_5 : decode cX3_follows 5 = .ok (.istore 5, 2) := by decide +kernel
theorem dX3_follows_7 : decode cX3_follows 7 = .ok (.aload_n 1, 1) := by decide +kernel
theorem dX3_follows_8 : decode cX3_follows 8 = .ok (.iload_n 2, 1) := by decide +kernel
theorem dX3_follows_9 : decode cX3_follows 9 = .ok (.aload_n 0, 1) := by decide +kernel
theorem dX3_follows_10 : decode cX3_follows 10 = .ok (.getfield 9, 3) := by decide +kernel
theorem dX3_follows_13 : decode cX3_follows 13 = .ok (.iload 5, 2) := by decide +kernel
theorem dX3_follows_15 : decode cX3_follows 15 = .ok (.iaload, 1) := by decide +kernel
theorem dX3_follows_16 : decode cX3_follows 16 = .ok (.invokevirtual 64, 3) := by decide +kernel
theorem dX3_follows_19 : decode cX3_follows 19 = .ok (.istore 6, 2) := by decide +kernel
theorem dX3_follows_21 : decode cX3_follows 21 = .ok (.aload_n 1, 1) := by decide +kernel
theorem dX3_follows_22 : decode cX3_follows 22 = .ok (.iload_n 2, 1) := by decide +kernel
theorem dX3_follows_23 : decode cX3_follows 23 = .ok (.iload 4, 2) := by decide +kernel
theorem dX3_follows_25 : decode cX3_follows 25 = .ok (.invokevirtual 64, 3) := by decide +kernel
theorem dX3_follows_28 : decode cX3_follows 28 = .ok (.istore 7, 2) := by decide +kernel
theorem dX3_follows_30 : decode cX3_follows 30 = .ok (.iload 6, 2) := by decide +kernel
theorem dX3_follows_32 : decode cX3_follows 32 = .ok (.iconst (-1), 1) := by decide +kernel
theorem dX3_follows_33 : decode cX3_follows 33 = .ok (.if_icmp .ne 13, 3) := by decide +kernel
theorem dX3_follows_36 : decode cX3_follows 36 = .ok (.iload 7, 2) := by decide +kernel
theorem dX3_follows_38 : decode cX3_follows 38 = .ok (.iconst (-1), 1) := by decide +kernel
theorem dX3_follows_39 : decode cX3_follows 39 = .ok (.if_icmp .eq 7, 3) := by decide +kernel
theorem dX3_follows_42 : decode cX3_follows 42 = .ok (.iconst 1, 1) := by decide +kernel
theorem dX3_follows_43 : decode cX3_follows 43 = .ok (.goto 4, 3) := by decide +kernel
theorem dX3_follows_46 : decode cX3_follows 46 = .ok (.iconst 0, 1) := by decide +kernel
theorem dX3_follows_47 : decode cX3_follows 47 = .ok (.istore 8, 2) := by decide +kernel
theorem dX3_follows_49 : decode cX3_follows 49 = .ok (.iload 8, 2) := by decide +kernel
theorem dX3_follows_51 : decode cX3_follows 51 = .ok (.ifCond .eq 16, 3) := by decide +kernel
theorem dX3_follows_54 : decode cX3_follows 54 = .ok (.aload_n 0, 1) := by decide +kernel
theorem dX3_follows_55 : decode cX3_follows 55 = .ok (.getfield 15, 3) := by decide +kernel
theorem dX3_follows_58 : decode cX3_follows 58 = .ok (.iload 5, 2) := by decide +kernel
theorem dX3_follows_60 : decode cX3_follows 60 = .ok (.iaload, 1) := by decide +kernel
theorem dX3_follows_61 : decode cX3_follows 61 = .ok (.iconst (-1), 1) := by decide +kernel
theorem dX3_follows_62 : decode cX3_follows 62 = .ok (.if_icmp .eq 5, 3) := by decide +kernel
theorem dX3_follows_65 : decode cX3_follows 65 = .ok (.iconst 0, 1) := by decide +kernel
theorem dX3_follows_66 : decode cX3_follows 66 = .ok (.ireturn, 1) := by decide +kernel
theorem dX3_follows_67 : decode cX3_follows 67 = .ok (.iload 8, 2) := by decide +kernel
theorem dX3_follows_69 : decode cX3_follows 69 = .ok (.ifCond .ne 9, 3) := by decide +kernel
theorem dX3_follows_72 : decode cX3_follows 72 = .ok (.iload 6, 2) := by decide +kernel
theorem dX3_follows_74 : decode cX3_follows 74 = .ok (.iconst (-1), 1) := by decide +kernel
theorem dX3_follows_75 : decode cX3_follows 75 = .ok (.if_icmp .eq 12, 3) := by decide +kernel
theorem dX3_follows_78 : decode cX3_follows 78 = .ok (.aload_n 0, 1) := by decide +kernel
theorem dX3_follows_79 : decode cX3_follows 79 = .ok (.getfield 15, 3) := by decide +kernel
theorem dX3_follows_82 : decode cX3_follows 82 = .ok (.iload 5, 2) := by decide +kernel
theorem dX3_follows_84 : decode cX3_follows 84 = .ok (.iload 7, 2) := by decide +kernel
theorem dX3_follows_86 : decode cX3_follows 86 = .ok (.iastore, 1) := by decide +kernel
theorem dX3_follows_87 : decode cX3_follows 87 = .ok (.aload_n 0, 1) := by decide +kernel
theorem dX3_follows_88 : decode cX3_follows 88 = .ok (.getfield 9, 3) := by decide +kernel
theorem dX3_follows_91 : decode cX3_follows 91 = .ok (.iload 5, 2) := by decide +kernel
theorem dX3_follows_93 : decode cX3_follows 93 = .ok (.iload 4, 2) := by decide +kernel
theorem dX3_follows_95 : decode cX3_follows 95 = .ok (.iastore, 1) := by decide +kernel
theorem dX3_follows_96 : decode cX3_follows 96 = .ok (.iconst 1, 1) := by decide +kernel
theorem dX3_follows_97 : decode cX3_follows 97 = .ok (.ireturn, 1) := by decide +kernel
set_option maxRecDepth 20000 in
theorem ggX4_init_X1_init : GoodIn wsX4_init wsX1_init := goodIn_r _ [23, 24, 2, 3, 25, 26, 27, 28, 29, 30, 31, 32, 56, 57, 58, 59, 60, 61, 62] (by decide +kernel) (by decide +kernel)
set_option maxRecDepth 20000 in
theorem gX4_init_X1_init : GoodIn wsX4_init (wsX1_init) := ggX4_init_X1_init
set_option maxRecDepth 20000 in
theorem ggX4_init_X3_init : GoodIn wsX4_init wsX3_init := goodIn_r _ [34, 35, 2, 3, 25, 36, 37, 68, 69] (by decide +kernel) (by decide +kernel)
set_option maxRecDepth 20000 in
theorem gX4_init_X3_init_n30 : GoodIn wsX4_init (wsX3_init) := ggX4_init_X3_init
set_option maxRecDepth 20000 in
theorem ggX4_init_X0_init : GoodIn wsX4_init wsX0_init := goodIn_r _ [40, 41, 2, 3, 25, 42, 43, 44, 45, 46, 70, 71, 72, 73] (by decide +kernel) (by decide +kernel)
set_option maxRecDepth 20000 in
theorem gX4_init_X0_init : GoodIn wsX4_init (wsX0_init) := ggX4_init_X0_init
set_option maxRecDepth 20000 in
theorem ggX4_init_X2_init : GoodIn wsX4_init wsX2_init := goodIn_r _ [49, 50, 2, 3, 25, 51, 52, 53, 54, 55, 74, 75, 76, 77, 78] (by decide +kernel) (by decide +kernel)
set_option maxRecDepth 20000 in
theorem gX4_init_X2_init : GoodIn wsX4_init (wsX2_init) := ggX4_init_X2_init
theorem dX4_init_0 : decode cX4_init 0 = .ok (.aload_n 0, 1) := by decide +kernel
theorem dX4_init_1 : decode cX4_init 1 = .ok (.invokespecial 3, 3) := by decide +kernel
theorem dX4_init_4 : decode cX4_init 4 = .ok (.aload_n 0, 1) := by decide +kernel
theorem dX4_init_5 : decode cX4_init 5 = .ok (.new 9, 3) := by decide +kernel
theorem dX4_init_8 : decode cX4_init 8 = .ok (.dup, 1) := by decide +kernel
theorem dX4_init_9 : decode cX4_init 9 = .ok (.invokespecial 11, 3) := by decide +kernel
theorem dX4_init_12 : decode cX4_init 12 = .ok (.putfield 12, 3) := by decide +kernel
theorem dX4_init_15 : decode cX4_init 15 = .ok (.aload_n 0, 1) := by decide +kernel
theorem dX4_init_16 : decode cX4_init 16 = .ok (.iconst 3, 1) := by decide +kernel
theorem dX4_init_17 : decode cX4_init 17 = .ok (.anewarray 16, 3) := by decide +kernel
theorem dX4_init_20 : decode cX4_init 20 = .ok (.putfield 18, 3) := by decide +kernel
theorem dX4_init_23 : decode cX4_init 23 = .ok (.aload_n 0, 1) := by decide +kernel
theorem dX4_init_24 : decode cX4_init 24 = .ok (.iconst 3, 1) := by decide +kernel
theorem dX4_init_25 : decode cX4_init 25 = .ok (.anewarray 22, 3) := by decide +kernel
theorem dX4_init_28 : decode cX4_init 28 = .ok (.putfield 24, 3) := by decide +kernel
theorem dX4_init_31 : decode cX4_init 31 = .ok (.aload_n 0, 1) := by decide +kernel
theorem dX4_init_32 : decode cX4_init 32 = .ok (.new 28, 3) := by decide +kernel
theorem dX4_init_35 : decode cX4_init 35 = .ok (.dup, 1) := by decide +kernel
theorem dX4_init_36 : decode cX4_init 36 = .ok (.invokespecial 30, 3) := by decide +kernel
theorem dX4_init_39 : decode cX4_init 39 = .ok (.putfield 31, 3) := by decide +kernel
theorem dX4_init_42 : decode cX4_init 42 = .ok (.aload_n 0, 1) := by decide +kernel
theorem dX4_init_43 : decode cX4_init 43 = .ok (.bipush 20, 2) := by decide +kernel
theorem dX4_init_45 : decode cX4_init 45 = .ok (.putfield 35, 3) := by decide +kernel
theorem dX4_init_48 : decode cX4_init 48 = .ok (.iconst 0, 1) := by decide +kernel
theorem dX4_init_49 : decode cX4_init 49 = .ok (.istore_n 1, 1) := by decide +kernel
theorem dX4_init_50 : decode cX4_init 50 = .ok (.iload_n 1, 1) := by decide +kernel
theorem dX4_init_51 : decode cX4_init 51 = .ok (.iconst 3, 1) := by decide +kernel
theorem dX4_init_52 : decode cX4_init 52 = .ok (.if_icmp .ge 22, 3) := by decide +kernel
theorem dX4_init_55 : decode cX4_init 55 = .ok (.aload_n 0, 1) := by decide +kernel
theorem dX4_init_56 : decode cX4_init 56 = .ok (.getfield 18, 3) := by decide +kernel
theorem dX4_init_59 : decode cX4_init 59 = .ok (.iload_n 1, 1) := by decide +kernel
theorem dX4_init_60 : decode cX4_init 60 = .ok (.new 16, 3) := by decide +kernel
theorem dX4_init_63 : decode cX4_init 63 = .ok (.dup, 1) := by decide +kernel
theorem dX4_init_64 : decode cX4_init 64 = .ok (.invokespecial 39, 3) := by decide +kernel
theorem dX4_init_67 : decode cX4_init 67 = .ok (.aastore, 1) := by decide +kernel
theorem dX4_init_68 : decode cX4_init 68 = .ok (.iinc 1 1, 3) := by decide +kernel
theorem dX4_init_71 : decode cX4_init 71 = .ok (.goto (-21), 3) := by decide +kernel
theorem dX4_init_74 : decode cX4_init 74 = .ok (.iconst 0, 1) := by decide +kernel
theorem dX4_init_75 : decode cX4_init 75 = .ok (.istore_n 1, 1) := by decide +kernel
theorem dX4_init_76 : decode cX4_init 76 = .ok (.iload_n 1, 1) := by decide +kernel
theorem dX4_init_77 : decode cX4_init 77 = .ok (.iconst 3, 1) := by decide +kernel
theorem dX4_init_78 : decode cX4_init 78 = .ok (.if_icmp .ge 22, 3) := by decide +kernel
theorem dX4_init_81 : decode cX4_init 81 = .ok (.aload_n 0, 1) := by decide +kernel
theorem dX4_init_82 : decode cX4_init 82 = .ok (.getfield 24, 3) := by decide +kernel
theorem dX4_init_85 : decode cX4_init 85 = .ok (.iload_n 1, 1) := by decide +kernel
theorem dX4_init_86 : decode cX4_init 86 = .ok (.new 22, 3) := by decide +kernel
theorem dX4_init_89 : decode cX4_init 89 = .ok (.dup, 1) := by decide +kernel
theorem dX4_init_90 : decode cX4_init 90 = .ok (.invokespecial 40, 3) := by decide +kernel
theorem dX4_init_93 : decode cX4_init 93 = .ok (.aastore, 1) := by decide +kernel
theorem dX4_init_94 : decode cX4_init 94 = .ok (.iinc 1 1, 3) := by decide +kernel
theorem dX4_init_97 : decode cX4_init 97 = .ok (.goto (-21), 3) := by decide +kernel
theorem dX4_init_100 : decode cX4_init 100 = .ok (.return_, 1) := by decide +kernel
set_option maxRecDepth 20000 in
theorem ggX4_put_X4_checkKey : GoodIn wsX4_put wsX4_checkKey := goodIn_ca (goodIn_r _ [5, 6, 7, 8, 9, 4, 10] (by decide +kernel) (by decide +kernel)) (goodIn_sub (fun _ h => List.mem_cons_of_mem _ (List.mem_append_left _ (List.mem_append_left _ (List.mem_append_right _ h)))) (by decide +kernel))
set_option maxRecDepth 20000 in
theorem gX4_put_X4_checkKey : GoodIn wsX4_put (va_wsS RX4 41 yX4_checkKey wsX4_checkKey) := goodIn_app (goodIn_of _ (by decide +kernel)) ggX4_put_X4_checkKey
set_option maxRecDepth 20000 in
theorem ggX4_put_X4_checkNumber : GoodIn wsX4_put wsX4_checkNumber := goodIn_ca (goodIn_r _ [13, 14, 15] (by decide +kernel) (by decide +kernel)) (goodIn_sub (fun _ h => List.mem_cons_of_mem _ (List.mem_append_left _ (List.mem_append_right _ h))) (by decide +kernel))
set_option maxRecDepth 20000 in
theorem gX4_put_X4_checkNumber : GoodIn wsX4_put (va_wsS RX4 45 yX4_checkNumber wsX4_checkNumber) := goodIn_app (goodIn_of _ (by decide +kernel)) ggX4_put_X4_checkNumber
set_option maxRecDepth 20000 in
theorem ggX4_put_X4_checkRoomForChange : GoodIn wsX4_put wsX4_checkRoomForChange := goodIn_ca (goodIn_r _ [19, 20, 21, 1, 22, 23, 24, 25, 26, 27, 28, 43, 44, 45, 46, 47, 48, 49, 50, 51, 52, 53, 54] (by decide +kernel) (by decide +kernel)) (goodIn_sub (fun _ h => List.mem_cons_of_mem _ (List.mem_append_right _ h)) (by decide +kernel))
set_option maxRecDepth 20000 in
theorem gX4_put_X4_checkRoomForChange : GoodIn wsX4_put (wsV RX4 49 RX4 yX4_checkRoomForChange wsX4_checkRoomForChange) := goodIn_app (goodIn_of _ (by decide +kernel)) ggX4_put_X4_checkRoomForChange
set_option maxRecDepth 20000 in
theorem ggX4_put_X4_placeOf : GoodIn wsX4_put wsX4_placeOf := goodIn_r _ [31] (by decide +kernel) (by decide +kernel)
set_option maxRecDepth 20000 in
theorem gX4_put_X4_placeOf : GoodIn wsX4_put (va_wsS RX4 56 yX4_placeOf wsX4_placeOf) := goodIn_app (goodIn_of _ (by decide +kernel)) ggX4_put_X4_placeOf
set_option maxRecDepth 20000 in
theorem ggX4_put_X4_rowOf : GoodIn wsX4_put wsX4_rowOf := goodIn_r _ [34] (by decide +kernel) (by decide +kernel)
set_option maxRecDepth 20000 in
theorem gX4_put_X4_rowOf : GoodIn wsX4_put (va_wsS RX4 60 yX4_rowOf wsX4_rowOf) := goodIn_app (goodIn_of _ (by decide +kernel)) ggX4_put_X4_rowOf
set_option maxRecDepth 20000 in
theorem ggX4_put_X1_change : GoodIn wsX4_put wsX1_change := goodIn_r _ [38, 28, 27, 39, 40, 41, 42, 30, 4, 31, 48, 49, 50, 51, 52, 53, 54] (by decide +kernel) (by decide +kernel)
set_option maxRecDepth 20000 in
theorem gX4_put_X1_change : GoodIn wsX4_put (wsV RX4 64 RX1 yX1_change wsX1_change) := goodIn_app (goodIn_of _ (by decide +kernel)) ggX4_put_X1_change
theorem dX4_put_0 : decode cX4_put 0 = .ok (.iload_n 1, 1) := by decide +kernel
theorem dX4_put_1 : decode cX4_put 1 = .ok (.iload_n 2, 1) := by decide +kernel
theorem dX4_put_2 : decode cX4_put 2 = .ok (.invokestatic 41, 3) := by decide +kernel
theorem dX4_put_5 : decode cX4_put 5 = .ok (.iload_n 3, 1) := by decide +kernel
theorem dX4_put_6 : decode cX4_put 6 = .ok (.invokestatic 45, 3) := by decide +kernel
theorem dX4_put_9 : decode cX4_put 9 = .ok (.iload 4, 2) := by decide +kernel
theorem dX4_put_11 : decode cX4_put 11 = .ok (.invokestatic 45, 3) := by decide +kernel
theorem dX4_put_14 : decode cX4_put 14 = .ok (.iload 5, 2) := by decide +kernel
theorem dX4_put_16 : decode cX4_put 16 = .ok (.invokestatic 45, 3) := by decide +kernel
theorem dX4_put_19 : decode cX4_put 19 = .ok (.aload_n 0, 1) := by decide +kernel
theorem dX4_put_20 : decode cX4_put 20 = .ok (.invokevirtual 49, 3) := by decide +kernel
theorem dX4_put_23 : decode cX4_put 23 = .ok (.aload_n 0, 1) := by decide +kernel
theorem dX4_put_24 : decode cX4_put 24 = .ok (.getfield 12, 3) := by decide +kernel
theorem dX4_put_27 : decode cX4_put 27 = .ok (.getfield 52, 3) := by decide +kernel
theorem dX4_put_30 : decode cX4_put 30 = .ok (.iload_n 1, 1) := by decide +kernel
theorem dX4_put_31 : decode cX4_put 31 = .ok (.iload_n 2, 1) := by decide +kernel
theorem dX4_put_32 : decode cX4_put 32 = .ok (.invokestatic 56, 3) := by decide +kernel
theorem dX4_put_35 : decode cX4_put 35 = .ok (.iaload, 1) := by decide +kernel
theorem dX4_put_36 : decode cX4_put 36 = .ok (.iconst (-1), 1) := by decide +kernel
theorem dX4_put_37 : decode cX4_put 37 = .ok (.if_icmp .ne 7, 3) := by decide +kernel
theorem dX4_put_40 : decode cX4_put 40 = .ok (.iconst 1, 1) := by decide +kernel
theorem dX4_put_41 : decode cX4_put 41 = .ok (.goto 4, 3) := by decide +kernel
theorem dX4_put_44 : decode cX4_put 44 = .ok (.iconst 0, 1) := by decide +kernel
theorem dX4_put_45 : decode cX4_put 45 = .ok (.istore 6, 2) := by decide +kernel
theorem dX4_put_47 : decode cX4_put 47 = .ok (.aload_n 0, 1) := by decide +kernel
theorem dX4_put_48 : decode cX4_put 48 = .ok (.getfield 12, 3) := by decide +kernel
theorem dX4_put_51 : decode cX4_put 51 = .ok (.iload_n 1, 1) := by decide +kernel
theorem dX4_put_52 : decode cX4_put 52 = .ok (.iload_n 2, 1) := by decide +kernel
theorem dX4_put_53 : decode cX4_put 53 = .ok (.iload_n 3, 1) := by decide +kernel
theorem dX4_put_54 : decode cX4_put 54 = .ok (.iload 4, 2) := by decide +kernel
theorem dX4_put_56 : decode cX4_put 56 = .ok (.iload 5, 2) := by decide +kernel
theorem dX4_put_58 : decode cX4_put 58 = .ok (.invokestatic 60, 3) := by decide +kernel
theorem dX4_put_61 : decode cX4_put 61 = .ok (.invokevirtual 64, 3) := by decide +kernel
theorem dX4_put_64 : decode cX4_put 64 = .ok (.iload 6, 2) := by decide +kernel
theorem dX4_put_66 : decode cX4_put 66 = .ok (.ireturn, 1) := by decide +kernel
set_option maxRecDepth 20000 in
theorem ggX4_take_X4_checkKey : GoodIn wsX4_take wsX4_checkKey := goodIn_ca (goodIn_r _ [7, 8, 9, 10, 11, 6, 12] (by decide +kernel) (by decide +kernel)) (goodIn_sub (fun _ h => List.mem_cons_of_mem _ (List.mem_append_right _ h)) (by decide +kernel))
set_option maxRecDepth 20000 in
theorem gX4_take_X4_checkKey : GoodIn wsX4_take (va_wsS RX4 41 yX4_checkKey wsX4_checkKey) := goodIn_app (goodIn_of _ (by decide +kernel)) ggX4_take_X4_checkKey
set_option maxRecDepth 20000 in
theorem ggX4_take_X4_checkRoomForChange : GoodIn wsX4_take wsX4_checkRoomForChange := goodIn_ca (goodIn_r _ [16, 1, 2, 3, 17, 18, 19, 20, 21, 22, 23, 35, 36, 37, 38, 39, 40, 41, 42, 43, 44, 45, 46] (by decide +kernel) (by decide +kernel)) (goodIn_sub (fun _ h => List.mem_cons_of_mem _ (List.mem_append_left _ (List.mem_append_right _ h))) (by decide +kernel))
set_option maxRecDepth 20000 in
theorem gX4_take_X4_checkRoomForChange : GoodIn wsX4_take (wsV RX4 49 RX4 yX4_checkRoomForChange wsX4_checkRoomForChange) := goodIn_app (goodIn_of _ (by decide +kernel)) ggX4_take_X4_checkRoomForChange
set_option maxRecDepth 20000 in
theorem ggX4_take_X4_placeOf : GoodIn wsX4_take wsX4_placeOf := goodIn_r _ [26] (by decide +kernel) (by decide +kernel)
set_option maxRecDepth 20000 in
theorem gX4_take_X4_placeOf : GoodIn wsX4_take (va_wsS RX4 56 yX4_placeOf wsX4_placeOf) := goodIn_app (goodIn_of _ (by decide +kernel)) ggX4_take_X4_placeOf
set_option maxRecDepth 20000 in
theorem ggX4_take_X1_change : GoodIn wsX4_take wsX1_change := goodIn_r _ [30, 23, 22, 31, 32, 33, 34, 25, 6, 26, 40, 41, 42, 43, 44, 45, 46] (by decide +kernel) (by decide +kernel)
set_option maxRecDepth 20000 in
theorem gX4_take_X1_change : GoodIn wsX4_take (wsV RX4 64 RX1 yX1_change wsX1_change) := goodIn_app (goodIn_of _ (by decide +kernel)) ggX4_take_X1_change
theorem dX4_take_0 : decode cX4_take 0 = .ok (.iload_n 1, 1) := by decide +kernel
theorem dX4_take_1 : decode cX4_take 1 = .ok (.iload_n 2, 1) := by decide +kernel
theorem dX4_take_2 : decode cX4_take 2 = .ok (.invokestatic 41, 3) := by decide +kernel
theorem dX4_take_5 : decode cX4_take 5 = .ok (.aload_n 0, 1) := by decide +kernel
theorem dX4_take_6 : decode cX4_take 6 = .ok (.invokevirtual 49, 3) := by decide +kernel
theorem dX4_take_9 : decode cX4_take 9 = .ok (.aload_n 0, 1) := by decide +kernel
theorem dX4_take_10 : decode cX4_take 10 = .ok (.getfield 12, 3) := by decide +kernel
theorem dX4_take_13 : decode cX4_take 13 = .ok (.getfield 52, 3) := by decide +kernel
theorem dX4_take_16 : decode cX4_take 16 = .ok (.iload_n 1, 1) := by decide +kernel
theorem dX4_take_17 : decode cX4_take 17 = .ok (.iload_n 2, 1) := by decide +kernel
theorem dX4_take_18 : decode cX4_take 18 = .ok (.invokestatic 56, 3) := by decide +kernel
theorem dX4_take_21 : decode cX4_take 21 = .ok (.iaload, 1) := by decide +kernel
theorem dX4_take_22 : decode cX4_take 22 = .ok (.iconst (-1), 1) := by decide +kernel
theorem dX4_take_23 : decode cX4_take 23 = .ok (.if_icmp .ne 13, 3) := by decide +kernel
theorem dX4_take_26 : decode cX4_take 26 = .ok (.new 68, 3) := by decide +kernel
theorem dX4_take_29 : decode cX4_take 29 = .ok (.dup, 1) := by decide +kernel
theorem dX4_take_30 : decode cX4_take 30 = .ok (.ldc 70, 2) := by decide +kernel
theorem dX4_take_32 : decode cX4_take 32 = .ok (.invokespecial 72, 3) := by decide +kernel
theorem dX4_take_35 : decode cX4_take 35 = .ok (.athrow, 1) := by decide +kernel
theorem dX4_take_36 : decode cX4_take 36 = .ok (.aload_n 0, 1) := by decide +kernel
theorem dX4_take_37 : decode cX4_take 37 = .ok (.getfield 12, 3) := by decide +kernel
theorem dX4_take_40 : decode cX4_take 40 = .ok (.iload_n 1, 1) := by decide +kernel
theorem dX4_take_41 : decode cX4_take 41 = .ok (.iload_n 2, 1) := by decide +kernel
theorem dX4_take_42 : decode cX4_take 42 = .ok (.iconst (-1), 1) := by decide +kernel
theorem dX4_take_43 : decode cX4_take 43 = .ok (.invokevirtual 64, 3) := by decide +kernel
theorem dX4_take_46 : decode cX4_take 46 = .ok (.return_, 1) := by decide +kernel
set_option maxRecDepth 20000 in
theorem ggX4_truncate_X4_checkTable : GoodIn wsX4_truncate wsX4_checkTable := goodIn_ca (goodIn_r _ [5, 6, 7] (by decide +kernel) (by decide +kernel)) (goodIn_sub (fun _ h => List.mem_cons_of_mem _ (List.mem_append_left _ (List.mem_append_right _ h))) (by decide +kernel))
set_option maxRecDepth 20000 in
theorem gX4_truncate_X4_checkTable : GoodIn wsX4_truncate (va_wsS RX4 75 yX4_checkTable wsX4_checkTable) := goodIn_app (goodIn_of _ (by decide +kernel)) ggX4_truncate_X4_checkTable
set_option maxRecDepth 20000 in
theorem ggX4_truncate_X4_checkRoomForChange : GoodIn wsX4_truncate wsX4_checkRoomForChange := goodIn_ca (goodIn_r _ [11, 12, 13, 1, 14, 15, 16, 17, 18, 19, 20, 32, 33, 34, 35, 36, 37, 38, 39, 40, 41, 42, 43] (by decide +kernel) (by decide +kernel)) (goodIn_sub (fun _ h => List.mem_cons_of_mem _ (List.mem_append_right _ h)) (by decide +kernel))
set_option maxRecDepth 20000 in
theorem gX4_truncate_X4_checkRoomForChange : GoodIn wsX4_truncate (wsV RX4 49 RX4 yX4_checkRoomForChange wsX4_checkRoomForChange) := goodIn_app (goodIn_of _ (by decide +kernel)) ggX4_truncate_X4_checkRoomForChange
set_option maxRecDepth 20000 in
theorem ggX4_truncate_X4_placeOf : GoodIn wsX4_truncate wsX4_placeOf := goodIn_r _ [23] (by decide +kernel) (by decide +kernel)
set_option maxRecDepth 20000 in
theorem gX4_truncate_X4_placeOf : GoodIn wsX4_truncate (va_wsS RX4 56 yX4_placeOf wsX4_placeOf) := goodIn_app (goodIn_of _ (by decide +kernel)) ggX4_truncate_X4_placeOf
set_option maxRecDepth 20000 in
theorem ggX4_truncate_X1_change : GoodIn wsX4_truncate wsX1_change := goodIn_r _ [27, 20, 19, 28, 29, 30, 31, 22, 4, 23, 37, 38, 39, 40, 41, 42, 43] (by decide +kernel) (by decide +kernel)
set_option maxRecDepth 20000 in
theorem gX4_truncate_X1_change : GoodIn wsX4_truncate (wsV RX4 64 RX1 yX1_change wsX1_change) := goodIn_app (goodIn_of _ (by decide +kernel)) ggX4_truncate_X1_change
theorem dX4_truncate_0 : decode cX4_truncate 0 = .ok (.iload_n 1, 1) := by decide +kernel
theorem dX4_truncate_1 : decode cX4_truncate 1 = .ok (.invokestatic 75, 3) := by decide +kernel
theorem dX4_truncate_4 : decode cX4_truncate 4 = .ok (.aload_n 0, 1) := by decide +kernel
theorem dX4_truncate_5 : decode cX4_truncate 5 = .ok (.invokevirtual 49, 3) := by decide +kernel
theorem dX4_truncate_8 : decode cX4_truncate 8 = .ok (.iconst 0, 1) := by decide +kernel
theorem dX4_truncate_9 : decode cX4_truncate 9 = .ok (.istore_n 2, 1) := by decide +kernel
theorem dX4_truncate_10 : decode cX4_truncate 10 = .ok (.iconst 0, 1) := by decide +kernel
theorem dX4_truncate_11 : decode cX4_truncate 11 = .ok (.istore_n 3, 1) := by decide +kernel
theorem dX4_truncate_12 : decode cX4_truncate 12 = .ok (.iload_n 3, 1) := by decide +kernel
theorem dX4_truncate_13 : decode cX4_truncate 13 = .ok (.bipush 12, 2) := by decide +kernel
theorem dX4_truncate_15 : decode cX4_truncate 15 = .ok (.if_icmp .ge 29, 3) := by decide +kernel
theorem dX4_truncate_18 : decode cX4_truncate 18 = .ok (.aload_n 0, 1) := by decide +kernel
theorem dX4_truncate_19 : decode cX4_truncate 19 = .ok (.getfield 12, 3) := by decide +kernel
theorem dX4_truncate_22 : decode cX4_truncate 22 = .ok (.getfield 52, 3) := by decide +kernel
theorem dX4_truncate_25 : decode cX4_truncate 25 = .ok (.iload_n 1, 1) := by decide +kernel
theorem dX4_truncate_26 : decode cX4_truncate 26 = .ok (.iload_n 3, 1) := by decide +kernel
theorem dX4_truncate_27 : decode cX4_truncate 27 = .ok (.invokestatic 56, 3) := by decide +kernel
theorem dX4_truncate_30 : decode cX4_truncate 30 = .ok (.iaload, 1) := by decide +kernel
theorem dX4_truncate_31 : decode cX4_truncate 31 = .ok (.iconst (-1), 1) := by decide +kernel
theorem dX4_truncate_32 : decode cX4_truncate 32 = .ok (.if_icmp .eq 6, 3) := by decide +kernel
theorem dX4_truncate_35 : decode cX4_truncate 35 = .ok (.iinc 2 1, 3) := by decide +kernel
theorem dX4_truncate_38 : decode cX4_truncate 38 = .ok (.iinc 3 1, 3) := by decide +kernel
theorem dX4_truncate_41 : decode cX4_truncate 41 = .ok (.goto (-29), 3) := by decide +kernel
theorem dX4_truncate_44 : decode cX4_truncate 44 = .ok (.aload_n 0, 1) := by decide +kernel
theorem dX4_truncate_45 : decode cX4_truncate 45 = .ok (.getfield 12, 3) := by decide +kernel
theorem dX4_truncate_48 : decode cX4_truncate 48 = .ok (.iload_n 1, 1) := by decide +kernel
theorem dX4_truncate_49 : decode cX4_truncate 49 = .ok (.iconst (-1), 1) := by decide +kernel
theorem dX4_truncate_50 : decode cX4_truncate 50 = .ok (.iconst (-1), 1) := by decide +kernel
theorem dX4_truncate_51 : decode cX4_truncate 51 = .ok (.invokevirtual 64, 3) := by decide +kernel
theorem dX4_truncate_54 : decode cX4_truncate 54 = .ok (.iload_n 2, 1) := by decide +kernel
theorem dX4_truncate_55 : decode cX4_truncate 55 = .ok (.ireturn, 1) := by decide +kernel
set_option maxRecDepth 20000 in
theorem ggX4_commit_X1_close : GoodIn wsX4_commit wsX1_close := goodIn_r _ [8, 9, 10, 11, 12, 13, 14, 15, 39, 40, 41, 42, 43, 44, 45] (by decide +kernel) (by decide +kernel)
set_option maxRecDepth 20000 in
theorem gX4_commit_X1_close : GoodIn wsX4_commit (wsV RX4 83 RX1 yX1_close wsX1_close) := goodIn_app (goodIn_of _ (by decide +kernel)) ggX4_commit_X1_close
set_option maxRecDepth 20000 in
theorem ggX4_commit_X4_cutLaggards : GoodIn wsX4_commit wsX4_cutLaggards := goodIn_r _ [20, 21, 3, 22, 23, 24, 25, 26, 27, 28, 29, 30, 31, 32, 33, 34, 35, 36, 37, 38, 39, 40, 41, 42, 43, 44, 45, 46, 47, 48, 49, 50] (by decide +kernel) (by decide +kernel)
set_option maxRecDepth 20000 in
theorem gX4_commit_X4_cutLaggards : GoodIn wsX4_commit (wsV RX4 86 RX4 yX4_cutLaggards wsX4_cutLaggards) := goodIn_app (goodIn_of _ (by decide +kernel)) ggX4_commit_X4_cutLaggards
theorem dX4_commit_0 : decode cX4_commit 0 = .ok (.aload_n 0, 1) := by decide +kernel
theorem dX4_commit_1 : decode cX4_commit 1 = .ok (.getfield 12, 3) := by decide +kernel
theorem dX4_commit_4 : decode cX4_commit 4 = .ok (.getfield 78, 3) := by decide +kernel
theorem dX4_commit_7 : decode cX4_commit 7 = .ok (.bipush 50, 2) := by decide +kernel
theorem dX4_commit_9 : decode cX4_commit 9 = .ok (.if_icmp .lt 13, 3) := by decide +kernel
theorem dX4_commit_12 : decode cX4_commit 12 = .ok (.new 68, 3) := by decide +kernel
theorem dX4_commit_15 : decode cX4_commit 15 = .ok (.dup, 1) := by decide +kernel
theorem dX4_commit_16 : decode cX4_commit 16 = .ok (.ldc 81, 2) := by decide +kernel
theorem dX4_commit_18 : decode cX4_commit 18 = .ok (.invokespecial 72, 3) := by decide +kernel
theorem dX4_commit_21 : decode cX4_commit 21 = .ok (.athrow, 1) := by decide +kernel
theorem dX4_commit_22 : decode cX4_commit 22 = .ok (.aload_n 0, 1) := by decide +kernel
theorem dX4_commit_23 : decode cX4_commit 23 = .ok (.getfield 12, 3) := by decide +kernel
theorem dX4_commit_26 : decode cX4_commit 26 = .ok (.invokevirtual 83, 3) := by decide +kernel
theorem dX4_commit_29 : decode cX4_commit 29 = .ok (.aload_n 0, 1) := by decide +kernel
theorem dX4_commit_30 : decode cX4_commit 30 = .ok (.invokevirtual 86, 3) := by decide +kernel
theorem dX4_commit_33 : decode cX4_commit 33 = .ok (.pop, 1) := by decide +kernel
theorem dX4_commit_34 : decode cX4_commit 34 = .ok (.aload_n 0, 1) := by decide +kernel
theorem dX4_commit_35 : decode cX4_commit 35 = .ok (.getfield 12, 3) := by decide +kernel
theorem dX4_commit_38 : decode cX4_commit 38 = .ok (.getfield 78, 3) := by decide +kernel
theorem dX4_commit_41 : decode cX4_commit 41 = .ok (.ireturn, 1) := by decide +kernel
set_option maxRecDepth 20000 in
theorem ggX4_rollBack_X1_openChanges : GoodIn wsX4_rollBack wsX1_openChanges := goodIn_r _ [6, 7, 8, 24, 25, 26, 27, 28, 29, 30] (by decide +kernel) (by decide +kernel)
set_option maxRecDepth 20000 in
theorem gX4_rollBack_X1_openChanges : GoodIn wsX4_rollBack (wsV RX4 90 RX1 yX1_openChanges wsX1_openChanges) := goodIn_app (goodIn_of _ (by decide +kernel)) ggX4_rollBack_X1_openChanges
set_option maxRecDepth 20000 in
theorem ggX4_rollBack_X1_undo : GoodIn wsX4_rollBack wsX1_undo := goodIn_r _ [12, 7, 8, 13, 14, 15, 16, 17, 18, 24, 25, 26, 27, 28, 29, 30] (by decide +kernel) (by decide +kernel)
set_option maxRecDepth 20000 in
theorem gX4_rollBack_X1_undo : GoodIn wsX4_rollBack (wsV RX4 93 RX1 yX1_undo wsX1_undo) := goodIn_app (goodIn_of _ (by decide +kernel)) ggX4_rollBack_X1_undo
theorem dX4_rollBack_0 : decode cX4_rollBack 0 = .ok (.aload_n 0, 1) := by decide +kernel
theorem dX4_rollBack_1 : decode cX4_rollBack 1 = .ok (.getfield 12, 3) := by decide +kernel
theorem dX4_rollBack_4 : decode cX4_rollBack 4 = .ok (.invokevirtual 90, 3) := by decide +kernel
theorem dX4_rollBack_7 : decode cX4_rollBack 7 = .ok (.istore_n 1, 1) := by decide +kernel
theorem dX4_rollBack_8 : decode cX4_rollBack 8 = .ok (.aload_n 0, 1) := by decide +kernel
theorem dX4_rollBack_9 : decode cX4_rollBack 9 = .ok (.getfield 12, 3) := by decide +kernel
theorem dX4_rollBack_12 : decode cX4_rollBack 12 = .ok (.invokevirtual 93, 3) := by decide +kernel
theorem dX4_rollBack_15 : decode cX4_rollBack 15 = .ok (.iload_n 1, 1) := by decide +kernel
theorem dX4_rollBack_16 : decode cX4_rollBack 16 = .ok (.ireturn, 1) := by decide +kernel
set_option maxRecDepth 20000 in
theorem ggX4_at_X4_checkKey : GoodIn wsX4_at wsX4_checkKey := goodIn_ca (goodIn_r _ [5, 6, 7, 8, 9, 4, 10] (by decide +kernel) (by decide +kernel)) (goodIn_sub (fun _ h => List.mem_cons_of_mem _ (List.mem_append_right _ h)) (by decide +kernel))
set_option maxRecDepth 20000 in
theorem gX4_at_X4_checkKey : GoodIn wsX4_at (va_wsS RX4 41 yX4_checkKey wsX4_checkKey) := goodIn_app (goodIn_of _ (by decide +kernel)) ggX4_at_X4_checkKey
set_option maxRecDepth 20000 in
theorem ggX4_at_X4_checkColumn : GoodIn wsX4_at wsX4_checkColumn := goodIn_ca (goodIn_r _ [13, 6, 7] (by decide +kernel) (by decide +kernel)) (goodIn_sub (fun _ h => List.mem_cons_of_mem _ (List.mem_append_right _ h)) (by decide +kernel))
set_option maxRecDepth 20000 in
theorem gX4_at_X4_checkColumn : GoodIn wsX4_at (va_wsS RX4 96 yX4_checkColumn wsX4_checkColumn) := goodIn_app (goodIn_of _ (by decide +kernel)) ggX4_at_X4_checkColumn
set_option maxRecDepth 20000 in
theorem ggX4_at_X4_placeOf : GoodIn wsX4_at wsX4_placeOf := goodIn_r _ [16] (by decide +kernel) (by decide +kernel)
set_option maxRecDepth 20000 in
theorem gX4_at_X4_placeOf : GoodIn wsX4_at (va_wsS RX4 56 yX4_placeOf wsX4_placeOf) := goodIn_app (goodIn_of _ (by decide +kernel)) ggX4_at_X4_placeOf
set_option maxRecDepth 20000 in
theorem ggX4_at_X4_numberIn : GoodIn wsX4_at wsX4_numberIn := goodIn_r _ [19] (by decide +kernel) (by decide +kernel)
set_option maxRecDepth 20000 in
theorem gX4_at_X4_numberIn : GoodIn wsX4_at (va_wsS RX4 99 yX4_numberIn wsX4_numberIn) := goodIn_app (goodIn_of _ (by decide +kernel)) ggX4_at_X4_numberIn
theorem dX4_at_0 : decode cX4_at 0 = .ok (.iload_n 1, 1) := by decide +kernel
theorem dX4_at_1 : decode cX4_at 1 = .ok (.iload_n 2, 1) := by decide +kernel
theorem dX4_at_2 : decode cX4_at 2 = .ok (.invokestatic 41, 3) := by decide +kernel
theorem dX4_at_5 : decode cX4_at 5 = .ok (.iload_n 3, 1) := by decide +kernel
theorem dX4_at_6 : decode cX4_at 6 = .ok (.invokestatic 96, 3) := by decide +kernel
theorem dX4_at_9 : decode cX4_at 9 = .ok (.aload_n 0, 1) := by decide +kernel
theorem dX4_at_10 : decode cX4_at 10 = .ok (.getfield 12, 3) := by decide +kernel
theorem dX4_at_13 : decode cX4_at 13 = .ok (.getfield 52, 3) := by decide +kernel
theorem dX4_at_16 : decode cX4_at 16 = .ok (.iload_n 1, 1) := by decide +kernel
theorem dX4_at_17 : decode cX4_at 17 = .ok (.iload_n 2, 1) := by decide +kernel
theorem dX4_at_18 : decode cX4_at 18 = .ok (.invokestatic 56, 3) := by decide +kernel
theorem dX4_at_21 : decode cX4_at 21 = .ok (.iaload, 1) := by decide +kernel
theorem dX4_at_22 : decode cX4_at 22 = .ok (.iload_n 3, 1) := by decide +kernel
theorem dX4_at_23 : decode cX4_at 23 = .ok (.invokestatic 99, 3) := by decide +kernel
theorem dX4_at_26 : decode cX4_at 26 = .ok (.ireturn, 1) := by decide +kernel
theorem dX4_commits_0 : decode cX4_commits 0 = .ok (.aload_n 0, 1) := by decide +kernel
theorem dX4_commits_1 : decode cX4_commits 1 = .ok (.getfield 12, 3) := by decide +kernel
theorem dX4_commits_4 : decode cX4_commits 4 = .ok (.getfield 78, 3) := by decide +kernel
theorem dX4_commits_7 : decode cX4_commits 7 = .ok (.ireturn, 1) := by decide +kernel
set_option maxRecDepth 20000 in
theorem ggX4_setLimit_X4_cutLaggards : GoodIn wsX4_setLimit wsX4_cutLaggards := goodIn_r _ [8, 9, 10, 3, 11, 12, 13, 14, 15, 16, 17, 18, 19, 20, 21, 22, 23, 24, 25, 26, 27, 28, 29, 30, 31, 32, 33, 34, 35, 36, 37, 38] (by decide +kernel) (by decide +kernel)
set_option maxRecDepth 20000 in
theorem gX4_setLimit_X4_cutLaggards : GoodIn wsX4_setLimit (wsV RX4 86 RX4 yX4_cutLaggards wsX4_cutLaggards) := goodIn_app (goodIn_of _ (by decide +kernel)) ggX4_setLimit_X4_cutLaggards
theorem dX4_setLimit_0 : decode cX4_setLimit 0 = .ok (.iload_n 1, 1) := by decide +kernel
theorem dX4_setLimit_1 : decode cX4_setLimit 1 = .ok (.ifCond .lt 9, 3) := by decide +kernel
theorem dX4_setLimit_4 : decode cX4_setLimit 4 = .ok (.iload_n 1, 1) := by decide +kernel
theorem dX4_setLimit_5 : decode cX4_setLimit 5 = .ok (.bipush 50, 2) := by decide +kernel
theorem dX4_setLimit_7 : decode cX4_setLimit 7 = .ok (.if_icmp .le 13, 3) := by decide +kernel
theorem dX4_setLimit_10 : decode cX4_setLimit 10 = .ok (.new 102, 3) := by decide +kernel
theorem dX4_setLimit_13 : decode cX4_setLimit 13 = .ok (.dup, 1) := by decide +kernel
theorem dX4_setLimit_14 : decode cX4_setLimit 14 = .ok (.ldc 104, 2) := by decide +kernel
theorem dX4_setLimit_16 : decode cX4_setLimit 16 = .ok (.invokespecial 106, 3) := by decide +kernel
theorem dX4_setLimit_19 : decode cX4_setLimit 19 = .ok (.athrow, 1) := by decide +kernel
theorem dX4_setLimit_20 : decode cX4_setLimit 20 = .ok (.aload_n 0, 1) := by decide +kernel
theorem dX4_setLimit_21 : decode cX4_setLimit 21 = .ok (.iload_n 1, 1) := by decide +kernel
theorem dX4_setLimit_22 : decode cX4_setLimit 22 = .ok (.putfield 35, 3) := by decide +kernel
theorem dX4_setLimit_25 : decode cX4_setLimit 25 = .ok (.aload_n 0, 1) := by decide +kernel
theorem dX4_setLimit_26 : decode cX4_setLimit 26 = .ok (.invokevirtual 86, 3) := by decide +kernel
theorem dX4_setLimit_29 : decode cX4_setLimit 29 = .ok (.ireturn, 1) := by decide +kernel
set_option maxRecDepth 20000 in
theorem ggX4_setCondition_X4_checkPublication : GoodIn wsX4_setCondition wsX4_checkPublication := goodIn_ca (goodIn_r _ [7, 8, 9] (by decide +kernel) (by decide +kernel)) (goodIn_sub (fun _ h => List.mem_cons_of_mem _ (List.mem_append_right _ h)) (by decide +kernel))
set_option maxRecDepth 20000 in
theorem gX4_setCondition_X4_checkPublication : GoodIn wsX4_setCondition (va_wsS RX4 107 yX4_checkPublication wsX4_checkPublication) := goodIn_app (goodIn_of _ (by decide +kernel)) ggX4_setCondition_X4_checkPublication
set_option maxRecDepth 20000 in
theorem ggX4_setCondition_X4_checkTable : GoodIn wsX4_setCondition wsX4_checkTable := goodIn_ca (goodIn_r _ [12, 8, 9] (by decide +kernel) (by decide +kernel)) (goodIn_sub (fun _ h => List.mem_cons_of_mem _ (List.mem_append_right _ h)) (by decide +kernel))
set_option maxRecDepth 20000 in
theorem gX4_setCondition_X4_checkTable : GoodIn wsX4_setCondition (va_wsS RX4 75 yX4_checkTable wsX4_checkTable) := goodIn_app (goodIn_of _ (by decide +kernel)) ggX4_setCondition_X4_checkTable
set_option maxRecDepth 20000 in
theorem ggX4_setCondition_X4_checkColumn : GoodIn wsX4_setCondition wsX4_checkColumn := goodIn_ca (goodIn_r _ [15, 8, 9] (by decide +kernel) (by decide +kernel)) (goodIn_sub (fun _ h => List.mem_cons_of_mem _ (List.mem_append_right _ h)) (by decide +kernel))
set_option maxRecDepth 20000 in
theorem gX4_setCondition_X4_checkColumn : GoodIn wsX4_setCondition (va_wsS RX4 96 yX4_checkColumn wsX4_checkColumn) := goodIn_app (goodIn_of _ (by decide +kernel)) ggX4_setCondition_X4_checkColumn
set_option maxRecDepth 20000 in
theorem ggX4_setCondition_X4_checkNumber : GoodIn wsX4_setCondition wsX4_checkNumber := goodIn_ca (goodIn_r _ [18, 1, 2] (by decide +kernel) (by decide +kernel)) (goodIn_sub (fun _ h => List.mem_cons_of_mem _ (List.mem_append_left _ (List.mem_append_right _ h))) (by decide +kernel))
set_option maxRecDepth 20000 in
theorem gX4_setCondition_X4_checkNumber : GoodIn wsX4_setCondition (va_wsS RX4 45 yX4_checkNumber wsX4_checkNumber) := goodIn_app (goodIn_of _ (by decide +kernel)) ggX4_setCondition_X4_checkNumber
set_option maxRecDepth 20000 in
theorem ggX4_setCondition_X4_forgetCopies : GoodIn wsX4_setCondition wsX4_forgetCopies := goodIn_r _ [22, 23, 24, 25, 26, 27, 28, 33, 34, 35, 36, 37] (by decide +kernel) (by decide +kernel)
set_option maxRecDepth 20000 in
theorem gX4_setCondition_X4_forgetCopies : GoodIn wsX4_setCondition (wsV RX4 121 RX4 yX4_forgetCopies wsX4_forgetCopies) := goodIn_app (goodIn_of _ (by decide +kernel)) ggX4_setCondition_X4_forgetCopies
theorem dX4_setCondition_0 : decode cX4_setCondition 0 = .ok (.iload_n 1, 1) := by decide +kernel
theorem dX4_setCondition_1 : decode cX4_setCondition 1 = .ok (.invokestatic 107, 3) := by decide +kernel
theorem dX4_setCondition_4 : decode cX4_setCondition 4 = .ok (.iload_n 2, 1) := by decide +kernel
theorem dX4_setCondition_5 : decode cX4_setCondition 5 = .ok (.invokestatic 75, 3) := by decide +kernel
theorem dX4_setCondition_8 : decode cX4_setCondition 8 = .ok (.iload_n 3, 1) := by decide +kernel
theorem dX4_setCondition_9 : decode cX4_setCondition 9 = .ok (.invokestatic 96, 3) := by decide +kernel
theorem dX4_setCondition_12 : decode cX4_setCondition 12 = .ok (.iload 4, 2) := by decide +kernel
theorem dX4_setCondition_14 : decode cX4_setCondition 14 = .ok (.ifCond .lt 9, 3) := by decide +kernel
theorem dX4_setCondition_17 : decode cX4_setCondition 17 = .ok (.iload 4, 2) := by decide +kernel
theorem dX4_setCondition_19 : decode cX4_setCondition 19 = .ok (.iconst 2, 1) := by decide +kernel
theorem dX4_setCondition_20 : decode cX4_setCondition 20 = .ok (.if_icmp .le 13, 3) := by decide +kernel
theorem dX4_setCondition_23 : decode cX4_setCondition 23 = .ok (.new 102, 3) := by decide +kernel
theorem dX4_setCondition_26 : decode cX4_setCondition 26 = .ok (.dup, 1) := by decide +kernel
theorem dX4_setCondition_27 : decode cX4_setCondition 27 = .ok (.ldc 110, 2) := by decide +kernel
theorem dX4_setCondition_29 : decode cX4_setCondition 29 = .ok (.invokespecial 106, 3) := by decide +kernel
theorem dX4_setCondition_32 : decode cX4_setCondition 32 = .ok (.athrow, 1) := by decide +kernel
theorem dX4_setCondition_33 : decode cX4_setCondition 33 = .ok (.iload 5, 2) := by decide +kernel
theorem dX4_setCondition_35 : decode cX4_setCondition 35 = .ok (.invokestatic 45, 3) := by decide +kernel
theorem dX4_setCondition_38 : decode cX4_setCondition 38 = .ok (.aload_n 0, 1) := by decide +kernel
theorem dX4_setCondition_39 : decode cX4_setCondition 39 = .ok (.getfield 18, 3) := by decide +kernel
theorem dX4_setCondition_42 : decode cX4_setCondition 42 = .ok (.iload_n 1, 1) := by decide +kernel
theorem dX4_setCondition_43 : decode cX4_setCondition 43 = .ok (.aaload, 1) := by decide +kernel
theorem dX4_setCondition_44 : decode cX4_setCondition 44 = .ok (.astore 6, 2) := by decide +kernel
theorem dX4_setCondition_46 : decode cX4_setCondition 46 = .ok (.aload 6, 2) := by decide +kernel
theorem dX4_setCondition_48 : decode cX4_setCondition 48 = .ok (.getfield 112, 3) := by decide +kernel
theorem dX4_setCondition_51 : decode cX4_setCondition 51 = .ok (.iload_n 2, 1) := by decide +kernel
theorem dX4_setCondition_52 : decode cX4_setCondition 52 = .ok (.iload_n 3, 1) := by decide +kernel
theorem dX4_setCondition_53 : decode cX4_setCondition 53 = .ok (.iastore, 1) := by decide +kernel
theorem dX4_setCondition_54 : decode cX4_setCondition 54 = .ok (.aload 6, 2) := by decide +kernel
theorem dX4_setCondition_56 : decode cX4_setCondition 56 = .ok (.getfield 115, 3) := by decide +kernel
theorem dX4_setCondition_59 : decode cX4_setCondition 59 = .ok (.iload_n 2, 1) := by decide +kernel
theorem dX4_setCondition_60 : decode cX4_setCondition 60 = .ok (.iload 4, 2) := by decide +kernel
theorem dX4_setCondition_62 : decode cX4_setCondition 62 = .ok (.iastore, 1) := by decide +kernel
theorem dX4_setCondition_63 : decode cX4_setCondition 63 = .ok (.aload 6, 2) := by decide +kernel
theorem dX4_setCondition_65 : decode cX4_setCondition 65 = .ok (.getfield 118, 3) := by decide +kernel
theorem dX4_setCondition_68 : decode cX4_setCondition 68 = .ok (.iload_n 2, 1) := by decide +kernel
theorem dX4_setCondition_69 : decode cX4_setCondition 69 = .ok (.iload 5, 2) := by decide +kernel
theorem dX4_setCondition_71 : decode cX4_setCondition 71 = .ok (.iastore, 1) := by decide +kernel
theorem dX4_setCondition_72 : decode cX4_setCondition 72 = .ok (.aload_n 0, 1) := by decide +kernel
theorem dX4_setCondition_73 : decode cX4_setCondition 73 = .ok (.aload 6, 2) := by decide +kernel
theorem dX4_setCondition_75 : decode cX4_setCondition 75 = .ok (.iload_n 2, 1) := by decide +kernel
theorem dX4_setCondition_76 : decode cX4_setCondition 76 = .ok (.invokevirtual 121, 3) := by decide +kernel
theorem dX4_setCondition_79 : decode cX4_setCondition 79 = .ok (.ireturn, 1) := by decide +kernel
set_option maxRecDepth 20000 in
theorem ggX4_setColumns_X4_checkPublication : GoodIn wsX4_setColumns wsX4_checkPublication := goodIn_ca (goodIn_r _ [7, 8, 9] (by decide +kernel) (by decide +kernel)) (goodIn_sub (fun _ h => List.mem_cons_of_mem _ (List.mem_append_right _ h)) (by decide +kernel))
set_option maxRecDepth 20000 in
theorem gX4_setColumns_X4_checkPublication : GoodIn wsX4_setColumns (va_wsS RX4 107 yX4_checkPublication wsX4_checkPublication) := goodIn_app (goodIn_of _ (by decide +kernel)) ggX4_setColumns_X4_checkPublication
set_option maxRecDepth 20000 in
theorem ggX4_setColumns_X4_checkTable : GoodIn wsX4_setColumns wsX4_checkTable := goodIn_ca (goodIn_r _ [12, 8, 9] (by decide +kernel) (by decide +kernel)) (goodIn_sub (fun _ h => List.mem_cons_of_mem _ (List.mem_append_right _ h)) (by decide +kernel))
set_option maxRecDepth 20000 in
theorem gX4_setColumns_X4_checkTable : GoodIn wsX4_setColumns (va_wsS RX4 75 yX4_checkTable wsX4_checkTable) := goodIn_app (goodIn_of _ (by decide +kernel)) ggX4_setColumns_X4_checkTable
set_option maxRecDepth 20000 in
theorem ggX4_setColumns_X4_maskOf : GoodIn wsX4_setColumns wsX4_maskOf := goodIn_r _ [15] (by decide +kernel) (by decide +kernel)
set_option maxRecDepth 20000 in
theorem gX4_setColumns_X4_maskOf : GoodIn wsX4_setColumns (va_wsS RX4 130 yX4_maskOf wsX4_maskOf) := goodIn_app (goodIn_of _ (by decide +kernel)) ggX4_setColumns_X4_maskOf
set_option maxRecDepth 20000 in
theorem ggX4_setColumns_X4_forgetCopies : GoodIn wsX4_setColumns wsX4_forgetCopies := goodIn_r _ [19, 20, 21, 22, 23, 24, 25, 30, 31, 32, 33, 34] (by decide +kernel) (by decide +kernel)
set_option maxRecDepth 20000 in
theorem gX4_setColumns_X4_forgetCopies : GoodIn wsX4_setColumns (wsV RX4 121 RX4 yX4_forgetCopies wsX4_forgetCopies) := goodIn_app (goodIn_of _ (by decide +kernel)) ggX4_setColumns_X4_forgetCopies
theorem dX4_setColumns_0 : decode cX4_setColumns 0 = .ok (.iload_n 1, 1) := by decide +kernel
theorem dX4_setColumns_1 : decode cX4_setColumns 1 = .ok (.invokestatic 107, 3) := by decide +kernel
theorem dX4_setColumns_4 : decode cX4_setColumns 4 = .ok (.iload_n 2, 1) := by decide +kernel
theorem dX4_setColumns_5 : decode cX4_setColumns 5 = .ok (.invokestatic 75, 3) := by decide +kernel
theorem dX4_setColumns_8 : decode cX4_setColumns 8 = .ok (.iload_n 3, 1) := by decide +kernel
theorem dX4_setColumns_9 : decode cX4_setColumns 9 = .ok (.ifCond .lt 9, 3) := by decide +kernel
theorem dX4_setColumns_12 : decode cX4_setColumns 12 = .ok (.iload_n 3, 1) := by decide +kernel
theorem dX4_setColumns_13 : decode cX4_setColumns 13 = .ok (.bipush 7, 2) := by decide +kernel
theorem dX4_setColumns_15 : decode cX4_setColumns 15 = .ok (.if_icmp .le 13, 3) := by decide +kernel
theorem dX4_setColumns_18 : decode cX4_setColumns 18 = .ok (.new 102, 3) := by decide +kernel
theorem dX4_setColumns_21 : decode cX4_setColumns 21 = .ok (.dup, 1) := by decide +kernel
theorem dX4_setColumns_22 : decode cX4_setColumns 22 = .ok (.ldc 125, 2) := by decide +kernel
theorem dX4_setColumns_24 : decode cX4_setColumns 24 = .ok (.invokespecial 106, 3) := by decide +kernel
theorem dX4_setColumns_27 : decode cX4_setColumns 27 = .ok (.athrow, 1) := by decide +kernel
theorem dX4_setColumns_28 : decode cX4_setColumns 28 = .ok (.aload_n 0, 1) := by decide +kernel
theorem dX4_setColumns_29 : decode cX4_setColumns 29 = .ok (.getfield 18, 3) := by decide +kernel
theorem dX4_setColumns_32 : decode cX4_setColumns 32 = .ok (.iload_n 1, 1) := by decide +kernel
theorem dX4_setColumns_33 : decode cX4_setColumns 33 = .ok (.aaload, 1) := by decide +kernel
theorem dX4_setColumns_34 : decode cX4_setColumns 34 = .ok (.astore 4, 2) := by decide +kernel
theorem dX4_setColumns_36 : decode cX4_setColumns 36 = .ok (.aload 4, 2) := by decide +kernel
theorem dX4_setColumns_38 : decode cX4_setColumns 38 = .ok (.getfield 127, 3) := by decide +kernel
theorem dX4_setColumns_41 : decode cX4_setColumns 41 = .ok (.iload_n 2, 1) := by decide +kernel
theorem dX4_setColumns_42 : decode cX4_setColumns 42 = .ok (.iload_n 3, 1) := by decide +kernel
theorem dX4_setColumns_43 : decode cX4_setColumns 43 = .ok (.invokestatic 130, 3) := by decide +kernel
theorem dX4_setColumns_46 : decode cX4_setColumns 46 = .ok (.iastore, 1) := by decide +kernel
theorem dX4_setColumns_47 : decode cX4_setColumns 47 = .ok (.aload_n 0, 1) := by decide +kernel
theorem dX4_setColumns_48 : decode cX4_setColumns 48 = .ok (.aload 4, 2) := by decide +kernel
theorem dX4_setColumns_50 : decode cX4_setColumns 50 = .ok (.iload_n 2, 1) := by decide +kernel
theorem dX4_setColumns_51 : decode cX4_setColumns 51 = .ok (.invokevirtual 121, 3) := by decide +kernel
theorem dX4_setColumns_54 : decode cX4_setColumns 54 = .ok (.ireturn, 1) := by decide +kernel
set_option maxRecDepth 20000 in
theorem ggX4_subscribe_X4_checkSubscriber : GoodIn wsX4_subscribe wsX4_checkSubscriber := goodIn_ca (goodIn_r _ [7, 8, 9] (by decide +kernel) (by decide +kernel)) (goodIn_sub (fun _ h => List.mem_cons_of_mem _ (List.mem_append_right _ h)) (by decide +kernel))
set_option maxRecDepth 20000 in
theorem gX4_subscribe_X4_checkSubscriber : GoodIn wsX4_subscribe (va_wsS RX4 134 yX4_checkSubscriber wsX4_checkSubscriber) := goodIn_app (goodIn_of _ (by decide +kernel)) ggX4_subscribe_X4_checkSubscriber
set_option maxRecDepth 20000 in
theorem ggX4_subscribe_X4_checkPublication : GoodIn wsX4_subscribe wsX4_checkPublication := goodIn_ca (goodIn_r _ [12, 8, 9] (by decide +kernel) (by decide +kernel)) (goodIn_sub (fun _ h => List.mem_cons_of_mem _ (List.mem_append_right _ h)) (by decide +kernel))
set_option maxRecDepth 20000 in
theorem gX4_subscribe_X4_checkPublication : GoodIn wsX4_subscribe (va_wsS RX4 107 yX4_checkPublication wsX4_checkPublication) := goodIn_app (goodIn_of _ (by decide +kernel)) ggX4_subscribe_X4_checkPublication
set_option maxRecDepth 20000 in
theorem ggX4_subscribe_X2_follow : GoodIn wsX4_subscribe wsX2_follow := goodIn_r _ [17, 18, 19, 20, 21, 22, 23, 16, 24, 25, 31, 32, 33, 34, 35] (by decide +kernel) (by decide +kernel)
set_option maxRecDepth 20000 in
theorem gX4_subscribe_X2_follow : GoodIn wsX4_subscribe (wsV RX4 140 RX2 yX2_follow wsX2_follow) := goodIn_app (goodIn_of _ (by decide +kernel)) ggX4_subscribe_X2_follow
theorem dX4_subscribe_0 : decode cX4_subscribe 0 = .ok (.iload_n 1, 1) := by decide +kernel
theorem dX4_subscribe_1 : decode cX4_subscribe 1 = .ok (.invokestatic 134, 3) := by decide +kernel
theorem dX4_subscribe_4 : decode cX4_subscribe 4 = .ok (.iload_n 2, 1) := by decide +kernel
theorem dX4_subscribe_5 : decode cX4_subscribe 5 = .ok (.invokestatic 107, 3) := by decide +kernel
theorem dX4_subscribe_8 : decode cX4_subscribe 8 = .ok (.aload_n 0, 1) := by decide +kernel
theorem dX4_subscribe_9 : decode cX4_subscribe 9 = .ok (.getfield 24, 3) := by decide +kernel
theorem dX4_subscribe_12 : decode cX4_subscribe 12 = .ok (.iload_n 1, 1) := by decide +kernel
theorem dX4_subscribe_13 : decode cX4_subscribe 13 = .ok (.aaload, 1) := by decide +kernel
theorem dX4_subscribe_14 : decode cX4_subscribe 14 = .ok (.astore_n 3, 1) := by decide +kernel
theorem dX4_subscribe_15 : decode cX4_subscribe 15 = .ok (.aload_n 3, 1) := by decide +kernel
theorem dX4_subscribe_16 : decode cX4_subscribe 16 = .ok (.getfield 137, 3) := by decide +kernel
theorem dX4_subscribe_19 : decode cX4_subscribe 19 = .ok (.istore 4, 2) := by decide +kernel
theorem dX4_subscribe_21 : decode cX4_subscribe 21 = .ok (.aload_n 3, 1) := by decide +kernel
theorem dX4_subscribe_22 : decode cX4_subscribe 22 = .ok (.aload_n 0, 1) := by decide +kernel
theorem dX4_subscribe_23 : decode cX4_subscribe 23 = .ok (.getfield 18, 3) := by decide +kernel
theorem dX4_subscribe_26 : decode cX4_subscribe 26 = .ok (.iload_n 2, 1) := by decide +kernel
theorem dX4_subscribe_27 : decode cX4_subscribe 27 = .ok (.aaload, 1) := by decide +kernel
theorem dX4_subscribe_28 : decode cX4_subscribe 28 = .ok (.aload_n 0, 1) := by decide +kernel
theorem dX4_subscribe_29 : decode cX4_subscribe 29 = .ok (.getfield 12, 3) := by decide +kernel
theorem dX4_subscribe_32 : decode cX4_subscribe 32 = .ok (.getfield 78, 3) := by decide +kernel
theorem dX4_subscribe_35 : decode cX4_subscribe 35 = .ok (.invokevirtual 140, 3) := by decide +kernel
theorem dX4_subscribe_38 : decode cX4_subscribe 38 = .ok (.iload 4, 2) := by decide +kernel
theorem dX4_subscribe_40 : decode cX4_subscribe 40 = .ok (.ireturn, 1) := by decide +kernel
set_option maxRecDepth 20000 in
theorem ggX4_drop_X4_checkSubscriber : GoodIn wsX4_drop wsX4_checkSubscriber := goodIn_ca (goodIn_r _ [5, 6, 7] (by decide +kernel) (by decide +kernel)) (goodIn_sub (fun _ h => List.mem_cons_of_mem _ (List.mem_append_right _ h)) (by decide +kernel))
set_option maxRecDepth 20000 in
theorem gX4_drop_X4_checkSubscriber : GoodIn wsX4_drop (va_wsS RX4 134 yX4_checkSubscriber wsX4_checkSubscriber) := goodIn_app (goodIn_of _ (by decide +kernel)) ggX4_drop_X4_checkSubscriber
set_option maxRecDepth 20000 in
theorem ggX4_drop_X2_leave : GoodIn wsX4_drop wsX2_leave := goodIn_r _ [12, 13, 14, 15, 16, 17, 11, 18, 19, 25, 26, 27, 28, 29] (by decide +kernel) (by decide +kernel)
set_option maxRecDepth 20000 in
theorem gX4_drop_X2_leave : GoodIn wsX4_drop (wsV RX4 144 RX2 yX2_leave wsX2_leave) := goodIn_app (goodIn_of _ (by decide +kernel)) ggX4_drop_X2_leave
theorem dX4_drop_0 : decode cX4_drop 0 = .ok (.iload_n 1, 1) := by decide +kernel
theorem dX4_drop_1 : decode cX4_drop 1 = .ok (.invokestatic 134, 3) := by decide +kernel
theorem dX4_drop_4 : decode cX4_drop 4 = .ok (.aload_n 0, 1) := by decide +kernel
theorem dX4_drop_5 : decode cX4_drop 5 = .ok (.getfield 24, 3) := by decide +kernel
theorem dX4_drop_8 : decode cX4_drop 8 = .ok (.iload_n 1, 1) := by decide +kernel
theorem dX4_drop_9 : decode cX4_drop 9 = .ok (.aaload, 1) := by decide +kernel
theorem dX4_drop_10 : decode cX4_drop 10 = .ok (.astore_n 2, 1) := by decide +kernel
theorem dX4_drop_11 : decode cX4_drop 11 = .ok (.aload_n 2, 1) := by decide +kernel
theorem dX4_drop_12 : decode cX4_drop 12 = .ok (.getfield 137, 3) := by decide +kernel
theorem dX4_drop_15 : decode cX4_drop 15 = .ok (.istore_n 3, 1) := by decide +kernel
theorem dX4_drop_16 : decode cX4_drop 16 = .ok (.aload_n 2, 1) := by decide +kernel
theorem dX4_drop_17 : decode cX4_drop 17 = .ok (.invokevirtual 144, 3) := by decide +kernel
theorem dX4_drop_20 : decode cX4_drop 20 = .ok (.iload_n 3, 1) := by decide +kernel
theorem dX4_drop_21 : decode cX4_drop 21 = .ok (.ireturn, 1) := by decide +kernel
set_option maxRecDepth 20000 in
theorem ggX4_copy_X4_checkSubscriber : GoodIn wsX4_copy wsX4_checkSubscriber := goodIn_ca (goodIn_r _ [8, 9, 10] (by decide +kernel) (by decide +kernel)) (goodIn_sub (fun _ h => List.mem_cons_of_mem _ (List.mem_append_right _ h)) (by decide +kernel))
set_option maxRecDepth 20000 in
theorem gX4_copy_X4_checkSubscriber : GoodIn wsX4_copy (va_wsS RX4 134 yX4_checkSubscriber wsX4_checkSubscriber) := goodIn_app (goodIn_of _ (by decide +kernel)) ggX4_copy_X4_checkSubscriber
set_option maxRecDepth 20000 in
theorem ggX4_copy_X4_checkTable : GoodIn wsX4_copy wsX4_checkTable := goodIn_ca (goodIn_r _ [13, 9, 10] (by decide +kernel) (by decide +kernel)) (goodIn_sub (fun _ h => List.mem_cons_of_mem _ (List.mem_append_right _ h)) (by decide +kernel))
set_option maxRecDepth 20000 in
theorem gX4_copy_X4_checkTable : GoodIn wsX4_copy (va_wsS RX4 75 yX4_checkTable wsX4_checkTable) := goodIn_app (goodIn_of _ (by decide +kernel)) ggX4_copy_X4_checkTable
set_option maxRecDepth 20000 in
theorem ggX4_copy_X1_openChanges : GoodIn wsX4_copy wsX1_openChanges := goodIn_r _ [18, 19, 20, 49, 50, 51, 52, 53, 54, 55] (by decide +kernel) (by decide +kernel)
set_option maxRecDepth 20000 in
theorem gX4_copy_X1_openChanges : GoodIn wsX4_copy (wsV RX4 90 RX1 yX1_openChanges wsX1_openChanges) := goodIn_app (goodIn_of _ (by decide +kernel)) ggX4_copy_X1_openChanges
set_option maxRecDepth 20000 in
theorem ggX4_copy_X4_placeOf : GoodIn wsX4_copy wsX4_placeOf := goodIn_r _ [23] (by decide +kernel) (by decide +kernel)
set_option maxRecDepth 20000 in
theorem gX4_copy_X4_placeOf : GoodIn wsX4_copy (va_wsS RX4 56 yX4_placeOf wsX4_placeOf) := goodIn_app (goodIn_of _ (by decide +kernel)) ggX4_copy_X4_placeOf
set_option maxRecDepth 20000 in
theorem ggX4_copy_X0_choose : GoodIn wsX4_copy wsX0_choose := goodIn_r _ [28, 29, 30, 31, 7, 32, 33, 34, 35, 27, 36, 37, 38, 56, 57, 58, 59] (by decide +kernel) (by decide +kernel)
set_option maxRecDepth 20000 in
theorem gX4_copy_X0_choose : GoodIn wsX4_copy (wsV RX4 155 RX0 yX0_choose wsX0_choose) := goodIn_app (goodIn_of _ (by decide +kernel)) ggX4_copy_X0_choose
theorem dX4_copy_0 : decode cX4_copy 0 = .ok (.iload_n 1, 1) := by decide +kernel
theorem dX4_copy_1 : decode cX4_copy 1 = .ok (.invokestatic 134, 3) := by decide +kernel
theorem dX4_copy_4 : decode cX4_copy 4 = .ok (.iload_n 2, 1) := by decide +kernel
theorem dX4_copy_5 : decode cX4_copy 5 = .ok (.invokestatic 75, 3) := by decide +kernel
theorem dX4_copy_8 : decode cX4_copy 8 = .ok (.aload_n 0, 1) := by decide +kernel
theorem dX4_copy_9 : decode cX4_copy 9 = .ok (.getfield 24, 3) := by decide +kernel
theorem dX4_copy_12 : decode cX4_copy 12 = .ok (.iload_n 1, 1) := by decide +kernel
theorem dX4_copy_13 : decode cX4_copy 13 = .ok (.aaload, 1) := by decide +kernel
theorem dX4_copy_14 : decode cX4_copy 14 = .ok (.astore_n 3, 1) := by decide +kernel
theorem dX4_copy_15 : decode cX4_copy 15 = .ok (.aload_n 3, 1) := by decide +kernel
theorem dX4_copy_16 : decode cX4_copy 16 = .ok (.getfield 147, 3) := by decide +kernel
theorem dX4_copy_19 : decode cX4_copy 19 = .ok (.astore 4, 2) := by decide +kernel
theorem dX4_copy_21 : decode cX4_copy 21 = .ok (.aload_n 3, 1) := by decide +kernel
theorem dX4_copy_22 : decode cX4_copy 22 = .ok (.getfield 137, 3) := by decide +kernel
theorem dX4_copy_25 : decode cX4_copy 25 = .ok (.iconst 1, 1) := by decide +kernel
theorem dX4_copy_26 : decode cX4_copy 26 = .ok (.if_icmp .ne 8, 3) := by decide +kernel
theorem dX4_copy_29 : decode cX4_copy 29 = .ok (.aload 4, 2) := by decide +kernel
theorem dX4_copy_31 : decode cX4_copy 31 = .ok (.ifnonnull 13, 3) := by decide +kernel
theorem dX4_copy_34 : decode cX4_copy 34 = .ok (.new 68, 3) := by decide +kernel
theorem dX4_copy_37 : decode cX4_copy 37 = .ok (.dup, 1) := by decide +kernel
theorem dX4_copy_38 : decode cX4_copy 38 = .ok (.ldc 151, 2) := by decide +kernel
theorem dX4_copy_40 : decode cX4_copy 40 = .ok (.invokespecial 72, 3) := by decide +kernel
theorem dX4_copy_43 : decode cX4_copy 43 = .ok (.athrow, 1) := by decide +kernel
theorem dX4_copy_44 : decode cX4_copy 44 = .ok (.aload_n 0, 1) := by decide +kernel
theorem dX4_copy_45 : decode cX4_copy 45 = .ok (.getfield 12, 3) := by decide +kernel
theorem dX4_copy_48 : decode cX4_copy 48 = .ok (.invokevirtual 90, 3) := by decide +kernel
theorem dX4_copy_51 : decode cX4_copy 51 = .ok (.ifCond .le 13, 3) := by decide +kernel
theorem dX4_copy_54 : decode cX4_copy 54 = .ok (.new 68, 3) := by decide +kernel
theorem dX4_copy_57 : decode cX4_copy 57 = .ok (.dup, 1) := by decide +kernel
theorem dX4_copy_58 : decode cX4_copy 58 = .ok (.ldc 153, 2) := by decide +kernel
theorem dX4_copy_60 : decode cX4_copy 60 = .ok (.invokespecial 72, 3) := by decide +kernel
theorem dX4_copy_63 : decode cX4_copy 63 = .ok (.athrow, 1) := by decide +kernel
theorem dX4_copy_64 : decode cX4_copy 64 = .ok (.iconst 0, 1) := by decide +kernel
theorem dX4_copy_65 : decode cX4_copy 65 = .ok (.istore 5, 2) := by decide +kernel
theorem dX4_copy_67 : decode cX4_copy 67 = .ok (.iconst 0, 1) := by decide +kernel
theorem dX4_copy_68 : decode cX4_copy 68 = .ok (.istore 6, 2) := by decide +kernel
theorem dX4_copy_70 : decode cX4_copy 70 = .ok (.iload 6, 2) := by decide +kernel
theorem dX4_copy_72 : decode cX4_copy 72 = .ok (.bipush 12, 2) := by decide +kernel
theorem dX4_copy_74 : decode cX4_copy 74 = .ok (.if_icmp .ge 53, 3) := by decide +kernel
theorem dX4_copy_77 : decode cX4_copy 77 = .ok (.iload_n 2, 1) := by decide +kernel
theorem dX4_copy_78 : decode cX4_copy 78 = .ok (.iload 6, 2) := by decide +kernel
theorem dX4_copy_80 : decode cX4_copy 80 = .ok (.invokestatic 56, 3) := by decide +kernel
theorem dX4_copy_83 : decode cX4_copy 83 = .ok (.istore 7, 2) := by decide +kernel
theorem dX4_copy_85 : decode cX4_copy 85 = .ok (.aload 4, 2) := by decide +kernel
theorem dX4_copy_87 : decode cX4_copy 87 = .ok (.iload_n 2, 1) := by decide +kernel
theorem dX4_copy_88 : decode cX4_copy 88 = .ok (.aload_n 0, 1) := by decide +kernel
theorem dX4_copy_89 : decode cX4_copy 89 = .ok (.getfield 12, 3) := by decide +kernel
theorem dX4_copy_92 : decode cX4_copy 92 = .ok (.getfield 52, 3) := by decide +kernel
theorem dX4_copy_95 : decode cX4_copy 95 = .ok (.iload 7, 2) := by decide +kernel
theorem dX4_copy_97 : decode cX4_copy 97 = .ok (.iaload, 1) := by decide +kernel
theorem dX4_copy_98 : decode cX4_copy 98 = .ok (.invokevirtual 155, 3) := by decide +kernel
theorem dX4_copy_101 : decode cX4_copy 101 = .ok (.istore 8, 2) := by decide +kernel
theorem dX4_copy_103 : decode cX4_copy 103 = .ok (.aload_n 3, 1) := by decide +kernel
theorem dX4_copy_104 : decode cX4_copy 104 = .ok (.getfield 158, 3) := by decide +kernel
theorem dX4_copy_107 : decode cX4_copy 107 = .ok (.iload 7, 2) := by decide +kernel
theorem dX4_copy_109 : decode cX4_copy 109 = .ok (.iload 8, 2) := by decide +kernel
theorem dX4_copy_111 : decode cX4_copy 111 = .ok (.iastore, 1) := by decide +kernel
theorem dX4_copy_112 : decode cX4_copy 112 = .ok (.iload 8, 2) := by decide +kernel
theorem dX4_copy_114 : decode cX4_copy 114 = .ok (.iconst (-1), 1) := by decide +kernel
theorem dX4_copy_115 : decode cX4_copy 115 = .ok (.if_icmp .eq 6, 3) := by decide +kernel
theorem dX4_copy_118 : decode cX4_copy 118 = .ok (.iinc 5 1, 3) := by decide +kernel
theorem dX4_copy_121 : decode cX4_copy 121 = .ok (.iinc 6 1, 3) := by decide +kernel
theorem dX4_copy_124 : decode cX4_copy 124 = .ok (.goto (-54), 3) := by decide +kernel
theorem dX4_copy_127 : decode cX4_copy 127 = .ok (.aload_n 3, 1) := by decide +kernel
theorem dX4_copy_128 : decode cX4_copy 128 = .ok (.getfield 159, 3) := by decide +kernel
theorem dX4_copy_131 : decode cX4_copy 131 = .ok (.iload_n 2, 1) := by decide +kernel
theorem dX4_copy_132 : decode cX4_copy 132 = .ok (.aload_n 0, 1) := by decide +kernel
theorem dX4_copy_133 : decode cX4_copy 133 = .ok (.getfield 12, 3) := by decide +kernel
theorem dX4_copy_136 : decode cX4_copy 136 = .ok (.getfield 78, 3) := by decide +kernel
theorem dX4_copy_139 : decode cX4_copy 139 = .ok (.iastore, 1) := by decide +kernel
theorem dX4_copy_140 : decode cX4_copy 140 = .ok (.iload 5, 2) := by decide +kernel
theorem dX4_copy_142 : decode cX4_copy 142 = .ok (.ireturn, 1) := by decide +kernel
set_option maxRecDepth 20000 in
theorem ggX4_receive_X4_checkSubscriber : GoodIn wsX4_receive wsX4_checkSubscriber := goodIn_ca (goodIn_r _ [11, 12, 13] (by decide +kernel) (by decide +kernel)) (goodIn_sub (fun _ h => List.mem_cons_of_mem _ (List.mem_append_right _ h)) (by decide +kernel))
set_option maxRecDepth 20000 in
theorem gX4_receive_X4_checkSubscriber : GoodIn wsX4_receive (va_wsS RX4 134 yX4_checkSubscriber wsX4_checkSubscriber) := goodIn_app (goodIn_of _ (by decide +kernel)) ggX4_receive_X4_checkSubscriber
set_option maxRecDepth 20000 in
theorem ggX4_receive_X3_applies : GoodIn wsX4_receive wsX3_applies := goodIn_r _ [18, 19, 20, 21, 22, 23, 24, 25, 26, 27, 28, 29, 30, 31, 32, 33, 17, 34, 35, 36, 37, 38, 39, 10, 40, 41, 42, 43, 44, 45, 46, 47, 48, 49, 50, 51, 52, 53, 54, 55, 68, 69, 70, 71, 72, 73, 74, 75, 76, 77, 78, 79, 80, 81, 82, 83, 84, 85] (by decide +kernel) (by decide +kernel)
set_option maxRecDepth 20000 in
theorem gX4_receive_X3_applies : GoodIn wsX4_receive (wsV RX4 167 RX3 yX3_applies wsX3_applies) := goodIn_app (goodIn_of _ (by decide +kernel)) ggX4_receive_X3_applies
set_option maxRecDepth 20000 in
theorem ggX4_receive_X2_accept : GoodIn wsX4_receive wsX2_accept := goodIn_r _ [59, 60, 61, 21, 22, 23, 62, 68, 69, 70, 71, 72] (by decide +kernel) (by decide +kernel)
set_option maxRecDepth 20000 in
theorem gX4_receive_X2_accept : GoodIn wsX4_receive (wsV RX4 172 RX2 yX2_accept wsX2_accept) := goodIn_app (goodIn_of _ (by decide +kernel)) ggX4_receive_X2_accept
theorem dX4_receive_0 : decode cX4_receive 0 = .ok (.iload_n 1, 1) := by decide +kernel
theorem dX4_receive_1 : decode cX4_receive 1 = .ok (.invokestatic 134, 3) := by decide +kernel
theorem dX4_receive_4 : decode cX4_receive 4 = .ok (.iload_n 2, 1) := by decide +kernel
theorem dX4_receive_5 : decode cX4_receive 5 = .ok (.iconst 1, 1) := by decide +kernel
theorem dX4_receive_6 : decode cX4_receive 6 = .ok (.if_icmp .lt 9, 3) := by decide +kernel
theorem dX4_receive_9 : decode cX4_receive 9 = .ok (.iload_n 2, 1) := by decide +kernel
theorem dX4_receive_10 : decode cX4_receive 10 = .ok (.bipush 50, 2) := by decide +kernel
theorem dX4_receive_12 : decode cX4_receive 12 = .ok (.if_icmp .le 13, 3) := by decide +kernel
theorem dX4_receive_15 : decode cX4_receive 15 = .ok (.new 102, 3) := by decide +kernel
theorem dX4_receive_18 : decode cX4_receive 18 = .ok (.dup, 1) := by decide +kernel
theorem dX4_receive_19 : decode cX4_receive 19 = .ok (.ldc 162, 2) := by decide +kernel
theorem dX4_receive_21 : decode cX4_receive 21 = .ok (.invokespecial 106, 3) := by decide +kernel
theorem dX4_receive_24 : decode cX4_receive 24 = .ok (.athrow, 1) := by decide +kernel
theorem dX4_receive_25 : decode cX4_receive 25 = .ok (.aload_n 0, 1) := by decide +kernel
theorem dX4_receive_26 : decode cX4_receive 26 = .ok (.getfield 24, 3) := by decide +kernel
theorem dX4_receive_29 : decode cX4_receive 29 = .ok (.iload_n 1, 1) := by decide +kernel
theorem dX4_receive_30 : decode cX4_receive 30 = .ok (.aaload, 1) := by decide +kernel
theorem dX4_receive_31 : decode cX4_receive 31 = .ok (.astore_n 3, 1) := by decide +kernel
theorem dX4_receive_32 : decode cX4_receive 32 = .ok (.aload_n 3, 1) := by decide +kernel
theorem dX4_receive_33 : decode cX4_receive 33 = .ok (.getfield 147, 3) := by decide +kernel
theorem dX4_receive_36 : decode cX4_receive 36 = .ok (.astore 4, 2) := by decide +kernel
theorem dX4_receive_38 : decode cX4_receive 38 = .ok (.aload_n 3, 1) := by decide +kernel
theorem dX4_receive_39 : decode cX4_receive 39 = .ok (.getfield 137, 3) := by decide +kernel
theorem dX4_receive_42 : decode cX4_receive 42 = .ok (.iconst 1, 1) := by decide +kernel
theorem dX4_receive_43 : decode cX4_receive 43 = .ok (.if_icmp .ne 8, 3) := by decide +kernel
theorem dX4_receive_46 : decode cX4_receive 46 = .ok (.aload 4, 2) := by decide +kernel
theorem dX4_receive_48 : decode cX4_receive 48 = .ok (.ifnonnull 13, 3) := by decide +kernel
theorem dX4_receive_51 : decode cX4_receive 51 = .ok (.new 68, 3) := by decide +kernel
theorem dX4_receive_54 : decode cX4_receive 54 = .ok (.dup, 1) := by decide +kernel
theorem dX4_receive_55 : decode cX4_receive 55 = .ok (.ldc 151, 2) := by decide +kernel
theorem dX4_receive_57 : decode cX4_receive 57 = .ok (.invokespecial 72, 3) := by decide +kernel
theorem dX4_receive_60 : decode cX4_receive 60 = .ok (.athrow, 1) := by decide +kernel
theorem dX4_receive_61 : decode cX4_receive 61 = .ok (.iconst 0, 1) := by decide +kernel
theorem dX4_receive_62 : decode cX4_receive 62 = .ok (.istore 5, 2) := by decide +kernel
theorem dX4_receive_64 : decode cX4_receive 64 = .ok (.iload 5, 2) := by decide +kernel
theorem dX4_receive_66 : decode cX4_receive 66 = .ok (.iload_n 2, 1) := by decide +kernel
theorem dX4_receive_67 : decode cX4_receive 67 = .ok (.if_icmp .ge 59, 3) := by decide +kernel
theorem dX4_receive_70 : decode cX4_receive 70 = .ok (.aload_n 3, 1) := by decide +kernel
theorem dX4_receive_71 : decode cX4_receive 71 = .ok (.getfield 164, 3) := by decide +kernel
theorem dX4_receive_74 : decode cX4_receive 74 = .ok (.aload_n 0, 1) := by decide +kernel
theorem dX4_receive_75 : decode cX4_receive 75 = .ok (.getfield 12, 3) := by decide +kernel
theorem dX4_receive_78 : decode cX4_receive 78 = .ok (.getfield 78, 3) := by decide +kernel
theorem dX4_receive_81 : decode cX4_receive 81 = .ok (.if_icmp .ge 45, 3) := by decide +kernel
theorem dX4_receive_84 : decode cX4_receive 84 = .ok (.aload_n 0, 1) := by decide +kernel
theorem dX4_receive_85 : decode cX4_receive 85 = .ok (.getfield 31, 3) := by decide +kernel
theorem dX4_receive_88 : decode cX4_receive 88 = .ok (.aload_n 0, 1) := by decide +kernel
theorem dX4_receive_89 : decode cX4_receive 89 = .ok (.getfield 12, 3) := by decide +kernel
theorem dX4_receive_92 : decode cX4_receive 92 = .ok (.aload 4, 2) := by decide +kernel
theorem dX4_receive_94 : decode cX4_receive 94 = .ok (.aload_n 3, 1) := by decide +kernel
theorem dX4_receive_95 : decode cX4_receive 95 = .ok (.invokevirtual 167, 3) := by decide +kernel
theorem dX4_receive_98 : decode cX4_receive 98 = .ok (.ifCond .ne 11, 3) := by decide +kernel
theorem dX4_receive_101 : decode cX4_receive 101 = .ok (.aload_n 3, 1) := by decide +kernel
theorem dX4_receive_102 : decode cX4_receive 102 = .ok (.iconst 2, 1) := by decide +kernel
theorem dX4_receive_103 : decode cX4_receive 103 = .ok (.putfield 137, 3) := by decide +kernel
theorem dX4_receive_106 : decode cX4_receive 106 = .ok (.iload 5, 2) := by decide +kernel
theorem dX4_receive_108 : decode cX4_receive 108 = .ok (.ireturn, 1) := by decide +kernel
theorem dX4_receive_109 : decode cX4_receive 109 = .ok (.aload_n 3, 1) := by decide +kernel
theorem dX4_receive_110 : decode cX4_receive 110 = .ok (.aload_n 0, 1) := by decide +kernel
theorem dX4_receive_111 : decode cX4_receive 111 = .ok (.getfield 31, 3) := by decide +kernel
theorem dX4_receive_114 : decode cX4_receive 114 = .ok (.getfield 171, 3) := by decide +kernel
theorem dX4_receive_117 : decode cX4_receive 117 = .ok (.invokevirtual 172, 3) := by decide +kernel
theorem dX4_receive_120 : decode cX4_receive 120 = .ok (.iinc 5 1, 3) := by decide +kernel
theorem dX4_receive_123 : decode cX4_receive 123 = .ok (.goto (-59), 3) := by decide +kernel
theorem dX4_receive_126 : decode cX4_receive 126 = .ok (.iload 5, 2) := by decide +kernel
theorem dX4_receive_128 : decode cX4_receive 128 = .ok (.ireturn, 1) := by decide +kernel
set_option maxRecDepth 20000 in
theorem ggX4_goOn_X4_checkSubscriber : GoodIn wsX4_goOn wsX4_checkSubscriber := goodIn_ca (goodIn_r _ [7, 8, 9] (by decide +kernel) (by decide +kernel)) (goodIn_sub (fun _ h => List.mem_cons_of_mem _ (List.mem_append_right _ h)) (by decide +kernel))
set_option maxRecDepth 20000 in
theorem gX4_goOn_X4_checkSubscriber : GoodIn wsX4_goOn (va_wsS RX4 134 yX4_checkSubscriber wsX4_checkSubscriber) := goodIn_app (goodIn_of _ (by decide +kernel)) ggX4_goOn_X4_checkSubscriber
theorem dX4_goOn_0 : decode cX4_goOn 0 = .ok (.iload_n 1, 1) := by decide +kernel
theorem dX4_goOn_1 : decode cX4_goOn 1 = .ok (.invokestatic 134, 3) := by decide +kernel
theorem dX4_goOn_4 : decode cX4_goOn 4 = .ok (.aload_n 0, 1) := by decide +kernel
theorem dX4_goOn_5 : decode cX4_goOn 5 = .ok (.getfield 24, 3) := by decide +kernel
theorem dX4_goOn_8 : decode cX4_goOn 8 = .ok (.iload_n 1, 1) := by decide +kernel
theorem dX4_goOn_9 : decode cX4_goOn 9 = .ok (.aaload, 1) := by decide +kernel
theorem dX4_goOn_10 : decode cX4_goOn 10 = .ok (.astore_n 3, 1) := by decide +kernel
theorem dX4_goOn_11 : decode cX4_goOn 11 = .ok (.aload_n 3, 1) := by decide +kernel
theorem dX4_goOn_12 : decode cX4_goOn 12 = .ok (.getfield 137, 3) := by decide +kernel
theorem dX4_goOn_15 : decode cX4_goOn 15 = .ok (.iconst 2, 1) := by decide +kernel
theorem dX4_goOn_16 : decode cX4_goOn 16 = .ok (.if_icmp .eq 13, 3) := by decide +kernel
theorem dX4_goOn_19 : decode cX4_goOn 19 = .ok (.new 68, 3) := by decide +kernel
theorem dX4_goOn_22 : decode cX4_goOn 22 = .ok (.dup, 1) := by decide +kernel
theorem dX4_goOn_23 : decode cX4_goOn 23 = .ok (.ldc 176, 2) := by decide +kernel
theorem dX4_goOn_25 : decode cX4_goOn 25 = .ok (.invokespecial 72, 3) := by decide +kernel
theorem dX4_goOn_28 : decode cX4_goOn 28 = .ok (.athrow, 1) := by decide +kernel
theorem dX4_goOn_29 : decode cX4_goOn 29 = .ok (.aload_n 3, 1) := by decide +kernel
theorem dX4_goOn_30 : decode cX4_goOn 30 = .ok (.iconst 1, 1) := by decide +kernel
theorem dX4_goOn_31 : decode cX4_goOn 31 = .ok (.putfield 137, 3) := by decide +kernel
theorem dX4_goOn_34 : decode cX4_goOn 34 = .ok (.iload_n 2, 1) := by decide +kernel
theorem dX4_goOn_35 : decode cX4_goOn 35 = .ok (.ifCond .eq 13, 3) := by decide +kernel
theorem dX4_goOn_38 : decode cX4_goOn 38 = .ok (.aload_n 3, 1) := by decide +kernel
theorem dX4_goOn_39 : decode cX4_goOn 39 = .ok (.dup, 1) := by decide +kernel
theorem dX4_goOn_40 : decode cX4_goOn 40 = .ok (.getfield 164, 3) := by decide +kernel
theorem dX4_goOn_43 : decode cX4_goOn 43 = .ok (.iconst 1, 1) := by decide +kernel
theorem dX4_goOn_44 : decode cX4_goOn 44 = .ok (.iadd, 1) := by decide +kernel
theorem dX4_goOn_45 : decode cX4_goOn 45 = .ok (.putfield 164, 3) := by decide +kernel
theorem dX4_goOn_48 : decode cX4_goOn 48 = .ok (.aload_n 3, 1) := by decide +kernel
theorem dX4_goOn_49 : decode cX4_goOn 49 = .ok (.getfield 164, 3) := by decide +kernel
theorem dX4_goOn_52 : decode cX4_goOn 52 = .ok (.ireturn, 1) := by decide +kernel
set_option maxRecDepth 20000 in
theorem ggX4_own_X4_checkSubscriber : GoodIn wsX4_own wsX4_checkSubscriber := goodIn_ca (goodIn_r _ [5, 6, 7] (by decide +kernel) (by decide +kernel)) (goodIn_sub (fun _ h => List.mem_cons_of_mem _ (List.mem_append_left _ (List.mem_append_right _ h))) (by decide +kernel))
set_option maxRecDepth 20000 in
theorem gX4_own_X4_checkSubscriber : GoodIn wsX4_own (va_wsS RX4 134 yX4_checkSubscriber wsX4_checkSubscriber) := goodIn_app (goodIn_of _ (by decide +kernel)) ggX4_own_X4_checkSubscriber
set_option maxRecDepth 20000 in
theorem ggX4_own_X4_checkKey : GoodIn wsX4_own wsX4_checkKey := goodIn_ca (goodIn_r _ [10, 6, 7, 11, 12, 4, 13] (by decide +kernel) (by decide +kernel)) (goodIn_sub (fun _ h => List.mem_cons_of_mem _ (List.mem_append_left _ (List.mem_append_right _ h))) (by decide +kernel))
set_option maxRecDepth 20000 in
theorem gX4_own_X4_checkKey : GoodIn wsX4_own (va_wsS RX4 41 yX4_checkKey wsX4_checkKey) := goodIn_app (goodIn_of _ (by decide +kernel)) ggX4_own_X4_checkKey
set_option maxRecDepth 20000 in
theorem ggX4_own_X4_checkNumber : GoodIn wsX4_own wsX4_checkNumber := goodIn_ca (goodIn_r _ [16, 17, 18] (by decide +kernel) (by decide +kernel)) (goodIn_sub (fun _ h => List.mem_cons_of_mem _ (List.mem_append_right _ h)) (by decide +kernel))
set_option maxRecDepth 20000 in
theorem gX4_own_X4_checkNumber : GoodIn wsX4_own (va_wsS RX4 45 yX4_checkNumber wsX4_checkNumber) := goodIn_app (goodIn_of _ (by decide +kernel)) ggX4_own_X4_checkNumber
set_option maxRecDepth 20000 in
theorem ggX4_own_X4_placeOf : GoodIn wsX4_own wsX4_placeOf := goodIn_r _ [21] (by decide +kernel) (by decide +kernel)
set_option maxRecDepth 20000 in
theorem gX4_own_X4_placeOf : GoodIn wsX4_own (va_wsS RX4 56 yX4_placeOf wsX4_placeOf) := goodIn_app (goodIn_of _ (by decide +kernel)) ggX4_own_X4_placeOf
set_option maxRecDepth 20000 in
theorem ggX4_own_X4_rowOf : GoodIn wsX4_own wsX4_rowOf := goodIn_r _ [24] (by decide +kernel) (by decide +kernel)
set_option maxRecDepth 20000 in
theorem gX4_own_X4_rowOf : GoodIn wsX4_own (va_wsS RX4 60 yX4_rowOf wsX4_rowOf) := goodIn_app (goodIn_of _ (by decide +kernel)) ggX4_own_X4_rowOf
theorem dX4_own_0 : decode cX4_own 0 = .ok (.iload_n 1, 1) := by decide +kernel
theorem dX4_own_1 : decode cX4_own 1 = .ok (.invokestatic 134, 3) := by decide +kernel
theorem dX4_own_4 : decode cX4_own 4 = .ok (.iload_n 2, 1) := by decide +kernel
theorem dX4_own_5 : decode cX4_own 5 = .ok (.iload_n 3, 1) := by decide +kernel
theorem dX4_own_6 : decode cX4_own 6 = .ok (.invokestatic 41, 3) := by decide +kernel
theorem dX4_own_9 : decode cX4_own 9 = .ok (.iload 4, 2) := by decide +kernel
theorem dX4_own_11 : decode cX4_own 11 = .ok (.iconst (-1), 1) := by decide +kernel
theorem dX4_own_12 : decode cX4_own 12 = .ok (.if_icmp .eq 8, 3) := by decide +kernel
theorem dX4_own_15 : decode cX4_own 15 = .ok (.iload 4, 2) := by decide +kernel
theorem dX4_own_17 : decode cX4_own 17 = .ok (.invokestatic 45, 3) := by decide +kernel
theorem dX4_own_20 : decode cX4_own 20 = .ok (.aload_n 0, 1) := by decide +kernel
theorem dX4_own_21 : decode cX4_own 21 = .ok (.getfield 24, 3) := by decide +kernel
theorem dX4_own_24 : decode cX4_own 24 = .ok (.iload_n 1, 1) := by decide +kernel
theorem dX4_own_25 : decode cX4_own 25 = .ok (.aaload, 1) := by decide +kernel
theorem dX4_own_26 : decode cX4_own 26 = .ok (.getfield 158, 3) := by decide +kernel
theorem dX4_own_29 : decode cX4_own 29 = .ok (.astore 5, 2) := by decide +kernel
theorem dX4_own_31 : decode cX4_own 31 = .ok (.iload_n 2, 1) := by decide +kernel
theorem dX4_own_32 : decode cX4_own 32 = .ok (.iload_n 3, 1) := by decide +kernel
theorem dX4_own_33 : decode cX4_own 33 = .ok (.invokestatic 56, 3) := by decide +kernel
theorem dX4_own_36 : decode cX4_own 36 = .ok (.istore 6, 2) := by decide +kernel
theorem dX4_own_38 : decode cX4_own 38 = .ok (.aload 5, 2) := by decide +kernel
theorem dX4_own_40 : decode cX4_own 40 = .ok (.iload 6, 2) := by decide +kernel
theorem dX4_own_42 : decode cX4_own 42 = .ok (.iaload, 1) := by decide +kernel
theorem dX4_own_43 : decode cX4_own 43 = .ok (.iconst (-1), 1) := by decide +kernel
theorem dX4_own_44 : decode cX4_own 44 = .ok (.if_icmp .eq 7, 3) := by decide +kernel
theorem dX4_own_47 : decode cX4_own 47 = .ok (.iconst 1, 1) := by decide +kernel
theorem dX4_own_48 : decode cX4_own 48 = .ok (.goto 4, 3) := by decide +kernel
theorem dX4_own_51 : decode cX4_own 51 = .ok (.iconst 0, 1) := by decide +kernel
theorem dX4_own_52 : decode cX4_own 52 = .ok (.istore 7, 2) := by decide +kernel
theorem dX4_own_54 : decode cX4_own 54 = .ok (.aload 5, 2) := by decide +kernel
theorem dX4_own_56 : decode cX4_own 56 = .ok (.iload 6, 2) := by decide +kernel
theorem dX4_own_58 : decode cX4_own 58 = .ok (.iload 4, 2) := by decide +kernel
theorem dX4_own_60 : decode cX4_own 60 = .ok (.iconst (-1), 1) := by decide +kernel
theorem dX4_own_61 : decode cX4_own 61 = .ok (.if_icmp .ne 7, 3) := by decide +kernel
theorem dX4_own_64 : decode cX4_own 64 = .ok (.iconst (-1), 1) := by decide +kernel
theorem dX4_own_65 : decode cX4_own 65 = .ok (.goto 12, 3) := by decide +kernel
theorem dX4_own_68 : decode cX4_own 68 = .ok (.iload 4, 2) := by decide +kernel
theorem dX4_own_70 : decode cX4_own 70 = .ok (.iload 4, 2) := by decide +kernel
theorem dX4_own_72 : decode cX4_own 72 = .ok (.iload 4, 2) := by decide +kernel
theorem dX4_own_74 : decode cX4_own 74 = .ok (.invokestatic 60, 3) := by decide +kernel
theorem dX4_own_77 : decode cX4_own 77 = .ok (.iastore, 1) := by decide +kernel
theorem dX4_own_78 : decode cX4_own 78 = .ok (.iload 7, 2) := by decide +kernel
theorem dX4_own_80 : decode cX4_own 80 = .ok (.ireturn, 1) := by decide +kernel
set_option maxRecDepth 20000 in
theorem ggX4_state_X4_checkSubscriber : GoodIn wsX4_state wsX4_checkSubscriber := goodIn_ca (goodIn_r _ [5, 6, 7] (by decide +kernel) (by decide +kernel)) (goodIn_sub (fun _ h => List.mem_cons_of_mem _ (List.mem_append_right _ h)) (by decide +kernel))
set_option maxRecDepth 20000 in
theorem gX4_state_X4_checkSubscriber : GoodIn wsX4_state (va_wsS RX4 134 yX4_checkSubscriber wsX4_checkSubscriber) := goodIn_app (goodIn_of _ (by decide +kernel)) ggX4_state_X4_checkSubscriber
theorem dX4_state_0 : decode cX4_state 0 = .ok (.iload_n 1, 1) := by decide +kernel
theorem dX4_state_1 : decode cX4_state 1 = .ok (.invokestatic 134, 3) := by decide +kernel
theorem dX4_state_4 : decode cX4_state 4 = .ok (.aload_n 0, 1) := by decide +kernel
theorem dX4_state_5 : decode cX4_state 5 = .ok (.getfield 24, 3) := by decide +kernel
theorem dX4_state_8 : decode cX4_state 8 = .ok (.iload_n 1, 1) := by decide +kernel
theorem dX4_state_9 : decode cX4_state 9 = .ok (.aaload, 1) := by decide +kernel
theorem dX4_state_10 : decode cX4_state 10 = .ok (.getfield 137, 3) := by decide +kernel
theorem dX4_state_13 : decode cX4_state 13 = .ok (.ireturn, 1) := by decide +kernel
set_option maxRecDepth 20000 in
theorem ggX4_lag_X4_checkSubscriber : GoodIn wsX4_lag wsX4_checkSubscriber := goodIn_ca (goodIn_r _ [6, 7, 8] (by decide +kernel) (by decide +kernel)) (goodIn_sub (fun _ h => List.mem_cons_of_mem _ (List.mem_append_right _ h)) (by decide +kernel))
set_option maxRecDepth 20000 in
theorem gX4_lag_X4_checkSubscriber : GoodIn wsX4_lag (va_wsS RX4 134 yX4_checkSubscriber wsX4_checkSubscriber) := goodIn_app (goodIn_of _ (by decide +kernel)) ggX4_lag_X4_checkSubscriber
set_option maxRecDepth 20000 in
theorem ggX4_lag_X2_commitsBehind : GoodIn wsX4_lag wsX2_commitsBehind := goodIn_r _ [13, 14, 15, 16, 17, 12, 18, 19, 32, 33, 34, 35, 36] (by decide +kernel) (by decide +kernel)
set_option maxRecDepth 20000 in
theorem gX4_lag_X2_commitsBehind : GoodIn wsX4_lag (wsV RX4 178 RX2 yX2_commitsBehind wsX2_commitsBehind) := goodIn_app (goodIn_of _ (by decide +kernel)) ggX4_lag_X2_commitsBehind
theorem dX4_lag_0 : decode cX4_lag 0 = .ok (.iload_n 1, 1) := by decide +kernel
theorem dX4_lag_1 : decode cX4_lag 1 = .ok (.invokestatic 134, 3) := by decide +kernel
theorem dX4_lag_4 : decode cX4_lag 4 = .ok (.aload_n 0, 1) := by decide +kernel
theorem dX4_lag_5 : decode cX4_lag 5 = .ok (.getfield 24, 3) := by decide +kernel
theorem dX4_lag_8 : decode cX4_lag 8 = .ok (.iload_n 1, 1) := by decide +kernel
theorem dX4_lag_9 : decode cX4_lag 9 = .ok (.aaload, 1) := by decide +kernel
theorem dX4_lag_10 : decode cX4_lag 10 = .ok (.aload_n 0, 1) := by decide +kernel
theorem dX4_lag_11 : decode cX4_lag 11 = .ok (.getfield 12, 3) := by decide +kernel
theorem dX4_lag_14 : decode cX4_lag 14 = .ok (.getfield 78, 3) := by decide +kernel
theorem dX4_lag_17 : decode cX4_lag 17 = .ok (.invokevirtual 178, 3) := by decide +kernel
theorem dX4_lag_20 : decode cX4_lag 20 = .ok (.ireturn, 1) := by decide +kernel
set_option maxRecDepth 20000 in
theorem ggX4_copiedAt_X4_checkSubscriber : GoodIn wsX4_copiedAt wsX4_checkSubscriber := goodIn_ca (goodIn_r _ [5, 6, 7] (by decide +kernel) (by decide +kernel)) (goodIn_sub (fun _ h => List.mem_cons_of_mem _ (List.mem_append_right _ h)) (by decide +kernel))
set_option maxRecDepth 20000 in
theorem gX4_copiedAt_X4_checkSubscriber : GoodIn wsX4_copiedAt (va_wsS RX4 134 yX4_checkSubscriber wsX4_checkSubscriber) := goodIn_app (goodIn_of _ (by decide +kernel)) ggX4_copiedAt_X4_checkSubscriber
set_option maxRecDepth 20000 in
theorem ggX4_copiedAt_X4_checkTable : GoodIn wsX4_copiedAt wsX4_checkTable := goodIn_ca (goodIn_r _ [10, 6, 7] (by decide +kernel) (by decide +kernel)) (goodIn_sub (fun _ h => List.mem_cons_of_mem _ (List.mem_append_right _ h)) (by decide +kernel))
set_option maxRecDepth 20000 in
theorem gX4_copiedAt_X4_checkTable : GoodIn wsX4_copiedAt (va_wsS RX4 75 yX4_checkTable wsX4_checkTable) := goodIn_app (goodIn_of _ (by decide +kernel)) ggX4_copiedAt_X4_checkTable
theorem dX4_copiedAt_0 : decode cX4_copiedAt 0 = .ok (.iload_n 1, 1) := by decide +kernel
theorem dX4_copiedAt_1 : decode cX4_copiedAt 1 = .ok (.invokestatic 134, 3) := by decide +kernel
theorem dX4_copiedAt_4 : decode cX4_copiedAt 4 = .ok (.iload_n 2, 1) := by decide +kernel
theorem dX4_copiedAt_5 : decode cX4_copiedAt 5 = .ok (.invokestatic 75, 3) := by decide +kernel
theorem dX4_copiedAt_8 : decode cX4_copiedAt 8 = .ok (.aload_n 0, 1) := by decide +kernel
theorem dX4_copiedAt_9 : decode cX4_copiedAt 9 = .ok (.getfield 24, 3) := by decide +kernel
theorem dX4_copiedAt_12 : decode cX4_copiedAt 12 = .ok (.iload_n 1, 1) := by decide +kernel
theorem dX4_copiedAt_13 : decode cX4_copiedAt 13 = .ok (.aaload, 1) := by decide +kernel
theorem dX4_copiedAt_14 : decode cX4_copiedAt 14 = .ok (.getfield 159, 3) := by decide +kernel
theorem dX4_copiedAt_17 : decode cX4_copiedAt 17 = .ok (.iload_n 2, 1) := by decide +kernel
theorem dX4_copiedAt_18 : decode cX4_copiedAt 18 = .ok (.iaload, 1) := by decide +kernel
theorem dX4_copiedAt_19 : decode cX4_copiedAt 19 = .ok (.ireturn, 1) := by decide +kernel
set_option maxRecDepth 20000 in
theorem ggX4_seen_X4_checkSubscriber : GoodIn wsX4_seen wsX4_checkSubscriber := goodIn_ca (goodIn_r _ [5, 6, 7] (by decide +kernel) (by decide +kernel)) (goodIn_sub (fun _ h => List.mem_cons_of_mem _ (List.mem_append_right _ h)) (by decide +kernel))
set_option maxRecDepth 20000 in
theorem gX4_seen_X4_checkSubscriber : GoodIn wsX4_seen (va_wsS RX4 134 yX4_checkSubscriber wsX4_checkSubscriber) := goodIn_app (goodIn_of _ (by decide +kernel)) ggX4_seen_X4_checkSubscriber
set_option maxRecDepth 20000 in
theorem ggX4_seen_X4_checkKey : GoodIn wsX4_seen wsX4_checkKey := goodIn_ca (goodIn_r _ [10, 6, 7, 11, 12, 4, 13] (by decide +kernel) (by decide +kernel)) (goodIn_sub (fun _ h => List.mem_cons_of_mem _ (List.mem_append_right _ h)) (by decide +kernel))
set_option maxRecDepth 20000 in
theorem gX4_seen_X4_checkKey : GoodIn wsX4_seen (va_wsS RX4 41 yX4_checkKey wsX4_checkKey) := goodIn_app (goodIn_of _ (by decide +kernel)) ggX4_seen_X4_checkKey
set_option maxRecDepth 20000 in
theorem ggX4_seen_X4_checkColumn : GoodIn wsX4_seen wsX4_checkColumn := goodIn_ca (goodIn_r _ [16, 6, 7] (by decide +kernel) (by decide +kernel)) (goodIn_sub (fun _ h => List.mem_cons_of_mem _ (List.mem_append_right _ h)) (by decide +kernel))
set_option maxRecDepth 20000 in
theorem gX4_seen_X4_checkColumn : GoodIn wsX4_seen (va_wsS RX4 96 yX4_checkColumn wsX4_checkColumn) := goodIn_app (goodIn_of _ (by decide +kernel)) ggX4_seen_X4_checkColumn
set_option maxRecDepth 20000 in
theorem ggX4_seen_X4_placeOf : GoodIn wsX4_seen wsX4_placeOf := goodIn_r _ [19] (by decide +kernel) (by decide +kernel)
set_option maxRecDepth 20000 in
theorem gX4_seen_X4_placeOf : GoodIn wsX4_seen (va_wsS RX4 56 yX4_placeOf wsX4_placeOf) := goodIn_app (goodIn_of _ (by decide +kernel)) ggX4_seen_X4_placeOf
set_option maxRecDepth 20000 in
theorem ggX4_seen_X4_numberIn : GoodIn wsX4_seen wsX4_numberIn := goodIn_r _ [22] (by decide +kernel) (by decide +kernel)
set_option maxRecDepth 20000 in
theorem gX4_seen_X4_numberIn : GoodIn wsX4_seen (va_wsS RX4 99 yX4_numberIn wsX4_numberIn) := goodIn_app (goodIn_of _ (by decide +kernel)) ggX4_seen_X4_numberIn
theorem dX4_seen_0 : decode cX4_seen 0 = .ok (.iload_n 1, 1) := by decide +kernel
theorem dX4_seen_1 : decode cX4_seen 1 = .ok (.invokestatic 134, 3) := by decide +kernel
theorem dX4_seen_4 : decode cX4_seen 4 = .ok (.iload_n 2, 1) := by decide +kernel
theorem dX4_seen_5 : decode cX4_seen 5 = .ok (.iload_n 3, 1) := by decide +kernel
theorem dX4_seen_6 : decode cX4_seen 6 = .ok (.invokestatic 41, 3) := by decide +kernel
theorem dX4_seen_9 : decode cX4_seen 9 = .ok (.iload 4, 2) := by decide +kernel
theorem dX4_seen_11 : decode cX4_seen 11 = .ok (.invokestatic 96, 3) := by decide +kernel
theorem dX4_seen_14 : decode cX4_seen 14 = .ok (.aload_n 0, 1) := by decide +kernel
theorem dX4_seen_15 : decode cX4_seen 15 = .ok (.getfield 24, 3) := by decide +kernel
theorem dX4_seen_18 : decode cX4_seen 18 = .ok (.iload_n 1, 1) := by decide +kernel
theorem dX4_seen_19 : decode cX4_seen 19 = .ok (.aaload, 1) := by decide +kernel
theorem dX4_seen_20 : decode cX4_seen 20 = .ok (.getfield 158, 3) := by decide +kernel
theorem dX4_seen_23 : decode cX4_seen 23 = .ok (.iload_n 2, 1) := by decide +kernel
theorem dX4_seen_24 : decode cX4_seen 24 = .ok (.iload_n 3, 1) := by decide +kernel
theorem dX4_seen_25 : decode cX4_seen 25 = .ok (.invokestatic 56, 3) := by decide +kernel
theorem dX4_seen_28 : decode cX4_seen 28 = .ok (.iaload, 1) := by decide +kernel
theorem dX4_seen_29 : decode cX4_seen 29 = .ok (.iload 4, 2) := by decide +kernel
theorem dX4_seen_31 : decode cX4_seen 31 = .ok (.invokestatic 99, 3) := by decide +kernel
theorem dX4_seen_34 : decode cX4_seen 34 = .ok (.ireturn, 1) := by decide +kernel
set_option maxRecDepth 20000 in
theorem ggX4_isFaithful_X4_checkSubscriber : GoodIn wsX4_isFaithful wsX4_checkSubscriber := goodIn_ca (goodIn_r _ [12, 13, 14] (by decide +kernel) (by decide +kernel)) (goodIn_sub (fun _ h => List.mem_cons_of_mem _ (List.mem_append_right _ h)) (by decide +kernel))
set_option maxRecDepth 20000 in
theorem gX4_isFaithful_X4_checkSubscriber : GoodIn wsX4_isFaithful (va_wsS RX4 134 yX4_checkSubscriber wsX4_checkSubscriber) := goodIn_app (goodIn_of _ (by decide +kernel)) ggX4_isFaithful_X4_checkSubscriber
set_option maxRecDepth 20000 in
theorem ggX4_isFaithful_X4_checkTable : GoodIn wsX4_isFaithful wsX4_checkTable := goodIn_ca (goodIn_r _ [17, 13, 14] (by decide +kernel) (by decide +kernel)) (goodIn_sub (fun _ h => List.mem_cons_of_mem _ (List.mem_append_right _ h)) (by decide +kernel))
set_option maxRecDepth 20000 in
theorem gX4_isFaithful_X4_checkTable : GoodIn wsX4_isFaithful (va_wsS RX4 75 yX4_checkTable wsX4_checkTable) := goodIn_app (goodIn_of _ (by decide +kernel)) ggX4_isFaithful_X4_checkTable
set_option maxRecDepth 20000 in
theorem ggX4_isFaithful_X2_holdsLog : GoodIn wsX4_isFaithful wsX2_holdsLog := goodIn_r _ [22, 23, 53, 54, 55, 56, 57] (by decide +kernel) (by decide +kernel)
set_option maxRecDepth 20000 in
theorem gX4_isFaithful_X2_holdsLog : GoodIn wsX4_isFaithful (wsV RX4 181 RX2 yX2_holdsLog wsX2_holdsLog) := goodIn_app (goodIn_of _ (by decide +kernel)) ggX4_isFaithful_X2_holdsLog
set_option maxRecDepth 20000 in
theorem ggX4_isFaithful_X4_placeOf : GoodIn wsX4_isFaithful wsX4_placeOf := goodIn_r _ [26] (by decide +kernel) (by decide +kernel)
set_option maxRecDepth 20000 in
theorem gX4_isFaithful_X4_placeOf : GoodIn wsX4_isFaithful (va_wsS RX4 56 yX4_placeOf wsX4_placeOf) := goodIn_app (goodIn_of _ (by decide +kernel)) ggX4_isFaithful_X4_placeOf
set_option maxRecDepth 20000 in
theorem ggX4_isFaithful_X1_rowAsOf : GoodIn wsX4_isFaithful wsX1_rowAsOf := goodIn_r _ [31, 32, 58, 59, 60, 61, 62, 63, 64] (by decide +kernel) (by decide +kernel)
set_option maxRecDepth 20000 in
theorem gX4_isFaithful_X1_rowAsOf : GoodIn wsX4_isFaithful (wsV RX4 194 RX1 yX1_rowAsOf wsX1_rowAsOf) := goodIn_app (goodIn_of _ (by decide +kernel)) ggX4_isFaithful_X1_rowAsOf
set_option maxRecDepth 20000 in
theorem ggX4_isFaithful_X0_choose : GoodIn wsX4_isFaithful wsX0_choose := goodIn_r _ [37, 38, 39, 40, 11, 41, 42, 43, 44, 36, 45, 46, 47, 65, 66, 67, 68] (by decide +kernel) (by decide +kernel)
set_option maxRecDepth 20000 in
theorem gX4_isFaithful_X0_choose : GoodIn wsX4_isFaithful (wsV RX4 155 RX0 yX0_choose wsX0_choose) := goodIn_app (goodIn_of _ (by decide +kernel)) ggX4_isFaithful_X0_choose
theorem dX4_isFaithful_0 : decode cX4_isFaithful 0 = .ok (.iload_n 1, 1) := by decide +kernel
theorem dX4_isFaithful_1 : decode cX4_isFaithful 1 = .ok (.invokestatic 134, 3) := by decide +kernel
theorem dX4_isFaithful_4 : decode cX4_isFaithful 4 = .ok (.iload_n 2, 1) := by decide +kernel
theorem dX4_isFaithful_5 : decode cX4_isFaithful 5 = .ok (.invokestatic 75, 3) := by decide +kernel
theorem dX4_isFaithful_8 : decode cX4_isFaithful 8 = .ok (.aload_n 0, 1) := by decide +kernel
theorem dX4_isFaithful_9 : decode cX4_isFaithful 9 = .ok (.getfield 24, 3) := by decide +kernel
theorem dX4_isFaithful_12 : decode cX4_isFaithful 12 = .ok (.iload_n 1, 1) := by decide +kernel
theorem dX4_isFaithful_13 : decode cX4_isFaithful 13 = .ok (.aaload, 1) := by decide +kernel
theorem dX4_isFaithful_14 : decode cX4_isFaithful 14 = .ok (.astore_n 3, 1) := by decide +kernel
theorem dX4_isFaithful_15 : decode cX4_isFaithful 15 = .ok (.aload_n 3, 1) := by decide +kernel
theorem dX4_isFaithful_16 : decode cX4_isFaithful 16 = .ok (.getfield 147, 3) := by decide +kernel
theorem dX4_isFaithful_19 : decode cX4_isFaithful 19 = .ok (.astore 4, 2) := by decide +kernel
theorem dX4_isFaithful_21 : decode cX4_isFaithful 21 = .ok (.aload_n 3, 1) := by decide +kernel
theorem dX4_isFaithful_22 : decode cX4_isFaithful 22 = .ok (.invokevirtual 181, 3) := by decide +kernel
theorem dX4_isFaithful_25 : decode cX4_isFaithful 25 = .ok (.ifCond .eq 8, 3) := by decide +kernel
theorem dX4_isFaithful_28 : decode cX4_isFaithful 28 = .ok (.aload 4, 2) := by decide +kernel
theorem dX4_isFaithful_30 : decode cX4_isFaithful 30 = .ok (.ifnonnull 13, 3) := by decide +kernel
theorem dX4_isFaithful_33 : decode cX4_isFaithful 33 = .ok (.new 68, 3) := by decide +kernel
theorem dX4_isFaithful_36 : decode cX4_isFaithful 36 = .ok (.dup, 1) := by decide +kernel
theorem dX4_isFaithful_37 : decode cX4_isFaithful 37 = .ok (.ldc 185, 2) := by decide +kernel
theorem dX4_isFaithful_39 : decode cX4_isFaithful 39 = .ok (.invokespecial 72, 3) := by decide +kernel
theorem dX4_isFaithful_42 : decode cX4_isFaithful 42 = .ok (.athrow, 1) := by decide +kernel
theorem dX4_isFaithful_43 : decode cX4_isFaithful 43 = .ok (.aload_n 3, 1) := by decide +kernel
theorem dX4_isFaithful_44 : decode cX4_isFaithful 44 = .ok (.getfield 159, 3) := by decide +kernel
theorem dX4_isFaithful_47 : decode cX4_isFaithful 47 = .ok (.iload_n 2, 1) := by decide +kernel
theorem dX4_isFaithful_48 : decode cX4_isFaithful 48 = .ok (.iaload, 1) := by decide +kernel
theorem dX4_isFaithful_49 : decode cX4_isFaithful 49 = .ok (.iconst (-1), 1) := by decide +kernel
theorem dX4_isFaithful_50 : decode cX4_isFaithful 50 = .ok (.if_icmp .ne 13, 3) := by decide +kernel
theorem dX4_isFaithful_53 : decode cX4_isFaithful 53 = .ok (.new 68, 3) := by decide +kernel
theorem dX4_isFaithful_56 : decode cX4_isFaithful 56 = .ok (.dup, 1) := by decide +kernel
theorem dX4_isFaithful_57 : decode cX4_isFaithful 57 = .ok (.ldc 187, 2) := by decide +kernel
theorem dX4_isFaithful_59 : decode cX4_isFaithful 59 = .ok (.invokespecial 72, 3) := by decide +kernel
theorem dX4_isFaithful_62 : decode cX4_isFaithful 62 = .ok (.athrow, 1) := by decide +kernel
theorem dX4_isFaithful_63 : decode cX4_isFaithful 63 = .ok (.aload_n 3, 1) := by decide +kernel
theorem dX4_isFaithful_64 : decode cX4_isFaithful 64 = .ok (.getfield 164, 3) := by decide +kernel
theorem dX4_isFaithful_67 : decode cX4_isFaithful 67 = .ok (.aload_n 3, 1) := by decide +kernel
theorem dX4_isFaithful_68 : decode cX4_isFaithful 68 = .ok (.getfield 159, 3) := by decide +kernel
theorem dX4_isFaithful_71 : decode cX4_isFaithful 71 = .ok (.iload_n 2, 1) := by decide +kernel
theorem dX4_isFaithful_72 : decode cX4_isFaithful 72 = .ok (.iaload, 1) := by decide +kernel
theorem dX4_isFaithful_73 : decode cX4_isFaithful 73 = .ok (.invokestatic 189, 3) := by decide +kernel
theorem dX4_isFaithful_76 : decode cX4_isFaithful 76 = .ok (.istore 5, 2) := by decide +kernel
theorem dX4_isFaithful_78 : decode cX4_isFaithful 78 = .ok (.iconst 0, 1) := by decide +kernel
theorem dX4_isFaithful_79 : decode cX4_isFaithful 79 = .ok (.istore 6, 2) := by decide +kernel
theorem dX4_isFaithful_81 : decode cX4_isFaithful 81 = .ok (.iload 6, 2) := by decide +kernel
theorem dX4_isFaithful_83 : decode cX4_isFaithful 83 = .ok (.bipush 12, 2) := by decide +kernel
theorem dX4_isFaithful_85 : decode cX4_isFaithful 85 = .ok (.if_icmp .ge 50, 3) := by decide +kernel
theorem dX4_isFaithful_88 : decode cX4_isFaithful 88 = .ok (.iload_n 2, 1) := by decide +kernel
theorem dX4_isFaithful_89 : decode cX4_isFaithful 89 = .ok (.iload 6, 2) := by decide +kernel
theorem dX4_isFaithful_91 : decode cX4_isFaithful 91 = .ok (.invokestatic 56, 3) := by decide +kernel
theorem dX4_isFaithful_94 : decode cX4_isFaithful 94 = .ok (.istore 7, 2) := by decide +kernel
theorem dX4_isFaithful_96 : decode cX4_isFaithful 96 = .ok (.aload 4, 2) := by decide +kernel
theorem dX4_isFaithful_98 : decode cX4_isFaithful 98 = .ok (.iload_n 2, 1) := by decide +kernel
theorem dX4_isFaithful_99 : decode cX4_isFaithful 99 = .ok (.aload_n 0, 1) := by decide +kernel
theorem dX4_isFaithful_100 : decode cX4_isFaithful 100 = .ok (.getfield 12, 3) := by decide +kernel
theorem dX4_isFaithful_103 : decode cX4_isFaithful 103 = .ok (.iload 5, 2) := by decide +kernel
theorem dX4_isFaithful_105 : decode cX4_isFaithful 105 = .ok (.iload 7, 2) := by decide +kernel
theorem dX4_isFaithful_107 : decode cX4_isFaithful 107 = .ok (.invokevirtual 194, 3) := by decide +kernel
theorem dX4_isFaithful_110 : decode cX4_isFaithful 110 = .ok (.invokevirtual 155, 3) := by decide +kernel
theorem dX4_isFaithful_113 : decode cX4_isFaithful 113 = .ok (.istore 8, 2) := by decide +kernel
theorem dX4_isFaithful_115 : decode cX4_isFaithful 115 = .ok (.aload_n 3, 1) := by decide +kernel
theorem dX4_isFaithful_116 : decode cX4_isFaithful 116 = .ok (.getfield 158, 3) := by decide +kernel
theorem dX4_isFaithful_119 : decode cX4_isFaithful 119 = .ok (.iload 7, 2) := by decide +kernel
theorem dX4_isFaithful_121 : decode cX4_isFaithful 121 = .ok (.iaload, 1) := by decide +kernel
theorem dX4_isFaithful_122 : decode cX4_isFaithful 122 = .ok (.iload 8, 2) := by decide +kernel
theorem dX4_isFaithful_124 : decode cX4_isFaithful 124 = .ok (.if_icmp .eq 5, 3) := by decide +kernel
theorem dX4_isFaithful_127 : decode cX4_isFaithful 127 = .ok (.iconst 0, 1) := by decide +kernel
theorem dX4_isFaithful_128 : decode cX4_isFaithful 128 = .ok (.ireturn, 1) := by decide +kernel
theorem dX4_isFaithful_129 : decode cX4_isFaithful 129 = .ok (.iinc 6 1, 3) := by decide +kernel
theorem dX4_isFaithful_132 : decode cX4_isFaithful 132 = .ok (.goto (-51), 3) := by decide +kernel
theorem dX4_isFaithful_135 : decode cX4_isFaithful 135 = .ok (.iconst 1, 1) := by decide +kernel
theorem dX4_isFaithful_136 : decode cX4_isFaithful 136 = .ok (.ireturn, 1) := by decide +kernel
set_option maxRecDepth 20000 in
theorem ggX4_cutLaggards_X2_commitsBehind : GoodIn wsX4_cutLaggards wsX2_commitsBehind := goodIn_r _ [8, 9, 10, 11, 12, 7, 13, 14, 27, 28, 29, 30, 31] (by decide +kernel) (by decide +kernel)
set_option maxRecDepth 20000 in
theorem gX4_cutLaggards_X2_commitsBehind : GoodIn wsX4_cutLaggards (wsV RX4 178 RX2 yX2_commitsBehind wsX2_commitsBehind) := goodIn_app (goodIn_of _ (by decide +kernel)) ggX4_cutLaggards_X2_commitsBehind
theorem dX4_cutLaggards_0 : decode cX4_cutLaggards 0 = .ok (.iconst 0, 1) := by decide +kernel
theorem dX4_cutLaggards_1 : decode cX4_cutLaggards 1 = .ok (.istore_n 1, 1) := by decide +kernel
theorem dX4_cutLaggards_2 : decode cX4_cutLaggards 2 = .ok (.iconst 0, 1) := by decide +kernel
theorem dX4_cutLaggards_3 : decode cX4_cutLaggards 3 = .ok (.istore_n 2, 1) := by decide +kernel
theorem dX4_cutLaggards_4 : decode cX4_cutLaggards 4 = .ok (.iload_n 2, 1) := by decide +kernel
theorem dX4_cutLaggards_5 : decode cX4_cutLaggards 5 = .ok (.iconst 3, 1) := by decide +kernel
theorem dX4_cutLaggards_6 : decode cX4_cutLaggards 6 = .ok (.if_icmp .ge 45, 3) := by decide +kernel
theorem dX4_cutLaggards_9 : decode cX4_cutLaggards 9 = .ok (.aload_n 0, 1) := by decide +kernel
theorem dX4_cutLaggards_10 : decode cX4_cutLaggards 10 = .ok (.getfield 24, 3) := by decide +kernel
theorem dX4_cutLaggards_13 : decode cX4_cutLaggards 13 = .ok (.iload_n 2, 1) := by decide +kernel
theorem dX4_cutLaggards_14 : decode cX4_cutLaggards 14 = .ok (.aaload, 1) := by decide +kernel
theorem dX4_cutLaggards_15 : decode cX4_cutLaggards 15 = .ok (.aload_n 0, 1) := by decide +kernel
theorem dX4_cutLaggards_16 : decode cX4_cutLaggards 16 = .ok (.getfield 12, 3) := by decide +kernel
theorem dX4_cutLaggards_19 : decode cX4_cutLaggards 19 = .ok (.getfield 78, 3) := by decide +kernel
theorem dX4_cutLaggards_22 : decode cX4_cutLaggards 22 = .ok (.invokevirtual 178, 3) := by decide +kernel
theorem dX4_cutLaggards_25 : decode cX4_cutLaggards 25 = .ok (.aload_n 0, 1) := by decide +kernel
theorem dX4_cutLaggards_26 : decode cX4_cutLaggards 26 = .ok (.getfield 35, 3) := by decide +kernel
theorem dX4_cutLaggards_29 : decode cX4_cutLaggards 29 = .ok (.if_icmp .le 16, 3) := by decide +kernel
theorem dX4_cutLaggards_32 : decode cX4_cutLaggards 32 = .ok (.aload_n 0, 1) := by decide +kernel
theorem dX4_cutLaggards_33 : decode cX4_cutLaggards 33 = .ok (.getfield 24, 3) := by decide +kernel
theorem dX4_cutLaggards_36 : decode cX4_cutLaggards 36 = .ok (.iload_n 2, 1) := by decide +kernel
theorem dX4_cutLaggards_37 : decode cX4_cutLaggards 37 = .ok (.aaload, 1) := by decide +kernel
theorem dX4_cutLaggards_38 : decode cX4_cutLaggards 38 = .ok (.iconst 3, 1) := by decide +kernel
theorem dX4_cutLaggards_39 : decode cX4_cutLaggards 39 = .ok (.putfield 137, 3) := by decide +kernel
theorem dX4_cutLaggards_42 : decode cX4_cutLaggards 42 = .ok (.iinc 1 1, 3) := by decide +kernel
theorem dX4_cutLaggards_45 : decode cX4_cutLaggards 45 = .ok (.iinc 2 1, 3) := by decide +kernel
theorem dX4_cutLaggards_48 : decode cX4_cutLaggards 48 = .ok (.goto (-44), 3) := by decide +kernel
theorem dX4_cutLaggards_51 : decode cX4_cutLaggards 51 = .ok (.iload_n 1, 1) := by decide +kernel
theorem dX4_cutLaggards_52 : decode cX4_cutLaggards 52 = .ok (.ireturn, 1) := by decide +kernel
theorem dX4_forgetCopies_0 : decode cX4_forgetCopies 0 = .ok (.iconst 0, 1) := by decide +kernel
theorem dX4_forgetCopies_1 : decode cX4_forgetCopies 1 = .ok (.istore_n 3, 1) := by decide +kernel
theorem dX4_forgetCopies_2 : decode cX4_forgetCopies 2 = .ok (.iconst 0, 1) := by decide +kernel
theorem dX4_forgetCopies_3 : decode cX4_forgetCopies 3 = .ok (.istore 4, 2) := by decide +kernel
theorem dX4_forgetCopies_5 : decode cX4_forgetCopies 5 = .ok (.iload 4, 2) := by decide +kernel
theorem dX4_forgetCopies_7 : decode cX4_forgetCopies 7 = .ok (.iconst 3, 1) := by decide +kernel
theorem dX4_forgetCopies_8 : decode cX4_forgetCopies 8 = .ok (.if_icmp .ge 49, 3) := by decide +kernel
theorem dX4_forgetCopies_11 : decode cX4_forgetCopies 11 = .ok (.aload_n 0, 1) := by decide +kernel
theorem dX4_forgetCopies_12 : decode cX4_forgetCopies 12 = .ok (.getfield 24, 3) := by decide +kernel
theorem dX4_forgetCopies_15 : decode cX4_forgetCopies 15 = .ok (.iload 4, 2) := by decide +kernel
theorem dX4_forgetCopies_17 : decode cX4_forgetCopies 17 = .ok (.aaload, 1) := by decide +kernel
theorem dX4_forgetCopies_18 : decode cX4_forgetCopies 18 = .ok (.astore 5, 2) := by decide +kernel
theorem dX4_forgetCopies_20 : decode cX4_forgetCopies 20 = .ok (.aload 5, 2) := by decide +kernel
theorem dX4_forgetCopies_22 : decode cX4_forgetCopies 22 = .ok (.getfield 147, 3) := by decide +kernel
theorem dX4_forgetCopies_25 : decode cX4_forgetCopies 25 = .ok (.aload_n 1, 1) := by decide +kernel
theorem dX4_forgetCopies_26 : decode cX4_forgetCopies 26 = .ok (.if_acmp .ne 25, 3) := by decide +kernel
theorem dX4_forgetCopies_29 : decode cX4_forgetCopies 29 = .ok (.aload 5, 2) := by decide +kernel
theorem dX4_forgetCopies_31 : decode cX4_forgetCopies 31 = .ok (.getfield 159, 3) := by decide +kernel
theorem dX4_forgetCopies_34 : decode cX4_forgetCopies 34 = .ok (.iload_n 2, 1) := by decide +kernel
theorem dX4_forgetCopies_35 : decode cX4_forgetCopies 35 = .ok (.iaload, 1) := by decide +kernel
theorem dX4_forgetCopies_36 : decode cX4_forgetCopies 36 = .ok (.iconst (-1), 1) := by decide +kernel
theorem dX4_forgetCopies_37 : decode cX4_forgetCopies 37 = .ok (.if_icmp .eq 14, 3) := by decide +kernel
theorem dX4_forgetCopies_40 : decode cX4_forgetCopies 40 = .ok (.aload 5, 2) := by decide +kernel
theorem dX4_forgetCopies_42 : decode cX4_forgetCopies 42 = .ok (.getfield 159, 3) := by decide +kernel
theorem dX4_forgetCopies_45 : decode cX4_forgetCopies 45 = .ok (.iload_n 2, 1) := by decide +kernel
theorem dX4_forgetCopies_46 : decode cX4_forgetCopies 46 = .ok (.iconst (-1), 1) := by decide +kernel
theorem dX4_forgetCopies_47 : decode cX4_forgetCopies 47 = .ok (.iastore, 1) := by decide +kernel
theorem dX4_forgetCopies_48 : decode cX4_forgetCopies 48 = .ok (.iinc 3 1, 3) := by decide +kernel
theorem dX4_forgetCopies_51 : decode cX4_forgetCopies 51 = .ok (.iinc 4 1, 3) := by decide +kernel
theorem dX4_forgetCopies_54 : decode cX4_forgetCopies 54 = .ok (.goto (-49), 3) := by decide +kernel
theorem dX4_forgetCopies_57 : decode cX4_forgetCopies 57 = .ok (.iload_n 3, 1) := by decide +kernel
theorem dX4_forgetCopies_58 : decode cX4_forgetCopies 58 = .ok (.ireturn, 1) := by decide +kernel
set_option maxRecDepth 20000 in
theorem ggX4_checkRoomForChange_X1_openChanges : GoodIn wsX4_checkRoomForChange wsX1_openChanges := goodIn_r _ [8, 9, 10, 16, 17, 18, 19, 20, 21, 22] (by decide +kernel) (by decide +kernel)
set_option maxRecDepth 20000 in
theorem gX4_checkRoomForChange_X1_openChanges : GoodIn wsX4_checkRoomForChange (wsV RX4 90 RX1 yX1_openChanges wsX1_openChanges) := goodIn_app (goodIn_of _ (by decide +kernel)) ggX4_checkRoomForChange_X1_openChanges
theorem dX4_checkRoomForChange_0 : decode cX4_checkRoomForChange 0 = .ok (.aload_n 0, 1) := by decide +kernel
theorem dX4_checkRoomForChange_1 : decode cX4_checkRoomForChange 1 = .ok (.getfield 12, 3) := by decide +kernel
theorem dX4_checkRoomForChange_4 : decode cX4_checkRoomForChange 4 = .ok (.invokevirtual 90, 3) := by decide +kernel
theorem dX4_checkRoomForChange_7 : decode cX4_checkRoomForChange 7 = .ok (.bipush 12, 2) := by decide +kernel
theorem dX4_checkRoomForChange_9 : decode cX4_checkRoomForChange 9 = .ok (.if_icmp .lt 13, 3) := by decide +kernel
theorem dX4_checkRoomForChange_12 : decode cX4_checkRoomForChange 12 = .ok (.new 68, 3) := by decide +kernel
theorem dX4_checkRoomForChange_15 : decode cX4_checkRoomForChange 15 = .ok (.dup, 1) := by decide +kernel
theorem dX4_checkRoomForChange_16 : decode cX4_checkRoomForChange 16 = .ok (.ldc 197, 2) := by decide +kernel
theorem dX4_checkRoomForChange_18 : decode cX4_checkRoomForChange 18 = .ok (.invokespecial 72, 3) := by decide +kernel
theorem dX4_checkRoomForChange_21 : decode cX4_checkRoomForChange 21 = .ok (.athrow, 1) := by decide +kernel
theorem dX4_checkRoomForChange_22 : decode cX4_checkRoomForChange 22 = .ok (.return_, 1) := by decide +kernel
theorem dX4_checkTable_0 : decode cX4_checkTable 0 = .ok (.iload_n 0, 1) := by decide +kernel
theorem dX4_checkTable_1 : decode cX4_checkTable 1 = .ok (.ifCond .lt 8, 3) := by decide +kernel
theorem dX4_checkTable_4 : decode cX4_checkTable 4 = .ok (.iload_n 0, 1) := by decide +kernel
theorem dX4_checkTable_5 : decode cX4_checkTable 5 = .ok (.iconst 2, 1) := by decide +kernel
theorem dX4_checkTable_6 : decode cX4_checkTable 6 = .ok (.if_icmp .lt 13, 3) := by decide +kernel
theorem dX4_checkTable_9 : decode cX4_checkTable 9 = .ok (.new 199, 3) := by decide +kernel
theorem dX4_checkTable_12 : decode cX4_checkTable 12 = .ok (.dup, 1) := by decide +kernel
theorem dX4_checkTable_13 : decode cX4_checkTable 13 = .ok (.ldc 201, 2) := by decide +kernel
theorem dX4_checkTable_15 : decode cX4_checkTable 15 = .ok (.invokespecial 203, 3) := by decide +kernel
theorem dX4_checkTable_18 : decode cX4_checkTable 18 = .ok (.athrow, 1) := by decide +kernel
theorem dX4_checkTable_19 : decode cX4_checkTable 19 = .ok (.return_, 1) := by decide +kernel
set_option maxRecDepth 20000 in
theorem ggX4_checkKey_X4_checkTable : GoodIn wsX4_checkKey wsX4_checkTable := goodIn_ca (goodIn_r _ [6, 1, 2] (by decide +kernel) (by decide +kernel)) (goodIn_sub (fun _ h => List.mem_cons_of_mem _ (List.mem_append_right _ h)) (by decide +kernel))
set_option maxRecDepth 20000 in
theorem gX4_checkKey_X4_checkTable : GoodIn wsX4_checkKey (va_wsS RX4 75 yX4_checkTable wsX4_checkTable) := goodIn_app (goodIn_of _ (by decide +kernel)) ggX4_checkKey_X4_checkTable
theorem dX4_checkKey_0 : decode cX4_checkKey 0 = .ok (.iload_n 0, 1) := by decide +kernel
theorem dX4_checkKey_1 : decode cX4_checkKey 1 = .ok (.invokestatic 75, 3) := by decide +kernel
theorem dX4_checkKey_4 : decode cX4_checkKey 4 = .ok (.iload_n 1, 1) := by decide +kernel
theorem dX4_checkKey_5 : decode cX4_checkKey 5 = .ok (.ifCond .lt 9, 3) := by decide +kernel
theorem dX4_checkKey_8 : decode cX4_checkKey 8 = .ok (.iload_n 1, 1) := by decide +kernel
theorem dX4_checkKey_9 : decode cX4_checkKey 9 = .ok (.bipush 12, 2) := by decide +kernel
theorem dX4_checkKey_11 : decode cX4_checkKey 11 = .ok (.if_icmp .lt 13, 3) := by decide +kernel
theorem dX4_checkKey_14 : decode cX4_checkKey 14 = .ok (.new 199, 3) := by decide +kernel
theorem dX4_checkKey_17 : decode cX4_checkKey 17 = .ok (.dup, 1) := by decide +kernel
theorem dX4_checkKey_18 : decode cX4_checkKey 18 = .ok (.ldc 204, 2) := by decide +kernel
theorem dX4_checkKey_20 : decode cX4_checkKey 20 = .ok (.invokespecial 203, 3) := by decide +kernel
theorem dX4_checkKey_23 : decode cX4_checkKey 23 = .ok (.athrow, 1) := by decide +kernel
theorem dX4_checkKey_24 : decode cX4_checkKey 24 = .ok (.return_, 1) := by decide +kernel
theorem dX4_checkColumn_0 : decode cX4_checkColumn 0 = .ok (.iload_n 0, 1) := by decide +kernel
theorem dX4_checkColumn_1 : decode cX4_checkColumn 1 = .ok (.ifCond .lt 8, 3) := by decide +kernel
theorem dX4_checkColumn_4 : decode cX4_checkColumn 4 = .ok (.iload_n 0, 1) := by decide +kernel
theorem dX4_checkColumn_5 : decode cX4_checkColumn 5 = .ok (.iconst 3, 1) := by decide +kernel
theorem dX4_checkColumn_6 : decode cX4_checkColumn 6 = .ok (.if_icmp .lt 13, 3) := by decide +kernel
theorem dX4_checkColumn_9 : decode cX4_checkColumn 9 = .ok (.new 199, 3) := by decide +kernel
theorem dX4_checkColumn_12 : decode cX4_checkColumn 12 = .ok (.dup, 1) := by decide +kernel
theorem dX4_checkColumn_13 : decode cX4_checkColumn 13 = .ok (.ldc 206, 2) := by decide +kernel
theorem dX4_checkColumn_15 : decode cX4_checkColumn 15 = .ok (.invokespecial 203, 3) := by decide +kernel
theorem dX4_checkColumn_18 : decode cX4_checkColumn 18 = .ok (.athrow, 1) := by decide +kernel
theorem dX4_checkColumn_19 : decode cX4_checkColumn 19 = .ok (.return_, 1) := by decide +kernel
theorem dX4_checkPublication_0 : decode cX4_checkPublication 0 = .ok (.iload_n 0, 1) := by decide +kernel
theorem dX4_checkPublication_1 : decode cX4_checkPublication 1 = .ok (.ifCond .lt 8, 3) := by decide +kernel
theorem dX4_checkPublication_4 : decode cX4_checkPublication 4 = .ok (.iload_n 0, 1) := by decide +kernel
theorem dX4_checkPublication_5 : decode cX4_checkPublication 5 = .ok (.iconst 3, 1) := by decide +kernel
theorem dX4_checkPublication_6 : decode cX4_checkPublication 6 = .ok (.if_icmp .lt 13, 3) := by decide +kernel
theorem dX4_checkPublication_9 : decode cX4_checkPublication 9 = .ok (.new 199, 3) := by decide +kernel
theorem dX4_checkPublication_12 : decode cX4_checkPublication 12 = .ok (.dup, 1) := by decide +kernel
theorem dX4_checkPublication_13 : decode cX4_checkPublication 13 = .ok (.ldc 208, 2) := by decide +kernel
theorem dX4_checkPublication_15 : decode cX4_checkPublication 15 = .ok (.invokespecial 203, 3) := by decide +kernel
theorem dX4_checkPublication_18 : decode cX4_checkPublication 18 = .ok (.athrow, 1) := by decide +kernel
theorem dX4_checkPublication_19 : decode cX4_checkPublication 19 = .ok (.return_, 1) := by decide +kernel
theorem dX4_checkSubscriber_0 : decode cX4_checkSubscriber 0 = .ok (.iload_n 0, 1) := by decide +kernel
theorem dX4_checkSubscriber_1 : decode cX4_checkSubscriber 1 = .ok (.ifCond .lt 8, 3) := by decide +kernel
theorem dX4_checkSubscriber_4 : decode cX4_checkSubscriber 4 = .ok (.iload_n 0, 1) := by decide +kernel
theorem dX4_checkSubscriber_5 : decode cX4_checkSubscriber 5 = .ok (.iconst 3, 1) := by decide +kernel
theorem dX4_checkSubscriber_6 : decode cX4_checkSubscriber 6 = .ok (.if_icmp .lt 13, 3) := by decide +kernel
theorem dX4_checkSubscriber_9 : decode cX4_checkSubscriber 9 = .ok (.new 199, 3) := by decide +kernel
theorem dX4_checkSubscriber_12 : decode cX4_checkSubscriber 12 = .ok (.dup, 1) := by decide +kernel
theorem dX4_checkSubscriber_13 : decode cX4_checkSubscriber 13 = .ok (.ldc 210, 2) := by decide +kernel
theorem dX4_checkSubscriber_15 : decode cX4_checkSubscriber 15 = .ok (.invokespecial 203, 3) := by decide +kernel
theorem dX4_checkSubscriber_18 : decode cX4_checkSubscriber 18 = .ok (.athrow, 1) := by decide +kernel
theorem dX4_checkSubscriber_19 : decode cX4_checkSubscriber 19 = .ok (.return_, 1) := by decide +kernel
theorem dX4_checkNumber_0 : decode cX4_checkNumber 0 = .ok (.iload_n 0, 1) := by decide +kernel
theorem dX4_checkNumber_1 : decode cX4_checkNumber 1 = .ok (.ifCond .lt 9, 3) := by decide +kernel
theorem dX4_checkNumber_4 : decode cX4_checkNumber 4 = .ok (.iload_n 0, 1) := by decide +kernel
theorem dX4_checkNumber_5 : decode cX4_checkNumber 5 = .ok (.bipush 100, 2) := by decide +kernel
theorem dX4_checkNumber_7 : decode cX4_checkNumber 7 = .ok (.if_icmp .lt 13, 3) := by decide +kernel
theorem dX4_checkNumber_10 : decode cX4_checkNumber 10 = .ok (.new 102, 3) := by decide +kernel
theorem dX4_checkNumber_13 : decode cX4_checkNumber 13 = .ok (.dup, 1) := by decide +kernel
theorem dX4_checkNumber_14 : decode cX4_checkNumber 14 = .ok (.ldc 212, 2) := by decide +kernel
theorem dX4_checkNumber_16 : decode cX4_checkNumber 16 = .ok (.invokespecial 106, 3) := by decide +kernel
theorem dX4_checkNumber_19 : decode cX4_checkNumber 19 = .ok (.athrow, 1) := by decide +kernel
theorem dX4_checkNumber_20 : decode cX4_checkNumber 20 = .ok (.return_, 1) := by decide +kernel
theorem dX4_placeOf_0 : decode cX4_placeOf 0 = .ok (.iload_n 0, 1) := by decide +kernel
theorem dX4_placeOf_1 : decode cX4_placeOf 1 = .ok (.bipush 12, 2) := by decide +kernel
theorem dX4_placeOf_3 : decode cX4_placeOf 3 = .ok (.imul, 1) := by decide +kernel
theorem dX4_placeOf_4 : decode cX4_placeOf 4 = .ok (.iload_n 1, 1) := by decide +kernel
theorem dX4_placeOf_5 : decode cX4_placeOf 5 = .ok (.iadd, 1) := by decide +kernel
theorem dX4_placeOf_6 : decode cX4_placeOf 6 = .ok (.ireturn, 1) := by decide +kernel
theorem dX4_rowOf_0 : decode cX4_rowOf 0 = .ok (.iload_n 0, 1) := by decide +kernel
theorem dX4_rowOf_1 : decode cX4_rowOf 1 = .ok (.iload_n 1, 1) := by decide +kernel
theorem dX4_rowOf_2 : decode cX4_rowOf 2 = .ok (.bipush 7, 2) := by decide +kernel
theorem dX4_rowOf_4 : decode cX4_rowOf 4 = .ok (.ishl, 1) := by decide +kernel
theorem dX4_rowOf_5 : decode cX4_rowOf 5 = .ok (.ior, 1) := by decide +kernel
theorem dX4_rowOf_6 : decode cX4_rowOf 6 = .ok (.iload_n 2, 1) := by decide +kernel
theorem dX4_rowOf_7 : decode cX4_rowOf 7 = .ok (.bipush 14, 2) := by decide +kernel
theorem dX4_rowOf_9 : decode cX4_rowOf 9 = .ok (.ishl, 1) := by decide +kernel
theorem dX4_rowOf_10 : decode cX4_rowOf 10 = .ok (.ior, 1) := by decide +kernel
theorem dX4_rowOf_11 : decode cX4_rowOf 11 = .ok (.ireturn, 1) := by decide +kernel
theorem dX4_numberIn_0 : decode cX4_numberIn 0 = .ok (.iload_n 0, 1) := by decide +kernel
theorem dX4_numberIn_1 : decode cX4_numberIn 1 = .ok (.iconst (-1), 1) := by decide +kernel
theorem dX4_numberIn_2 : decode cX4_numberIn 2 = .ok (.if_icmp .ne 7, 3) := by decide +kernel
theorem dX4_numberIn_5 : decode cX4_numberIn 5 = .ok (.iconst (-1), 1) := by decide +kernel
theorem dX4_numberIn_6 : decode cX4_numberIn 6 = .ok (.goto 12, 3) := by decide +kernel
theorem dX4_numberIn_9 : decode cX4_numberIn 9 = .ok (.iload_n 0, 1) := by decide +kernel
theorem dX4_numberIn_10 : decode cX4_numberIn 10 = .ok (.iload_n 1, 1) := by decide +kernel
theorem dX4_numberIn_11 : decode cX4_numberIn 11 = .ok (.bipush 7, 2) := by decide +kernel
theorem dX4_numberIn_13 : decode cX4_numberIn 13 = .ok (.imul, 1) := by decide +kernel
theorem dX4_numberIn_14 : decode cX4_numberIn 14 = .ok (.ishr, 1) := by decide +kernel
theorem dX4_numberIn_15 : decode cX4_numberIn 15 = .ok (.bipush 127, 2) := by decide +kernel
theorem dX4_numberIn_17 : decode cX4_numberIn 17 = .ok (.iand, 1) := by decide +kernel
theorem dX4_numberIn_18 : decode cX4_numberIn 18 = .ok (.ireturn, 1) := by decide +kernel
theorem dX4_maskOf_0 : decode cX4_maskOf 0 = .ok (.iconst 0, 1) := by decide +kernel
theorem dX4_maskOf_1 : decode cX4_maskOf 1 = .ok (.istore_n 1, 1) := by decide +kernel
theorem dX4_maskOf_2 : decode cX4_maskOf 2 = .ok (.iconst 0, 1) := by decide +kernel
theorem dX4_maskOf_3 : decode cX4_maskOf 3 = .ok (.istore_n 2, 1) := by decide +kernel
theorem dX4_maskOf_4 : decode cX4_maskOf 4 = .ok (.iload_n 2, 1) := by decide +kernel
theorem dX4_maskOf_5 : decode cX4_maskOf 5 = .ok (.iconst 3, 1) := by decide +kernel
theorem dX4_maskOf_6 : decode cX4_maskOf 6 = .ok (.if_icmp .ge 28, 3) := by decide +kernel
theorem dX4_maskOf_9 : decode cX4_maskOf 9 = .ok (.iload_n 0, 1) := by decide +kernel
theorem dX4_maskOf_10 : decode cX4_maskOf 10 = .ok (.iload_n 2, 1) := by decide +kernel
theorem dX4_maskOf_11 : decode cX4_maskOf 11 = .ok (.ishr, 1) := by decide +kernel
theorem dX4_maskOf_12 : decode cX4_maskOf 12 = .ok (.iconst 1, 1) := by decide +kernel
theorem dX4_maskOf_13 : decode cX4_maskOf 13 = .ok (.iand, 1) := by decide +kernel
theorem dX4_maskOf_14 : decode cX4_maskOf 14 = .ok (.iconst 1, 1) := by decide +kernel
theorem dX4_maskOf_15 : decode cX4_maskOf 15 = .ok (.if_icmp .ne 13, 3) := by decide +kernel
theorem dX4_maskOf_18 : decode cX4_maskOf 18 = .ok (.iload_n 1, 1) := by decide +kernel
theorem dX4_maskOf_19 : decode cX4_maskOf 19 = .ok (.bipush 127, 2) := by decide +kernel
theorem dX4_maskOf_21 : decode cX4_maskOf 21 = .ok (.iload_n 2, 1) := by decide +kernel
theorem dX4_maskOf_22 : decode cX4_maskOf 22 = .ok (.bipush 7, 2) := by decide +kernel
theorem dX4_maskOf_24 : decode cX4_maskOf 24 = .ok (.imul, 1) := by decide +kernel
theorem dX4_maskOf_25 : decode cX4_maskOf 25 = .ok (.ishl, 1) := by decide +kernel
theorem dX4_maskOf_26 : decode cX4_maskOf 26 = .ok (.ior, 1) := by decide +kernel
theorem dX4_maskOf_27 : decode cX4_maskOf 27 = .ok (.istore_n 1, 1) := by decide +kernel
theorem dX4_maskOf_28 : decode cX4_maskOf 28 = .ok (.iinc 2 1, 3) := by decide +kernel
theorem dX4_maskOf_31 : decode cX4_maskOf 31 = .ok (.goto (-27), 3) := by decide +kernel
theorem dX4_maskOf_34 : decode cX4_maskOf 34 = .ok (.iload_n 1, 1) := by decide +kernel
theorem dX4_maskOf_35 : decode cX4_maskOf 35 = .ok (.ireturn, 1) := by decide +kernel
end
section
theorem dX5_init_0 : decode cX5_init 0 = .ok (.aload_n 0, 1) := by decide +kernel
theorem dX5_init_1 : decode cX5_init 1 = .ok (.invokespecial 1, 3) := by decide +kernel
theorem dX5_init_4 : decode cX5_init 4 = .ok (.aload_n 0, 1) := by decide +kernel
theorem dX5_init_5 : decode cX5_init 5 = .ok (.bipush 24, 2) := by decide +kernel
theorem dX5_init_7 : decode cX5_init 7 = .ok (.newarray .int, 2) := by decide +kernel
theorem dX5_init_9 : decode cX5_init 9 = .ok (.putfield 7, 3) := by decide +kernel
theorem dX5_init_12 : decode cX5_init 12 = .ok (.aload_n 0, 1) := by decide +kernel
theorem dX5_init_13 : decode cX5_init 13 = .ok (.sipush 1224, 3) := by decide +kernel
theorem dX5_init_16 : decode cX5_init 16 = .ok (.newarray .int, 2) := by decide +kernel
theorem dX5_init_18 : decode cX5_init 18 = .ok (.putfield 13, 3) := by decide +kernel
theorem dX5_init_21 : decode cX5_init 21 = .ok (.aload_n 0, 1) := by decide +kernel
theorem dX5_init_22 : decode cX5_init 22 = .ok (.bipush 20, 2) := by decide +kernel
theorem dX5_init_24 : decode cX5_init 24 = .ok (.putfield 16, 3) := by decide +kernel
theorem dX5_init_27 : decode cX5_init 27 = .ok (.aload_n 0, 1) := by decide +kernel
theorem dX5_init_28 : decode cX5_init 28 = .ok (.bipush 52, 2) := by decide +kernel
theorem dX5_init_30 : decode cX5_init 30 = .ok (.newarray .int, 2) := by decide +kernel
theorem dX5_init_32 : decode cX5_init 32 = .ok (.putfield 20, 3) := by decide +kernel
theorem dX5_init_35 : decode cX5_init 35 = .ok (.aload_n 0, 1) := by decide +kernel
theorem dX5_init_36 : decode cX5_init 36 = .ok (.sipush 624, 3) := by decide +kernel
theorem dX5_init_39 : decode cX5_init 39 = .ok (.newarray .int, 2) := by decide +kernel
theorem dX5_init_41 : decode cX5_init 41 = .ok (.putfield 23, 3) := by decide +kernel
theorem dX5_init_44 : decode cX5_init 44 = .ok (.aload_n 0, 1) := by decide +kernel
theorem dX5_init_45 : decode cX5_init 45 = .ok (.sipush 624, 3) := by decide +kernel
theorem dX5_init_48 : decode cX5_init 48 = .ok (.newarray .int, 2) := by decide +kernel
theorem dX5_init_50 : decode cX5_init 50 = .ok (.putfield 26, 3) := by decide +kernel
theorem dX5_init_53 : decode cX5_init 53 = .ok (.aload_n 0, 1) := by decide +kernel
theorem dX5_init_54 : decode cX5_init 54 = .ok (.sipush 624, 3) := by decide +kernel
theorem dX5_init_57 : decode cX5_init 57 = .ok (.newarray .int, 2) := by decide +kernel
theorem dX5_init_59 : decode cX5_init 59 = .ok (.putfield 29, 3) := by decide +kernel
theorem dX5_init_62 : decode cX5_init 62 = .ok (.aload_n 0, 1) := by decide +kernel
theorem dX5_init_63 : decode cX5_init 63 = .ok (.bipush 6, 2) := by decide +kernel
theorem dX5_init_65 : decode cX5_init 65 = .ok (.newarray .int, 2) := by decide +kernel
theorem dX5_init_67 : decode cX5_init 67 = .ok (.putfield 32, 3) := by decide +kernel
theorem dX5_init_70 : decode cX5_init 70 = .ok (.aload_n 0, 1) := by decide +kernel
theorem dX5_init_71 : decode cX5_init 71 = .ok (.bipush 6, 2) := by decide +kernel
theorem dX5_init_73 : decode cX5_init 73 = .ok (.newarray .int, 2) := by decide +kernel
theorem dX5_init_75 : decode cX5_init 75 = .ok (.putfield 35, 3) := by decide +kernel
theorem dX5_init_78 : decode cX5_init 78 = .ok (.aload_n 0, 1) := by decide +kernel
theorem dX5_init_79 : decode cX5_init 79 = .ok (.bipush 6, 2) := by decide +kernel
theorem dX5_init_81 : decode cX5_init 81 = .ok (.newarray .int, 2) := by decide +kernel
theorem dX5_init_83 : decode cX5_init 83 = .ok (.putfield 38, 3) := by decide +kernel
theorem dX5_init_86 : decode cX5_init 86 = .ok (.aload_n 0, 1) := by decide +kernel
theorem dX5_init_87 : decode cX5_init 87 = .ok (.bipush 6, 2) := by decide +kernel
theorem dX5_init_89 : decode cX5_init 89 = .ok (.newarray .int, 2) := by decide +kernel
theorem dX5_init_91 : decode cX5_init 91 = .ok (.putfield 41, 3) := by decide +kernel
theorem dX5_init_94 : decode cX5_init 94 = .ok (.aload_n 0, 1) := by decide +kernel
theorem dX5_init_95 : decode cX5_init 95 = .ok (.iconst 3, 1) := by decide +kernel
theorem dX5_init_96 : decode cX5_init 96 = .ok (.newarray .int, 2) := by decide +kernel
theorem dX5_init_98 : decode cX5_init 98 = .ok (.putfield 44, 3) := by decide +kernel
theorem dX5_init_101 : decode cX5_init 101 = .ok (.aload_n 0, 1) := by decide +kernel
theorem dX5_init_102 : decode cX5_init 102 = .ok (.iconst 3, 1) := by decide +kernel
theorem dX5_init_103 : decode cX5_init 103 = .ok (.newarray .int, 2) := by decide +kernel
theorem dX5_init_105 : decode cX5_init 105 = .ok (.putfield 47, 3) := by decide +kernel
theorem dX5_init_108 : decode cX5_init 108 = .ok (.aload_n 0, 1) := by decide +kernel
theorem dX5_init_109 : decode cX5_init 109 = .ok (.iconst 3, 1) := by decide +kernel
theorem dX5_init_110 : decode cX5_init 110 = .ok (.newarray .int, 2) := by decide +kernel
theorem dX5_init_112 : decode cX5_init 112 = .ok (.putfield 50, 3) := by decide +kernel
theorem dX5_init_115 : decode cX5_init 115 = .ok (.aload_n 0, 1) := by decide +kernel
theorem dX5_init_116 : decode cX5_init 116 = .ok (.bipush 6, 2) := by decide +kernel
theorem dX5_init_118 : decode cX5_init 118 = .ok (.newarray .int, 2) := by decide +kernel
theorem dX5_init_120 : decode cX5_init 120 = .ok (.putfield 53, 3) := by decide +kernel
theorem dX5_init_123 : decode cX5_init 123 = .ok (.aload_n 0, 1) := by decide +kernel
theorem dX5_init_124 : decode cX5_init 124 = .ok (.bipush 72, 2) := by decide +kernel
theorem dX5_init_126 : decode cX5_init 126 = .ok (.newarray .int, 2) := by decide +kernel
theorem dX5_init_128 : decode cX5_init 128 = .ok (.putfield 56, 3) := by decide +kernel
theorem dX5_init_131 : decode cX5_init 131 = .ok (.aload_n 0, 1) := by decide +kernel
theorem dX5_init_132 : decode cX5_init 132 = .ok (.bipush 24, 2) := by decide +kernel
theorem dX5_init_134 : decode cX5_init 134 = .ok (.newarray .int, 2) := by decide +kernel
theorem dX5_init_136 : decode cX5_init 136 = .ok (.putfield 59, 3) := by decide +kernel
theorem dX5_init_139 : decode cX5_init 139 = .ok (.aload_n 0, 1) := by decide +kernel
theorem dX5_init_140 : decode cX5_init 140 = .ok (.bipush 24, 2) := by decide +kernel
theorem dX5_init_142 : decode cX5_init 142 = .ok (.newarray .int, 2) := by decide +kernel
theorem dX5_init_144 : decode cX5_init 144 = .ok (.putfield 62, 3) := by decide +kernel
theorem dX5_init_147 : decode cX5_init 147 = .ok (.iconst 0, 1) := by decide +kernel
theorem dX5_init_148 : decode cX5_init 148 = .ok (.istore_n 1, 1) := by decide +kernel
theorem dX5_init_149 : decode cX5_init 149 = .ok (.iload_n 1, 1) := by decide +kernel
theorem dX5_init_150 : decode cX5_init 150 = .ok (.bipush 24, 2) := by decide +kernel
theorem dX5_init_152 : decode cX5_init 152 = .ok (.if_icmp .ge 23, 3) := by decide +kernel
theorem dX5_init_155 : decode cX5_init 155 = .ok (.aload_n 0, 1) := by decide +kernel
theorem dX5_init_156 : decode cX5_init 156 = .ok (.getfield 7, 3) := by decide +kernel
theorem dX5_init_159 : decode cX5_init 159 = .ok (.iload_n 1, 1) := by decide +kernel
theorem dX5_init_160 : decode cX5_init 160 = .ok (.iconst (-1), 1) := by decide +kernel
theorem dX5_init_161 : decode cX5_init 161 = .ok (.iastore, 1) := by decide +kernel
theorem dX5_init_162 : decode cX5_init 162 = .ok (.aload_n 0, 1) := by decide +kernel
theorem dX5_init_163 : decode cX5_init 163 = .ok (.getfield 13, 3) := by decide +kernel
theorem dX5_init_166 : decode cX5_init 166 = .ok (.iload_n 1, 1) := by decide +kernel
theorem dX5_init_167 : decode cX5_init 167 = .ok (.iconst (-1), 1) := by decide +kernel
theorem dX5_init_168 : decode cX5_init 168 = .ok (.iastore, 1) := by decide +kernel
theorem dX5_init_169 : decode cX5_init 169 = .ok (.iinc 1 1, 3) := by decide +kernel
theorem dX5_init_172 : decode cX5_init 172 = .ok (.goto (-23), 3) := by decide +kernel
theorem dX5_init_175 : decode cX5_init 175 = .ok (.iconst 0, 1) := by decide +kernel
theorem dX5_init_176 : decode cX5_init 176 = .ok (.istore_n 1, 1) := by decide +kernel
theorem dX5_init_177 : decode cX5_init 177 = .ok (.iload_n 1, 1) := by decide +kernel
theorem dX5_init_178 : decode cX5_init 178 = .ok (.bipush 72, 2) := by decide +kernel
theorem dX5_init_180 : decode cX5_init 180 = .ok (.if_icmp .ge 16, 3) := by decide +kernel
theorem dX5_init_183 : decode cX5_init 183 = .ok (.aload_n 0, 1) := by decide +kernel
theorem dX5_init_184 : decode cX5_init 184 = .ok (.getfield 56, 3) := by decide +kernel
theorem dX5_init_187 : decode cX5_init 187 = .ok (.iload_n 1, 1) := by decide +kernel
theorem dX5_init_188 : decode cX5_init 188 = .ok (.iconst (-1), 1) := by decide +kernel
theorem dX5_init_189 : decode cX5_init 189 = .ok (.iastore, 1) := by decide +kernel
theorem dX5_init_190 : decode cX5_init 190 = .ok (.iinc 1 1, 3) := by decide +kernel
theorem dX5_init_193 : decode cX5_init 193 = .ok (.goto (-16), 3) := by decide +kernel
theorem dX5_init_196 : decode cX5_init 196 = .ok (.iconst 0, 1) := by decide +kernel
theorem dX5_init_197 : decode cX5_init 197 = .ok (.istore_n 1, 1) := by decide +kernel
theorem dX5_init_198 : decode cX5_init 198 = .ok (.iload_n 1, 1) := by decide +kernel
theorem dX5_init_199 : decode cX5_init 199 = .ok (.bipush 6, 2) := by decide +kernel
theorem dX5_init_201 : decode cX5_init 201 = .ok (.if_icmp .ge 16, 3) := by decide +kernel
theorem dX5_init_204 : decode cX5_init 204 = .ok (.aload_n 0, 1) := by decide +kernel
theorem dX5_init_205 : decode cX5_init 205 = .ok (.getfield 53, 3) := by decide +kernel
theorem dX5_init_208 : decode cX5_init 208 = .ok (.iload_n 1, 1) := by decide +kernel
theorem dX5_init_209 : decode cX5_init 209 = .ok (.iconst (-1), 1) := by decide +kernel
theorem dX5_init_210 : decode cX5_init 210 = .ok (.iastore, 1) := by decide +kernel
theorem dX5_init_211 : decode cX5_init 211 = .ok (.iinc 1 1, 3) := by decide +kernel
theorem dX5_init_214 : decode cX5_init 214 = .ok (.goto (-16), 3) := by decide +kernel
theorem dX5_init_217 : decode cX5_init 217 = .ok (.iconst 0, 1) := by decide +kernel
theorem dX5_init_218 : decode cX5_init 218 = .ok (.istore_n 1, 1) := by decide +kernel
theorem dX5_init_219 : decode cX5_init 219 = .ok (.iload_n 1, 1) := by decide +kernel
theorem dX5_init_220 : decode cX5_init 220 = .ok (.bipush 6, 2) := by decide +kernel
theorem dX5_init_222 : decode cX5_init 222 = .ok (.if_icmp .ge 17, 3) := by decide +kernel
theorem dX5_init_225 : decode cX5_init 225 = .ok (.aload_n 0, 1) := by decide +kernel
theorem dX5_init_226 : decode cX5_init 226 = .ok (.getfield 41, 3) := by decide +kernel
theorem dX5_init_229 : decode cX5_init 229 = .ok (.iload_n 1, 1) := by decide +kernel
theorem dX5_init_230 : decode cX5_init 230 = .ok (.bipush 7, 2) := by decide +kernel
theorem dX5_init_232 : decode cX5_init 232 = .ok (.iastore, 1) := by decide +kernel
theorem dX5_init_233 : decode cX5_init 233 = .ok (.iinc 1 1, 3) := by decide +kernel
theorem dX5_init_236 : decode cX5_init 236 = .ok (.goto (-17), 3) := by decide +kernel
theorem dX5_init_239 : decode cX5_init 239 = .ok (.return_, 1) := by decide +kernel
theorem dX5_thrown_0 : decode cX5_thrown 0 = .ok (.aload_n 0, 1) := by decide +kernel
theorem dX5_thrown_1 : decode cX5_thrown 1 = .ok (.getfield 65, 3) := by decide +kernel
theorem dX5_thrown_4 : decode cX5_thrown 4 = .ok (.ireturn, 1) := by decide +kernel
theorem dX5_fails_0 : decode cX5_fails 0 = .ok (.aload_n 0, 1) := by decide +kernel
theorem dX5_fails_1 : decode cX5_fails 1 = .ok (.iload_n 1, 1) := by decide +kernel
theorem dX5_fails_2 : decode cX5_fails 2 = .ok (.putfield 65, 3) := by decide +kernel
theorem dX5_fails_5 : decode cX5_fails 5 = .ok (.iload_n 1, 1) := by decide +kernel
theorem dX5_fails_6 : decode cX5_fails 6 = .ok (.ifCond .le 7, 3) := by decide +kernel
theorem dX5_fails_9 : decode cX5_fails 9 = .ok (.iconst 1, 1) := by decide +kernel
theorem dX5_fails_10 : decode cX5_fails 10 = .ok (.goto 4, 3) := by decide +kernel
theorem dX5_fails_13 : decode cX5_fails 13 = .ok (.iconst 0, 1) := by decide +kernel
theorem dX5_fails_14 : decode cX5_fails 14 = .ok (.ireturn, 1) := by decide +kernel
theorem dX5_isIn_0 : decode cX5_isIn 0 = .ok (.iload_n 0, 1) := by decide +kernel
theorem dX5_isIn_1 : decode cX5_isIn 1 = .ok (.iload_n 1, 1) := by decide +kernel
theorem dX5_isIn_2 : decode cX5_isIn 2 = .ok (.if_icmp .lt 12, 3) := by decide +kernel
theorem dX5_isIn_5 : decode cX5_isIn 5 = .ok (.iload_n 0, 1) := by decide +kernel
theorem dX5_isIn_6 : decode cX5_isIn 6 = .ok (.iload_n 2, 1) := by decide +kernel
theorem dX5_isIn_7 : decode cX5_isIn 7 = .ok (.if_icmp .gt 7, 3) := by decide +kernel
theorem dX5_isIn_10 : decode cX5_isIn 10 = .ok (.iconst 1, 1) := by decide +kernel
theorem dX5_isIn_11 : decode cX5_isIn 11 = .ok (.goto 4, 3) := by decide +kernel
theorem dX5_isIn_14 : decode cX5_isIn 14 = .ok (.iconst 0, 1) := by decide +kernel
theorem dX5_isIn_15 : decode cX5_isIn 15 = .ok (.ireturn, 1) := by decide +kernel
set_option maxRecDepth 20000 in
theorem ggX5_isTable_X5_isIn : GoodIn wsX5_isTable wsX5_isIn := goodIn_r _ [4] (by decide +kernel) (by decide +kernel)
set_option maxRecDepth 20000 in
theorem gX5_isTable_X5_isIn : GoodIn wsX5_isTable (va_wsS RX5 68 yX5_isIn wsX5_isIn) := goodIn_app (goodIn_of _ (by decide +kernel)) ggX5_isTable_X5_isIn
theorem dX5_isTable_0 : decode cX5_isTable 0 = .ok (.iload_n 0, 1) := by decide +kernel
theorem dX5_isTable_1 : decode cX5_isTable 1 = .ok (.iconst 0, 1) := by decide +kernel
theorem dX5_isTable_2 : decode cX5_isTable 2 = .ok (.iconst 1, 1) := by decide +kernel
theorem dX5_isTable_3 : decode cX5_isTable 3 = .ok (.invokestatic 68, 3) := by decide +kernel
theorem dX5_isTable_6 : decode cX5_isTable 6 = .ok (.ireturn, 1) := by decide +kernel
set_option maxRecDepth 20000 in
theorem ggX5_isRow_X5_isTable : GoodIn wsX5_isRow wsX5_isTable := goodIn_r _ [4, 5, 6, 3, 7] (by decide +kernel) (by decide +kernel)
set_option maxRecDepth 20000 in
theorem gX5_isRow_X5_isTable : GoodIn wsX5_isRow (va_wsS RX5 72 yX5_isTable wsX5_isTable) := goodIn_app (goodIn_of _ (by decide +kernel)) ggX5_isRow_X5_isTable
set_option maxRecDepth 20000 in
theorem ggX5_isRow_X5_isIn : GoodIn wsX5_isRow wsX5_isIn := goodIn_r _ [7] (by decide +kernel) (by decide +kernel)
set_option maxRecDepth 20000 in
theorem gX5_isRow_X5_isIn : GoodIn wsX5_isRow (va_wsS RX5 68 yX5_isIn wsX5_isIn) := goodIn_app (goodIn_of _ (by decide +kernel)) ggX5_isRow_X5_isIn
theorem dX5_isRow_0 : decode cX5_isRow 0 = .ok (.iload_n 0, 1) := by decide +kernel
theorem dX5_isRow_1 : decode cX5_isRow 1 = .ok (.invokestatic 72, 3) := by decide +kernel
theorem dX5_isRow_4 : decode cX5_isRow 4 = .ok (.ifCond .eq 17, 3) := by decide +kernel
theorem dX5_isRow_7 : decode cX5_isRow 7 = .ok (.iload_n 1, 1) := by decide +kernel
theorem dX5_isRow_8 : decode cX5_isRow 8 = .ok (.iconst 0, 1) := by decide +kernel
theorem dX5_isRow_9 : decode cX5_isRow 9 = .ok (.bipush 11, 2) := by decide +kernel
theorem dX5_isRow_11 : decode cX5_isRow 11 = .ok (.invokestatic 68, 3) := by decide +kernel
theorem dX5_isRow_14 : decode cX5_isRow 14 = .ok (.ifCond .eq 7, 3) := by decide +kernel
theorem dX5_isRow_17 : decode cX5_isRow 17 = .ok (.iconst 1, 1) := by decide +kernel
theorem dX5_isRow_18 : decode cX5_isRow 18 = .ok (.goto 4, 3) := by decide +kernel
theorem dX5_isRow_21 : decode cX5_isRow 21 = .ok (.iconst 0, 1) := by decide +kernel
theorem dX5_isRow_22 : decode cX5_isRow 22 = .ok (.ireturn, 1) := by decide +kernel
set_option maxRecDepth 20000 in
theorem ggX5_isThird_X5_isIn : GoodIn wsX5_isThird wsX5_isIn := goodIn_r _ [4] (by decide +kernel) (by decide +kernel)
set_option maxRecDepth 20000 in
theorem gX5_isThird_X5_isIn : GoodIn wsX5_isThird (va_wsS RX5 68 yX5_isIn wsX5_isIn) := goodIn_app (goodIn_of _ (by decide +kernel)) ggX5_isThird_X5_isIn
theorem dX5_isThird_0 : decode cX5_isThird 0 = .ok (.iload_n 0, 1) := by decide +kernel
theorem dX5_isThird_1 : decode cX5_isThird 1 = .ok (.iconst 0, 1) := by decide +kernel
theorem dX5_isThird_2 : decode cX5_isThird 2 = .ok (.iconst 2, 1) := by decide +kernel
theorem dX5_isThird_3 : decode cX5_isThird 3 = .ok (.invokestatic 68, 3) := by decide +kernel
theorem dX5_isThird_6 : decode cX5_isThird 6 = .ok (.ireturn, 1) := by decide +kernel
set_option maxRecDepth 20000 in
theorem ggX5_enters_X5_goes : GoodIn wsX5_enters wsX5_goes := goodIn_r _ [10] (by decide +kernel) (by decide +kernel)
set_option maxRecDepth 20000 in
theorem gX5_enters_X5_goes : GoodIn wsX5_enters (va_wsS RX5 79 yX5_goes wsX5_goes) := goodIn_app (goodIn_of _ (by decide +kernel)) ggX5_enters_X5_goes
theorem dX5_enters_0 : decode cX5_enters 0 = .ok (.bipush 12, 2) := by decide +kernel
theorem dX5_enters_2 : decode cX5_enters 2 = .ok (.aload_n 0, 1) := by decide +kernel
theorem dX5_enters_3 : decode cX5_enters 3 = .ok (.getfield 76, 3) := by decide +kernel
theorem dX5_enters_6 : decode cX5_enters 6 = .ok (.iconst 1, 1) := by decide +kernel
theorem dX5_enters_7 : decode cX5_enters 7 = .ok (.iadd, 1) := by decide +kernel
theorem dX5_enters_8 : decode cX5_enters 8 = .ok (.imul, 1) := by decide +kernel
theorem dX5_enters_9 : decode cX5_enters 9 = .ok (.aload_n 0, 1) := by decide +kernel
theorem dX5_enters_10 : decode cX5_enters 10 = .ok (.getfield 20, 3) := by decide +kernel
theorem dX5_enters_13 : decode cX5_enters 13 = .ok (.aload_n 0, 1) := by decide +kernel
theorem dX5_enters_14 : decode cX5_enters 14 = .ok (.getfield 76, 3) := by decide +kernel
theorem dX5_enters_17 : decode cX5_enters 17 = .ok (.iconst 1, 1) := by decide +kernel
theorem dX5_enters_18 : decode cX5_enters 18 = .ok (.iadd, 1) := by decide +kernel
theorem dX5_enters_19 : decode cX5_enters 19 = .ok (.iaload, 1) := by decide +kernel
theorem dX5_enters_20 : decode cX5_enters 20 = .ok (.iadd, 1) := by decide +kernel
theorem dX5_enters_21 : decode cX5_enters 21 = .ok (.istore 4, 2) := by decide +kernel
theorem dX5_enters_23 : decode cX5_enters 23 = .ok (.aload_n 0, 1) := by decide +kernel
theorem dX5_enters_24 : decode cX5_enters 24 = .ok (.getfield 23, 3) := by decide +kernel
theorem dX5_enters_27 : decode cX5_enters 27 = .ok (.iload 4, 2) := by decide +kernel
theorem dX5_enters_29 : decode cX5_enters 29 = .ok (.iload_n 1, 1) := by decide +kernel
theorem dX5_enters_30 : decode cX5_enters 30 = .ok (.iastore, 1) := by decide +kernel
theorem dX5_enters_31 : decode cX5_enters 31 = .ok (.aload_n 0, 1) := by decide +kernel
theorem dX5_enters_32 : decode cX5_enters 32 = .ok (.getfield 26, 3) := by decide +kernel
theorem dX5_enters_35 : decode cX5_enters 35 = .ok (.iload 4, 2) := by decide +kernel
theorem dX5_enters_37 : decode cX5_enters 37 = .ok (.iload_n 2, 1) := by decide +kernel
theorem dX5_enters_38 : decode cX5_enters 38 = .ok (.iastore, 1) := by decide +kernel
theorem dX5_enters_39 : decode cX5_enters 39 = .ok (.aload_n 0, 1) := by decide +kernel
theorem dX5_enters_40 : decode cX5_enters 40 = .ok (.getfield 29, 3) := by decide +kernel
theorem dX5_enters_43 : decode cX5_enters 43 = .ok (.iload 4, 2) := by decide +kernel
theorem dX5_enters_45 : decode cX5_enters 45 = .ok (.iload_n 3, 1) := by decide +kernel
theorem dX5_enters_46 : decode cX5_enters 46 = .ok (.iastore, 1) := by decide +kernel
theorem dX5_enters_47 : decode cX5_enters 47 = .ok (.aload_n 0, 1) := by decide +kernel
theorem dX5_enters_48 : decode cX5_enters 48 = .ok (.getfield 20, 3) := by decide +kernel
theorem dX5_enters_51 : decode cX5_enters 51 = .ok (.aload_n 0, 1) := by decide +kernel
theorem dX5_enters_52 : decode cX5_enters 52 = .ok (.getfield 76, 3) := by decide +kernel
theorem dX5_enters_55 : decode cX5_enters 55 = .ok (.iconst 1, 1) := by decide +kernel
theorem dX5_enters_56 : decode cX5_enters 56 = .ok (.iadd, 1) := by decide +kernel
theorem dX5_enters_57 : decode cX5_enters 57 = .ok (.dup2, 1) := by decide +kernel
theorem dX5_enters_58 : decode cX5_enters 58 = .ok (.iaload, 1) := by decide +kernel
theorem dX5_enters_59 : decode cX5_enters 59 = .ok (.iconst 1, 1) := by decide +kernel
theorem dX5_enters_60 : decode cX5_enters 60 = .ok (.iadd, 1) := by decide +kernel
theorem dX5_enters_61 : decode cX5_enters 61 = .ok (.iastore, 1) := by decide +kernel
theorem dX5_enters_62 : decode cX5_enters 62 = .ok (.aload_n 0, 1) := by decide +kernel
theorem dX5_enters_63 : decode cX5_enters 63 = .ok (.getfield 7, 3) := by decide +kernel
theorem dX5_enters_66 : decode cX5_enters 66 = .ok (.iload_n 1, 1) := by decide +kernel
theorem dX5_enters_67 : decode cX5_enters 67 = .ok (.iload_n 2, 1) := by decide +kernel
theorem dX5_enters_68 : decode cX5_enters 68 = .ok (.iload_n 3, 1) := by decide +kernel
theorem dX5_enters_69 : decode cX5_enters 69 = .ok (.invokestatic 79, 3) := by decide +kernel
theorem dX5_enters_72 : decode cX5_enters 72 = .ok (.return_, 1) := by decide +kernel
theorem dX5_goes_0 : decode cX5_goes 0 = .ok (.iconst 0, 1) := by decide +kernel
theorem dX5_goes_1 : decode cX5_goes 1 = .ok (.istore 4, 2) := by decide +kernel
theorem dX5_goes_3 : decode cX5_goes 3 = .ok (.iload 4, 2) := by decide +kernel
theorem dX5_goes_5 : decode cX5_goes 5 = .ok (.bipush 12, 2) := by decide +kernel
theorem dX5_goes_7 : decode cX5_goes 7 = .ok (.if_icmp .ge 42, 3) := by decide +kernel
theorem dX5_goes_10 : decode cX5_goes 10 = .ok (.aload_n 0, 1) := by decide +kernel
theorem dX5_goes_11 : decode cX5_goes 11 = .ok (.bipush 12, 2) := by decide +kernel
theorem dX5_goes_13 : decode cX5_goes 13 = .ok (.iload_n 1, 1) := by decide +kernel
theorem dX5_goes_14 : decode cX5_goes 14 = .ok (.imul, 1) := by decide +kernel
theorem dX5_goes_15 : decode cX5_goes 15 = .ok (.iload 4, 2) := by decide +kernel
theorem dX5_goes_17 : decode cX5_goes 17 = .ok (.iadd, 1) := by decide +kernel
theorem dX5_goes_18 : decode cX5_goes 18 = .ok (.iload_n 2, 1) := by decide +kernel
theorem dX5_goes_19 : decode cX5_goes 19 = .ok (.iload 4, 2) := by decide +kernel
theorem dX5_goes_21 : decode cX5_goes 21 = .ok (.if_icmp .eq 8, 3) := by decide +kernel
theorem dX5_goes_24 : decode cX5_goes 24 = .ok (.iload_n 2, 1) := by decide +kernel
theorem dX5_goes_25 : decode cX5_goes 25 = .ok (.iconst (-1), 1) := by decide +kernel
theorem dX5_goes_26 : decode cX5_goes 26 = .ok (.if_icmp .ne 7, 3) := by decide +kernel
theorem dX5_goes_29 : decode cX5_goes 29 = .ok (.iload_n 3, 1) := by decide +kernel
theorem dX5_goes_30 : decode cX5_goes 30 = .ok (.goto 12, 3) := by decide +kernel
theorem dX5_goes_33 : decode cX5_goes 33 = .ok (.aload_n 0, 1) := by decide +kernel
theorem dX5_goes_34 : decode cX5_goes 34 = .ok (.bipush 12, 2) := by decide +kernel
theorem dX5_goes_36 : decode cX5_goes 36 = .ok (.iload_n 1, 1) := by decide +kernel
theorem dX5_goes_37 : decode cX5_goes 37 = .ok (.imul, 1) := by decide +kernel
theorem dX5_goes_38 : decode cX5_goes 38 = .ok (.iload 4, 2) := by decide +kernel
theorem dX5_goes_40 : decode cX5_goes 40 = .ok (.iadd, 1) := by decide +kernel
theorem dX5_goes_41 : decode cX5_goes 41 = .ok (.iaload, 1) := by decide +kernel
theorem dX5_goes_42 : decode cX5_goes 42 = .ok (.iastore, 1) := by decide +kernel
theorem dX5_goes_43 : decode cX5_goes 43 = .ok (.iinc 4 1, 3) := by decide +kernel
theorem dX5_goes_46 : decode cX5_goes 46 = .ok (.goto (-43), 3) := by decide +kernel
theorem dX5_goes_49 : decode cX5_goes 49 = .ok (.return_, 1) := by decide +kernel
theorem dX5_isFull_0 : decode cX5_isFull 0 = .ok (.aload_n 0, 1) := by decide +kernel
theorem dX5_isFull_1 : decode cX5_isFull 1 = .ok (.getfield 20, 3) := by decide +kernel
theorem dX5_isFull_4 : decode cX5_isFull 4 = .ok (.aload_n 0, 1) := by decide +kernel
theorem dX5_isFull_5 : decode cX5_isFull 5 = .ok (.getfield 76, 3) := by decide +kernel
theorem dX5_isFull_8 : decode cX5_isFull 8 = .ok (.iconst 1, 1) := by decide +kernel
theorem dX5_isFull_9 : decode cX5_isFull 9 = .ok (.iadd, 1) := by decide +kernel
theorem dX5_isFull_10 : decode cX5_isFull 10 = .ok (.iaload, 1) := by decide +kernel
theorem dX5_isFull_11 : decode cX5_isFull 11 = .ok (.bipush 12, 2) := by decide +kernel
theorem dX5_isFull_13 : decode cX5_isFull 13 = .ok (.if_icmp .ne 7, 3) := by decide +kernel
theorem dX5_isFull_16 : decode cX5_isFull 16 = .ok (.iconst 1, 1) := by decide +kernel
theorem dX5_isFull_17 : decode cX5_isFull 17 = .ok (.goto 4, 3) := by decide +kernel
theorem dX5_isFull_20 : decode cX5_isFull 20 = .ok (.iconst 0, 1) := by decide +kernel
theorem dX5_isFull_21 : decode cX5_isFull 21 = .ok (.ireturn, 1) := by decide +kernel
set_option maxRecDepth 20000 in
theorem ggX5_isNumber_X5_isIn : GoodIn wsX5_isNumber wsX5_isIn := goodIn_r _ [4] (by decide +kernel) (by decide +kernel)
set_option maxRecDepth 20000 in
theorem gX5_isNumber_X5_isIn : GoodIn wsX5_isNumber (va_wsS RX5 68 yX5_isIn wsX5_isIn) := goodIn_app (goodIn_of _ (by decide +kernel)) ggX5_isNumber_X5_isIn
theorem dX5_isNumber_0 : decode cX5_isNumber 0 = .ok (.iload_n 0, 1) := by decide +kernel
theorem dX5_isNumber_1 : decode cX5_isNumber 1 = .ok (.iconst 0, 1) := by decide +kernel
theorem dX5_isNumber_2 : decode cX5_isNumber 2 = .ok (.bipush 99, 2) := by decide +kernel
theorem dX5_isNumber_4 : decode cX5_isNumber 4 = .ok (.invokestatic 68, 3) := by decide +kernel
theorem dX5_isNumber_7 : decode cX5_isNumber 7 = .ok (.ireturn, 1) := by decide +kernel
set_option maxRecDepth 20000 in
theorem ggX5_put_X5_isNumber : GoodIn wsX5_put wsX5_isNumber := goodIn_r _ [5, 6, 7, 4, 8] (by decide +kernel) (by decide +kernel)
set_option maxRecDepth 20000 in
theorem gX5_put_X5_isNumber : GoodIn wsX5_put (va_wsS RX5 83 yX5_isNumber wsX5_isNumber) := goodIn_app (goodIn_of _ (by decide +kernel)) ggX5_put_X5_isNumber
set_option maxRecDepth 20000 in
theorem ggX5_put_X5_isRow : GoodIn wsX5_put wsX5_isRow := goodIn_r _ [11, 12, 13, 4, 14, 6, 7, 8] (by decide +kernel) (by decide +kernel)
set_option maxRecDepth 20000 in
theorem gX5_put_X5_isRow : GoodIn wsX5_put (va_wsS RX5 86 yX5_isRow wsX5_isRow) := goodIn_app (goodIn_of _ (by decide +kernel)) ggX5_put_X5_isRow
set_option maxRecDepth 20000 in
theorem ggX5_put_X5_isFull : GoodIn wsX5_put wsX5_isFull := goodIn_r _ [18, 19, 20, 36, 37, 38, 39, 40, 41, 42, 43, 44, 45, 46, 47, 48, 49, 50, 51, 52, 53, 54, 55] (by decide +kernel) (by decide +kernel)
set_option maxRecDepth 20000 in
theorem gX5_put_X5_isFull : GoodIn wsX5_put (wsV RX5 90 RX5 yX5_isFull wsX5_isFull) := goodIn_app (goodIn_of _ (by decide +kernel)) ggX5_put_X5_isFull
set_option maxRecDepth 20000 in
theorem ggX5_put_X5_fails : GoodIn wsX5_put wsX5_fails := goodIn_r _ [24, 25, 36, 37, 38, 39, 40, 41, 42, 43, 44, 45, 46, 47, 48, 49, 50, 51, 52, 53, 54, 55] (by decide +kernel) (by decide +kernel)
set_option maxRecDepth 20000 in
theorem gX5_put_X5_fails : GoodIn wsX5_put (wsV RX5 94 RX5 yX5_fails wsX5_fails) := goodIn_app (goodIn_of _ (by decide +kernel)) ggX5_put_X5_fails
set_option maxRecDepth 20000 in
theorem ggX5_put_X5_enters : GoodIn wsX5_put wsX5_enters := goodIn_r _ [29, 20, 19, 30, 31, 32, 1, 33, 34, 4, 35, 36, 37, 38, 39, 40, 41, 42, 43, 44, 45, 46, 47, 48, 49, 50, 51, 52, 53, 54, 55] (by decide +kernel) (by decide +kernel)
set_option maxRecDepth 20000 in
theorem gX5_put_X5_enters : GoodIn wsX5_put (wsV RX5 97 RX5 yX5_enters wsX5_enters) := goodIn_app (goodIn_of _ (by decide +kernel)) ggX5_put_X5_enters
theorem dX5_put_0 : decode cX5_put 0 = .ok (.iload_n 3, 1) := by decide +kernel
theorem dX5_put_1 : decode cX5_put 1 = .ok (.invokestatic 83, 3) := by decide +kernel
theorem dX5_put_4 : decode cX5_put 4 = .ok (.ifCond .eq 23, 3) := by decide +kernel
theorem dX5_put_7 : decode cX5_put 7 = .ok (.iload 4, 2) := by decide +kernel
theorem dX5_put_9 : decode cX5_put 9 = .ok (.invokestatic 83, 3) := by decide +kernel
theorem dX5_put_12 : decode cX5_put 12 = .ok (.ifCond .eq 15, 3) := by decide +kernel
theorem dX5_put_15 : decode cX5_put 15 = .ok (.iload 5, 2) := by decide +kernel
theorem dX5_put_17 : decode cX5_put 17 = .ok (.invokestatic 83, 3) := by decide +kernel
theorem dX5_put_20 : decode cX5_put 20 = .ok (.ifCond .eq 7, 3) := by decide +kernel
theorem dX5_put_23 : decode cX5_put 23 = .ok (.iconst 1, 1) := by decide +kernel
theorem dX5_put_24 : decode cX5_put 24 = .ok (.goto 4, 3) := by decide +kernel
theorem dX5_put_27 : decode cX5_put 27 = .ok (.iconst 0, 1) := by decide +kernel
theorem dX5_put_28 : decode cX5_put 28 = .ok (.istore 6, 2) := by decide +kernel
theorem dX5_put_30 : decode cX5_put 30 = .ok (.aload_n 0, 1) := by decide +kernel
theorem dX5_put_31 : decode cX5_put 31 = .ok (.iload_n 1, 1) := by decide +kernel
theorem dX5_put_32 : decode cX5_put 32 = .ok (.iload_n 2, 1) := by decide +kernel
theorem dX5_put_33 : decode cX5_put 33 = .ok (.invokestatic 86, 3) := by decide +kernel
theorem dX5_put_36 : decode cX5_put 36 = .ok (.ifCond .ne 7, 3) := by decide +kernel
theorem dX5_put_39 : decode cX5_put 39 = .ok (.iconst 1, 1) := by decide +kernel
theorem dX5_put_40 : decode cX5_put 40 = .ok (.goto 24, 3) := by decide +kernel
theorem dX5_put_43 : decode cX5_put 43 = .ok (.iload 6, 2) := by decide +kernel
theorem dX5_put_45 : decode cX5_put 45 = .ok (.ifCond .ne 7, 3) := by decide +kernel
theorem dX5_put_48 : decode cX5_put 48 = .ok (.iconst 2, 1) := by decide +kernel
theorem dX5_put_49 : decode cX5_put 49 = .ok (.goto 15, 3) := by decide +kernel
theorem dX5_put_52 : decode cX5_put 52 = .ok (.aload_n 0, 1) := by decide +kernel
theorem dX5_put_53 : decode cX5_put 53 = .ok (.invokevirtual 90, 3) := by decide +kernel
theorem dX5_put_56 : decode cX5_put 56 = .ok (.ifCond .eq 7, 3) := by decide +kernel
theorem dX5_put_59 : decode cX5_put 59 = .ok (.iconst 3, 1) := by decide +kernel
theorem dX5_put_60 : decode cX5_put 60 = .ok (.goto 4, 3) := by decide +kernel
theorem dX5_put_63 : decode cX5_put 63 = .ok (.iconst 0, 1) := by decide +kernel
theorem dX5_put_64 : decode cX5_put 64 = .ok (.invokevirtual 94, 3) := by decide +kernel
theorem dX5_put_67 : decode cX5_put 67 = .ok (.ifCond .eq 5, 3) := by decide +kernel
theorem dX5_put_70 : decode cX5_put 70 = .ok (.iconst 0, 1) := by decide +kernel
theorem dX5_put_71 : decode cX5_put 71 = .ok (.ireturn, 1) := by decide +kernel
theorem dX5_put_72 : decode cX5_put 72 = .ok (.aload_n 0, 1) := by decide +kernel
theorem dX5_put_73 : decode cX5_put 73 = .ok (.getfield 7, 3) := by decide +kernel
theorem dX5_put_76 : decode cX5_put 76 = .ok (.bipush 12, 2) := by decide +kernel
theorem dX5_put_78 : decode cX5_put 78 = .ok (.iload_n 1, 1) := by decide +kernel
theorem dX5_put_79 : decode cX5_put 79 = .ok (.imul, 1) := by decide +kernel
theorem dX5_put_80 : decode cX5_put 80 = .ok (.iload_n 2, 1) := by decide +kernel
theorem dX5_put_81 : decode cX5_put 81 = .ok (.iadd, 1) := by decide +kernel
theorem dX5_put_82 : decode cX5_put 82 = .ok (.iaload, 1) := by decide +kernel
theorem dX5_put_83 : decode cX5_put 83 = .ok (.iconst (-1), 1) := by decide +kernel
theorem dX5_put_84 : decode cX5_put 84 = .ok (.if_icmp .ne 7, 3) := by decide +kernel
theorem dX5_put_87 : decode cX5_put 87 = .ok (.iconst 1, 1) := by decide +kernel
theorem dX5_put_88 : decode cX5_put 88 = .ok (.goto 4, 3) := by decide +kernel
theorem dX5_put_91 : decode cX5_put 91 = .ok (.iconst 0, 1) := by decide +kernel
theorem dX5_put_92 : decode cX5_put 92 = .ok (.istore 7, 2) := by decide +kernel
theorem dX5_put_94 : decode cX5_put 94 = .ok (.aload_n 0, 1) := by decide +kernel
theorem dX5_put_95 : decode cX5_put 95 = .ok (.iload_n 1, 1) := by decide +kernel
theorem dX5_put_96 : decode cX5_put 96 = .ok (.iload_n 2, 1) := by decide +kernel
theorem dX5_put_97 : decode cX5_put 97 = .ok (.iload_n 3, 1) := by decide +kernel
theorem dX5_put_98 : decode cX5_put 98 = .ok (.bipush 100, 2) := by decide +kernel
theorem dX5_put_100 : decode cX5_put 100 = .ok (.iload 4, 2) := by decide +kernel
theorem dX5_put_102 : decode cX5_put 102 = .ok (.imul, 1) := by decide +kernel
theorem dX5_put_103 : decode cX5_put 103 = .ok (.iadd, 1) := by decide +kernel
theorem dX5_put_104 : decode cX5_put 104 = .ok (.sipush 10000, 3) := by decide +kernel
theorem dX5_put_107 : decode cX5_put 107 = .ok (.iload 5, 2) := by decide +kernel
theorem dX5_put_109 : decode cX5_put 109 = .ok (.imul, 1) := by decide +kernel
theorem dX5_put_110 : decode cX5_put 110 = .ok (.iadd, 1) := by decide +kernel
theorem dX5_put_111 : decode cX5_put 111 = .ok (.invokevirtual 97, 3) := by decide +kernel
theorem dX5_put_114 : decode cX5_put 114 = .ok (.iload 7, 2) := by decide +kernel
theorem dX5_put_116 : decode cX5_put 116 = .ok (.ireturn, 1) := by decide +kernel
set_option maxRecDepth 20000 in
theorem ggX5_take_X5_isRow : GoodIn wsX5_take wsX5_isRow := goodIn_r _ [5, 6, 7, 4, 8, 9, 10, 11] (by decide +kernel) (by decide +kernel)
set_option maxRecDepth 20000 in
theorem gX5_take_X5_isRow : GoodIn wsX5_take (va_wsS RX5 86 yX5_isRow wsX5_isRow) := goodIn_app (goodIn_of _ (by decide +kernel)) ggX5_take_X5_isRow
set_option maxRecDepth 20000 in
theorem ggX5_take_X5_isFull : GoodIn wsX5_take wsX5_isFull := goodIn_r _ [15, 16, 17, 33, 34, 35, 36, 37, 38, 39, 40, 41, 42, 43, 44, 45, 46, 47, 48, 49, 50, 51, 52] (by decide +kernel) (by decide +kernel)
set_option maxRecDepth 20000 in
theorem gX5_take_X5_isFull : GoodIn wsX5_take (wsV RX5 90 RX5 yX5_isFull wsX5_isFull) := goodIn_app (goodIn_of _ (by decide +kernel)) ggX5_take_X5_isFull
set_option maxRecDepth 20000 in
theorem ggX5_take_X5_fails : GoodIn wsX5_take wsX5_fails := goodIn_r _ [21, 22, 33, 34, 35, 36, 37, 38, 39, 40, 41, 42, 43, 44, 45, 46, 47, 48, 49, 50, 51, 52] (by decide +kernel) (by decide +kernel)
set_option maxRecDepth 20000 in
theorem gX5_take_X5_fails : GoodIn wsX5_take (wsV RX5 94 RX5 yX5_fails wsX5_fails) := goodIn_app (goodIn_of _ (by decide +kernel)) ggX5_take_X5_fails
set_option maxRecDepth 20000 in
theorem ggX5_take_X5_enters : GoodIn wsX5_take wsX5_enters := goodIn_r _ [26, 17, 16, 27, 28, 29, 1, 30, 31, 4, 32, 33, 34, 35, 36, 37, 38, 39, 40, 41, 42, 43, 44, 45, 46, 47, 48, 49, 50, 51, 52] (by decide +kernel) (by decide +kernel)
set_option maxRecDepth 20000 in
theorem gX5_take_X5_enters : GoodIn wsX5_take (wsV RX5 97 RX5 yX5_enters wsX5_enters) := goodIn_app (goodIn_of _ (by decide +kernel)) ggX5_take_X5_enters
theorem dX5_take_0 : decode cX5_take 0 = .ok (.iload_n 1, 1) := by decide +kernel
theorem dX5_take_1 : decode cX5_take 1 = .ok (.iload_n 2, 1) := by decide +kernel
theorem dX5_take_2 : decode cX5_take 2 = .ok (.invokestatic 86, 3) := by decide +kernel
theorem dX5_take_5 : decode cX5_take 5 = .ok (.istore_n 3, 1) := by decide +kernel
theorem dX5_take_6 : decode cX5_take 6 = .ok (.aload_n 0, 1) := by decide +kernel
theorem dX5_take_7 : decode cX5_take 7 = .ok (.iload_n 3, 1) := by decide +kernel
theorem dX5_take_8 : decode cX5_take 8 = .ok (.ifCond .ne 7, 3) := by decide +kernel
theorem dX5_take_11 : decode cX5_take 11 = .ok (.iconst 1, 1) := by decide +kernel
theorem dX5_take_12 : decode cX5_take 12 = .ok (.goto 30, 3) := by decide +kernel
theorem dX5_take_15 : decode cX5_take 15 = .ok (.aload_n 0, 1) := by decide +kernel
theorem dX5_take_16 : decode cX5_take 16 = .ok (.getfield 7, 3) := by decide +kernel
theorem dX5_take_19 : decode cX5_take 19 = .ok (.bipush 12, 2) := by decide +kernel
theorem dX5_take_21 : decode cX5_take 21 = .ok (.iload_n 1, 1) := by decide +kernel
theorem dX5_take_22 : decode cX5_take 22 = .ok (.imul, 1) := by decide +kernel
theorem dX5_take_23 : decode cX5_take 23 = .ok (.iload_n 2, 1) := by decide +kernel
theorem dX5_take_24 : decode cX5_take 24 = .ok (.iadd, 1) := by decide +kernel
theorem dX5_take_25 : decode cX5_take 25 = .ok (.iaload, 1) := by decide +kernel
theorem dX5_take_26 : decode cX5_take 26 = .ok (.iconst (-1), 1) := by decide +kernel
theorem dX5_take_27 : decode cX5_take 27 = .ok (.if_icmp .eq 10, 3) := by decide +kernel
theorem dX5_take_30 : decode cX5_take 30 = .ok (.aload_n 0, 1) := by decide +kernel
theorem dX5_take_31 : decode cX5_take 31 = .ok (.invokevirtual 90, 3) := by decide +kernel
theorem dX5_take_34 : decode cX5_take 34 = .ok (.ifCond .eq 7, 3) := by decide +kernel
theorem dX5_take_37 : decode cX5_take 37 = .ok (.iconst 2, 1) := by decide +kernel
theorem dX5_take_38 : decode cX5_take 38 = .ok (.goto 4, 3) := by decide +kernel
theorem dX5_take_41 : decode cX5_take 41 = .ok (.iconst 0, 1) := by decide +kernel
theorem dX5_take_42 : decode cX5_take 42 = .ok (.invokevirtual 94, 3) := by decide +kernel
theorem dX5_take_45 : decode cX5_take 45 = .ok (.ifCond .ne 10, 3) := by decide +kernel
theorem dX5_take_48 : decode cX5_take 48 = .ok (.aload_n 0, 1) := by decide +kernel
theorem dX5_take_49 : decode cX5_take 49 = .ok (.iload_n 1, 1) := by decide +kernel
theorem dX5_take_50 : decode cX5_take 50 = .ok (.iload_n 2, 1) := by decide +kernel
theorem dX5_take_51 : decode cX5_take 51 = .ok (.iconst (-1), 1) := by decide +kernel
theorem dX5_take_52 : decode cX5_take 52 = .ok (.invokevirtual 97, 3) := by decide +kernel
theorem dX5_take_55 : decode cX5_take 55 = .ok (.return_, 1) := by decide +kernel
set_option maxRecDepth 20000 in
theorem ggX5_truncate_X5_isTable : GoodIn wsX5_truncate wsX5_isTable := goodIn_r _ [5, 6, 7, 4, 8] (by decide +kernel) (by decide +kernel)
set_option maxRecDepth 20000 in
theorem gX5_truncate_X5_isTable : GoodIn wsX5_truncate (va_wsS RX5 72 yX5_isTable wsX5_isTable) := goodIn_app (goodIn_of _ (by decide +kernel)) ggX5_truncate_X5_isTable
set_option maxRecDepth 20000 in
theorem ggX5_truncate_X5_isFull : GoodIn wsX5_truncate wsX5_isFull := goodIn_r _ [12, 13, 14, 30, 31, 32, 33, 34, 35, 36, 37, 38, 39, 40, 41, 42, 43, 44, 45, 46, 47, 48, 49] (by decide +kernel) (by decide +kernel)
set_option maxRecDepth 20000 in
theorem gX5_truncate_X5_isFull : GoodIn wsX5_truncate (wsV RX5 90 RX5 yX5_isFull wsX5_isFull) := goodIn_app (goodIn_of _ (by decide +kernel)) ggX5_truncate_X5_isFull
set_option maxRecDepth 20000 in
theorem ggX5_truncate_X5_fails : GoodIn wsX5_truncate wsX5_fails := goodIn_r _ [18, 19, 30, 31, 32, 33, 34, 35, 36, 37, 38, 39, 40, 41, 42, 43, 44, 45, 46, 47, 48, 49] (by decide +kernel) (by decide +kernel)
set_option maxRecDepth 20000 in
theorem gX5_truncate_X5_fails : GoodIn wsX5_truncate (wsV RX5 94 RX5 yX5_fails wsX5_fails) := goodIn_app (goodIn_of _ (by decide +kernel)) ggX5_truncate_X5_fails
set_option maxRecDepth 20000 in
theorem ggX5_truncate_X5_enters : GoodIn wsX5_truncate wsX5_enters := goodIn_r _ [23, 14, 13, 24, 25, 26, 1, 27, 28, 4, 29, 30, 31, 32, 33, 34, 35, 36, 37, 38, 39, 40, 41, 42, 43, 44, 45, 46, 47, 48, 49] (by decide +kernel) (by decide +kernel)
set_option maxRecDepth 20000 in
theorem gX5_truncate_X5_enters : GoodIn wsX5_truncate (wsV RX5 97 RX5 yX5_enters wsX5_enters) := goodIn_app (goodIn_of _ (by decide +kernel)) ggX5_truncate_X5_enters
theorem dX5_truncate_0 : decode cX5_truncate 0 = .ok (.aload_n 0, 1) := by decide +kernel
theorem dX5_truncate_1 : decode cX5_truncate 1 = .ok (.iload_n 1, 1) := by decide +kernel
theorem dX5_truncate_2 : decode cX5_truncate 2 = .ok (.invokestatic 72, 3) := by decide +kernel
theorem dX5_truncate_5 : decode cX5_truncate 5 = .ok (.ifCond .ne 7, 3) := by decide +kernel
theorem dX5_truncate_8 : decode cX5_truncate 8 = .ok (.iconst 1, 1) := by decide +kernel
theorem dX5_truncate_9 : decode cX5_truncate 9 = .ok (.goto 15, 3) := by decide +kernel
theorem dX5_truncate_12 : decode cX5_truncate 12 = .ok (.aload_n 0, 1) := by decide +kernel
theorem dX5_truncate_13 : decode cX5_truncate 13 = .ok (.invokevirtual 90, 3) := by decide +kernel
theorem dX5_truncate_16 : decode cX5_truncate 16 = .ok (.ifCond .eq 7, 3) := by decide +kernel
theorem dX5_truncate_19 : decode cX5_truncate 19 = .ok (.iconst 2, 1) := by decide +kernel
theorem dX5_truncate_20 : decode cX5_truncate 20 = .ok (.goto 4, 3) := by decide +kernel
theorem dX5_truncate_23 : decode cX5_truncate 23 = .ok (.iconst 0, 1) := by decide +kernel
theorem dX5_truncate_24 : decode cX5_truncate 24 = .ok (.invokevirtual 94, 3) := by decide +kernel
theorem dX5_truncate_27 : decode cX5_truncate 27 = .ok (.ifCond .eq 5, 3) := by decide +kernel
theorem dX5_truncate_30 : decode cX5_truncate 30 = .ok (.iconst 0, 1) := by decide +kernel
theorem dX5_truncate_31 : decode cX5_truncate 31 = .ok (.ireturn, 1) := by decide +kernel
theorem dX5_truncate_32 : decode cX5_truncate 32 = .ok (.iconst 0, 1) := by decide +kernel
theorem dX5_truncate_33 : decode cX5_truncate 33 = .ok (.istore_n 2, 1) := by decide +kernel
theorem dX5_truncate_34 : decode cX5_truncate 34 = .ok (.bipush 12, 2) := by decide +kernel
theorem dX5_truncate_36 : decode cX5_truncate 36 = .ok (.iload_n 1, 1) := by decide +kernel
theorem dX5_truncate_37 : decode cX5_truncate 37 = .ok (.imul, 1) := by decide +kernel
theorem dX5_truncate_38 : decode cX5_truncate 38 = .ok (.istore_n 3, 1) := by decide +kernel
theorem dX5_truncate_39 : decode cX5_truncate 39 = .ok (.iload_n 3, 1) := by decide +kernel
theorem dX5_truncate_40 : decode cX5_truncate 40 = .ok (.bipush 12, 2) := by decide +kernel
theorem dX5_truncate_42 : decode cX5_truncate 42 = .ok (.iload_n 1, 1) := by decide +kernel
theorem dX5_truncate_43 : decode cX5_truncate 43 = .ok (.imul, 1) := by decide +kernel
theorem dX5_truncate_44 : decode cX5_truncate 44 = .ok (.bipush 12, 2) := by decide +kernel
theorem dX5_truncate_46 : decode cX5_truncate 46 = .ok (.iadd, 1) := by decide +kernel
theorem dX5_truncate_47 : decode cX5_truncate 47 = .ok (.if_icmp .ge 27, 3) := by decide +kernel
theorem dX5_truncate_50 : decode cX5_truncate 50 = .ok (.iload_n 2, 1) := by decide +kernel
theorem dX5_truncate_51 : decode cX5_truncate 51 = .ok (.aload_n 0, 1) := by decide +kernel
theorem dX5_truncate_52 : decode cX5_truncate 52 = .ok (.getfield 7, 3) := by decide +kernel
theorem dX5_truncate_55 : decode cX5_truncate 55 = .ok (.iload_n 3, 1) := by decide +kernel
theorem dX5_truncate_56 : decode cX5_truncate 56 = .ok (.iaload, 1) := by decide +kernel
theorem dX5_truncate_57 : decode cX5_truncate 57 = .ok (.iconst (-1), 1) := by decide +kernel
theorem dX5_truncate_58 : decode cX5_truncate 58 = .ok (.if_icmp .ne 7, 3) := by decide +kernel
theorem dX5_truncate_61 : decode cX5_truncate 61 = .ok (.iconst 0, 1) := by decide +kernel
theorem dX5_truncate_62 : decode cX5_truncate 62 = .ok (.goto 4, 3) := by decide +kernel
theorem dX5_truncate_65 : decode cX5_truncate 65 = .ok (.iconst 1, 1) := by decide +kernel
theorem dX5_truncate_66 : decode cX5_truncate 66 = .ok (.iadd, 1) := by decide +kernel
theorem dX5_truncate_67 : decode cX5_truncate 67 = .ok (.istore_n 2, 1) := by decide +kernel
theorem dX5_truncate_68 : decode cX5_truncate 68 = .ok (.iinc 3 1, 3) := by decide +kernel
theorem dX5_truncate_71 : decode cX5_truncate 71 = .ok (.goto (-32), 3) := by decide +kernel
theorem dX5_truncate_74 : decode cX5_truncate 74 = .ok (.aload_n 0, 1) := by decide +kernel
theorem dX5_truncate_75 : decode cX5_truncate 75 = .ok (.iload_n 1, 1) := by decide +kernel
theorem dX5_truncate_76 : decode cX5_truncate 76 = .ok (.iconst (-1), 1) := by decide +kernel
theorem dX5_truncate_77 : decode cX5_truncate 77 = .ok (.iconst (-1), 1) := by decide +kernel
theorem dX5_truncate_78 : decode cX5_truncate 78 = .ok (.invokevirtual 97, 3) := by decide +kernel
theorem dX5_truncate_81 : decode cX5_truncate 81 = .ok (.iload_n 2, 1) := by decide +kernel
theorem dX5_truncate_82 : decode cX5_truncate 82 = .ok (.ireturn, 1) := by decide +kernel
set_option maxRecDepth 20000 in
theorem ggX5_cuts_X5_isIn : GoodIn wsX5_cuts wsX5_isIn := goodIn_r _ [8] (by decide +kernel) (by decide +kernel)
set_option maxRecDepth 20000 in
theorem gX5_cuts_X5_isIn : GoodIn wsX5_cuts (va_wsS RX5 68 yX5_isIn wsX5_isIn) := goodIn_app (goodIn_of _ (by decide +kernel)) ggX5_cuts_X5_isIn
theorem dX5_cuts_0 : decode cX5_cuts 0 = .ok (.iconst 0, 1) := by decide +kernel
theorem dX5_cuts_1 : decode cX5_cuts 1 = .ok (.istore_n 1, 1) := by decide +kernel
theorem dX5_cuts_2 : decode cX5_cuts 2 = .ok (.iconst 0, 1) := by decide +kernel
theorem dX5_cuts_3 : decode cX5_cuts 3 = .ok (.istore_n 2, 1) := by decide +kernel
theorem dX5_cuts_4 : decode cX5_cuts 4 = .ok (.iload_n 2, 1) := by decide +kernel
theorem dX5_cuts_5 : decode cX5_cuts 5 = .ok (.iconst 3, 1) := by decide +kernel
theorem dX5_cuts_6 : decode cX5_cuts 6 = .ok (.if_icmp .ge 51, 3) := by decide +kernel
theorem dX5_cuts_9 : decode cX5_cuts 9 = .ok (.aload_n 0, 1) := by decide +kernel
theorem dX5_cuts_10 : decode cX5_cuts 10 = .ok (.getfield 47, 3) := by decide +kernel
theorem dX5_cuts_13 : decode cX5_cuts 13 = .ok (.iload_n 2, 1) := by decide +kernel
theorem dX5_cuts_14 : decode cX5_cuts 14 = .ok (.iaload, 1) := by decide +kernel
theorem dX5_cuts_15 : decode cX5_cuts 15 = .ok (.iconst 1, 1) := by decide +kernel
theorem dX5_cuts_16 : decode cX5_cuts 16 = .ok (.iconst 2, 1) := by decide +kernel
theorem dX5_cuts_17 : decode cX5_cuts 17 = .ok (.invokestatic 68, 3) := by decide +kernel
theorem dX5_cuts_20 : decode cX5_cuts 20 = .ok (.ifCond .eq 31, 3) := by decide +kernel
theorem dX5_cuts_23 : decode cX5_cuts 23 = .ok (.aload_n 0, 1) := by decide +kernel
theorem dX5_cuts_24 : decode cX5_cuts 24 = .ok (.getfield 76, 3) := by decide +kernel
theorem dX5_cuts_27 : decode cX5_cuts 27 = .ok (.aload_n 0, 1) := by decide +kernel
theorem dX5_cuts_28 : decode cX5_cuts 28 = .ok (.getfield 50, 3) := by decide +kernel
theorem dX5_cuts_31 : decode cX5_cuts 31 = .ok (.iload_n 2, 1) := by decide +kernel
theorem dX5_cuts_32 : decode cX5_cuts 32 = .ok (.iaload, 1) := by decide +kernel
theorem dX5_cuts_33 : decode cX5_cuts 33 = .ok (.isub, 1) := by decide +kernel
theorem dX5_cuts_34 : decode cX5_cuts 34 = .ok (.aload_n 0, 1) := by decide +kernel
theorem dX5_cuts_35 : decode cX5_cuts 35 = .ok (.getfield 16, 3) := by decide +kernel
theorem dX5_cuts_38 : decode cX5_cuts 38 = .ok (.if_icmp .le 13, 3) := by decide +kernel
theorem dX5_cuts_41 : decode cX5_cuts 41 = .ok (.aload_n 0, 1) := by decide +kernel
theorem dX5_cuts_42 : decode cX5_cuts 42 = .ok (.getfield 47, 3) := by decide +kernel
theorem dX5_cuts_45 : decode cX5_cuts 45 = .ok (.iload_n 2, 1) := by decide +kernel
theorem dX5_cuts_46 : decode cX5_cuts 46 = .ok (.iconst 3, 1) := by decide +kernel
theorem dX5_cuts_47 : decode cX5_cuts 47 = .ok (.iastore, 1) := by decide +kernel
theorem dX5_cuts_48 : decode cX5_cuts 48 = .ok (.iinc 1 1, 3) := by decide +kernel
theorem dX5_cuts_51 : decode cX5_cuts 51 = .ok (.iinc 2 1, 3) := by decide +kernel
theorem dX5_cuts_54 : decode cX5_cuts 54 = .ok (.goto (-50), 3) := by decide +kernel
theorem dX5_cuts_57 : decode cX5_cuts 57 = .ok (.iload_n 1, 1) := by decide +kernel
theorem dX5_cuts_58 : decode cX5_cuts 58 = .ok (.ireturn, 1) := by decide +kernel
set_option maxRecDepth 20000 in
theorem ggX5_commit_X5_fails : GoodIn wsX5_commit wsX5_fails := goodIn_r _ [9, 10, 21, 22, 23, 24, 25, 26, 27, 28, 29, 30, 31, 32, 33, 34, 35, 36, 37, 38, 39, 40] (by decide +kernel) (by decide +kernel)
set_option maxRecDepth 20000 in
theorem gX5_commit_X5_fails : GoodIn wsX5_commit (wsV RX5 94 RX5 yX5_fails wsX5_fails) := goodIn_app (goodIn_of _ (by decide +kernel)) ggX5_commit_X5_fails
set_option maxRecDepth 20000 in
theorem ggX5_commit_X5_cuts : GoodIn wsX5_commit wsX5_cuts := goodIn_r _ [14, 15, 1, 16, 17, 18, 19, 8, 20, 21, 22, 23, 24, 25, 26, 27, 28, 29, 30, 31, 32, 33, 34, 35, 36, 37, 38, 39, 40] (by decide +kernel) (by decide +kernel)
set_option maxRecDepth 20000 in
theorem gX5_commit_X5_cuts : GoodIn wsX5_commit (wsV RX5 101 RX5 yX5_cuts wsX5_cuts) := goodIn_app (goodIn_of _ (by decide +kernel)) ggX5_commit_X5_cuts
theorem dX5_commit_0 : decode cX5_commit 0 = .ok (.aload_n 0, 1) := by decide +kernel
theorem dX5_commit_1 : decode cX5_commit 1 = .ok (.aload_n 0, 1) := by decide +kernel
theorem dX5_commit_2 : decode cX5_commit 2 = .ok (.getfield 76, 3) := by decide +kernel
theorem dX5_commit_5 : decode cX5_commit 5 = .ok (.bipush 50, 2) := by decide +kernel
theorem dX5_commit_7 : decode cX5_commit 7 = .ok (.if_icmp .ne 7, 3) := by decide +kernel
theorem dX5_commit_10 : decode cX5_commit 10 = .ok (.iconst 1, 1) := by decide +kernel
theorem dX5_commit_11 : decode cX5_commit 11 = .ok (.goto 4, 3) := by decide +kernel
theorem dX5_commit_14 : decode cX5_commit 14 = .ok (.iconst 0, 1) := by decide +kernel
theorem dX5_commit_15 : decode cX5_commit 15 = .ok (.invokevirtual 94, 3) := by decide +kernel
theorem dX5_commit_18 : decode cX5_commit 18 = .ok (.ifCond .eq 5, 3) := by decide +kernel
theorem dX5_commit_21 : decode cX5_commit 21 = .ok (.iconst 0, 1) := by decide +kernel
theorem dX5_commit_22 : decode cX5_commit 22 = .ok (.ireturn, 1) := by decide +kernel
theorem dX5_commit_23 : decode cX5_commit 23 = .ok (.aload_n 0, 1) := by decide +kernel
theorem dX5_commit_24 : decode cX5_commit 24 = .ok (.dup, 1) := by decide +kernel
theorem dX5_commit_25 : decode cX5_commit 25 = .ok (.getfield 76, 3) := by decide +kernel
theorem dX5_commit_28 : decode cX5_commit 28 = .ok (.iconst 1, 1) := by decide +kernel
theorem dX5_commit_29 : decode cX5_commit 29 = .ok (.iadd, 1) := by decide +kernel
theorem dX5_commit_30 : decode cX5_commit 30 = .ok (.putfield 76, 3) := by decide +kernel
theorem dX5_commit_33 : decode cX5_commit 33 = .ok (.aload_n 0, 1) := by decide +kernel
theorem dX5_commit_34 : decode cX5_commit 34 = .ok (.getfield 20, 3) := by decide +kernel
theorem dX5_commit_37 : decode cX5_commit 37 = .ok (.aload_n 0, 1) := by decide +kernel
theorem dX5_commit_38 : decode cX5_commit 38 = .ok (.getfield 76, 3) := by decide +kernel
theorem dX5_commit_41 : decode cX5_commit 41 = .ok (.iconst 1, 1) := by decide +kernel
theorem dX5_commit_42 : decode cX5_commit 42 = .ok (.iadd, 1) := by decide +kernel
theorem dX5_commit_43 : decode cX5_commit 43 = .ok (.iconst 0, 1) := by decide +kernel
theorem dX5_commit_44 : decode cX5_commit 44 = .ok (.iastore, 1) := by decide +kernel
theorem dX5_commit_45 : decode cX5_commit 45 = .ok (.iconst 0, 1) := by decide +kernel
theorem dX5_commit_46 : decode cX5_commit 46 = .ok (.istore_n 1, 1) := by decide +kernel
theorem dX5_commit_47 : decode cX5_commit 47 = .ok (.iload_n 1, 1) := by decide +kernel
theorem dX5_commit_48 : decode cX5_commit 48 = .ok (.bipush 24, 2) := by decide +kernel
theorem dX5_commit_50 : decode cX5_commit 50 = .ok (.if_icmp .ge 29, 3) := by decide +kernel
theorem dX5_commit_53 : decode cX5_commit 53 = .ok (.aload_n 0, 1) := by decide +kernel
theorem dX5_commit_54 : decode cX5_commit 54 = .ok (.getfield 13, 3) := by decide +kernel
theorem dX5_commit_57 : decode cX5_commit 57 = .ok (.bipush 24, 2) := by decide +kernel
theorem dX5_commit_59 : decode cX5_commit 59 = .ok (.aload_n 0, 1) := by decide +kernel
theorem dX5_commit_60 : decode cX5_commit 60 = .ok (.getfield 76, 3) := by decide +kernel
theorem dX5_commit_63 : decode cX5_commit 63 = .ok (.imul, 1) := by decide +kernel
theorem dX5_commit_64 : decode cX5_commit 64 = .ok (.iload_n 1, 1) := by decide +kernel
theorem dX5_commit_65 : decode cX5_commit 65 = .ok (.iadd, 1) := by decide +kernel
theorem dX5_commit_66 : decode cX5_commit 66 = .ok (.aload_n 0, 1) := by decide +kernel
theorem dX5_commit_67 : decode cX5_commit 67 = .ok (.getfield 7, 3) := by decide +kernel
theorem dX5_commit_70 : decode cX5_commit 70 = .ok (.iload_n 1, 1) := by decide +kernel
theorem dX5_commit_71 : decode cX5_commit 71 = .ok (.iaload, 1) := by decide +kernel
theorem dX5_commit_72 : decode cX5_commit 72 = .ok (.iastore, 1) := by decide +kernel
theorem dX5_commit_73 : decode cX5_commit 73 = .ok (.iinc 1 1, 3) := by decide +kernel
theorem dX5_commit_76 : decode cX5_commit 76 = .ok (.goto (-29), 3) := by decide +kernel
theorem dX5_commit_79 : decode cX5_commit 79 = .ok (.aload_n 0, 1) := by decide +kernel
theorem dX5_commit_80 : decode cX5_commit 80 = .ok (.invokevirtual 101, 3) := by decide +kernel
theorem dX5_commit_83 : decode cX5_commit 83 = .ok (.pop, 1) := by decide +kernel
theorem dX5_commit_84 : decode cX5_commit 84 = .ok (.aload_n 0, 1) := by decide +kernel
theorem dX5_commit_85 : decode cX5_commit 85 = .ok (.getfield 76, 3) := by decide +kernel
theorem dX5_commit_88 : decode cX5_commit 88 = .ok (.ireturn, 1) := by decide +kernel
theorem dX5_rollBack_0 : decode cX5_rollBack 0 = .ok (.aload_n 0, 1) := by decide +kernel
theorem dX5_rollBack_1 : decode cX5_rollBack 1 = .ok (.iconst 0, 1) := by decide +kernel
theorem dX5_rollBack_2 : decode cX5_rollBack 2 = .ok (.putfield 65, 3) := by decide +kernel
theorem dX5_rollBack_5 : decode cX5_rollBack 5 = .ok (.aload_n 0, 1) := by decide +kernel
theorem dX5_rollBack_6 : decode cX5_rollBack 6 = .ok (.getfield 20, 3) := by decide +kernel
theorem dX5_rollBack_9 : decode cX5_rollBack 9 = .ok (.aload_n 0, 1) := by decide +kernel
theorem dX5_rollBack_10 : decode cX5_rollBack 10 = .ok (.getfield 76, 3) := by decide +kernel
theorem dX5_rollBack_13 : decode cX5_rollBack 13 = .ok (.iconst 1, 1) := by decide +kernel
theorem dX5_rollBack_14 : decode cX5_rollBack 14 = .ok (.iadd, 1) := by decide +kernel
theorem dX5_rollBack_15 : decode cX5_rollBack 15 = .ok (.iaload, 1) := by decide +kernel
theorem dX5_rollBack_16 : decode cX5_rollBack 16 = .ok (.istore_n 1, 1) := by decide +kernel
theorem dX5_rollBack_17 : decode cX5_rollBack 17 = .ok (.aload_n 0, 1) := by decide +kernel
theorem dX5_rollBack_18 : decode cX5_rollBack 18 = .ok (.getfield 20, 3) := by decide +kernel
theorem dX5_rollBack_21 : decode cX5_rollBack 21 = .ok (.aload_n 0, 1) := by decide +kernel
theorem dX5_rollBack_22 : decode cX5_rollBack 22 = .ok (.getfield 76, 3) := by decide +kernel
theorem dX5_rollBack_25 : decode cX5_rollBack 25 = .ok (.iconst 1, 1) := by decide +kernel
theorem dX5_rollBack_26 : decode cX5_rollBack 26 = .ok (.iadd, 1) := by decide +kernel
theorem dX5_rollBack_27 : decode cX5_rollBack 27 = .ok (.iconst 0, 1) := by decide +kernel
theorem dX5_rollBack_28 : decode cX5_rollBack 28 = .ok (.iastore, 1) := by decide +kernel
theorem dX5_rollBack_29 : decode cX5_rollBack 29 = .ok (.iconst 0, 1) := by decide +kernel
theorem dX5_rollBack_30 : decode cX5_rollBack 30 = .ok (.istore_n 2, 1) := by decide +kernel
theorem dX5_rollBack_31 : decode cX5_rollBack 31 = .ok (.iload_n 2, 1) := by decide +kernel
theorem dX5_rollBack_32 : decode cX5_rollBack 32 = .ok (.bipush 24, 2) := by decide +kernel
theorem dX5_rollBack_34 : decode cX5_rollBack 34 = .ok (.if_icmp .ge 29, 3) := by decide +kernel
theorem dX5_rollBack_37 : decode cX5_rollBack 37 = .ok (.aload_n 0, 1) := by decide +kernel
theorem dX5_rollBack_38 : decode cX5_rollBack 38 = .ok (.getfield 7, 3) := by decide +kernel
theorem dX5_rollBack_41 : decode cX5_rollBack 41 = .ok (.iload_n 2, 1) := by decide +kernel
theorem dX5_rollBack_42 : decode cX5_rollBack 42 = .ok (.aload_n 0, 1) := by decide +kernel
theorem dX5_rollBack_43 : decode cX5_rollBack 43 = .ok (.getfield 13, 3) := by decide +kernel
theorem dX5_rollBack_46 : decode cX5_rollBack 46 = .ok (.bipush 24, 2) := by decide +kernel
theorem dX5_rollBack_48 : decode cX5_rollBack 48 = .ok (.aload_n 0, 1) := by decide +kernel
theorem dX5_rollBack_49 : decode cX5_rollBack 49 = .ok (.getfield 76, 3) := by decide +kernel
theorem dX5_rollBack_52 : decode cX5_rollBack 52 = .ok (.imul, 1) := by decide +kernel
theorem dX5_rollBack_53 : decode cX5_rollBack 53 = .ok (.iload_n 2, 1) := by decide +kernel
theorem dX5_rollBack_54 : decode cX5_rollBack 54 = .ok (.iadd, 1) := by decide +kernel
theorem dX5_rollBack_55 : decode cX5_rollBack 55 = .ok (.iaload, 1) := by decide +kernel
theorem dX5_rollBack_56 : decode cX5_rollBack 56 = .ok (.iastore, 1) := by decide +kernel
theorem dX5_rollBack_57 : decode cX5_rollBack 57 = .ok (.iinc 2 1, 3) := by decide +kernel
theorem dX5_rollBack_60 : decode cX5_rollBack 60 = .ok (.goto (-29), 3) := by decide +kernel
theorem dX5_rollBack_63 : decode cX5_rollBack 63 = .ok (.iload_n 1, 1) := by decide +kernel
theorem dX5_rollBack_64 : decode cX5_rollBack 64 = .ok (.ireturn, 1) := by decide +kernel
theorem dX5_numberOf_0 : decode cX5_numberOf 0 = .ok (.iload_n 0, 1) := by decide +kernel
theorem dX5_numberOf_1 : decode cX5_numberOf 1 = .ok (.iconst (-1), 1) := by decide +kernel
theorem dX5_numberOf_2 : decode cX5_numberOf 2 = .ok (.if_icmp .ne 7, 3) := by decide +kernel
theorem dX5_numberOf_5 : decode cX5_numberOf 5 = .ok (.iconst (-1), 1) := by decide +kernel
theorem dX5_numberOf_6 : decode cX5_numberOf 6 = .ok (.goto 34, 3) := by decide +kernel
theorem dX5_numberOf_9 : decode cX5_numberOf 9 = .ok (.iload_n 1, 1) := by decide +kernel
theorem dX5_numberOf_10 : decode cX5_numberOf 10 = .ok (.ifCond .ne 10, 3) := by decide +kernel
theorem dX5_numberOf_13 : decode cX5_numberOf 13 = .ok (.iload_n 0, 1) := by decide +kernel
theorem dX5_numberOf_14 : decode cX5_numberOf 14 = .ok (.bipush 100, 2) := by decide +kernel
theorem dX5_numberOf_16 : decode cX5_numberOf 16 = .ok (.irem, 1) := by decide +kernel
theorem dX5_numberOf_17 : decode cX5_numberOf 17 = .ok (.goto 23, 3) := by decide +kernel
theorem dX5_numberOf_20 : decode cX5_numberOf 20 = .ok (.iload_n 1, 1) := by decide +kernel
theorem dX5_numberOf_21 : decode cX5_numberOf 21 = .ok (.iconst 1, 1) := by decide +kernel
theorem dX5_numberOf_22 : decode cX5_numberOf 22 = .ok (.if_icmp .ne 13, 3) := by decide +kernel
theorem dX5_numberOf_25 : decode cX5_numberOf 25 = .ok (.iload_n 0, 1) := by decide +kernel
theorem dX5_numberOf_26 : decode cX5_numberOf 26 = .ok (.bipush 100, 2) := by decide +kernel
theorem dX5_numberOf_28 : decode cX5_numberOf 28 = .ok (.idiv, 1) := by decide +kernel
theorem dX5_numberOf_29 : decode cX5_numberOf 29 = .ok (.bipush 100, 2) := by decide +kernel
theorem dX5_numberOf_31 : decode cX5_numberOf 31 = .ok (.irem, 1) := by decide +kernel
theorem dX5_numberOf_32 : decode cX5_numberOf 32 = .ok (.goto 8, 3) := by decide +kernel
theorem dX5_numberOf_35 : decode cX5_numberOf 35 = .ok (.iload_n 0, 1) := by decide +kernel
theorem dX5_numberOf_36 : decode cX5_numberOf 36 = .ok (.sipush 10000, 3) := by decide +kernel
theorem dX5_numberOf_39 : decode cX5_numberOf 39 = .ok (.idiv, 1) := by decide +kernel
theorem dX5_numberOf_40 : decode cX5_numberOf 40 = .ok (.ireturn, 1) := by decide +kernel
set_option maxRecDepth 20000 in
theorem ggX5_at_X5_isRow : GoodIn wsX5_at wsX5_isRow := goodIn_r _ [5, 6, 7, 4, 8, 9, 10, 11] (by decide +kernel) (by decide +kernel)
set_option maxRecDepth 20000 in
theorem gX5_at_X5_isRow : GoodIn wsX5_at (va_wsS RX5 86 yX5_isRow wsX5_isRow) := goodIn_app (goodIn_of _ (by decide +kernel)) ggX5_at_X5_isRow
set_option maxRecDepth 20000 in
theorem ggX5_at_X5_isThird : GoodIn wsX5_at wsX5_isThird := goodIn_r _ [14, 9, 10, 4, 11] (by decide +kernel) (by decide +kernel)
set_option maxRecDepth 20000 in
theorem gX5_at_X5_isThird : GoodIn wsX5_at (va_wsS RX5 105 yX5_isThird wsX5_isThird) := goodIn_app (goodIn_of _ (by decide +kernel)) ggX5_at_X5_isThird
set_option maxRecDepth 20000 in
theorem ggX5_at_X5_fails : GoodIn wsX5_at wsX5_fails := goodIn_r _ [18, 19, 23, 24, 25, 26, 27, 28, 29, 30, 31, 32, 33, 34, 35, 36, 37, 38, 39, 40, 41, 42] (by decide +kernel) (by decide +kernel)
set_option maxRecDepth 20000 in
theorem gX5_at_X5_fails : GoodIn wsX5_at (wsV RX5 94 RX5 yX5_fails wsX5_fails) := goodIn_app (goodIn_of _ (by decide +kernel)) ggX5_at_X5_fails
set_option maxRecDepth 20000 in
theorem ggX5_at_X5_numberOf : GoodIn wsX5_at wsX5_numberOf := goodIn_r _ [22] (by decide +kernel) (by decide +kernel)
set_option maxRecDepth 20000 in
theorem gX5_at_X5_numberOf : GoodIn wsX5_at (va_wsS RX5 108 yX5_numberOf wsX5_numberOf) := goodIn_app (goodIn_of _ (by decide +kernel)) ggX5_at_X5_numberOf
theorem dX5_at_0 : decode cX5_at 0 = .ok (.aload_n 0, 1) := by decide +kernel
theorem dX5_at_1 : decode cX5_at 1 = .ok (.iload_n 1, 1) := by decide +kernel
theorem dX5_at_2 : decode cX5_at 2 = .ok (.iload_n 2, 1) := by decide +kernel
theorem dX5_at_3 : decode cX5_at 3 = .ok (.invokestatic 86, 3) := by decide +kernel
theorem dX5_at_6 : decode cX5_at 6 = .ok (.ifCond .eq 14, 3) := by decide +kernel
theorem dX5_at_9 : decode cX5_at 9 = .ok (.iload_n 3, 1) := by decide +kernel
theorem dX5_at_10 : decode cX5_at 10 = .ok (.invokestatic 105, 3) := by decide +kernel
theorem dX5_at_13 : decode cX5_at 13 = .ok (.ifCond .eq 7, 3) := by decide +kernel
theorem dX5_at_16 : decode cX5_at 16 = .ok (.iconst 0, 1) := by decide +kernel
theorem dX5_at_17 : decode cX5_at 17 = .ok (.goto 4, 3) := by decide +kernel
theorem dX5_at_20 : decode cX5_at 20 = .ok (.iconst 1, 1) := by decide +kernel
theorem dX5_at_21 : decode cX5_at 21 = .ok (.invokevirtual 94, 3) := by decide +kernel
theorem dX5_at_24 : decode cX5_at 24 = .ok (.ifCond .eq 7, 3) := by decide +kernel
theorem dX5_at_27 : decode cX5_at 27 = .ok (.iconst 0, 1) := by decide +kernel
theorem dX5_at_28 : decode cX5_at 28 = .ok (.goto 18, 3) := by decide +kernel
theorem dX5_at_31 : decode cX5_at 31 = .ok (.aload_n 0, 1) := by decide +kernel
theorem dX5_at_32 : decode cX5_at 32 = .ok (.getfield 7, 3) := by decide +kernel
theorem dX5_at_35 : decode cX5_at 35 = .ok (.bipush 12, 2) := by decide +kernel
theorem dX5_at_37 : decode cX5_at 37 = .ok (.iload_n 1, 1) := by decide +kernel
theorem dX5_at_38 : decode cX5_at 38 = .ok (.imul, 1) := by decide +kernel
theorem dX5_at_39 : decode cX5_at 39 = .ok (.iload_n 2, 1) := by decide +kernel
theorem dX5_at_40 : decode cX5_at 40 = .ok (.iadd, 1) := by decide +kernel
theorem dX5_at_41 : decode cX5_at 41 = .ok (.iaload, 1) := by decide +kernel
theorem dX5_at_42 : decode cX5_at 42 = .ok (.iload_n 3, 1) := by decide +kernel
theorem dX5_at_43 : decode cX5_at 43 = .ok (.invokestatic 108, 3) := by decide +kernel
theorem dX5_at_46 : decode cX5_at 46 = .ok (.ireturn, 1) := by decide +kernel
theorem dX5_commits_0 : decode cX5_commits 0 = .ok (.aload_n 0, 1) := by decide +kernel
theorem dX5_commits_1 : decode cX5_commits 1 = .ok (.iconst 0, 1) := by decide +kernel
theorem dX5_commits_2 : decode cX5_commits 2 = .ok (.putfield 65, 3) := by decide +kernel
theorem dX5_commits_5 : decode cX5_commits 5 = .ok (.aload_n 0, 1) := by decide +kernel
theorem dX5_commits_6 : decode cX5_commits 6 = .ok (.getfield 76, 3) := by decide +kernel
theorem dX5_commits_9 : decode cX5_commits 9 = .ok (.ireturn, 1) := by decide +kernel
set_option maxRecDepth 20000 in
theorem ggX5_setLimit_X5_isIn : GoodIn wsX5_setLimit wsX5_isIn := goodIn_r _ [5] (by decide +kernel) (by decide +kernel)
set_option maxRecDepth 20000 in
theorem gX5_setLimit_X5_isIn : GoodIn wsX5_setLimit (va_wsS RX5 68 yX5_isIn wsX5_isIn) := goodIn_app (goodIn_of _ (by decide +kernel)) ggX5_setLimit_X5_isIn
set_option maxRecDepth 20000 in
theorem ggX5_setLimit_X5_fails : GoodIn wsX5_setLimit wsX5_fails := goodIn_r _ [9, 10, 18, 19, 20, 21, 22, 23, 24, 25, 26, 27, 28, 29, 30, 31, 32, 33, 34, 35, 36, 37] (by decide +kernel) (by decide +kernel)
set_option maxRecDepth 20000 in
theorem gX5_setLimit_X5_fails : GoodIn wsX5_setLimit (wsV RX5 94 RX5 yX5_fails wsX5_fails) := goodIn_app (goodIn_of _ (by decide +kernel)) ggX5_setLimit_X5_fails
set_option maxRecDepth 20000 in
theorem ggX5_setLimit_X5_cuts : GoodIn wsX5_setLimit wsX5_cuts := goodIn_r _ [14, 15, 16, 17, 1, 2, 3, 4, 5, 18, 19, 20, 21, 22, 23, 24, 25, 26, 27, 28, 29, 30, 31, 32, 33, 34, 35, 36, 37] (by decide +kernel) (by decide +kernel)
set_option maxRecDepth 20000 in
theorem gX5_setLimit_X5_cuts : GoodIn wsX5_setLimit (wsV RX5 101 RX5 yX5_cuts wsX5_cuts) := goodIn_app (goodIn_of _ (by decide +kernel)) ggX5_setLimit_X5_cuts
theorem dX5_setLimit_0 : decode cX5_setLimit 0 = .ok (.aload_n 0, 1) := by decide +kernel
theorem dX5_setLimit_1 : decode cX5_setLimit 1 = .ok (.iload_n 1, 1) := by decide +kernel
theorem dX5_setLimit_2 : decode cX5_setLimit 2 = .ok (.iconst 0, 1) := by decide +kernel
theorem dX5_setLimit_3 : decode cX5_setLimit 3 = .ok (.bipush 50, 2) := by decide +kernel
theorem dX5_setLimit_5 : decode cX5_setLimit 5 = .ok (.invokestatic 68, 3) := by decide +kernel
theorem dX5_setLimit_8 : decode cX5_setLimit 8 = .ok (.ifCond .eq 7, 3) := by decide +kernel
theorem dX5_setLimit_11 : decode cX5_setLimit 11 = .ok (.iconst 0, 1) := by decide +kernel
theorem dX5_setLimit_12 : decode cX5_setLimit 12 = .ok (.goto 4, 3) := by decide +kernel
theorem dX5_setLimit_15 : decode cX5_setLimit 15 = .ok (.iconst 1, 1) := by decide +kernel
theorem dX5_setLimit_16 : decode cX5_setLimit 16 = .ok (.invokevirtual 94, 3) := by decide +kernel
theorem dX5_setLimit_19 : decode cX5_setLimit 19 = .ok (.ifCond .eq 5, 3) := by decide +kernel
theorem dX5_setLimit_22 : decode cX5_setLimit 22 = .ok (.iconst 0, 1) := by decide +kernel
theorem dX5_setLimit_23 : decode cX5_setLimit 23 = .ok (.ireturn, 1) := by decide +kernel
theorem dX5_setLimit_24 : decode cX5_setLimit 24 = .ok (.aload_n 0, 1) := by decide +kernel
theorem dX5_setLimit_25 : decode cX5_setLimit 25 = .ok (.iload_n 1, 1) := by decide +kernel
theorem dX5_setLimit_26 : decode cX5_setLimit 26 = .ok (.putfield 16, 3) := by decide +kernel
theorem dX5_setLimit_29 : decode cX5_setLimit 29 = .ok (.aload_n 0, 1) := by decide +kernel
theorem dX5_setLimit_30 : decode cX5_setLimit 30 = .ok (.invokevirtual 101, 3) := by decide +kernel
theorem dX5_setLimit_33 : decode cX5_setLimit 33 = .ok (.ireturn, 1) := by decide +kernel
theorem dX5_forgets_0 : decode cX5_forgets 0 = .ok (.iconst 0, 1) := by decide +kernel
theorem dX5_forgets_1 : decode cX5_forgets 1 = .ok (.istore_n 3, 1) := by decide +kernel
theorem dX5_forgets_2 : decode cX5_forgets 2 = .ok (.iconst 0, 1) := by decide +kernel
theorem dX5_forgets_3 : decode cX5_forgets 3 = .ok (.istore 4, 2) := by decide +kernel
theorem dX5_forgets_5 : decode cX5_forgets 5 = .ok (.iload 4, 2) := by decide +kernel
theorem dX5_forgets_7 : decode cX5_forgets 7 = .ok (.iconst 3, 1) := by decide +kernel
theorem dX5_forgets_8 : decode cX5_forgets 8 = .ok (.if_icmp .ge 65, 3) := by decide +kernel
theorem dX5_forgets_11 : decode cX5_forgets 11 = .ok (.aload_n 0, 1) := by decide +kernel
theorem dX5_forgets_12 : decode cX5_forgets 12 = .ok (.getfield 47, 3) := by decide +kernel
theorem dX5_forgets_15 : decode cX5_forgets 15 = .ok (.iload 4, 2) := by decide +kernel
theorem dX5_forgets_17 : decode cX5_forgets 17 = .ok (.iaload, 1) := by decide +kernel
theorem dX5_forgets_18 : decode cX5_forgets 18 = .ok (.ifCond .le 49, 3) := by decide +kernel
theorem dX5_forgets_21 : decode cX5_forgets 21 = .ok (.aload_n 0, 1) := by decide +kernel
theorem dX5_forgets_22 : decode cX5_forgets 22 = .ok (.getfield 44, 3) := by decide +kernel
theorem dX5_forgets_25 : decode cX5_forgets 25 = .ok (.iload 4, 2) := by decide +kernel
theorem dX5_forgets_27 : decode cX5_forgets 27 = .ok (.iaload, 1) := by decide +kernel
theorem dX5_forgets_28 : decode cX5_forgets 28 = .ok (.iload_n 1, 1) := by decide +kernel
theorem dX5_forgets_29 : decode cX5_forgets 29 = .ok (.if_icmp .ne 38, 3) := by decide +kernel
theorem dX5_forgets_32 : decode cX5_forgets 32 = .ok (.iload_n 3, 1) := by decide +kernel
theorem dX5_forgets_33 : decode cX5_forgets 33 = .ok (.aload_n 0, 1) := by decide +kernel
theorem dX5_forgets_34 : decode cX5_forgets 34 = .ok (.getfield 53, 3) := by decide +kernel
theorem dX5_forgets_37 : decode cX5_forgets 37 = .ok (.iconst 2, 1) := by decide +kernel
theorem dX5_forgets_38 : decode cX5_forgets 38 = .ok (.iload 4, 2) := by decide +kernel
theorem dX5_forgets_40 : decode cX5_forgets 40 = .ok (.imul, 1) := by decide +kernel
theorem dX5_forgets_41 : decode cX5_forgets 41 = .ok (.iload_n 2, 1) := by decide +kernel
theorem dX5_forgets_42 : decode cX5_forgets 42 = .ok (.iadd, 1) := by decide +kernel
theorem dX5_forgets_43 : decode cX5_forgets 43 = .ok (.iaload, 1) := by decide +kernel
theorem dX5_forgets_44 : decode cX5_forgets 44 = .ok (.iconst (-1), 1) := by decide +kernel
theorem dX5_forgets_45 : decode cX5_forgets 45 = .ok (.if_icmp .ne 7, 3) := by decide +kernel
theorem dX5_forgets_48 : decode cX5_forgets 48 = .ok (.iconst 0, 1) := by decide +kernel
theorem dX5_forgets_49 : decode cX5_forgets 49 = .ok (.goto 4, 3) := by decide +kernel
theorem dX5_forgets_52 : decode cX5_forgets 52 = .ok (.iconst 1, 1) := by decide +kernel
theorem dX5_forgets_53 : decode cX5_forgets 53 = .ok (.iadd, 1) := by decide +kernel
theorem dX5_forgets_54 : decode cX5_forgets 54 = .ok (.istore_n 3, 1) := by decide +kernel
theorem dX5_forgets_55 : decode cX5_forgets 55 = .ok (.aload_n 0, 1) := by decide +kernel
theorem dX5_forgets_56 : decode cX5_forgets 56 = .ok (.getfield 53, 3) := by decide +kernel
theorem dX5_forgets_59 : decode cX5_forgets 59 = .ok (.iconst 2, 1) := by decide +kernel
theorem dX5_forgets_60 : decode cX5_forgets 60 = .ok (.iload 4, 2) := by decide +kernel
theorem dX5_forgets_62 : decode cX5_forgets 62 = .ok (.imul, 1) := by decide +kernel
theorem dX5_forgets_63 : decode cX5_forgets 63 = .ok (.iload_n 2, 1) := by decide +kernel
theorem dX5_forgets_64 : decode cX5_forgets 64 = .ok (.iadd, 1) := by decide +kernel
theorem dX5_forgets_65 : decode cX5_forgets 65 = .ok (.iconst (-1), 1) := by decide +kernel
theorem dX5_forgets_66 : decode cX5_forgets 66 = .ok (.iastore, 1) := by decide +kernel
theorem dX5_forgets_67 : decode cX5_forgets 67 = .ok (.iinc 4 1, 3) := by decide +kernel
theorem dX5_forgets_70 : decode cX5_forgets 70 = .ok (.goto (-65), 3) := by decide +kernel
theorem dX5_forgets_73 : decode cX5_forgets 73 = .ok (.iload_n 3, 1) := by decide +kernel
theorem dX5_forgets_74 : decode cX5_forgets 74 = .ok (.ireturn, 1) := by decide +kernel
set_option maxRecDepth 20000 in
theorem ggX5_setCondition_X5_isThird : GoodIn wsX5_setCondition wsX5_isThird := goodIn_r _ [7, 8, 9, 6, 10] (by decide +kernel) (by decide +kernel)
set_option maxRecDepth 20000 in
theorem gX5_setCondition_X5_isThird : GoodIn wsX5_setCondition (va_wsS RX5 105 yX5_isThird wsX5_isThird) := goodIn_app (goodIn_of _ (by decide +kernel)) ggX5_setCondition_X5_isThird
set_option maxRecDepth 20000 in
theorem ggX5_setCondition_X5_isTable : GoodIn wsX5_setCondition wsX5_isTable := goodIn_r _ [13, 8, 9, 6, 10] (by decide +kernel) (by decide +kernel)
set_option maxRecDepth 20000 in
theorem gX5_setCondition_X5_isTable : GoodIn wsX5_setCondition (va_wsS RX5 72 yX5_isTable wsX5_isTable) := goodIn_app (goodIn_of _ (by decide +kernel)) ggX5_setCondition_X5_isTable
set_option maxRecDepth 20000 in
theorem ggX5_setCondition_X5_isNumber : GoodIn wsX5_setCondition wsX5_isNumber := goodIn_r _ [16, 8, 9, 6, 10] (by decide +kernel) (by decide +kernel)
set_option maxRecDepth 20000 in
theorem gX5_setCondition_X5_isNumber : GoodIn wsX5_setCondition (va_wsS RX5 83 yX5_isNumber wsX5_isNumber) := goodIn_app (goodIn_of _ (by decide +kernel)) ggX5_setCondition_X5_isNumber
set_option maxRecDepth 20000 in
theorem ggX5_setCondition_X5_fails : GoodIn wsX5_setCondition wsX5_fails := goodIn_r _ [20, 21, 29, 30, 31, 32, 33, 34, 35, 36, 37, 38, 39, 40, 41, 42, 43, 44, 45, 46, 47, 48] (by decide +kernel) (by decide +kernel)
set_option maxRecDepth 20000 in
theorem gX5_setCondition_X5_fails : GoodIn wsX5_setCondition (wsV RX5 94 RX5 yX5_fails wsX5_fails) := goodIn_app (goodIn_of _ (by decide +kernel)) ggX5_setCondition_X5_fails
set_option maxRecDepth 20000 in
theorem ggX5_setCondition_X5_forgets : GoodIn wsX5_setCondition wsX5_forgets := goodIn_r _ [25, 26, 27, 28, 29, 30, 31, 32, 33, 34, 35, 36, 37, 38, 39, 40, 41, 42, 43, 44, 45, 46, 47, 48] (by decide +kernel) (by decide +kernel)
set_option maxRecDepth 20000 in
theorem gX5_setCondition_X5_forgets : GoodIn wsX5_setCondition (wsV RX5 112 RX5 yX5_forgets wsX5_forgets) := goodIn_app (goodIn_of _ (by decide +kernel)) ggX5_setCondition_X5_forgets
theorem dX5_setCondition_0 : decode cX5_setCondition 0 = .ok (.iload_n 1, 1) := by decide +kernel
theorem dX5_setCondition_1 : decode cX5_setCondition 1 = .ok (.invokestatic 105, 3) := by decide +kernel
theorem dX5_setCondition_4 : decode cX5_setCondition 4 = .ok (.ifCond .eq 21, 3) := by decide +kernel
theorem dX5_setCondition_7 : decode cX5_setCondition 7 = .ok (.iload_n 2, 1) := by decide +kernel
theorem dX5_setCondition_8 : decode cX5_setCondition 8 = .ok (.invokestatic 72, 3) := by decide +kernel
theorem dX5_setCondition_11 : decode cX5_setCondition 11 = .ok (.ifCond .eq 14, 3) := by decide +kernel
theorem dX5_setCondition_14 : decode cX5_setCondition 14 = .ok (.iload_n 3, 1) := by decide +kernel
theorem dX5_setCondition_15 : decode cX5_setCondition 15 = .ok (.invokestatic 105, 3) := by decide +kernel
theorem dX5_setCondition_18 : decode cX5_setCondition 18 = .ok (.ifCond .eq 7, 3) := by decide +kernel
theorem dX5_setCondition_21 : decode cX5_setCondition 21 = .ok (.iconst 1, 1) := by decide +kernel
theorem dX5_setCondition_22 : decode cX5_setCondition 22 = .ok (.goto 4, 3) := by decide +kernel
theorem dX5_setCondition_25 : decode cX5_setCondition 25 = .ok (.iconst 0, 1) := by decide +kernel
theorem dX5_setCondition_26 : decode cX5_setCondition 26 = .ok (.istore 6, 2) := by decide +kernel
theorem dX5_setCondition_28 : decode cX5_setCondition 28 = .ok (.aload_n 0, 1) := by decide +kernel
theorem dX5_setCondition_29 : decode cX5_setCondition 29 = .ok (.iload 6, 2) := by decide +kernel
theorem dX5_setCondition_31 : decode cX5_setCondition 31 = .ok (.ifCond .ne 7, 3) := by decide +kernel
theorem dX5_setCondition_34 : decode cX5_setCondition 34 = .ok (.iconst 1, 1) := by decide +kernel
theorem dX5_setCondition_35 : decode cX5_setCondition 35 = .ok (.goto 24, 3) := by decide +kernel
theorem dX5_setCondition_38 : decode cX5_setCondition 38 = .ok (.iload 4, 2) := by decide +kernel
theorem dX5_setCondition_40 : decode cX5_setCondition 40 = .ok (.invokestatic 105, 3) := by decide +kernel
theorem dX5_setCondition_43 : decode cX5_setCondition 43 = .ok (.ifCond .eq 15, 3) := by decide +kernel
theorem dX5_setCondition_46 : decode cX5_setCondition 46 = .ok (.iload 5, 2) := by decide +kernel
theorem dX5_setCondition_48 : decode cX5_setCondition 48 = .ok (.invokestatic 83, 3) := by decide +kernel
theorem dX5_setCondition_51 : decode cX5_setCondition 51 = .ok (.ifCond .eq 7, 3) := by decide +kernel
theorem dX5_setCondition_54 : decode cX5_setCondition 54 = .ok (.iconst 0, 1) := by decide +kernel
theorem dX5_setCondition_55 : decode cX5_setCondition 55 = .ok (.goto 4, 3) := by decide +kernel
theorem dX5_setCondition_58 : decode cX5_setCondition 58 = .ok (.iconst 2, 1) := by decide +kernel
theorem dX5_setCondition_59 : decode cX5_setCondition 59 = .ok (.invokevirtual 94, 3) := by decide +kernel
theorem dX5_setCondition_62 : decode cX5_setCondition 62 = .ok (.ifCond .eq 5, 3) := by decide +kernel
theorem dX5_setCondition_65 : decode cX5_setCondition 65 = .ok (.iconst 0, 1) := by decide +kernel
theorem dX5_setCondition_66 : decode cX5_setCondition 66 = .ok (.ireturn, 1) := by decide +kernel
theorem dX5_setCondition_67 : decode cX5_setCondition 67 = .ok (.aload_n 0, 1) := by decide +kernel
theorem dX5_setCondition_68 : decode cX5_setCondition 68 = .ok (.getfield 32, 3) := by decide +kernel
theorem dX5_setCondition_71 : decode cX5_setCondition 71 = .ok (.iconst 2, 1) := by decide +kernel
theorem dX5_setCondition_72 : decode cX5_setCondition 72 = .ok (.iload_n 1, 1) := by decide +kernel
theorem dX5_setCondition_73 : decode cX5_setCondition 73 = .ok (.imul, 1) := by decide +kernel
theorem dX5_setCondition_74 : decode cX5_setCondition 74 = .ok (.iload_n 2, 1) := by decide +kernel
theorem dX5_setCondition_75 : decode cX5_setCondition 75 = .ok (.iadd, 1) := by decide +kernel
theorem dX5_setCondition_76 : decode cX5_setCondition 76 = .ok (.iload_n 3, 1) := by decide +kernel
theorem dX5_setCondition_77 : decode cX5_setCondition 77 = .ok (.iastore, 1) := by decide +kernel
theorem dX5_setCondition_78 : decode cX5_setCondition 78 = .ok (.aload_n 0, 1) := by decide +kernel
theorem dX5_setCondition_79 : decode cX5_setCondition 79 = .ok (.getfield 35, 3) := by decide +kernel
theorem dX5_setCondition_82 : decode cX5_setCondition 82 = .ok (.iconst 2, 1) := by decide +kernel
theorem dX5_setCondition_83 : decode cX5_setCondition 83 = .ok (.iload_n 1, 1) := by decide +kernel
theorem dX5_setCondition_84 : decode cX5_setCondition 84 = .ok (.imul, 1) := by decide +kernel
theorem dX5_setCondition_85 : decode cX5_setCondition 85 = .ok (.iload_n 2, 1) := by decide +kernel
theorem dX5_setCondition_86 : decode cX5_setCondition 86 = .ok (.iadd, 1) := by decide +kernel
theorem dX5_setCondition_87 : decode cX5_setCondition 87 = .ok (.iload 4, 2) := by decide +kernel
theorem dX5_setCondition_89 : decode cX5_setCondition 89 = .ok (.iastore, 1) := by decide +kernel
theorem dX5_setCondition_90 : decode cX5_setCondition 90 = .ok (.aload_n 0, 1) := by decide +kernel
theorem dX5_setCondition_91 : decode cX5_setCondition 91 = .ok (.getfield 38, 3) := by decide +kernel
theorem dX5_setCondition_94 : decode cX5_setCondition 94 = .ok (.iconst 2, 1) := by decide +kernel
theorem dX5_setCondition_95 : decode cX5_setCondition 95 = .ok (.iload_n 1, 1) := by decide +kernel
theorem dX5_setCondition_96 : decode cX5_setCondition 96 = .ok (.imul, 1) := by decide +kernel
theorem dX5_setCondition_97 : decode cX5_setCondition 97 = .ok (.iload_n 2, 1) := by decide +kernel
theorem dX5_setCondition_98 : decode cX5_setCondition 98 = .ok (.iadd, 1) := by decide +kernel
theorem dX5_setCondition_99 : decode cX5_setCondition 99 = .ok (.iload 5, 2) := by decide +kernel
theorem dX5_setCondition_101 : decode cX5_setCondition 101 = .ok (.iastore, 1) := by decide +kernel
theorem dX5_setCondition_102 : decode cX5_setCondition 102 = .ok (.aload_n 0, 1) := by decide +kernel
theorem dX5_setCondition_103 : decode cX5_setCondition 103 = .ok (.iload_n 1, 1) := by decide +kernel
theorem dX5_setCondition_104 : decode cX5_setCondition 104 = .ok (.iload_n 2, 1) := by decide +kernel
theorem dX5_setCondition_105 : decode cX5_setCondition 105 = .ok (.invokevirtual 112, 3) := by decide +kernel
theorem dX5_setCondition_108 : decode cX5_setCondition 108 = .ok (.ireturn, 1) := by decide +kernel
set_option maxRecDepth 20000 in
theorem ggX5_setColumns_X5_isThird : GoodIn wsX5_setColumns wsX5_isThird := goodIn_r _ [5, 6, 7, 4, 8] (by decide +kernel) (by decide +kernel)
set_option maxRecDepth 20000 in
theorem gX5_setColumns_X5_isThird : GoodIn wsX5_setColumns (va_wsS RX5 105 yX5_isThird wsX5_isThird) := goodIn_app (goodIn_of _ (by decide +kernel)) ggX5_setColumns_X5_isThird
set_option maxRecDepth 20000 in
theorem ggX5_setColumns_X5_isTable : GoodIn wsX5_setColumns wsX5_isTable := goodIn_r _ [11, 6, 7, 4, 8] (by decide +kernel) (by decide +kernel)
set_option maxRecDepth 20000 in
theorem gX5_setColumns_X5_isTable : GoodIn wsX5_setColumns (va_wsS RX5 72 yX5_isTable wsX5_isTable) := goodIn_app (goodIn_of _ (by decide +kernel)) ggX5_setColumns_X5_isTable
set_option maxRecDepth 20000 in
theorem ggX5_setColumns_X5_isIn : GoodIn wsX5_setColumns wsX5_isIn := goodIn_r _ [8] (by decide +kernel) (by decide +kernel)
set_option maxRecDepth 20000 in
theorem gX5_setColumns_X5_isIn : GoodIn wsX5_setColumns (va_wsS RX5 68 yX5_isIn wsX5_isIn) := goodIn_app (goodIn_of _ (by decide +kernel)) ggX5_setColumns_X5_isIn
set_option maxRecDepth 20000 in
theorem ggX5_setColumns_X5_fails : GoodIn wsX5_setColumns wsX5_fails := goodIn_r _ [15, 16, 24, 25, 26, 27, 28, 29, 30, 31, 32, 33, 34, 35, 36, 37, 38, 39, 40, 41, 42, 43] (by decide +kernel) (by decide +kernel)
set_option maxRecDepth 20000 in
theorem gX5_setColumns_X5_fails : GoodIn wsX5_setColumns (wsV RX5 94 RX5 yX5_fails wsX5_fails) := goodIn_app (goodIn_of _ (by decide +kernel)) ggX5_setColumns_X5_fails
set_option maxRecDepth 20000 in
theorem ggX5_setColumns_X5_forgets : GoodIn wsX5_setColumns wsX5_forgets := goodIn_r _ [20, 21, 22, 23, 24, 25, 26, 27, 28, 29, 30, 31, 32, 33, 34, 35, 36, 37, 38, 39, 40, 41, 42, 43] (by decide +kernel) (by decide +kernel)
set_option maxRecDepth 20000 in
theorem gX5_setColumns_X5_forgets : GoodIn wsX5_setColumns (wsV RX5 112 RX5 yX5_forgets wsX5_forgets) := goodIn_app (goodIn_of _ (by decide +kernel)) ggX5_setColumns_X5_forgets
theorem dX5_setColumns_0 : decode cX5_setColumns 0 = .ok (.aload_n 0, 1) := by decide +kernel
theorem dX5_setColumns_1 : decode cX5_setColumns 1 = .ok (.iload_n 1, 1) := by decide +kernel
theorem dX5_setColumns_2 : decode cX5_setColumns 2 = .ok (.invokestatic 105, 3) := by decide +kernel
theorem dX5_setColumns_5 : decode cX5_setColumns 5 = .ok (.ifCond .eq 10, 3) := by decide +kernel
theorem dX5_setColumns_8 : decode cX5_setColumns 8 = .ok (.iload_n 2, 1) := by decide +kernel
theorem dX5_setColumns_9 : decode cX5_setColumns 9 = .ok (.invokestatic 72, 3) := by decide +kernel
theorem dX5_setColumns_12 : decode cX5_setColumns 12 = .ok (.ifCond .ne 7, 3) := by decide +kernel
theorem dX5_setColumns_15 : decode cX5_setColumns 15 = .ok (.iconst 1, 1) := by decide +kernel
theorem dX5_setColumns_16 : decode cX5_setColumns 16 = .ok (.goto 18, 3) := by decide +kernel
theorem dX5_setColumns_19 : decode cX5_setColumns 19 = .ok (.iload_n 3, 1) := by decide +kernel
theorem dX5_setColumns_20 : decode cX5_setColumns 20 = .ok (.iconst 0, 1) := by decide +kernel
theorem dX5_setColumns_21 : decode cX5_setColumns 21 = .ok (.bipush 7, 2) := by decide +kernel
theorem dX5_setColumns_23 : decode cX5_setColumns 23 = .ok (.invokestatic 68, 3) := by decide +kernel
theorem dX5_setColumns_26 : decode cX5_setColumns 26 = .ok (.ifCond .eq 7, 3) := by decide +kernel
theorem dX5_setColumns_29 : decode cX5_setColumns 29 = .ok (.iconst 0, 1) := by decide +kernel
theorem dX5_setColumns_30 : decode cX5_setColumns 30 = .ok (.goto 4, 3) := by decide +kernel
theorem dX5_setColumns_33 : decode cX5_setColumns 33 = .ok (.iconst 2, 1) := by decide +kernel
theorem dX5_setColumns_34 : decode cX5_setColumns 34 = .ok (.invokevirtual 94, 3) := by decide +kernel
theorem dX5_setColumns_37 : decode cX5_setColumns 37 = .ok (.ifCond .eq 5, 3) := by decide +kernel
theorem dX5_setColumns_40 : decode cX5_setColumns 40 = .ok (.iconst 0, 1) := by decide +kernel
theorem dX5_setColumns_41 : decode cX5_setColumns 41 = .ok (.ireturn, 1) := by decide +kernel
theorem dX5_setColumns_42 : decode cX5_setColumns 42 = .ok (.aload_n 0, 1) := by decide +kernel
theorem dX5_setColumns_43 : decode cX5_setColumns 43 = .ok (.getfield 41, 3) := by decide +kernel
theorem dX5_setColumns_46 : decode cX5_setColumns 46 = .ok (.iconst 2, 1) := by decide +kernel
theorem dX5_setColumns_47 : decode cX5_setColumns 47 = .ok (.iload_n 1, 1) := by decide +kernel
theorem dX5_setColumns_48 : decode cX5_setColumns 48 = .ok (.imul, 1) := by decide +kernel
theorem dX5_setColumns_49 : decode cX5_setColumns 49 = .ok (.iload_n 2, 1) := by decide +kernel
theorem dX5_setColumns_50 : decode cX5_setColumns 50 = .ok (.iadd, 1) := by decide +kernel
theorem dX5_setColumns_51 : decode cX5_setColumns 51 = .ok (.iload_n 3, 1) := by decide +kernel
theorem dX5_setColumns_52 : decode cX5_setColumns 52 = .ok (.iastore, 1) := by decide +kernel
theorem dX5_setColumns_53 : decode cX5_setColumns 53 = .ok (.aload_n 0, 1) := by decide +kernel
theorem dX5_setColumns_54 : decode cX5_setColumns 54 = .ok (.iload_n 1, 1) := by decide +kernel
theorem dX5_setColumns_55 : decode cX5_setColumns 55 = .ok (.iload_n 2, 1) := by decide +kernel
theorem dX5_setColumns_56 : decode cX5_setColumns 56 = .ok (.invokevirtual 112, 3) := by decide +kernel
theorem dX5_setColumns_59 : decode cX5_setColumns 59 = .ok (.ireturn, 1) := by decide +kernel
set_option maxRecDepth 20000 in
theorem ggX5_counts_X5_numberOf : GoodIn wsX5_counts wsX5_numberOf := goodIn_r _ [7] (by decide +kernel) (by decide +kernel)
set_option maxRecDepth 20000 in
theorem gX5_counts_X5_numberOf : GoodIn wsX5_counts (va_wsS RX5 108 yX5_numberOf wsX5_numberOf) := goodIn_app (goodIn_of _ (by decide +kernel)) ggX5_counts_X5_numberOf
theorem dX5_counts_0 : decode cX5_counts 0 = .ok (.iconst 2, 1) := by decide +kernel
theorem dX5_counts_1 : decode cX5_counts 1 = .ok (.iload_n 1, 1) := by decide +kernel
theorem dX5_counts_2 : decode cX5_counts 2 = .ok (.imul, 1) := by decide +kernel
theorem dX5_counts_3 : decode cX5_counts 3 = .ok (.iload_n 2, 1) := by decide +kernel
theorem dX5_counts_4 : decode cX5_counts 4 = .ok (.iadd, 1) := by decide +kernel
theorem dX5_counts_5 : decode cX5_counts 5 = .ok (.istore 4, 2) := by decide +kernel
theorem dX5_counts_7 : decode cX5_counts 7 = .ok (.iload_n 3, 1) := by decide +kernel
theorem dX5_counts_8 : decode cX5_counts 8 = .ok (.aload_n 0, 1) := by decide +kernel
theorem dX5_counts_9 : decode cX5_counts 9 = .ok (.getfield 32, 3) := by decide +kernel
theorem dX5_counts_12 : decode cX5_counts 12 = .ok (.iload 4, 2) := by decide +kernel
theorem dX5_counts_14 : decode cX5_counts 14 = .ok (.iaload, 1) := by decide +kernel
theorem dX5_counts_15 : decode cX5_counts 15 = .ok (.invokestatic 108, 3) := by decide +kernel
theorem dX5_counts_18 : decode cX5_counts 18 = .ok (.istore 5, 2) := by decide +kernel
theorem dX5_counts_20 : decode cX5_counts 20 = .ok (.iload_n 3, 1) := by decide +kernel
theorem dX5_counts_21 : decode cX5_counts 21 = .ok (.iconst (-1), 1) := by decide +kernel
theorem dX5_counts_22 : decode cX5_counts 22 = .ok (.if_icmp .eq 53, 3) := by decide +kernel
theorem dX5_counts_25 : decode cX5_counts 25 = .ok (.aload_n 0, 1) := by decide +kernel
theorem dX5_counts_26 : decode cX5_counts 26 = .ok (.getfield 35, 3) := by decide +kernel
theorem dX5_counts_29 : decode cX5_counts 29 = .ok (.iload 4, 2) := by decide +kernel
theorem dX5_counts_31 : decode cX5_counts 31 = .ok (.iaload, 1) := by decide +kernel
theorem dX5_counts_32 : decode cX5_counts 32 = .ok (.ifCond .eq 39, 3) := by decide +kernel
theorem dX5_counts_35 : decode cX5_counts 35 = .ok (.aload_n 0, 1) := by decide +kernel
theorem dX5_counts_36 : decode cX5_counts 36 = .ok (.getfield 35, 3) := by decide +kernel
theorem dX5_counts_39 : decode cX5_counts 39 = .ok (.iload 4, 2) := by decide +kernel
theorem dX5_counts_41 : decode cX5_counts 41 = .ok (.iaload, 1) := by decide +kernel
theorem dX5_counts_42 : decode cX5_counts 42 = .ok (.iconst 1, 1) := by decide +kernel
theorem dX5_counts_43 : decode cX5_counts 43 = .ok (.if_icmp .ne 7, 3) := by decide +kernel
theorem dX5_counts_46 : decode cX5_counts 46 = .ok (.iconst 1, 1) := by decide +kernel
theorem dX5_counts_47 : decode cX5_counts 47 = .ok (.goto 4, 3) := by decide +kernel
theorem dX5_counts_50 : decode cX5_counts 50 = .ok (.iconst 0, 1) := by decide +kernel
theorem dX5_counts_51 : decode cX5_counts 51 = .ok (.iload 5, 2) := by decide +kernel
theorem dX5_counts_53 : decode cX5_counts 53 = .ok (.aload_n 0, 1) := by decide +kernel
theorem dX5_counts_54 : decode cX5_counts 54 = .ok (.getfield 38, 3) := by decide +kernel
theorem dX5_counts_57 : decode cX5_counts 57 = .ok (.iload 4, 2) := by decide +kernel
theorem dX5_counts_59 : decode cX5_counts 59 = .ok (.iaload, 1) := by decide +kernel
theorem dX5_counts_60 : decode cX5_counts 60 = .ok (.if_icmp .ge 7, 3) := by decide +kernel
theorem dX5_counts_63 : decode cX5_counts 63 = .ok (.iconst 1, 1) := by decide +kernel
theorem dX5_counts_64 : decode cX5_counts 64 = .ok (.goto 4, 3) := by decide +kernel
theorem dX5_counts_67 : decode cX5_counts 67 = .ok (.iconst 0, 1) := by decide +kernel
theorem dX5_counts_68 : decode cX5_counts 68 = .ok (.if_icmp .ne 7, 3) := by decide +kernel
theorem dX5_counts_71 : decode cX5_counts 71 = .ok (.iconst 1, 1) := by decide +kernel
theorem dX5_counts_72 : decode cX5_counts 72 = .ok (.goto 4, 3) := by decide +kernel
theorem dX5_counts_75 : decode cX5_counts 75 = .ok (.iconst 0, 1) := by decide +kernel
theorem dX5_counts_76 : decode cX5_counts 76 = .ok (.ireturn, 1) := by decide +kernel
set_option maxRecDepth 20000 in
theorem ggX5_chosen_X5_numberOf : GoodIn wsX5_chosen wsX5_numberOf := goodIn_r _ [5] (by decide +kernel) (by decide +kernel)
set_option maxRecDepth 20000 in
theorem gX5_chosen_X5_numberOf : GoodIn wsX5_chosen (va_wsS RX5 108 yX5_numberOf wsX5_numberOf) := goodIn_app (goodIn_of _ (by decide +kernel)) ggX5_chosen_X5_numberOf
theorem dX5_chosen_0 : decode cX5_chosen 0 = .ok (.iconst 0, 1) := by decide +kernel
theorem dX5_chosen_1 : decode cX5_chosen 1 = .ok (.istore 4, 2) := by decide +kernel
theorem dX5_chosen_3 : decode cX5_chosen 3 = .ok (.iconst 1, 1) := by decide +kernel
theorem dX5_chosen_4 : decode cX5_chosen 4 = .ok (.istore 5, 2) := by decide +kernel
theorem dX5_chosen_6 : decode cX5_chosen 6 = .ok (.iconst 0, 1) := by decide +kernel
theorem dX5_chosen_7 : decode cX5_chosen 7 = .ok (.istore 6, 2) := by decide +kernel
theorem dX5_chosen_9 : decode cX5_chosen 9 = .ok (.iload 6, 2) := by decide +kernel
theorem dX5_chosen_11 : decode cX5_chosen 11 = .ok (.iconst 3, 1) := by decide +kernel
theorem dX5_chosen_12 : decode cX5_chosen 12 = .ok (.if_icmp .ge 53, 3) := by decide +kernel
theorem dX5_chosen_15 : decode cX5_chosen 15 = .ok (.iload 4, 2) := by decide +kernel
theorem dX5_chosen_17 : decode cX5_chosen 17 = .ok (.aload_n 0, 1) := by decide +kernel
theorem dX5_chosen_18 : decode cX5_chosen 18 = .ok (.getfield 41, 3) := by decide +kernel
theorem dX5_chosen_21 : decode cX5_chosen 21 = .ok (.iconst 2, 1) := by decide +kernel
theorem dX5_chosen_22 : decode cX5_chosen 22 = .ok (.iload_n 1, 1) := by decide +kernel
theorem dX5_chosen_23 : decode cX5_chosen 23 = .ok (.imul, 1) := by decide +kernel
theorem dX5_chosen_24 : decode cX5_chosen 24 = .ok (.iload_n 2, 1) := by decide +kernel
theorem dX5_chosen_25 : decode cX5_chosen 25 = .ok (.iadd, 1) := by decide +kernel
theorem dX5_chosen_26 : decode cX5_chosen 26 = .ok (.iaload, 1) := by decide +kernel
theorem dX5_chosen_27 : decode cX5_chosen 27 = .ok (.iload 6, 2) := by decide +kernel
theorem dX5_chosen_29 : decode cX5_chosen 29 = .ok (.ishr, 1) := by decide +kernel
theorem dX5_chosen_30 : decode cX5_chosen 30 = .ok (.iconst 1, 1) := by decide +kernel
theorem dX5_chosen_31 : decode cX5_chosen 31 = .ok (.iand, 1) := by decide +kernel
theorem dX5_chosen_32 : decode cX5_chosen 32 = .ok (.iconst 1, 1) := by decide +kernel
theorem dX5_chosen_33 : decode cX5_chosen 33 = .ok (.if_icmp .ne 15, 3) := by decide +kernel
theorem dX5_chosen_36 : decode cX5_chosen 36 = .ok (.iload 5, 2) := by decide +kernel
theorem dX5_chosen_38 : decode cX5_chosen 38 = .ok (.iload_n 3, 1) := by decide +kernel
theorem dX5_chosen_39 : decode cX5_chosen 39 = .ok (.iload 6, 2) := by decide +kernel
theorem dX5_chosen_41 : decode cX5_chosen 41 = .ok (.invokestatic 108, 3) := by decide +kernel
theorem dX5_chosen_44 : decode cX5_chosen 44 = .ok (.imul, 1) := by decide +kernel
theorem dX5_chosen_45 : decode cX5_chosen 45 = .ok (.goto 4, 3) := by decide +kernel
theorem dX5_chosen_48 : decode cX5_chosen 48 = .ok (.iconst 0, 1) := by decide +kernel
theorem dX5_chosen_49 : decode cX5_chosen 49 = .ok (.iadd, 1) := by decide +kernel
theorem dX5_chosen_50 : decode cX5_chosen 50 = .ok (.istore 4, 2) := by decide +kernel
theorem dX5_chosen_52 : decode cX5_chosen 52 = .ok (.iload 5, 2) := by decide +kernel
theorem dX5_chosen_54 : decode cX5_chosen 54 = .ok (.bipush 100, 2) := by decide +kernel
theorem dX5_chosen_56 : decode cX5_chosen 56 = .ok (.imul, 1) := by decide +kernel
theorem dX5_chosen_57 : decode cX5_chosen 57 = .ok (.istore 5, 2) := by decide +kernel
theorem dX5_chosen_59 : decode cX5_chosen 59 = .ok (.iinc 6 1, 3) := by decide +kernel
theorem dX5_chosen_62 : decode cX5_chosen 62 = .ok (.goto (-53), 3) := by decide +kernel
theorem dX5_chosen_65 : decode cX5_chosen 65 = .ok (.iload 4, 2) := by decide +kernel
theorem dX5_chosen_67 : decode cX5_chosen 67 = .ok (.ireturn, 1) := by decide +kernel
set_option maxRecDepth 20000 in
theorem ggX5_subscribe_X5_isThird : GoodIn wsX5_subscribe wsX5_isThird := goodIn_r _ [9, 10, 11, 8, 12] (by decide +kernel) (by decide +kernel)
set_option maxRecDepth 20000 in
theorem gX5_subscribe_X5_isThird : GoodIn wsX5_subscribe (va_wsS RX5 105 yX5_isThird wsX5_isThird) := goodIn_app (goodIn_of _ (by decide +kernel)) ggX5_subscribe_X5_isThird
set_option maxRecDepth 20000 in
theorem ggX5_subscribe_X5_fails : GoodIn wsX5_subscribe wsX5_fails := goodIn_r _ [16, 17, 18, 19, 20, 21, 22, 23, 24, 25, 26, 27, 28, 29, 30, 31, 32, 33, 34, 35, 36, 37] (by decide +kernel) (by decide +kernel)
set_option maxRecDepth 20000 in
theorem gX5_subscribe_X5_fails : GoodIn wsX5_subscribe (wsV RX5 94 RX5 yX5_fails wsX5_fails) := goodIn_app (goodIn_of _ (by decide +kernel)) ggX5_subscribe_X5_fails
theorem dX5_subscribe_0 : decode cX5_subscribe 0 = .ok (.aload_n 0, 1) := by decide +kernel
theorem dX5_subscribe_1 : decode cX5_subscribe 1 = .ok (.iload_n 1, 1) := by decide +kernel
theorem dX5_subscribe_2 : decode cX5_subscribe 2 = .ok (.invokestatic 105, 3) := by decide +kernel
theorem dX5_subscribe_5 : decode cX5_subscribe 5 = .ok (.ifCond .eq 14, 3) := by decide +kernel
theorem dX5_subscribe_8 : decode cX5_subscribe 8 = .ok (.iload_n 2, 1) := by decide +kernel
theorem dX5_subscribe_9 : decode cX5_subscribe 9 = .ok (.invokestatic 105, 3) := by decide +kernel
theorem dX5_subscribe_12 : decode cX5_subscribe 12 = .ok (.ifCond .eq 7, 3) := by decide +kernel
theorem dX5_subscribe_15 : decode cX5_subscribe 15 = .ok (.iconst 0, 1) := by decide +kernel
theorem dX5_subscribe_16 : decode cX5_subscribe 16 = .ok (.goto 4, 3) := by decide +kernel
theorem dX5_subscribe_19 : decode cX5_subscribe 19 = .ok (.iconst 1, 1) := by decide +kernel
theorem dX5_subscribe_20 : decode cX5_subscribe 20 = .ok (.invokevirtual 94, 3) := by decide +kernel
theorem dX5_subscribe_23 : decode cX5_subscribe 23 = .ok (.ifCond .eq 5, 3) := by decide +kernel
theorem dX5_subscribe_26 : decode cX5_subscribe 26 = .ok (.iconst 0, 1) := by decide +kernel
theorem dX5_subscribe_27 : decode cX5_subscribe 27 = .ok (.ireturn, 1) := by decide +kernel
theorem dX5_subscribe_28 : decode cX5_subscribe 28 = .ok (.aload_n 0, 1) := by decide +kernel
theorem dX5_subscribe_29 : decode cX5_subscribe 29 = .ok (.getfield 47, 3) := by decide +kernel
theorem dX5_subscribe_32 : decode cX5_subscribe 32 = .ok (.iload_n 1, 1) := by decide +kernel
theorem dX5_subscribe_33 : decode cX5_subscribe 33 = .ok (.iaload, 1) := by decide +kernel
theorem dX5_subscribe_34 : decode cX5_subscribe 34 = .ok (.istore_n 3, 1) := by decide +kernel
theorem dX5_subscribe_35 : decode cX5_subscribe 35 = .ok (.aload_n 0, 1) := by decide +kernel
theorem dX5_subscribe_36 : decode cX5_subscribe 36 = .ok (.getfield 44, 3) := by decide +kernel
theorem dX5_subscribe_39 : decode cX5_subscribe 39 = .ok (.iload_n 1, 1) := by decide +kernel
theorem dX5_subscribe_40 : decode cX5_subscribe 40 = .ok (.iload_n 2, 1) := by decide +kernel
theorem dX5_subscribe_41 : decode cX5_subscribe 41 = .ok (.iastore, 1) := by decide +kernel
theorem dX5_subscribe_42 : decode cX5_subscribe 42 = .ok (.aload_n 0, 1) := by decide +kernel
theorem dX5_subscribe_43 : decode cX5_subscribe 43 = .ok (.getfield 47, 3) := by decide +kernel
theorem dX5_subscribe_46 : decode cX5_subscribe 46 = .ok (.iload_n 1, 1) := by decide +kernel
theorem dX5_subscribe_47 : decode cX5_subscribe 47 = .ok (.iconst 1, 1) := by decide +kernel
theorem dX5_subscribe_48 : decode cX5_subscribe 48 = .ok (.iastore, 1) := by decide +kernel
theorem dX5_subscribe_49 : decode cX5_subscribe 49 = .ok (.aload_n 0, 1) := by decide +kernel
theorem dX5_subscribe_50 : decode cX5_subscribe 50 = .ok (.getfield 50, 3) := by decide +kernel
theorem dX5_subscribe_53 : decode cX5_subscribe 53 = .ok (.iload_n 1, 1) := by decide +kernel
theorem dX5_subscribe_54 : decode cX5_subscribe 54 = .ok (.aload_n 0, 1) := by decide +kernel
theorem dX5_subscribe_55 : decode cX5_subscribe 55 = .ok (.getfield 76, 3) := by decide +kernel
theorem dX5_subscribe_58 : decode cX5_subscribe 58 = .ok (.iastore, 1) := by decide +kernel
theorem dX5_subscribe_59 : decode cX5_subscribe 59 = .ok (.iconst 0, 1) := by decide +kernel
theorem dX5_subscribe_60 : decode cX5_subscribe 60 = .ok (.istore 4, 2) := by decide +kernel
theorem dX5_subscribe_62 : decode cX5_subscribe 62 = .ok (.iload 4, 2) := by decide +kernel
theorem dX5_subscribe_64 : decode cX5_subscribe 64 = .ok (.iconst 2, 1) := by decide +kernel
theorem dX5_subscribe_65 : decode cX5_subscribe 65 = .ok (.if_icmp .ge 21, 3) := by decide +kernel
theorem dX5_subscribe_68 : decode cX5_subscribe 68 = .ok (.aload_n 0, 1) := by decide +kernel
theorem dX5_subscribe_69 : decode cX5_subscribe 69 = .ok (.getfield 53, 3) := by decide +kernel
theorem dX5_subscribe_72 : decode cX5_subscribe 72 = .ok (.iconst 2, 1) := by decide +kernel
theorem dX5_subscribe_73 : decode cX5_subscribe 73 = .ok (.iload_n 1, 1) := by decide +kernel
theorem dX5_subscribe_74 : decode cX5_subscribe 74 = .ok (.imul, 1) := by decide +kernel
theorem dX5_subscribe_75 : decode cX5_subscribe 75 = .ok (.iload 4, 2) := by decide +kernel
theorem dX5_subscribe_77 : decode cX5_subscribe 77 = .ok (.iadd, 1) := by decide +kernel
theorem dX5_subscribe_78 : decode cX5_subscribe 78 = .ok (.iconst (-1), 1) := by decide +kernel
theorem dX5_subscribe_79 : decode cX5_subscribe 79 = .ok (.iastore, 1) := by decide +kernel
theorem dX5_subscribe_80 : decode cX5_subscribe 80 = .ok (.iinc 4 1, 3) := by decide +kernel
theorem dX5_subscribe_83 : decode cX5_subscribe 83 = .ok (.goto (-21), 3) := by decide +kernel
theorem dX5_subscribe_86 : decode cX5_subscribe 86 = .ok (.iload_n 3, 1) := by decide +kernel
theorem dX5_subscribe_87 : decode cX5_subscribe 87 = .ok (.ireturn, 1) := by decide +kernel
set_option maxRecDepth 20000 in
theorem ggX5_drop_X5_isThird : GoodIn wsX5_drop wsX5_isThird := goodIn_r _ [6, 7, 8, 5, 9] (by decide +kernel) (by decide +kernel)
set_option maxRecDepth 20000 in
theorem gX5_drop_X5_isThird : GoodIn wsX5_drop (va_wsS RX5 105 yX5_isThird wsX5_isThird) := goodIn_app (goodIn_of _ (by decide +kernel)) ggX5_drop_X5_isThird
set_option maxRecDepth 20000 in
theorem ggX5_drop_X5_fails : GoodIn wsX5_drop wsX5_fails := goodIn_r _ [13, 14, 15, 16, 17, 18, 19, 20, 21, 22, 23, 24, 25, 26, 27, 28, 29, 30, 31, 32, 33, 34] (by decide +kernel) (by decide +kernel)
set_option maxRecDepth 20000 in
theorem gX5_drop_X5_fails : GoodIn wsX5_drop (wsV RX5 94 RX5 yX5_fails wsX5_fails) := goodIn_app (goodIn_of _ (by decide +kernel)) ggX5_drop_X5_fails
theorem dX5_drop_0 : decode cX5_drop 0 = .ok (.aload_n 0, 1) := by decide +kernel
theorem dX5_drop_1 : decode cX5_drop 1 = .ok (.iload_n 1, 1) := by decide +kernel
theorem dX5_drop_2 : decode cX5_drop 2 = .ok (.invokestatic 105, 3) := by decide +kernel
theorem dX5_drop_5 : decode cX5_drop 5 = .ok (.ifCond .eq 7, 3) := by decide +kernel
theorem dX5_drop_8 : decode cX5_drop 8 = .ok (.iconst 0, 1) := by decide +kernel
theorem dX5_drop_9 : decode cX5_drop 9 = .ok (.goto 4, 3) := by decide +kernel
theorem dX5_drop_12 : decode cX5_drop 12 = .ok (.iconst 1, 1) := by decide +kernel
theorem dX5_drop_13 : decode cX5_drop 13 = .ok (.invokevirtual 94, 3) := by decide +kernel
theorem dX5_drop_16 : decode cX5_drop 16 = .ok (.ifCond .eq 5, 3) := by decide +kernel
theorem dX5_drop_19 : decode cX5_drop 19 = .ok (.iconst 0, 1) := by decide +kernel
theorem dX5_drop_20 : decode cX5_drop 20 = .ok (.ireturn, 1) := by decide +kernel
theorem dX5_drop_21 : decode cX5_drop 21 = .ok (.aload_n 0, 1) := by decide +kernel
theorem dX5_drop_22 : decode cX5_drop 22 = .ok (.getfield 47, 3) := by decide +kernel
theorem dX5_drop_25 : decode cX5_drop 25 = .ok (.iload_n 1, 1) := by decide +kernel
theorem dX5_drop_26 : decode cX5_drop 26 = .ok (.iaload, 1) := by decide +kernel
theorem dX5_drop_27 : decode cX5_drop 27 = .ok (.istore_n 2, 1) := by decide +kernel
theorem dX5_drop_28 : decode cX5_drop 28 = .ok (.aload_n 0, 1) := by decide +kernel
theorem dX5_drop_29 : decode cX5_drop 29 = .ok (.getfield 47, 3) := by decide +kernel
theorem dX5_drop_32 : decode cX5_drop 32 = .ok (.iload_n 1, 1) := by decide +kernel
theorem dX5_drop_33 : decode cX5_drop 33 = .ok (.iconst 0, 1) := by decide +kernel
theorem dX5_drop_34 : decode cX5_drop 34 = .ok (.iastore, 1) := by decide +kernel
theorem dX5_drop_35 : decode cX5_drop 35 = .ok (.iconst 0, 1) := by decide +kernel
theorem dX5_drop_36 : decode cX5_drop 36 = .ok (.istore_n 3, 1) := by decide +kernel
theorem dX5_drop_37 : decode cX5_drop 37 = .ok (.iload_n 3, 1) := by decide +kernel
theorem dX5_drop_38 : decode cX5_drop 38 = .ok (.iconst 2, 1) := by decide +kernel
theorem dX5_drop_39 : decode cX5_drop 39 = .ok (.if_icmp .ge 20, 3) := by decide +kernel
theorem dX5_drop_42 : decode cX5_drop 42 = .ok (.aload_n 0, 1) := by decide +kernel
theorem dX5_drop_43 : decode cX5_drop 43 = .ok (.getfield 53, 3) := by decide +kernel
theorem dX5_drop_46 : decode cX5_drop 46 = .ok (.iconst 2, 1) := by decide +kernel
theorem dX5_drop_47 : decode cX5_drop 47 = .ok (.iload_n 1, 1) := by decide +kernel
theorem dX5_drop_48 : decode cX5_drop 48 = .ok (.imul, 1) := by decide +kernel
theorem dX5_drop_49 : decode cX5_drop 49 = .ok (.iload_n 3, 1) := by decide +kernel
theorem dX5_drop_50 : decode cX5_drop 50 = .ok (.iadd, 1) := by decide +kernel
theorem dX5_drop_51 : decode cX5_drop 51 = .ok (.iconst (-1), 1) := by decide +kernel
theorem dX5_drop_52 : decode cX5_drop 52 = .ok (.iastore, 1) := by decide +kernel
theorem dX5_drop_53 : decode cX5_drop 53 = .ok (.iinc 3 1, 3) := by decide +kernel
theorem dX5_drop_56 : decode cX5_drop 56 = .ok (.goto (-19), 3) := by decide +kernel
theorem dX5_drop_59 : decode cX5_drop 59 = .ok (.iload_n 2, 1) := by decide +kernel
theorem dX5_drop_60 : decode cX5_drop 60 = .ok (.ireturn, 1) := by decide +kernel
set_option maxRecDepth 20000 in
theorem ggX5_chosenAt_X5_counts : GoodIn wsX5_chosenAt wsX5_counts := goodIn_r _ [6, 7, 8, 9, 10, 11, 5, 12, 18, 19, 20, 21, 22, 23, 24, 25, 26, 27, 28, 29, 30, 31, 32, 33, 34, 35, 36, 37] (by decide +kernel) (by decide +kernel)
set_option maxRecDepth 20000 in
theorem gX5_chosenAt_X5_counts : GoodIn wsX5_chosenAt (wsV RX5 115 RX5 yX5_counts wsX5_counts) := goodIn_app (goodIn_of _ (by decide +kernel)) ggX5_chosenAt_X5_counts
set_option maxRecDepth 20000 in
theorem ggX5_chosenAt_X5_chosen : GoodIn wsX5_chosenAt wsX5_chosen := goodIn_r _ [16, 17, 10, 11, 5, 12, 18, 19, 20, 21, 22, 23, 24, 25, 26, 27, 28, 29, 30, 31, 32, 33, 34, 35, 36, 37] (by decide +kernel) (by decide +kernel)
set_option maxRecDepth 20000 in
theorem gX5_chosenAt_X5_chosen : GoodIn wsX5_chosenAt (wsV RX5 118 RX5 yX5_chosen wsX5_chosen) := goodIn_app (goodIn_of _ (by decide +kernel)) ggX5_chosenAt_X5_chosen
theorem dX5_chosenAt_0 : decode cX5_chosenAt 0 = .ok (.aload_n 0, 1) := by decide +kernel
theorem dX5_chosenAt_1 : decode cX5_chosenAt 1 = .ok (.getfield 13, 3) := by decide +kernel
theorem dX5_chosenAt_4 : decode cX5_chosenAt 4 = .ok (.bipush 24, 2) := by decide +kernel
theorem dX5_chosenAt_6 : decode cX5_chosenAt 6 = .ok (.iload 4, 2) := by decide +kernel
theorem dX5_chosenAt_8 : decode cX5_chosenAt 8 = .ok (.imul, 1) := by decide +kernel
theorem dX5_chosenAt_9 : decode cX5_chosenAt 9 = .ok (.bipush 12, 2) := by decide +kernel
theorem dX5_chosenAt_11 : decode cX5_chosenAt 11 = .ok (.iload_n 2, 1) := by decide +kernel
theorem dX5_chosenAt_12 : decode cX5_chosenAt 12 = .ok (.imul, 1) := by decide +kernel
theorem dX5_chosenAt_13 : decode cX5_chosenAt 13 = .ok (.iadd, 1) := by decide +kernel
theorem dX5_chosenAt_14 : decode cX5_chosenAt 14 = .ok (.iload_n 3, 1) := by decide +kernel
theorem dX5_chosenAt_15 : decode cX5_chosenAt 15 = .ok (.iadd, 1) := by decide +kernel
theorem dX5_chosenAt_16 : decode cX5_chosenAt 16 = .ok (.iaload, 1) := by decide +kernel
theorem dX5_chosenAt_17 : decode cX5_chosenAt 17 = .ok (.istore 5, 2) := by decide +kernel
theorem dX5_chosenAt_19 : decode cX5_chosenAt 19 = .ok (.aload_n 0, 1) := by decide +kernel
theorem dX5_chosenAt_20 : decode cX5_chosenAt 20 = .ok (.iload_n 1, 1) := by decide +kernel
theorem dX5_chosenAt_21 : decode cX5_chosenAt 21 = .ok (.iload_n 2, 1) := by decide +kernel
theorem dX5_chosenAt_22 : decode cX5_chosenAt 22 = .ok (.iload 5, 2) := by decide +kernel
theorem dX5_chosenAt_24 : decode cX5_chosenAt 24 = .ok (.invokevirtual 115, 3) := by decide +kernel
theorem dX5_chosenAt_27 : decode cX5_chosenAt 27 = .ok (.ifCond .eq 14, 3) := by decide +kernel
theorem dX5_chosenAt_30 : decode cX5_chosenAt 30 = .ok (.aload_n 0, 1) := by decide +kernel
theorem dX5_chosenAt_31 : decode cX5_chosenAt 31 = .ok (.iload_n 1, 1) := by decide +kernel
theorem dX5_chosenAt_32 : decode cX5_chosenAt 32 = .ok (.iload_n 2, 1) := by decide +kernel
theorem dX5_chosenAt_33 : decode cX5_chosenAt 33 = .ok (.iload 5, 2) := by decide +kernel
theorem dX5_chosenAt_35 : decode cX5_chosenAt 35 = .ok (.invokevirtual 118, 3) := by decide +kernel
theorem dX5_chosenAt_38 : decode cX5_chosenAt 38 = .ok (.goto 4, 3) := by decide +kernel
theorem dX5_chosenAt_41 : decode cX5_chosenAt 41 = .ok (.iconst (-1), 1) := by decide +kernel
theorem dX5_chosenAt_42 : decode cX5_chosenAt 42 = .ok (.ireturn, 1) := by decide +kernel
set_option maxRecDepth 20000 in
theorem ggX5_copy_X5_isThird : GoodIn wsX5_copy wsX5_isThird := goodIn_r _ [10, 11, 12, 9, 13] (by decide +kernel) (by decide +kernel)
set_option maxRecDepth 20000 in
theorem gX5_copy_X5_isThird : GoodIn wsX5_copy (va_wsS RX5 105 yX5_isThird wsX5_isThird) := goodIn_app (goodIn_of _ (by decide +kernel)) ggX5_copy_X5_isThird
set_option maxRecDepth 20000 in
theorem ggX5_copy_X5_isTable : GoodIn wsX5_copy wsX5_isTable := goodIn_r _ [16, 11, 12, 9, 13] (by decide +kernel) (by decide +kernel)
set_option maxRecDepth 20000 in
theorem gX5_copy_X5_isTable : GoodIn wsX5_copy (va_wsS RX5 72 yX5_isTable wsX5_isTable) := goodIn_app (goodIn_of _ (by decide +kernel)) ggX5_copy_X5_isTable
set_option maxRecDepth 20000 in
theorem ggX5_copy_X5_fails : GoodIn wsX5_copy wsX5_fails := goodIn_r _ [20, 21, 42, 43, 44, 45, 46, 47, 48, 49, 50, 51, 52, 53, 54, 55, 56, 57, 58, 59, 60, 61] (by decide +kernel) (by decide +kernel)
set_option maxRecDepth 20000 in
theorem gX5_copy_X5_fails : GoodIn wsX5_copy (wsV RX5 94 RX5 yX5_fails wsX5_fails) := goodIn_app (goodIn_of _ (by decide +kernel)) ggX5_copy_X5_fails
set_option maxRecDepth 20000 in
theorem ggX5_copy_X5_chosenAt : GoodIn wsX5_copy wsX5_chosenAt := goodIn_r _ [25, 26, 27, 28, 29, 9, 30, 31, 32, 33, 34, 35, 36, 37, 38, 39, 40, 41, 42, 43, 44, 45, 46, 47, 48, 49, 50, 51, 52, 53, 54, 55, 56, 57, 58, 59, 60, 61] (by decide +kernel) (by decide +kernel)
set_option maxRecDepth 20000 in
theorem gX5_copy_X5_chosenAt : GoodIn wsX5_copy (wsV RX5 122 RX5 yX5_chosenAt wsX5_chosenAt) := goodIn_app (goodIn_of _ (by decide +kernel)) ggX5_copy_X5_chosenAt
theorem dX5_copy_0 : decode cX5_copy 0 = .ok (.aload_n 0, 1) := by decide +kernel
theorem dX5_copy_1 : decode cX5_copy 1 = .ok (.iload_n 1, 1) := by decide +kernel
theorem dX5_copy_2 : decode cX5_copy 2 = .ok (.invokestatic 105, 3) := by decide +kernel
theorem dX5_copy_5 : decode cX5_copy 5 = .ok (.ifCond .eq 10, 3) := by decide +kernel
theorem dX5_copy_8 : decode cX5_copy 8 = .ok (.iload_n 2, 1) := by decide +kernel
theorem dX5_copy_9 : decode cX5_copy 9 = .ok (.invokestatic 72, 3) := by decide +kernel
theorem dX5_copy_12 : decode cX5_copy 12 = .ok (.ifCond .ne 7, 3) := by decide +kernel
theorem dX5_copy_15 : decode cX5_copy 15 = .ok (.iconst 1, 1) := by decide +kernel
theorem dX5_copy_16 : decode cX5_copy 16 = .ok (.goto 32, 3) := by decide +kernel
theorem dX5_copy_19 : decode cX5_copy 19 = .ok (.aload_n 0, 1) := by decide +kernel
theorem dX5_copy_20 : decode cX5_copy 20 = .ok (.getfield 47, 3) := by decide +kernel
theorem dX5_copy_23 : decode cX5_copy 23 = .ok (.iload_n 1, 1) := by decide +kernel
theorem dX5_copy_24 : decode cX5_copy 24 = .ok (.iaload, 1) := by decide +kernel
theorem dX5_copy_25 : decode cX5_copy 25 = .ok (.iconst 1, 1) := by decide +kernel
theorem dX5_copy_26 : decode cX5_copy 26 = .ok (.if_icmp .ne 17, 3) := by decide +kernel
theorem dX5_copy_29 : decode cX5_copy 29 = .ok (.aload_n 0, 1) := by decide +kernel
theorem dX5_copy_30 : decode cX5_copy 30 = .ok (.getfield 20, 3) := by decide +kernel
theorem dX5_copy_33 : decode cX5_copy 33 = .ok (.aload_n 0, 1) := by decide +kernel
theorem dX5_copy_34 : decode cX5_copy 34 = .ok (.getfield 76, 3) := by decide +kernel
theorem dX5_copy_37 : decode cX5_copy 37 = .ok (.iconst 1, 1) := by decide +kernel
theorem dX5_copy_38 : decode cX5_copy 38 = .ok (.iadd, 1) := by decide +kernel
theorem dX5_copy_39 : decode cX5_copy 39 = .ok (.iaload, 1) := by decide +kernel
theorem dX5_copy_40 : decode cX5_copy 40 = .ok (.ifCond .le 7, 3) := by decide +kernel
theorem dX5_copy_43 : decode cX5_copy 43 = .ok (.iconst 2, 1) := by decide +kernel
theorem dX5_copy_44 : decode cX5_copy 44 = .ok (.goto 4, 3) := by decide +kernel
theorem dX5_copy_47 : decode cX5_copy 47 = .ok (.iconst 0, 1) := by decide +kernel
theorem dX5_copy_48 : decode cX5_copy 48 = .ok (.invokevirtual 94, 3) := by decide +kernel
theorem dX5_copy_51 : decode cX5_copy 51 = .ok (.ifCond .eq 5, 3) := by decide +kernel
theorem dX5_copy_54 : decode cX5_copy 54 = .ok (.iconst 0, 1) := by decide +kernel
theorem dX5_copy_55 : decode cX5_copy 55 = .ok (.ireturn, 1) := by decide +kernel
theorem dX5_copy_56 : decode cX5_copy 56 = .ok (.iconst 0, 1) := by decide +kernel
theorem dX5_copy_57 : decode cX5_copy 57 = .ok (.istore_n 3, 1) := by decide +kernel
theorem dX5_copy_58 : decode cX5_copy 58 = .ok (.iconst 0, 1) := by decide +kernel
theorem dX5_copy_59 : decode cX5_copy 59 = .ok (.istore 4, 2) := by decide +kernel
theorem dX5_copy_61 : decode cX5_copy 61 = .ok (.iload 4, 2) := by decide +kernel
theorem dX5_copy_63 : decode cX5_copy 63 = .ok (.bipush 12, 2) := by decide +kernel
theorem dX5_copy_65 : decode cX5_copy 65 = .ok (.if_icmp .ge 66, 3) := by decide +kernel
theorem dX5_copy_68 : decode cX5_copy 68 = .ok (.bipush 24, 2) := by decide +kernel
theorem dX5_copy_70 : decode cX5_copy 70 = .ok (.iload_n 1, 1) := by decide +kernel
theorem dX5_copy_71 : decode cX5_copy 71 = .ok (.imul, 1) := by decide +kernel
theorem dX5_copy_72 : decode cX5_copy 72 = .ok (.bipush 12, 2) := by decide +kernel
theorem dX5_copy_74 : decode cX5_copy 74 = .ok (.iload_n 2, 1) := by decide +kernel
theorem dX5_copy_75 : decode cX5_copy 75 = .ok (.imul, 1) := by decide +kernel
theorem dX5_copy_76 : decode cX5_copy 76 = .ok (.iadd, 1) := by decide +kernel
theorem dX5_copy_77 : decode cX5_copy 77 = .ok (.iload 4, 2) := by decide +kernel
theorem dX5_copy_79 : decode cX5_copy 79 = .ok (.iadd, 1) := by decide +kernel
theorem dX5_copy_80 : decode cX5_copy 80 = .ok (.istore 5, 2) := by decide +kernel
theorem dX5_copy_82 : decode cX5_copy 82 = .ok (.aload_n 0, 1) := by decide +kernel
theorem dX5_copy_83 : decode cX5_copy 83 = .ok (.getfield 56, 3) := by decide +kernel
theorem dX5_copy_86 : decode cX5_copy 86 = .ok (.iload 5, 2) := by decide +kernel
theorem dX5_copy_88 : decode cX5_copy 88 = .ok (.aload_n 0, 1) := by decide +kernel
theorem dX5_copy_89 : decode cX5_copy 89 = .ok (.aload_n 0, 1) := by decide +kernel
theorem dX5_copy_90 : decode cX5_copy 90 = .ok (.getfield 44, 3) := by decide +kernel
theorem dX5_copy_93 : decode cX5_copy 93 = .ok (.iload_n 1, 1) := by decide +kernel
theorem dX5_copy_94 : decode cX5_copy 94 = .ok (.iaload, 1) := by decide +kernel
theorem dX5_copy_95 : decode cX5_copy 95 = .ok (.iload_n 2, 1) := by decide +kernel
theorem dX5_copy_96 : decode cX5_copy 96 = .ok (.iload 4, 2) := by decide +kernel
theorem dX5_copy_98 : decode cX5_copy 98 = .ok (.aload_n 0, 1) := by decide +kernel
theorem dX5_copy_99 : decode cX5_copy 99 = .ok (.getfield 76, 3) := by decide +kernel
theorem dX5_copy_102 : decode cX5_copy 102 = .ok (.invokevirtual 122, 3) := by decide +kernel
theorem dX5_copy_105 : decode cX5_copy 105 = .ok (.iastore, 1) := by decide +kernel
theorem dX5_copy_106 : decode cX5_copy 106 = .ok (.iload_n 3, 1) := by decide +kernel
theorem dX5_copy_107 : decode cX5_copy 107 = .ok (.aload_n 0, 1) := by decide +kernel
theorem dX5_copy_108 : decode cX5_copy 108 = .ok (.getfield 56, 3) := by decide +kernel
theorem dX5_copy_111 : decode cX5_copy 111 = .ok (.iload 5, 2) := by decide +kernel
theorem dX5_copy_113 : decode cX5_copy 113 = .ok (.iaload, 1) := by decide +kernel
theorem dX5_copy_114 : decode cX5_copy 114 = .ok (.iconst (-1), 1) := by decide +kernel
theorem dX5_copy_115 : decode cX5_copy 115 = .ok (.if_icmp .ne 7, 3) := by decide +kernel
theorem dX5_copy_118 : decode cX5_copy 118 = .ok (.iconst 0, 1) := by decide +kernel
theorem dX5_copy_119 : decode cX5_copy 119 = .ok (.goto 4, 3) := by decide +kernel
theorem dX5_copy_122 : decode cX5_copy 122 = .ok (.iconst 1, 1) := by decide +kernel
theorem dX5_copy_123 : decode cX5_copy 123 = .ok (.iadd, 1) := by decide +kernel
theorem dX5_copy_124 : decode cX5_copy 124 = .ok (.istore_n 3, 1) := by decide +kernel
theorem dX5_copy_125 : decode cX5_copy 125 = .ok (.iinc 4 1, 3) := by decide +kernel
theorem dX5_copy_128 : decode cX5_copy 128 = .ok (.goto (-67), 3) := by decide +kernel
theorem dX5_copy_131 : decode cX5_copy 131 = .ok (.aload_n 0, 1) := by decide +kernel
theorem dX5_copy_132 : decode cX5_copy 132 = .ok (.getfield 53, 3) := by decide +kernel
theorem dX5_copy_135 : decode cX5_copy 135 = .ok (.iconst 2, 1) := by decide +kernel
theorem dX5_copy_136 : decode cX5_copy 136 = .ok (.iload_n 1, 1) := by decide +kernel
theorem dX5_copy_137 : decode cX5_copy 137 = .ok (.imul, 1) := by decide +kernel
theorem dX5_copy_138 : decode cX5_copy 138 = .ok (.iload_n 2, 1) := by decide +kernel
theorem dX5_copy_139 : decode cX5_copy 139 = .ok (.iadd, 1) := by decide +kernel
theorem dX5_copy_140 : decode cX5_copy 140 = .ok (.aload_n 0, 1) := by decide +kernel
theorem dX5_copy_141 : decode cX5_copy 141 = .ok (.getfield 76, 3) := by decide +kernel
theorem dX5_copy_144 : decode cX5_copy 144 = .ok (.iastore, 1) := by decide +kernel
theorem dX5_copy_145 : decode cX5_copy 145 = .ok (.iload_n 3, 1) := by decide +kernel
theorem dX5_copy_146 : decode cX5_copy 146 = .ok (.ireturn, 1) := by decide +kernel
set_option maxRecDepth 20000 in
theorem ggX5_applies_X5_counts : GoodIn wsX5_applies wsX5_counts := goodIn_r _ [8, 9, 10, 11, 12, 13, 7, 14, 20, 21, 22, 23, 24, 25, 26, 27, 28, 29, 30, 31, 32, 33, 34, 35, 36, 37, 38, 39] (by decide +kernel) (by decide +kernel)
set_option maxRecDepth 20000 in
theorem gX5_applies_X5_counts : GoodIn wsX5_applies (wsV RX5 115 RX5 yX5_counts wsX5_counts) := goodIn_app (goodIn_of _ (by decide +kernel)) ggX5_applies_X5_counts
set_option maxRecDepth 20000 in
theorem ggX5_applies_X5_chosen : GoodIn wsX5_applies wsX5_chosen := goodIn_r _ [18, 19, 12, 13, 7, 14, 20, 21, 22, 23, 24, 25, 26, 27, 28, 29, 30, 31, 32, 33, 34, 35, 36, 37, 38, 39] (by decide +kernel) (by decide +kernel)
set_option maxRecDepth 20000 in
theorem gX5_applies_X5_chosen : GoodIn wsX5_applies (wsV RX5 118 RX5 yX5_chosen wsX5_chosen) := goodIn_app (goodIn_of _ (by decide +kernel)) ggX5_applies_X5_chosen
theorem dX5_applies_0 : decode cX5_applies 0 = .ok (.aload_n 0, 1) := by decide +kernel
theorem dX5_applies_1 : decode cX5_applies 1 = .ok (.aload_n 0, 1) := by decide +kernel
theorem dX5_applies_2 : decode cX5_applies 2 = .ok (.getfield 44, 3) := by decide +kernel
theorem dX5_applies_5 : decode cX5_applies 5 = .ok (.iload_n 1, 1) := by decide +kernel
theorem dX5_applies_6 : decode cX5_applies 6 = .ok (.iaload, 1) := by decide +kernel
theorem dX5_applies_7 : decode cX5_applies 7 = .ok (.iload_n 2, 1) := by decide +kernel
theorem dX5_applies_8 : decode cX5_applies 8 = .ok (.aload_n 0, 1) := by decide +kernel
theorem dX5_applies_9 : decode cX5_applies 9 = .ok (.getfield 59, 3) := by decide +kernel
theorem dX5_applies_12 : decode cX5_applies 12 = .ok (.iload_n 3, 1) := by decide +kernel
theorem dX5_applies_13 : decode cX5_applies 13 = .ok (.iaload, 1) := by decide +kernel
theorem dX5_applies_14 : decode cX5_applies 14 = .ok (.invokevirtual 115, 3) := by decide +kernel
theorem dX5_applies_17 : decode cX5_applies 17 = .ok (.istore 5, 2) := by decide +kernel
theorem dX5_applies_19 : decode cX5_applies 19 = .ok (.aload_n 0, 1) := by decide +kernel
theorem dX5_applies_20 : decode cX5_applies 20 = .ok (.aload_n 0, 1) := by decide +kernel
theorem dX5_applies_21 : decode cX5_applies 21 = .ok (.getfield 44, 3) := by decide +kernel
theorem dX5_applies_24 : decode cX5_applies 24 = .ok (.iload_n 1, 1) := by decide +kernel
theorem dX5_applies_25 : decode cX5_applies 25 = .ok (.iaload, 1) := by decide +kernel
theorem dX5_applies_26 : decode cX5_applies 26 = .ok (.iload_n 2, 1) := by decide +kernel
theorem dX5_applies_27 : decode cX5_applies 27 = .ok (.iload 4, 2) := by decide +kernel
theorem dX5_applies_29 : decode cX5_applies 29 = .ok (.invokevirtual 115, 3) := by decide +kernel
theorem dX5_applies_32 : decode cX5_applies 32 = .ok (.istore 6, 2) := by decide +kernel
theorem dX5_applies_34 : decode cX5_applies 34 = .ok (.iload 6, 2) := by decide +kernel
theorem dX5_applies_36 : decode cX5_applies 36 = .ok (.ifCond .eq 22, 3) := by decide +kernel
theorem dX5_applies_39 : decode cX5_applies 39 = .ok (.iload 5, 2) := by decide +kernel
theorem dX5_applies_41 : decode cX5_applies 41 = .ok (.ifCond .ne 17, 3) := by decide +kernel
theorem dX5_applies_44 : decode cX5_applies 44 = .ok (.aload_n 0, 1) := by decide +kernel
theorem dX5_applies_45 : decode cX5_applies 45 = .ok (.getfield 62, 3) := by decide +kernel
theorem dX5_applies_48 : decode cX5_applies 48 = .ok (.iload_n 3, 1) := by decide +kernel
theorem dX5_applies_49 : decode cX5_applies 49 = .ok (.iaload, 1) := by decide +kernel
theorem dX5_applies_50 : decode cX5_applies 50 = .ok (.iconst (-1), 1) := by decide +kernel
theorem dX5_applies_51 : decode cX5_applies 51 = .ok (.if_icmp .eq 7, 3) := by decide +kernel
theorem dX5_applies_54 : decode cX5_applies 54 = .ok (.iconst 1, 1) := by decide +kernel
theorem dX5_applies_55 : decode cX5_applies 55 = .ok (.goto 4, 3) := by decide +kernel
theorem dX5_applies_58 : decode cX5_applies 58 = .ok (.iconst 0, 1) := by decide +kernel
theorem dX5_applies_59 : decode cX5_applies 59 = .ok (.istore 7, 2) := by decide +kernel
theorem dX5_applies_61 : decode cX5_applies 61 = .ok (.iload 6, 2) := by decide +kernel
theorem dX5_applies_63 : decode cX5_applies 63 = .ok (.ifCond .eq 25, 3) := by decide +kernel
theorem dX5_applies_66 : decode cX5_applies 66 = .ok (.aload_n 0, 1) := by decide +kernel
theorem dX5_applies_67 : decode cX5_applies 67 = .ok (.getfield 62, 3) := by decide +kernel
theorem dX5_applies_70 : decode cX5_applies 70 = .ok (.iload_n 3, 1) := by decide +kernel
theorem dX5_applies_71 : decode cX5_applies 71 = .ok (.aload_n 0, 1) := by decide +kernel
theorem dX5_applies_72 : decode cX5_applies 72 = .ok (.aload_n 0, 1) := by decide +kernel
theorem dX5_applies_73 : decode cX5_applies 73 = .ok (.getfield 44, 3) := by decide +kernel
theorem dX5_applies_76 : decode cX5_applies 76 = .ok (.iload_n 1, 1) := by decide +kernel
theorem dX5_applies_77 : decode cX5_applies 77 = .ok (.iaload, 1) := by decide +kernel
theorem dX5_applies_78 : decode cX5_applies 78 = .ok (.iload_n 2, 1) := by decide +kernel
theorem dX5_applies_79 : decode cX5_applies 79 = .ok (.iload 4, 2) := by decide +kernel
theorem dX5_applies_81 : decode cX5_applies 81 = .ok (.invokevirtual 118, 3) := by decide +kernel
theorem dX5_applies_84 : decode cX5_applies 84 = .ok (.iastore, 1) := by decide +kernel
theorem dX5_applies_85 : decode cX5_applies 85 = .ok (.goto 15, 3) := by decide +kernel
theorem dX5_applies_88 : decode cX5_applies 88 = .ok (.iload 5, 2) := by decide +kernel
theorem dX5_applies_90 : decode cX5_applies 90 = .ok (.ifCond .eq 10, 3) := by decide +kernel
theorem dX5_applies_93 : decode cX5_applies 93 = .ok (.aload_n 0, 1) := by decide +kernel
theorem dX5_applies_94 : decode cX5_applies 94 = .ok (.getfield 62, 3) := by decide +kernel
theorem dX5_applies_97 : decode cX5_applies 97 = .ok (.iload_n 3, 1) := by decide +kernel
theorem dX5_applies_98 : decode cX5_applies 98 = .ok (.iconst (-1), 1) := by decide +kernel
theorem dX5_applies_99 : decode cX5_applies 99 = .ok (.iastore, 1) := by decide +kernel
theorem dX5_applies_100 : decode cX5_applies 100 = .ok (.iload 7, 2) := by decide +kernel
theorem dX5_applies_102 : decode cX5_applies 102 = .ok (.ifCond .ne 7, 3) := by decide +kernel
theorem dX5_applies_105 : decode cX5_applies 105 = .ok (.iconst 1, 1) := by decide +kernel
theorem dX5_applies_106 : decode cX5_applies 106 = .ok (.goto 4, 3) := by decide +kernel
theorem dX5_applies_109 : decode cX5_applies 109 = .ok (.iconst 0, 1) := by decide +kernel
theorem dX5_applies_110 : decode cX5_applies 110 = .ok (.ireturn, 1) := by decide +kernel
set_option maxRecDepth 20000 in
theorem ggX5_tries_X5_isIn : GoodIn wsX5_tries wsX5_isIn := goodIn_r _ [14] (by decide +kernel) (by decide +kernel)
set_option maxRecDepth 20000 in
theorem gX5_tries_X5_isIn : GoodIn wsX5_tries (va_wsS RX5 68 yX5_isIn wsX5_isIn) := goodIn_app (goodIn_of _ (by decide +kernel)) ggX5_tries_X5_isIn
set_option maxRecDepth 20000 in
theorem ggX5_tries_X5_applies : GoodIn wsX5_tries wsX5_applies := goodIn_r _ [18, 19, 2, 4, 20, 21, 22, 13, 23, 24, 25, 26, 27, 28, 29, 30, 31, 32, 33, 34, 38, 39, 40, 41, 42, 43, 44, 45, 46, 47, 48, 49, 50, 51, 52, 53, 54, 55, 56, 57] (by decide +kernel) (by decide +kernel)
set_option maxRecDepth 20000 in
theorem gX5_tries_X5_applies : GoodIn wsX5_tries (wsV RX5 126 RX5 yX5_applies wsX5_applies) := goodIn_app (goodIn_of _ (by decide +kernel)) ggX5_tries_X5_applies
set_option maxRecDepth 20000 in
theorem ggX5_tries_X5_goes : GoodIn wsX5_tries wsX5_goes := goodIn_r _ [37] (by decide +kernel) (by decide +kernel)
set_option maxRecDepth 20000 in
theorem gX5_tries_X5_goes : GoodIn wsX5_tries (va_wsS RX5 79 yX5_goes wsX5_goes) := goodIn_app (goodIn_of _ (by decide +kernel)) ggX5_tries_X5_goes
theorem dX5_tries_0 : decode cX5_tries 0 = .ok (.aload_n 0, 1) := by decide +kernel
theorem dX5_tries_1 : decode cX5_tries 1 = .ok (.getfield 50, 3) := by decide +kernel
theorem dX5_tries_4 : decode cX5_tries 4 = .ok (.iload_n 1, 1) := by decide +kernel
theorem dX5_tries_5 : decode cX5_tries 5 = .ok (.iaload, 1) := by decide +kernel
theorem dX5_tries_6 : decode cX5_tries 6 = .ok (.iconst 1, 1) := by decide +kernel
theorem dX5_tries_7 : decode cX5_tries 7 = .ok (.iadd, 1) := by decide +kernel
theorem dX5_tries_8 : decode cX5_tries 8 = .ok (.istore_n 2, 1) := by decide +kernel
theorem dX5_tries_9 : decode cX5_tries 9 = .ok (.iconst 0, 1) := by decide +kernel
theorem dX5_tries_10 : decode cX5_tries 10 = .ok (.istore_n 3, 1) := by decide +kernel
theorem dX5_tries_11 : decode cX5_tries 11 = .ok (.iload_n 3, 1) := by decide +kernel
theorem dX5_tries_12 : decode cX5_tries 12 = .ok (.bipush 24, 2) := by decide +kernel
theorem dX5_tries_14 : decode cX5_tries 14 = .ok (.if_icmp .ge 45, 3) := by decide +kernel
theorem dX5_tries_17 : decode cX5_tries 17 = .ok (.aload_n 0, 1) := by decide +kernel
theorem dX5_tries_18 : decode cX5_tries 18 = .ok (.getfield 59, 3) := by decide +kernel
theorem dX5_tries_21 : decode cX5_tries 21 = .ok (.iload_n 3, 1) := by decide +kernel
theorem dX5_tries_22 : decode cX5_tries 22 = .ok (.aload_n 0, 1) := by decide +kernel
theorem dX5_tries_23 : decode cX5_tries 23 = .ok (.getfield 13, 3) := by decide +kernel
theorem dX5_tries_26 : decode cX5_tries 26 = .ok (.bipush 24, 2) := by decide +kernel
theorem dX5_tries_28 : decode cX5_tries 28 = .ok (.iload_n 2, 1) := by decide +kernel
theorem dX5_tries_29 : decode cX5_tries 29 = .ok (.iconst 1, 1) := by decide +kernel
theorem dX5_tries_30 : decode cX5_tries 30 = .ok (.isub, 1) := by decide +kernel
theorem dX5_tries_31 : decode cX5_tries 31 = .ok (.imul, 1) := by decide +kernel
theorem dX5_tries_32 : decode cX5_tries 32 = .ok (.iload_n 3, 1) := by decide +kernel
theorem dX5_tries_33 : decode cX5_tries 33 = .ok (.iadd, 1) := by decide +kernel
theorem dX5_tries_34 : decode cX5_tries 34 = .ok (.iaload, 1) := by decide +kernel
theorem dX5_tries_35 : decode cX5_tries 35 = .ok (.iastore, 1) := by decide +kernel
theorem dX5_tries_36 : decode cX5_tries 36 = .ok (.aload_n 0, 1) := by decide +kernel
theorem dX5_tries_37 : decode cX5_tries 37 = .ok (.getfield 62, 3) := by decide +kernel
theorem dX5_tries_40 : decode cX5_tries 40 = .ok (.iload_n 3, 1) := by decide +kernel
theorem dX5_tries_41 : decode cX5_tries 41 = .ok (.aload_n 0, 1) := by decide +kernel
theorem dX5_tries_42 : decode cX5_tries 42 = .ok (.getfield 56, 3) := by decide +kernel
theorem dX5_tries_45 : decode cX5_tries 45 = .ok (.bipush 24, 2) := by decide +kernel
theorem dX5_tries_47 : decode cX5_tries 47 = .ok (.iload_n 1, 1) := by decide +kernel
theorem dX5_tries_48 : decode cX5_tries 48 = .ok (.imul, 1) := by decide +kernel
theorem dX5_tries_49 : decode cX5_tries 49 = .ok (.iload_n 3, 1) := by decide +kernel
theorem dX5_tries_50 : decode cX5_tries 50 = .ok (.iadd, 1) := by decide +kernel
theorem dX5_tries_51 : decode cX5_tries 51 = .ok (.iaload, 1) := by decide +kernel
theorem dX5_tries_52 : decode cX5_tries 52 = .ok (.iastore, 1) := by decide +kernel
theorem dX5_tries_53 : decode cX5_tries 53 = .ok (.iinc 3 1, 3) := by decide +kernel
theorem dX5_tries_56 : decode cX5_tries 56 = .ok (.goto (-45), 3) := by decide +kernel
theorem dX5_tries_59 : decode cX5_tries 59 = .ok (.iconst 1, 1) := by decide +kernel
theorem dX5_tries_60 : decode cX5_tries 60 = .ok (.istore_n 3, 1) := by decide +kernel
theorem dX5_tries_61 : decode cX5_tries 61 = .ok (.bipush 12, 2) := by decide +kernel
theorem dX5_tries_63 : decode cX5_tries 63 = .ok (.iload_n 2, 1) := by decide +kernel
theorem dX5_tries_64 : decode cX5_tries 64 = .ok (.imul, 1) := by decide +kernel
theorem dX5_tries_65 : decode cX5_tries 65 = .ok (.istore 4, 2) := by decide +kernel
theorem dX5_tries_67 : decode cX5_tries 67 = .ok (.iload 4, 2) := by decide +kernel
theorem dX5_tries_69 : decode cX5_tries 69 = .ok (.bipush 12, 2) := by decide +kernel
theorem dX5_tries_71 : decode cX5_tries 71 = .ok (.iload_n 2, 1) := by decide +kernel
theorem dX5_tries_72 : decode cX5_tries 72 = .ok (.imul, 1) := by decide +kernel
theorem dX5_tries_73 : decode cX5_tries 73 = .ok (.aload_n 0, 1) := by decide +kernel
theorem dX5_tries_74 : decode cX5_tries 74 = .ok (.getfield 20, 3) := by decide +kernel
theorem dX5_tries_77 : decode cX5_tries 77 = .ok (.iload_n 2, 1) := by decide +kernel
theorem dX5_tries_78 : decode cX5_tries 78 = .ok (.iaload, 1) := by decide +kernel
theorem dX5_tries_79 : decode cX5_tries 79 = .ok (.iadd, 1) := by decide +kernel
theorem dX5_tries_80 : decode cX5_tries 80 = .ok (.if_icmp .ge 156, 3) := by decide +kernel
theorem dX5_tries_83 : decode cX5_tries 83 = .ok (.iload_n 3, 1) := by decide +kernel
theorem dX5_tries_84 : decode cX5_tries 84 = .ok (.ifCond .eq 152, 3) := by decide +kernel
theorem dX5_tries_87 : decode cX5_tries 87 = .ok (.aload_n 0, 1) := by decide +kernel
theorem dX5_tries_88 : decode cX5_tries 88 = .ok (.getfield 23, 3) := by decide +kernel
theorem dX5_tries_91 : decode cX5_tries 91 = .ok (.iload 4, 2) := by decide +kernel
theorem dX5_tries_93 : decode cX5_tries 93 = .ok (.iaload, 1) := by decide +kernel
theorem dX5_tries_94 : decode cX5_tries 94 = .ok (.istore 5, 2) := by decide +kernel
theorem dX5_tries_96 : decode cX5_tries 96 = .ok (.aload_n 0, 1) := by decide +kernel
theorem dX5_tries_97 : decode cX5_tries 97 = .ok (.getfield 53, 3) := by decide +kernel
theorem dX5_tries_100 : decode cX5_tries 100 = .ok (.iconst 2, 1) := by decide +kernel
theorem dX5_tries_101 : decode cX5_tries 101 = .ok (.iload_n 1, 1) := by decide +kernel
theorem dX5_tries_102 : decode cX5_tries 102 = .ok (.imul, 1) := by decide +kernel
theorem dX5_tries_103 : decode cX5_tries 103 = .ok (.iload 5, 2) := by decide +kernel
theorem dX5_tries_105 : decode cX5_tries 105 = .ok (.iadd, 1) := by decide +kernel
theorem dX5_tries_106 : decode cX5_tries 106 = .ok (.iaload, 1) := by decide +kernel
theorem dX5_tries_107 : decode cX5_tries 107 = .ok (.iconst 0, 1) := by decide +kernel
theorem dX5_tries_108 : decode cX5_tries 108 = .ok (.iload_n 2, 1) := by decide +kernel
theorem dX5_tries_109 : decode cX5_tries 109 = .ok (.iconst 1, 1) := by decide +kernel
theorem dX5_tries_110 : decode cX5_tries 110 = .ok (.isub, 1) := by decide +kernel
theorem dX5_tries_111 : decode cX5_tries 111 = .ok (.invokestatic 68, 3) := by decide +kernel
theorem dX5_tries_114 : decode cX5_tries 114 = .ok (.istore 6, 2) := by decide +kernel
theorem dX5_tries_116 : decode cX5_tries 116 = .ok (.iconst 0, 1) := by decide +kernel
theorem dX5_tries_117 : decode cX5_tries 117 = .ok (.istore 7, 2) := by decide +kernel
theorem dX5_tries_119 : decode cX5_tries 119 = .ok (.iload 7, 2) := by decide +kernel
theorem dX5_tries_121 : decode cX5_tries 121 = .ok (.bipush 12, 2) := by decide +kernel
theorem dX5_tries_123 : decode cX5_tries 123 = .ok (.if_icmp .ge 84, 3) := by decide +kernel
theorem dX5_tries_126 : decode cX5_tries 126 = .ok (.iload_n 3, 1) := by decide +kernel
theorem dX5_tries_127 : decode cX5_tries 127 = .ok (.ifCond .eq 80, 3) := by decide +kernel
theorem dX5_tries_130 : decode cX5_tries 130 = .ok (.iload 6, 2) := by decide +kernel
theorem dX5_tries_132 : decode cX5_tries 132 = .ok (.ifCond .eq 30, 3) := by decide +kernel
theorem dX5_tries_135 : decode cX5_tries 135 = .ok (.aload_n 0, 1) := by decide +kernel
theorem dX5_tries_136 : decode cX5_tries 136 = .ok (.getfield 26, 3) := by decide +kernel
theorem dX5_tries_139 : decode cX5_tries 139 = .ok (.iload 4, 2) := by decide +kernel
theorem dX5_tries_141 : decode cX5_tries 141 = .ok (.iaload, 1) := by decide +kernel
theorem dX5_tries_142 : decode cX5_tries 142 = .ok (.iload 7, 2) := by decide +kernel
theorem dX5_tries_144 : decode cX5_tries 144 = .ok (.if_icmp .eq 14, 3) := by decide +kernel
theorem dX5_tries_147 : decode cX5_tries 147 = .ok (.aload_n 0, 1) := by decide +kernel
theorem dX5_tries_148 : decode cX5_tries 148 = .ok (.getfield 26, 3) := by decide +kernel
theorem dX5_tries_151 : decode cX5_tries 151 = .ok (.iload 4, 2) := by decide +kernel
theorem dX5_tries_153 : decode cX5_tries 153 = .ok (.iaload, 1) := by decide +kernel
theorem dX5_tries_154 : decode cX5_tries 154 = .ok (.iconst (-1), 1) := by decide +kernel
theorem dX5_tries_155 : decode cX5_tries 155 = .ok (.if_icmp .ne 7, 3) := by decide +kernel
theorem dX5_tries_158 : decode cX5_tries 158 = .ok (.iconst 1, 1) := by decide +kernel
theorem dX5_tries_159 : decode cX5_tries 159 = .ok (.goto 4, 3) := by decide +kernel
theorem dX5_tries_162 : decode cX5_tries 162 = .ok (.iconst 0, 1) := by decide +kernel
theorem dX5_tries_163 : decode cX5_tries 163 = .ok (.istore 8, 2) := by decide +kernel
theorem dX5_tries_165 : decode cX5_tries 165 = .ok (.iload 8, 2) := by decide +kernel
theorem dX5_tries_167 : decode cX5_tries 167 = .ok (.ifCond .eq 28, 3) := by decide +kernel
theorem dX5_tries_170 : decode cX5_tries 170 = .ok (.aload_n 0, 1) := by decide +kernel
theorem dX5_tries_171 : decode cX5_tries 171 = .ok (.iload_n 1, 1) := by decide +kernel
theorem dX5_tries_172 : decode cX5_tries 172 = .ok (.iload 5, 2) := by decide +kernel
theorem dX5_tries_174 : decode cX5_tries 174 = .ok (.bipush 12, 2) := by decide +kernel
theorem dX5_tries_176 : decode cX5_tries 176 = .ok (.iload 5, 2) := by decide +kernel
theorem dX5_tries_178 : decode cX5_tries 178 = .ok (.imul, 1) := by decide +kernel
theorem dX5_tries_179 : decode cX5_tries 179 = .ok (.iload 7, 2) := by decide +kernel
theorem dX5_tries_181 : decode cX5_tries 181 = .ok (.iadd, 1) := by decide +kernel
theorem dX5_tries_182 : decode cX5_tries 182 = .ok (.aload_n 0, 1) := by decide +kernel
theorem dX5_tries_183 : decode cX5_tries 183 = .ok (.getfield 29, 3) := by decide +kernel
theorem dX5_tries_186 : decode cX5_tries 186 = .ok (.iload 4, 2) := by decide +kernel
theorem dX5_tries_188 : decode cX5_tries 188 = .ok (.iaload, 1) := by decide +kernel
theorem dX5_tries_189 : decode cX5_tries 189 = .ok (.invokevirtual 126, 3) := by decide +kernel
theorem dX5_tries_192 : decode cX5_tries 192 = .ok (.ifCond .eq 7, 3) := by decide +kernel
theorem dX5_tries_195 : decode cX5_tries 195 = .ok (.iconst 1, 1) := by decide +kernel
theorem dX5_tries_196 : decode cX5_tries 196 = .ok (.goto 4, 3) := by decide +kernel
theorem dX5_tries_199 : decode cX5_tries 199 = .ok (.iconst 0, 1) := by decide +kernel
theorem dX5_tries_200 : decode cX5_tries 200 = .ok (.istore_n 3, 1) := by decide +kernel
theorem dX5_tries_201 : decode cX5_tries 201 = .ok (.iinc 7 1, 3) := by decide +kernel
theorem dX5_tries_204 : decode cX5_tries 204 = .ok (.goto (-85), 3) := by decide +kernel
theorem dX5_tries_207 : decode cX5_tries 207 = .ok (.aload_n 0, 1) := by decide +kernel
theorem dX5_tries_208 : decode cX5_tries 208 = .ok (.getfield 59, 3) := by decide +kernel
theorem dX5_tries_211 : decode cX5_tries 211 = .ok (.iload 5, 2) := by decide +kernel
theorem dX5_tries_213 : decode cX5_tries 213 = .ok (.aload_n 0, 1) := by decide +kernel
theorem dX5_tries_214 : decode cX5_tries 214 = .ok (.getfield 26, 3) := by decide +kernel
theorem dX5_tries_217 : decode cX5_tries 217 = .ok (.iload 4, 2) := by decide +kernel
theorem dX5_tries_219 : decode cX5_tries 219 = .ok (.iaload, 1) := by decide +kernel
theorem dX5_tries_220 : decode cX5_tries 220 = .ok (.aload_n 0, 1) := by decide +kernel
theorem dX5_tries_221 : decode cX5_tries 221 = .ok (.getfield 29, 3) := by decide +kernel
theorem dX5_tries_224 : decode cX5_tries 224 = .ok (.iload 4, 2) := by decide +kernel
theorem dX5_tries_226 : decode cX5_tries 226 = .ok (.iaload, 1) := by decide +kernel
theorem dX5_tries_227 : decode cX5_tries 227 = .ok (.invokestatic 79, 3) := by decide +kernel
theorem dX5_tries_230 : decode cX5_tries 230 = .ok (.iinc 4 1, 3) := by decide +kernel
theorem dX5_tries_233 : decode cX5_tries 233 = .ok (.goto (-166), 3) := by decide +kernel
theorem dX5_tries_236 : decode cX5_tries 236 = .ok (.iconst 0, 1) := by decide +kernel
theorem dX5_tries_237 : decode cX5_tries 237 = .ok (.istore 4, 2) := by decide +kernel
theorem dX5_tries_239 : decode cX5_tries 239 = .ok (.iload 4, 2) := by decide +kernel
theorem dX5_tries_241 : decode cX5_tries 241 = .ok (.bipush 24, 2) := by decide +kernel
theorem dX5_tries_243 : decode cX5_tries 243 = .ok (.if_icmp .ge 32, 3) := by decide +kernel
theorem dX5_tries_246 : decode cX5_tries 246 = .ok (.iload_n 3, 1) := by decide +kernel
theorem dX5_tries_247 : decode cX5_tries 247 = .ok (.ifCond .eq 28, 3) := by decide +kernel
theorem dX5_tries_250 : decode cX5_tries 250 = .ok (.aload_n 0, 1) := by decide +kernel
theorem dX5_tries_251 : decode cX5_tries 251 = .ok (.getfield 56, 3) := by decide +kernel
theorem dX5_tries_254 : decode cX5_tries 254 = .ok (.bipush 24, 2) := by decide +kernel
theorem dX5_tries_256 : decode cX5_tries 256 = .ok (.iload_n 1, 1) := by decide +kernel
theorem dX5_tries_257 : decode cX5_tries 257 = .ok (.imul, 1) := by decide +kernel
theorem dX5_tries_258 : decode cX5_tries 258 = .ok (.iload 4, 2) := by decide +kernel
theorem dX5_tries_260 : decode cX5_tries 260 = .ok (.iadd, 1) := by decide +kernel
theorem dX5_tries_261 : decode cX5_tries 261 = .ok (.aload_n 0, 1) := by decide +kernel
theorem dX5_tries_262 : decode cX5_tries 262 = .ok (.getfield 62, 3) := by decide +kernel
theorem dX5_tries_265 : decode cX5_tries 265 = .ok (.iload 4, 2) := by decide +kernel
theorem dX5_tries_267 : decode cX5_tries 267 = .ok (.iaload, 1) := by decide +kernel
theorem dX5_tries_268 : decode cX5_tries 268 = .ok (.iastore, 1) := by decide +kernel
theorem dX5_tries_269 : decode cX5_tries 269 = .ok (.iinc 4 1, 3) := by decide +kernel
theorem dX5_tries_272 : decode cX5_tries 272 = .ok (.goto (-33), 3) := by decide +kernel
theorem dX5_tries_275 : decode cX5_tries 275 = .ok (.iload_n 3, 1) := by decide +kernel
theorem dX5_tries_276 : decode cX5_tries 276 = .ok (.ireturn, 1) := by decide +kernel
set_option maxRecDepth 20000 in
theorem ggX5_receive_X5_isThird : GoodIn wsX5_receive wsX5_isThird := goodIn_r _ [7, 8, 9, 6, 10] (by decide +kernel) (by decide +kernel)
set_option maxRecDepth 20000 in
theorem gX5_receive_X5_isThird : GoodIn wsX5_receive (va_wsS RX5 105 yX5_isThird wsX5_isThird) := goodIn_app (goodIn_of _ (by decide +kernel)) ggX5_receive_X5_isThird
set_option maxRecDepth 20000 in
theorem ggX5_receive_X5_isIn : GoodIn wsX5_receive wsX5_isIn := goodIn_r _ [10] (by decide +kernel) (by decide +kernel)
set_option maxRecDepth 20000 in
theorem gX5_receive_X5_isIn : GoodIn wsX5_receive (va_wsS RX5 68 yX5_isIn wsX5_isIn) := goodIn_app (goodIn_of _ (by decide +kernel)) ggX5_receive_X5_isIn
set_option maxRecDepth 20000 in
theorem ggX5_receive_X5_fails : GoodIn wsX5_receive wsX5_fails := goodIn_r _ [14, 15, 52, 53, 54, 55, 56, 57, 58, 59, 60, 61, 62, 63, 64, 65, 66, 67, 68, 69, 70, 71] (by decide +kernel) (by decide +kernel)
set_option maxRecDepth 20000 in
theorem gX5_receive_X5_fails : GoodIn wsX5_receive (wsV RX5 94 RX5 yX5_fails wsX5_fails) := goodIn_app (goodIn_of _ (by decide +kernel)) ggX5_receive_X5_fails
set_option maxRecDepth 20000 in
theorem ggX5_receive_X5_tries : GoodIn wsX5_receive wsX5_tries := goodIn_r _ [19, 2, 20, 21, 22, 23, 24, 25, 26, 27, 28, 8, 9, 6, 10, 29, 30, 31, 32, 33, 34, 35, 36, 37, 38, 39, 40, 41, 42, 43, 44, 45, 46, 47, 48, 49, 50, 51, 52, 53, 54, 55, 56, 57, 58, 59, 60, 61, 62, 63, 64, 65, 66, 67, 68, 69, 70, 71] (by decide +kernel) (by decide +kernel)
set_option maxRecDepth 20000 in
theorem gX5_receive_X5_tries : GoodIn wsX5_receive (wsV RX5 130 RX5 yX5_tries wsX5_tries) := goodIn_app (goodIn_of _ (by decide +kernel)) ggX5_receive_X5_tries
theorem dX5_receive_0 : decode cX5_receive 0 = .ok (.aload_n 0, 1) := by decide +kernel
theorem dX5_receive_1 : decode cX5_receive 1 = .ok (.iload_n 1, 1) := by decide +kernel
theorem dX5_receive_2 : decode cX5_receive 2 = .ok (.invokestatic 105, 3) := by decide +kernel
theorem dX5_receive_5 : decode cX5_receive 5 = .ok (.ifCond .ne 7, 3) := by decide +kernel
theorem dX5_receive_8 : decode cX5_receive 8 = .ok (.iconst 1, 1) := by decide +kernel
theorem dX5_receive_9 : decode cX5_receive 9 = .ok (.goto 32, 3) := by decide +kernel
theorem dX5_receive_12 : decode cX5_receive 12 = .ok (.iload_n 2, 1) := by decide +kernel
theorem dX5_receive_13 : decode cX5_receive 13 = .ok (.iconst 1, 1) := by decide +kernel
theorem dX5_receive_14 : decode cX5_receive 14 = .ok (.bipush 50, 2) := by decide +kernel
theorem dX5_receive_16 : decode cX5_receive 16 = .ok (.invokestatic 68, 3) := by decide +kernel
theorem dX5_receive_19 : decode cX5_receive 19 = .ok (.ifCond .ne 7, 3) := by decide +kernel
theorem dX5_receive_22 : decode cX5_receive 22 = .ok (.iconst 2, 1) := by decide +kernel
theorem dX5_receive_23 : decode cX5_receive 23 = .ok (.goto 18, 3) := by decide +kernel
theorem dX5_receive_26 : decode cX5_receive 26 = .ok (.aload_n 0, 1) := by decide +kernel
theorem dX5_receive_27 : decode cX5_receive 27 = .ok (.getfield 47, 3) := by decide +kernel
theorem dX5_receive_30 : decode cX5_receive 30 = .ok (.iload_n 1, 1) := by decide +kernel
theorem dX5_receive_31 : decode cX5_receive 31 = .ok (.iaload, 1) := by decide +kernel
theorem dX5_receive_32 : decode cX5_receive 32 = .ok (.iconst 1, 1) := by decide +kernel
theorem dX5_receive_33 : decode cX5_receive 33 = .ok (.if_icmp .ne 7, 3) := by decide +kernel
theorem dX5_receive_36 : decode cX5_receive 36 = .ok (.iconst 0, 1) := by decide +kernel
theorem dX5_receive_37 : decode cX5_receive 37 = .ok (.goto 4, 3) := by decide +kernel
theorem dX5_receive_40 : decode cX5_receive 40 = .ok (.iconst 3, 1) := by decide +kernel
theorem dX5_receive_41 : decode cX5_receive 41 = .ok (.invokevirtual 94, 3) := by decide +kernel
theorem dX5_receive_44 : decode cX5_receive 44 = .ok (.ifCond .eq 5, 3) := by decide +kernel
theorem dX5_receive_47 : decode cX5_receive 47 = .ok (.iconst 0, 1) := by decide +kernel
theorem dX5_receive_48 : decode cX5_receive 48 = .ok (.ireturn, 1) := by decide +kernel
theorem dX5_receive_49 : decode cX5_receive 49 = .ok (.iconst 0, 1) := by decide +kernel
theorem dX5_receive_50 : decode cX5_receive 50 = .ok (.istore_n 3, 1) := by decide +kernel
theorem dX5_receive_51 : decode cX5_receive 51 = .ok (.iload_n 3, 1) := by decide +kernel
theorem dX5_receive_52 : decode cX5_receive 52 = .ok (.iload_n 2, 1) := by decide +kernel
theorem dX5_receive_53 : decode cX5_receive 53 = .ok (.if_icmp .ge 60, 3) := by decide +kernel
theorem dX5_receive_56 : decode cX5_receive 56 = .ok (.aload_n 0, 1) := by decide +kernel
theorem dX5_receive_57 : decode cX5_receive 57 = .ok (.getfield 47, 3) := by decide +kernel
theorem dX5_receive_60 : decode cX5_receive 60 = .ok (.iload_n 1, 1) := by decide +kernel
theorem dX5_receive_61 : decode cX5_receive 61 = .ok (.iaload, 1) := by decide +kernel
theorem dX5_receive_62 : decode cX5_receive 62 = .ok (.iconst 1, 1) := by decide +kernel
theorem dX5_receive_63 : decode cX5_receive 63 = .ok (.if_icmp .ne 50, 3) := by decide +kernel
theorem dX5_receive_66 : decode cX5_receive 66 = .ok (.aload_n 0, 1) := by decide +kernel
theorem dX5_receive_67 : decode cX5_receive 67 = .ok (.getfield 50, 3) := by decide +kernel
theorem dX5_receive_70 : decode cX5_receive 70 = .ok (.iload_n 1, 1) := by decide +kernel
theorem dX5_receive_71 : decode cX5_receive 71 = .ok (.iaload, 1) := by decide +kernel
theorem dX5_receive_72 : decode cX5_receive 72 = .ok (.aload_n 0, 1) := by decide +kernel
theorem dX5_receive_73 : decode cX5_receive 73 = .ok (.getfield 76, 3) := by decide +kernel
theorem dX5_receive_76 : decode cX5_receive 76 = .ok (.if_icmp .ge 37, 3) := by decide +kernel
theorem dX5_receive_79 : decode cX5_receive 79 = .ok (.aload_n 0, 1) := by decide +kernel
theorem dX5_receive_80 : decode cX5_receive 80 = .ok (.iload_n 1, 1) := by decide +kernel
theorem dX5_receive_81 : decode cX5_receive 81 = .ok (.invokevirtual 130, 3) := by decide +kernel
theorem dX5_receive_84 : decode cX5_receive 84 = .ok (.ifCond .eq 19, 3) := by decide +kernel
theorem dX5_receive_87 : decode cX5_receive 87 = .ok (.aload_n 0, 1) := by decide +kernel
theorem dX5_receive_88 : decode cX5_receive 88 = .ok (.getfield 50, 3) := by decide +kernel
theorem dX5_receive_91 : decode cX5_receive 91 = .ok (.iload_n 1, 1) := by decide +kernel
theorem dX5_receive_92 : decode cX5_receive 92 = .ok (.dup2, 1) := by decide +kernel
theorem dX5_receive_93 : decode cX5_receive 93 = .ok (.iaload, 1) := by decide +kernel
theorem dX5_receive_94 : decode cX5_receive 94 = .ok (.iconst 1, 1) := by decide +kernel
theorem dX5_receive_95 : decode cX5_receive 95 = .ok (.iadd, 1) := by decide +kernel
theorem dX5_receive_96 : decode cX5_receive 96 = .ok (.iastore, 1) := by decide +kernel
theorem dX5_receive_97 : decode cX5_receive 97 = .ok (.iinc 3 1, 3) := by decide +kernel
theorem dX5_receive_100 : decode cX5_receive 100 = .ok (.goto (-49), 3) := by decide +kernel
theorem dX5_receive_103 : decode cX5_receive 103 = .ok (.aload_n 0, 1) := by decide +kernel
theorem dX5_receive_104 : decode cX5_receive 104 = .ok (.getfield 47, 3) := by decide +kernel
theorem dX5_receive_107 : decode cX5_receive 107 = .ok (.iload_n 1, 1) := by decide +kernel
theorem dX5_receive_108 : decode cX5_receive 108 = .ok (.iconst 2, 1) := by decide +kernel
theorem dX5_receive_109 : decode cX5_receive 109 = .ok (.iastore, 1) := by decide +kernel
theorem dX5_receive_110 : decode cX5_receive 110 = .ok (.goto (-59), 3) := by decide +kernel
theorem dX5_receive_113 : decode cX5_receive 113 = .ok (.iload_n 3, 1) := by decide +kernel
theorem dX5_receive_114 : decode cX5_receive 114 = .ok (.ireturn, 1) := by decide +kernel
set_option maxRecDepth 20000 in
theorem ggX5_goOn_X5_isThird : GoodIn wsX5_goOn wsX5_isThird := goodIn_r _ [6, 7, 8, 5, 9] (by decide +kernel) (by decide +kernel)
set_option maxRecDepth 20000 in
theorem gX5_goOn_X5_isThird : GoodIn wsX5_goOn (va_wsS RX5 105 yX5_isThird wsX5_isThird) := goodIn_app (goodIn_of _ (by decide +kernel)) ggX5_goOn_X5_isThird
set_option maxRecDepth 20000 in
theorem ggX5_goOn_X5_fails : GoodIn wsX5_goOn wsX5_fails := goodIn_r _ [13, 14, 15, 16, 17, 18, 19, 20, 21, 22, 23, 24, 25, 26, 27, 28, 29, 30, 31, 32, 33, 34] (by decide +kernel) (by decide +kernel)
set_option maxRecDepth 20000 in
theorem gX5_goOn_X5_fails : GoodIn wsX5_goOn (wsV RX5 94 RX5 yX5_fails wsX5_fails) := goodIn_app (goodIn_of _ (by decide +kernel)) ggX5_goOn_X5_fails
theorem dX5_goOn_0 : decode cX5_goOn 0 = .ok (.aload_n 0, 1) := by decide +kernel
theorem dX5_goOn_1 : decode cX5_goOn 1 = .ok (.iload_n 1, 1) := by decide +kernel
theorem dX5_goOn_2 : decode cX5_goOn 2 = .ok (.invokestatic 105, 3) := by decide +kernel
theorem dX5_goOn_5 : decode cX5_goOn 5 = .ok (.ifCond .ne 7, 3) := by decide +kernel
theorem dX5_goOn_8 : decode cX5_goOn 8 = .ok (.iconst 1, 1) := by decide +kernel
theorem dX5_goOn_9 : decode cX5_goOn 9 = .ok (.goto 18, 3) := by decide +kernel
theorem dX5_goOn_12 : decode cX5_goOn 12 = .ok (.aload_n 0, 1) := by decide +kernel
theorem dX5_goOn_13 : decode cX5_goOn 13 = .ok (.getfield 47, 3) := by decide +kernel
theorem dX5_goOn_16 : decode cX5_goOn 16 = .ok (.iload_n 1, 1) := by decide +kernel
theorem dX5_goOn_17 : decode cX5_goOn 17 = .ok (.iaload, 1) := by decide +kernel
theorem dX5_goOn_18 : decode cX5_goOn 18 = .ok (.iconst 2, 1) := by decide +kernel
theorem dX5_goOn_19 : decode cX5_goOn 19 = .ok (.if_icmp .ne 7, 3) := by decide +kernel
theorem dX5_goOn_22 : decode cX5_goOn 22 = .ok (.iconst 0, 1) := by decide +kernel
theorem dX5_goOn_23 : decode cX5_goOn 23 = .ok (.goto 4, 3) := by decide +kernel
theorem dX5_goOn_26 : decode cX5_goOn 26 = .ok (.iconst 2, 1) := by decide +kernel
theorem dX5_goOn_27 : decode cX5_goOn 27 = .ok (.invokevirtual 94, 3) := by decide +kernel
theorem dX5_goOn_30 : decode cX5_goOn 30 = .ok (.ifCond .eq 5, 3) := by decide +kernel
theorem dX5_goOn_33 : decode cX5_goOn 33 = .ok (.iconst 0, 1) := by decide +kernel
theorem dX5_goOn_34 : decode cX5_goOn 34 = .ok (.ireturn, 1) := by decide +kernel
theorem dX5_goOn_35 : decode cX5_goOn 35 = .ok (.aload_n 0, 1) := by decide +kernel
theorem dX5_goOn_36 : decode cX5_goOn 36 = .ok (.getfield 47, 3) := by decide +kernel
theorem dX5_goOn_39 : decode cX5_goOn 39 = .ok (.iload_n 1, 1) := by decide +kernel
theorem dX5_goOn_40 : decode cX5_goOn 40 = .ok (.iconst 1, 1) := by decide +kernel
theorem dX5_goOn_41 : decode cX5_goOn 41 = .ok (.iastore, 1) := by decide +kernel
theorem dX5_goOn_42 : decode cX5_goOn 42 = .ok (.aload_n 0, 1) := by decide +kernel
theorem dX5_goOn_43 : decode cX5_goOn 43 = .ok (.getfield 50, 3) := by decide +kernel
theorem dX5_goOn_46 : decode cX5_goOn 46 = .ok (.iload_n 1, 1) := by decide +kernel
theorem dX5_goOn_47 : decode cX5_goOn 47 = .ok (.dup2, 1) := by decide +kernel
theorem dX5_goOn_48 : decode cX5_goOn 48 = .ok (.iaload, 1) := by decide +kernel
theorem dX5_goOn_49 : decode cX5_goOn 49 = .ok (.iload_n 2, 1) := by decide +kernel
theorem dX5_goOn_50 : decode cX5_goOn 50 = .ok (.ifCond .eq 7, 3) := by decide +kernel
theorem dX5_goOn_53 : decode cX5_goOn 53 = .ok (.iconst 1, 1) := by decide +kernel
theorem dX5_goOn_54 : decode cX5_goOn 54 = .ok (.goto 4, 3) := by decide +kernel
theorem dX5_goOn_57 : decode cX5_goOn 57 = .ok (.iconst 0, 1) := by decide +kernel
theorem dX5_goOn_58 : decode cX5_goOn 58 = .ok (.iadd, 1) := by decide +kernel
theorem dX5_goOn_59 : decode cX5_goOn 59 = .ok (.iastore, 1) := by decide +kernel
theorem dX5_goOn_60 : decode cX5_goOn 60 = .ok (.aload_n 0, 1) := by decide +kernel
theorem dX5_goOn_61 : decode cX5_goOn 61 = .ok (.getfield 50, 3) := by decide +kernel
theorem dX5_goOn_64 : decode cX5_goOn 64 = .ok (.iload_n 1, 1) := by decide +kernel
theorem dX5_goOn_65 : decode cX5_goOn 65 = .ok (.iaload, 1) := by decide +kernel
theorem dX5_goOn_66 : decode cX5_goOn 66 = .ok (.ireturn, 1) := by decide +kernel
set_option maxRecDepth 20000 in
theorem ggX5_own_X5_isThird : GoodIn wsX5_own wsX5_isThird := goodIn_r _ [5, 6, 7, 4, 8] (by decide +kernel) (by decide +kernel)
set_option maxRecDepth 20000 in
theorem gX5_own_X5_isThird : GoodIn wsX5_own (va_wsS RX5 105 yX5_isThird wsX5_isThird) := goodIn_app (goodIn_of _ (by decide +kernel)) ggX5_own_X5_isThird
set_option maxRecDepth 20000 in
theorem ggX5_own_X5_isRow : GoodIn wsX5_own wsX5_isRow := goodIn_r _ [11, 12, 13, 4, 14, 6, 7, 8] (by decide +kernel) (by decide +kernel)
set_option maxRecDepth 20000 in
theorem gX5_own_X5_isRow : GoodIn wsX5_own (va_wsS RX5 86 yX5_isRow wsX5_isRow) := goodIn_app (goodIn_of _ (by decide +kernel)) ggX5_own_X5_isRow
set_option maxRecDepth 20000 in
theorem ggX5_own_X5_isIn : GoodIn wsX5_own wsX5_isIn := goodIn_r _ [8] (by decide +kernel) (by decide +kernel)
set_option maxRecDepth 20000 in
theorem gX5_own_X5_isIn : GoodIn wsX5_own (va_wsS RX5 68 yX5_isIn wsX5_isIn) := goodIn_app (goodIn_of _ (by decide +kernel)) ggX5_own_X5_isIn
set_option maxRecDepth 20000 in
theorem ggX5_own_X5_fails : GoodIn wsX5_own wsX5_fails := goodIn_r _ [18, 19, 20, 21, 22, 23, 24, 25, 26, 27, 28, 29, 30, 31, 32, 33, 34, 35, 36, 37, 38, 39] (by decide +kernel) (by decide +kernel)
set_option maxRecDepth 20000 in
theorem gX5_own_X5_fails : GoodIn wsX5_own (wsV RX5 94 RX5 yX5_fails wsX5_fails) := goodIn_app (goodIn_of _ (by decide +kernel)) ggX5_own_X5_fails
theorem dX5_own_0 : decode cX5_own 0 = .ok (.aload_n 0, 1) := by decide +kernel
theorem dX5_own_1 : decode cX5_own 1 = .ok (.iload_n 1, 1) := by decide +kernel
theorem dX5_own_2 : decode cX5_own 2 = .ok (.invokestatic 105, 3) := by decide +kernel
theorem dX5_own_5 : decode cX5_own 5 = .ok (.ifCond .eq 11, 3) := by decide +kernel
theorem dX5_own_8 : decode cX5_own 8 = .ok (.iload_n 2, 1) := by decide +kernel
theorem dX5_own_9 : decode cX5_own 9 = .ok (.iload_n 3, 1) := by decide +kernel
theorem dX5_own_10 : decode cX5_own 10 = .ok (.invokestatic 86, 3) := by decide +kernel
theorem dX5_own_13 : decode cX5_own 13 = .ok (.ifCond .ne 7, 3) := by decide +kernel
theorem dX5_own_16 : decode cX5_own 16 = .ok (.iconst 1, 1) := by decide +kernel
theorem dX5_own_17 : decode cX5_own 17 = .ok (.goto 19, 3) := by decide +kernel
theorem dX5_own_20 : decode cX5_own 20 = .ok (.iload 4, 2) := by decide +kernel
theorem dX5_own_22 : decode cX5_own 22 = .ok (.iconst (-1), 1) := by decide +kernel
theorem dX5_own_23 : decode cX5_own 23 = .ok (.bipush 99, 2) := by decide +kernel
theorem dX5_own_25 : decode cX5_own 25 = .ok (.invokestatic 68, 3) := by decide +kernel
theorem dX5_own_28 : decode cX5_own 28 = .ok (.ifCond .eq 7, 3) := by decide +kernel
theorem dX5_own_31 : decode cX5_own 31 = .ok (.iconst 0, 1) := by decide +kernel
theorem dX5_own_32 : decode cX5_own 32 = .ok (.goto 4, 3) := by decide +kernel
theorem dX5_own_35 : decode cX5_own 35 = .ok (.iconst 2, 1) := by decide +kernel
theorem dX5_own_36 : decode cX5_own 36 = .ok (.invokevirtual 94, 3) := by decide +kernel
theorem dX5_own_39 : decode cX5_own 39 = .ok (.ifCond .eq 5, 3) := by decide +kernel
theorem dX5_own_42 : decode cX5_own 42 = .ok (.iconst 0, 1) := by decide +kernel
theorem dX5_own_43 : decode cX5_own 43 = .ok (.ireturn, 1) := by decide +kernel
theorem dX5_own_44 : decode cX5_own 44 = .ok (.bipush 24, 2) := by decide +kernel
theorem dX5_own_46 : decode cX5_own 46 = .ok (.iload_n 1, 1) := by decide +kernel
theorem dX5_own_47 : decode cX5_own 47 = .ok (.imul, 1) := by decide +kernel
theorem dX5_own_48 : decode cX5_own 48 = .ok (.bipush 12, 2) := by decide +kernel
theorem dX5_own_50 : decode cX5_own 50 = .ok (.iload_n 2, 1) := by decide +kernel
theorem dX5_own_51 : decode cX5_own 51 = .ok (.imul, 1) := by decide +kernel
theorem dX5_own_52 : decode cX5_own 52 = .ok (.iadd, 1) := by decide +kernel
theorem dX5_own_53 : decode cX5_own 53 = .ok (.iload_n 3, 1) := by decide +kernel
theorem dX5_own_54 : decode cX5_own 54 = .ok (.iadd, 1) := by decide +kernel
theorem dX5_own_55 : decode cX5_own 55 = .ok (.istore 5, 2) := by decide +kernel
theorem dX5_own_57 : decode cX5_own 57 = .ok (.aload_n 0, 1) := by decide +kernel
theorem dX5_own_58 : decode cX5_own 58 = .ok (.getfield 56, 3) := by decide +kernel
theorem dX5_own_61 : decode cX5_own 61 = .ok (.iload 5, 2) := by decide +kernel
theorem dX5_own_63 : decode cX5_own 63 = .ok (.iaload, 1) := by decide +kernel
theorem dX5_own_64 : decode cX5_own 64 = .ok (.iconst (-1), 1) := by decide +kernel
theorem dX5_own_65 : decode cX5_own 65 = .ok (.if_icmp .eq 7, 3) := by decide +kernel
theorem dX5_own_68 : decode cX5_own 68 = .ok (.iconst 1, 1) := by decide +kernel
theorem dX5_own_69 : decode cX5_own 69 = .ok (.goto 4, 3) := by decide +kernel
theorem dX5_own_72 : decode cX5_own 72 = .ok (.iconst 0, 1) := by decide +kernel
theorem dX5_own_73 : decode cX5_own 73 = .ok (.istore 6, 2) := by decide +kernel
theorem dX5_own_75 : decode cX5_own 75 = .ok (.aload_n 0, 1) := by decide +kernel
theorem dX5_own_76 : decode cX5_own 76 = .ok (.getfield 56, 3) := by decide +kernel
theorem dX5_own_79 : decode cX5_own 79 = .ok (.iload 5, 2) := by decide +kernel
theorem dX5_own_81 : decode cX5_own 81 = .ok (.iload 4, 2) := by decide +kernel
theorem dX5_own_83 : decode cX5_own 83 = .ok (.iconst (-1), 1) := by decide +kernel
theorem dX5_own_84 : decode cX5_own 84 = .ok (.if_icmp .ne 7, 3) := by decide +kernel
theorem dX5_own_87 : decode cX5_own 87 = .ok (.iconst (-1), 1) := by decide +kernel
theorem dX5_own_88 : decode cX5_own 88 = .ok (.goto 9, 3) := by decide +kernel
theorem dX5_own_91 : decode cX5_own 91 = .ok (.sipush 10101, 3) := by decide +kernel
theorem dX5_own_94 : decode cX5_own 94 = .ok (.iload 4, 2) := by decide +kernel
theorem dX5_own_96 : decode cX5_own 96 = .ok (.imul, 1) := by decide +kernel
theorem dX5_own_97 : decode cX5_own 97 = .ok (.iastore, 1) := by decide +kernel
theorem dX5_own_98 : decode cX5_own 98 = .ok (.iload 6, 2) := by decide +kernel
theorem dX5_own_100 : decode cX5_own 100 = .ok (.ireturn, 1) := by decide +kernel
set_option maxRecDepth 20000 in
theorem ggX5_state_X5_isThird : GoodIn wsX5_state wsX5_isThird := goodIn_r _ [5, 6, 7, 4, 8] (by decide +kernel) (by decide +kernel)
set_option maxRecDepth 20000 in
theorem gX5_state_X5_isThird : GoodIn wsX5_state (va_wsS RX5 105 yX5_isThird wsX5_isThird) := goodIn_app (goodIn_of _ (by decide +kernel)) ggX5_state_X5_isThird
set_option maxRecDepth 20000 in
theorem ggX5_state_X5_fails : GoodIn wsX5_state wsX5_fails := goodIn_r _ [12, 13, 14, 15, 16, 17, 18, 19, 20, 21, 22, 23, 24, 25, 26, 27, 28, 29, 30, 31, 32, 33] (by decide +kernel) (by decide +kernel)
set_option maxRecDepth 20000 in
theorem gX5_state_X5_fails : GoodIn wsX5_state (wsV RX5 94 RX5 yX5_fails wsX5_fails) := goodIn_app (goodIn_of _ (by decide +kernel)) ggX5_state_X5_fails
theorem dX5_state_0 : decode cX5_state 0 = .ok (.aload_n 0, 1) := by decide +kernel
theorem dX5_state_1 : decode cX5_state 1 = .ok (.iload_n 1, 1) := by decide +kernel
theorem dX5_state_2 : decode cX5_state 2 = .ok (.invokestatic 105, 3) := by decide +kernel
theorem dX5_state_5 : decode cX5_state 5 = .ok (.ifCond .eq 7, 3) := by decide +kernel
theorem dX5_state_8 : decode cX5_state 8 = .ok (.iconst 0, 1) := by decide +kernel
theorem dX5_state_9 : decode cX5_state 9 = .ok (.goto 4, 3) := by decide +kernel
theorem dX5_state_12 : decode cX5_state 12 = .ok (.iconst 1, 1) := by decide +kernel
theorem dX5_state_13 : decode cX5_state 13 = .ok (.invokevirtual 94, 3) := by decide +kernel
theorem dX5_state_16 : decode cX5_state 16 = .ok (.ifCond .eq 7, 3) := by decide +kernel
theorem dX5_state_19 : decode cX5_state 19 = .ok (.iconst 0, 1) := by decide +kernel
theorem dX5_state_20 : decode cX5_state 20 = .ok (.goto 9, 3) := by decide +kernel
theorem dX5_state_23 : decode cX5_state 23 = .ok (.aload_n 0, 1) := by decide +kernel
theorem dX5_state_24 : decode cX5_state 24 = .ok (.getfield 47, 3) := by decide +kernel
theorem dX5_state_27 : decode cX5_state 27 = .ok (.iload_n 1, 1) := by decide +kernel
theorem dX5_state_28 : decode cX5_state 28 = .ok (.iaload, 1) := by decide +kernel
theorem dX5_state_29 : decode cX5_state 29 = .ok (.ireturn, 1) := by decide +kernel
set_option maxRecDepth 20000 in
theorem ggX5_lag_X5_isThird : GoodIn wsX5_lag wsX5_isThird := goodIn_r _ [7, 8, 9, 6, 10] (by decide +kernel) (by decide +kernel)
set_option maxRecDepth 20000 in
theorem gX5_lag_X5_isThird : GoodIn wsX5_lag (va_wsS RX5 105 yX5_isThird wsX5_isThird) := goodIn_app (goodIn_of _ (by decide +kernel)) ggX5_lag_X5_isThird
set_option maxRecDepth 20000 in
theorem ggX5_lag_X5_fails : GoodIn wsX5_lag wsX5_fails := goodIn_r _ [14, 15, 16, 17, 18, 19, 20, 21, 22, 23, 24, 25, 26, 27, 28, 29, 30, 31, 32, 33, 34, 35] (by decide +kernel) (by decide +kernel)
set_option maxRecDepth 20000 in
theorem gX5_lag_X5_fails : GoodIn wsX5_lag (wsV RX5 94 RX5 yX5_fails wsX5_fails) := goodIn_app (goodIn_of _ (by decide +kernel)) ggX5_lag_X5_fails
set_option maxRecDepth 20000 in
theorem ggX5_lag_X5_isIn : GoodIn wsX5_lag wsX5_isIn := goodIn_r _ [10] (by decide +kernel) (by decide +kernel)
set_option maxRecDepth 20000 in
theorem gX5_lag_X5_isIn : GoodIn wsX5_lag (va_wsS RX5 68 yX5_isIn wsX5_isIn) := goodIn_app (goodIn_of _ (by decide +kernel)) ggX5_lag_X5_isIn
theorem dX5_lag_0 : decode cX5_lag 0 = .ok (.aload_n 0, 1) := by decide +kernel
theorem dX5_lag_1 : decode cX5_lag 1 = .ok (.iload_n 1, 1) := by decide +kernel
theorem dX5_lag_2 : decode cX5_lag 2 = .ok (.invokestatic 105, 3) := by decide +kernel
theorem dX5_lag_5 : decode cX5_lag 5 = .ok (.ifCond .eq 7, 3) := by decide +kernel
theorem dX5_lag_8 : decode cX5_lag 8 = .ok (.iconst 0, 1) := by decide +kernel
theorem dX5_lag_9 : decode cX5_lag 9 = .ok (.goto 4, 3) := by decide +kernel
theorem dX5_lag_12 : decode cX5_lag 12 = .ok (.iconst 1, 1) := by decide +kernel
theorem dX5_lag_13 : decode cX5_lag 13 = .ok (.invokevirtual 94, 3) := by decide +kernel
theorem dX5_lag_16 : decode cX5_lag 16 = .ok (.ifCond .eq 7, 3) := by decide +kernel
theorem dX5_lag_19 : decode cX5_lag 19 = .ok (.iconst 0, 1) := by decide +kernel
theorem dX5_lag_20 : decode cX5_lag 20 = .ok (.goto 32, 3) := by decide +kernel
theorem dX5_lag_23 : decode cX5_lag 23 = .ok (.aload_n 0, 1) := by decide +kernel
theorem dX5_lag_24 : decode cX5_lag 24 = .ok (.getfield 47, 3) := by decide +kernel
theorem dX5_lag_27 : decode cX5_lag 27 = .ok (.iload_n 1, 1) := by decide +kernel
theorem dX5_lag_28 : decode cX5_lag 28 = .ok (.iaload, 1) := by decide +kernel
theorem dX5_lag_29 : decode cX5_lag 29 = .ok (.iconst 1, 1) := by decide +kernel
theorem dX5_lag_30 : decode cX5_lag 30 = .ok (.iconst 2, 1) := by decide +kernel
theorem dX5_lag_31 : decode cX5_lag 31 = .ok (.invokestatic 68, 3) := by decide +kernel
theorem dX5_lag_34 : decode cX5_lag 34 = .ok (.ifCond .eq 17, 3) := by decide +kernel
theorem dX5_lag_37 : decode cX5_lag 37 = .ok (.aload_n 0, 1) := by decide +kernel
theorem dX5_lag_38 : decode cX5_lag 38 = .ok (.getfield 76, 3) := by decide +kernel
theorem dX5_lag_41 : decode cX5_lag 41 = .ok (.aload_n 0, 1) := by decide +kernel
theorem dX5_lag_42 : decode cX5_lag 42 = .ok (.getfield 50, 3) := by decide +kernel
theorem dX5_lag_45 : decode cX5_lag 45 = .ok (.iload_n 1, 1) := by decide +kernel
theorem dX5_lag_46 : decode cX5_lag 46 = .ok (.iaload, 1) := by decide +kernel
theorem dX5_lag_47 : decode cX5_lag 47 = .ok (.isub, 1) := by decide +kernel
theorem dX5_lag_48 : decode cX5_lag 48 = .ok (.goto 4, 3) := by decide +kernel
theorem dX5_lag_51 : decode cX5_lag 51 = .ok (.iconst 0, 1) := by decide +kernel
theorem dX5_lag_52 : decode cX5_lag 52 = .ok (.ireturn, 1) := by decide +kernel
set_option maxRecDepth 20000 in
theorem ggX5_copiedAt_X5_isThird : GoodIn wsX5_copiedAt wsX5_isThird := goodIn_r _ [5, 6, 7, 4, 8] (by decide +kernel) (by decide +kernel)
set_option maxRecDepth 20000 in
theorem gX5_copiedAt_X5_isThird : GoodIn wsX5_copiedAt (va_wsS RX5 105 yX5_isThird wsX5_isThird) := goodIn_app (goodIn_of _ (by decide +kernel)) ggX5_copiedAt_X5_isThird
set_option maxRecDepth 20000 in
theorem ggX5_copiedAt_X5_isTable : GoodIn wsX5_copiedAt wsX5_isTable := goodIn_r _ [11, 6, 7, 4, 8] (by decide +kernel) (by decide +kernel)
set_option maxRecDepth 20000 in
theorem gX5_copiedAt_X5_isTable : GoodIn wsX5_copiedAt (va_wsS RX5 72 yX5_isTable wsX5_isTable) := goodIn_app (goodIn_of _ (by decide +kernel)) ggX5_copiedAt_X5_isTable
set_option maxRecDepth 20000 in
theorem ggX5_copiedAt_X5_fails : GoodIn wsX5_copiedAt wsX5_fails := goodIn_r _ [15, 16, 17, 18, 19, 20, 21, 22, 23, 24, 25, 26, 27, 28, 29, 30, 31, 32, 33, 34, 35, 36] (by decide +kernel) (by decide +kernel)
set_option maxRecDepth 20000 in
theorem gX5_copiedAt_X5_fails : GoodIn wsX5_copiedAt (wsV RX5 94 RX5 yX5_fails wsX5_fails) := goodIn_app (goodIn_of _ (by decide +kernel)) ggX5_copiedAt_X5_fails
theorem dX5_copiedAt_0 : decode cX5_copiedAt 0 = .ok (.aload_n 0, 1) := by decide +kernel
theorem dX5_copiedAt_1 : decode cX5_copiedAt 1 = .ok (.iload_n 1, 1) := by decide +kernel
theorem dX5_copiedAt_2 : decode cX5_copiedAt 2 = .ok (.invokestatic 105, 3) := by decide +kernel
theorem dX5_copiedAt_5 : decode cX5_copiedAt 5 = .ok (.ifCond .eq 14, 3) := by decide +kernel
theorem dX5_copiedAt_8 : decode cX5_copiedAt 8 = .ok (.iload_n 2, 1) := by decide +kernel
theorem dX5_copiedAt_9 : decode cX5_copiedAt 9 = .ok (.invokestatic 72, 3) := by decide +kernel
theorem dX5_copiedAt_12 : decode cX5_copiedAt 12 = .ok (.ifCond .eq 7, 3) := by decide +kernel
theorem dX5_copiedAt_15 : decode cX5_copiedAt 15 = .ok (.iconst 0, 1) := by decide +kernel
theorem dX5_copiedAt_16 : decode cX5_copiedAt 16 = .ok (.goto 4, 3) := by decide +kernel
theorem dX5_copiedAt_19 : decode cX5_copiedAt 19 = .ok (.iconst 1, 1) := by decide +kernel
theorem dX5_copiedAt_20 : decode cX5_copiedAt 20 = .ok (.invokevirtual 94, 3) := by decide +kernel
theorem dX5_copiedAt_23 : decode cX5_copiedAt 23 = .ok (.ifCond .eq 7, 3) := by decide +kernel
theorem dX5_copiedAt_26 : decode cX5_copiedAt 26 = .ok (.iconst 0, 1) := by decide +kernel
theorem dX5_copiedAt_27 : decode cX5_copiedAt 27 = .ok (.goto 13, 3) := by decide +kernel
theorem dX5_copiedAt_30 : decode cX5_copiedAt 30 = .ok (.aload_n 0, 1) := by decide +kernel
theorem dX5_copiedAt_31 : decode cX5_copiedAt 31 = .ok (.getfield 53, 3) := by decide +kernel
theorem dX5_copiedAt_34 : decode cX5_copiedAt 34 = .ok (.iconst 2, 1) := by decide +kernel
theorem dX5_copiedAt_35 : decode cX5_copiedAt 35 = .ok (.iload_n 1, 1) := by decide +kernel
theorem dX5_copiedAt_36 : decode cX5_copiedAt 36 = .ok (.imul, 1) := by decide +kernel
theorem dX5_copiedAt_37 : decode cX5_copiedAt 37 = .ok (.iload_n 2, 1) := by decide +kernel
theorem dX5_copiedAt_38 : decode cX5_copiedAt 38 = .ok (.iadd, 1) := by decide +kernel
theorem dX5_copiedAt_39 : decode cX5_copiedAt 39 = .ok (.iaload, 1) := by decide +kernel
theorem dX5_copiedAt_40 : decode cX5_copiedAt 40 = .ok (.ireturn, 1) := by decide +kernel
set_option maxRecDepth 20000 in
theorem ggX5_seen_X5_isThird : GoodIn wsX5_seen wsX5_isThird := goodIn_r _ [5, 6, 7, 4, 8] (by decide +kernel) (by decide +kernel)
set_option maxRecDepth 20000 in
theorem gX5_seen_X5_isThird : GoodIn wsX5_seen (va_wsS RX5 105 yX5_isThird wsX5_isThird) := goodIn_app (goodIn_of _ (by decide +kernel)) ggX5_seen_X5_isThird
set_option maxRecDepth 20000 in
theorem ggX5_seen_X5_isRow : GoodIn wsX5_seen wsX5_isRow := goodIn_r _ [11, 12, 13, 4, 14, 6, 7, 8] (by decide +kernel) (by decide +kernel)
set_option maxRecDepth 20000 in
theorem gX5_seen_X5_isRow : GoodIn wsX5_seen (va_wsS RX5 86 yX5_isRow wsX5_isRow) := goodIn_app (goodIn_of _ (by decide +kernel)) ggX5_seen_X5_isRow
set_option maxRecDepth 20000 in
theorem ggX5_seen_X5_fails : GoodIn wsX5_seen wsX5_fails := goodIn_r _ [18, 19, 23, 24, 25, 26, 27, 28, 29, 30, 31, 32, 33, 34, 35, 36, 37, 38, 39, 40, 41, 42] (by decide +kernel) (by decide +kernel)
set_option maxRecDepth 20000 in
theorem gX5_seen_X5_fails : GoodIn wsX5_seen (wsV RX5 94 RX5 yX5_fails wsX5_fails) := goodIn_app (goodIn_of _ (by decide +kernel)) ggX5_seen_X5_fails
set_option maxRecDepth 20000 in
theorem ggX5_seen_X5_numberOf : GoodIn wsX5_seen wsX5_numberOf := goodIn_r _ [22] (by decide +kernel) (by decide +kernel)
set_option maxRecDepth 20000 in
theorem gX5_seen_X5_numberOf : GoodIn wsX5_seen (va_wsS RX5 108 yX5_numberOf wsX5_numberOf) := goodIn_app (goodIn_of _ (by decide +kernel)) ggX5_seen_X5_numberOf
theorem dX5_seen_0 : decode cX5_seen 0 = .ok (.iload_n 1, 1) := by decide +kernel
theorem dX5_seen_1 : decode cX5_seen 1 = .ok (.invokestatic 105, 3) := by decide +kernel
theorem dX5_seen_4 : decode cX5_seen 4 = .ok (.ifCond .eq 23, 3) := by decide +kernel
theorem dX5_seen_7 : decode cX5_seen 7 = .ok (.iload_n 2, 1) := by decide +kernel
theorem dX5_seen_8 : decode cX5_seen 8 = .ok (.iload_n 3, 1) := by decide +kernel
theorem dX5_seen_9 : decode cX5_seen 9 = .ok (.invokestatic 86, 3) := by decide +kernel
theorem dX5_seen_12 : decode cX5_seen 12 = .ok (.ifCond .eq 15, 3) := by decide +kernel
theorem dX5_seen_15 : decode cX5_seen 15 = .ok (.iload 4, 2) := by decide +kernel
theorem dX5_seen_17 : decode cX5_seen 17 = .ok (.invokestatic 105, 3) := by decide +kernel
theorem dX5_seen_20 : decode cX5_seen 20 = .ok (.ifCond .eq 7, 3) := by decide +kernel
theorem dX5_seen_23 : decode cX5_seen 23 = .ok (.iconst 1, 1) := by decide +kernel
theorem dX5_seen_24 : decode cX5_seen 24 = .ok (.goto 4, 3) := by decide +kernel
theorem dX5_seen_27 : decode cX5_seen 27 = .ok (.iconst 0, 1) := by decide +kernel
theorem dX5_seen_28 : decode cX5_seen 28 = .ok (.istore 5, 2) := by decide +kernel
theorem dX5_seen_30 : decode cX5_seen 30 = .ok (.aload_n 0, 1) := by decide +kernel
theorem dX5_seen_31 : decode cX5_seen 31 = .ok (.iload 5, 2) := by decide +kernel
theorem dX5_seen_33 : decode cX5_seen 33 = .ok (.ifCond .eq 7, 3) := by decide +kernel
theorem dX5_seen_36 : decode cX5_seen 36 = .ok (.iconst 0, 1) := by decide +kernel
theorem dX5_seen_37 : decode cX5_seen 37 = .ok (.goto 4, 3) := by decide +kernel
theorem dX5_seen_40 : decode cX5_seen 40 = .ok (.iconst 1, 1) := by decide +kernel
theorem dX5_seen_41 : decode cX5_seen 41 = .ok (.invokevirtual 94, 3) := by decide +kernel
theorem dX5_seen_44 : decode cX5_seen 44 = .ok (.ifCond .eq 7, 3) := by decide +kernel
theorem dX5_seen_47 : decode cX5_seen 47 = .ok (.iconst 0, 1) := by decide +kernel
theorem dX5_seen_48 : decode cX5_seen 48 = .ok (.goto 24, 3) := by decide +kernel
theorem dX5_seen_51 : decode cX5_seen 51 = .ok (.aload_n 0, 1) := by decide +kernel
theorem dX5_seen_52 : decode cX5_seen 52 = .ok (.getfield 56, 3) := by decide +kernel
theorem dX5_seen_55 : decode cX5_seen 55 = .ok (.bipush 24, 2) := by decide +kernel
theorem dX5_seen_57 : decode cX5_seen 57 = .ok (.iload_n 1, 1) := by decide +kernel
theorem dX5_seen_58 : decode cX5_seen 58 = .ok (.imul, 1) := by decide +kernel
theorem dX5_seen_59 : decode cX5_seen 59 = .ok (.bipush 12, 2) := by decide +kernel
theorem dX5_seen_61 : decode cX5_seen 61 = .ok (.iload_n 2, 1) := by decide +kernel
theorem dX5_seen_62 : decode cX5_seen 62 = .ok (.imul, 1) := by decide +kernel
theorem dX5_seen_63 : decode cX5_seen 63 = .ok (.iadd, 1) := by decide +kernel
theorem dX5_seen_64 : decode cX5_seen 64 = .ok (.iload_n 3, 1) := by decide +kernel
theorem dX5_seen_65 : decode cX5_seen 65 = .ok (.iadd, 1) := by decide +kernel
theorem dX5_seen_66 : decode cX5_seen 66 = .ok (.iaload, 1) := by decide +kernel
theorem dX5_seen_67 : decode cX5_seen 67 = .ok (.iload 4, 2) := by decide +kernel
theorem dX5_seen_69 : decode cX5_seen 69 = .ok (.invokestatic 108, 3) := by decide +kernel
theorem dX5_seen_72 : decode cX5_seen 72 = .ok (.ireturn, 1) := by decide +kernel
set_option maxRecDepth 20000 in
theorem ggX5_isFaithful_X5_isThird : GoodIn wsX5_isFaithful wsX5_isThird := goodIn_r _ [9, 10, 11, 8, 12] (by decide +kernel) (by decide +kernel)
set_option maxRecDepth 20000 in
theorem gX5_isFaithful_X5_isThird : GoodIn wsX5_isFaithful (va_wsS RX5 105 yX5_isThird wsX5_isThird) := goodIn_app (goodIn_of _ (by decide +kernel)) ggX5_isFaithful_X5_isThird
set_option maxRecDepth 20000 in
theorem ggX5_isFaithful_X5_isTable : GoodIn wsX5_isFaithful wsX5_isTable := goodIn_r _ [15, 10, 11, 8, 12] (by decide +kernel) (by decide +kernel)
set_option maxRecDepth 20000 in
theorem gX5_isFaithful_X5_isTable : GoodIn wsX5_isFaithful (va_wsS RX5 72 yX5_isTable wsX5_isTable) := goodIn_app (goodIn_of _ (by decide +kernel)) ggX5_isFaithful_X5_isTable
set_option maxRecDepth 20000 in
theorem ggX5_isFaithful_X5_isIn : GoodIn wsX5_isFaithful wsX5_isIn := goodIn_r _ [12] (by decide +kernel) (by decide +kernel)
set_option maxRecDepth 20000 in
theorem gX5_isFaithful_X5_isIn : GoodIn wsX5_isFaithful (va_wsS RX5 68 yX5_isIn wsX5_isIn) := goodIn_app (goodIn_of _ (by decide +kernel)) ggX5_isFaithful_X5_isIn
set_option maxRecDepth 20000 in
theorem ggX5_isFaithful_X5_fails : GoodIn wsX5_isFaithful wsX5_fails := goodIn_r _ [19, 20, 41, 42, 43, 44, 45, 46, 47, 48, 49, 50, 51, 52, 53, 54, 55, 56, 57, 58, 59, 60] (by decide +kernel) (by decide +kernel)
set_option maxRecDepth 20000 in
theorem gX5_isFaithful_X5_fails : GoodIn wsX5_isFaithful (wsV RX5 94 RX5 yX5_fails wsX5_fails) := goodIn_app (goodIn_of _ (by decide +kernel)) ggX5_isFaithful_X5_fails
set_option maxRecDepth 20000 in
theorem ggX5_isFaithful_X5_chosenAt : GoodIn wsX5_isFaithful wsX5_chosenAt := goodIn_r _ [24, 25, 26, 27, 28, 8, 29, 30, 31, 32, 33, 34, 35, 36, 37, 38, 39, 40, 41, 42, 43, 44, 45, 46, 47, 48, 49, 50, 51, 52, 53, 54, 55, 56, 57, 58, 59, 60] (by decide +kernel) (by decide +kernel)
set_option maxRecDepth 20000 in
theorem gX5_isFaithful_X5_chosenAt : GoodIn wsX5_isFaithful (wsV RX5 122 RX5 yX5_chosenAt wsX5_chosenAt) := goodIn_app (goodIn_of _ (by decide +kernel)) ggX5_isFaithful_X5_chosenAt
theorem dX5_isFaithful_0 : decode cX5_isFaithful 0 = .ok (.iload_n 1, 1) := by decide +kernel
theorem dX5_isFaithful_1 : decode cX5_isFaithful 1 = .ok (.invokestatic 105, 3) := by decide +kernel
theorem dX5_isFaithful_4 : decode cX5_isFaithful 4 = .ok (.ifCond .eq 14, 3) := by decide +kernel
theorem dX5_isFaithful_7 : decode cX5_isFaithful 7 = .ok (.iload_n 2, 1) := by decide +kernel
theorem dX5_isFaithful_8 : decode cX5_isFaithful 8 = .ok (.invokestatic 72, 3) := by decide +kernel
theorem dX5_isFaithful_11 : decode cX5_isFaithful 11 = .ok (.ifCond .eq 7, 3) := by decide +kernel
theorem dX5_isFaithful_14 : decode cX5_isFaithful 14 = .ok (.iconst 1, 1) := by decide +kernel
theorem dX5_isFaithful_15 : decode cX5_isFaithful 15 = .ok (.goto 4, 3) := by decide +kernel
theorem dX5_isFaithful_18 : decode cX5_isFaithful 18 = .ok (.iconst 0, 1) := by decide +kernel
theorem dX5_isFaithful_19 : decode cX5_isFaithful 19 = .ok (.istore_n 3, 1) := by decide +kernel
theorem dX5_isFaithful_20 : decode cX5_isFaithful 20 = .ok (.aload_n 0, 1) := by decide +kernel
theorem dX5_isFaithful_21 : decode cX5_isFaithful 21 = .ok (.iload_n 3, 1) := by decide +kernel
theorem dX5_isFaithful_22 : decode cX5_isFaithful 22 = .ok (.ifCond .ne 7, 3) := by decide +kernel
theorem dX5_isFaithful_25 : decode cX5_isFaithful 25 = .ok (.iconst 1, 1) := by decide +kernel
theorem dX5_isFaithful_26 : decode cX5_isFaithful 26 = .ok (.goto 36, 3) := by decide +kernel
theorem dX5_isFaithful_29 : decode cX5_isFaithful 29 = .ok (.aload_n 0, 1) := by decide +kernel
theorem dX5_isFaithful_30 : decode cX5_isFaithful 30 = .ok (.getfield 47, 3) := by decide +kernel
theorem dX5_isFaithful_33 : decode cX5_isFaithful 33 = .ok (.iload_n 1, 1) := by decide +kernel
theorem dX5_isFaithful_34 : decode cX5_isFaithful 34 = .ok (.iaload, 1) := by decide +kernel
theorem dX5_isFaithful_35 : decode cX5_isFaithful 35 = .ok (.iconst 1, 1) := by decide +kernel
theorem dX5_isFaithful_36 : decode cX5_isFaithful 36 = .ok (.iconst 2, 1) := by decide +kernel
theorem dX5_isFaithful_37 : decode cX5_isFaithful 37 = .ok (.invokestatic 68, 3) := by decide +kernel
theorem dX5_isFaithful_40 : decode cX5_isFaithful 40 = .ok (.ifCond .eq 17, 3) := by decide +kernel
theorem dX5_isFaithful_43 : decode cX5_isFaithful 43 = .ok (.aload_n 0, 1) := by decide +kernel
theorem dX5_isFaithful_44 : decode cX5_isFaithful 44 = .ok (.getfield 53, 3) := by decide +kernel
theorem dX5_isFaithful_47 : decode cX5_isFaithful 47 = .ok (.iconst 2, 1) := by decide +kernel
theorem dX5_isFaithful_48 : decode cX5_isFaithful 48 = .ok (.iload_n 1, 1) := by decide +kernel
theorem dX5_isFaithful_49 : decode cX5_isFaithful 49 = .ok (.imul, 1) := by decide +kernel
theorem dX5_isFaithful_50 : decode cX5_isFaithful 50 = .ok (.iload_n 2, 1) := by decide +kernel
theorem dX5_isFaithful_51 : decode cX5_isFaithful 51 = .ok (.iadd, 1) := by decide +kernel
theorem dX5_isFaithful_52 : decode cX5_isFaithful 52 = .ok (.iaload, 1) := by decide +kernel
theorem dX5_isFaithful_53 : decode cX5_isFaithful 53 = .ok (.iconst (-1), 1) := by decide +kernel
theorem dX5_isFaithful_54 : decode cX5_isFaithful 54 = .ok (.if_icmp .ne 7, 3) := by decide +kernel
theorem dX5_isFaithful_57 : decode cX5_isFaithful 57 = .ok (.iconst 2, 1) := by decide +kernel
theorem dX5_isFaithful_58 : decode cX5_isFaithful 58 = .ok (.goto 4, 3) := by decide +kernel
theorem dX5_isFaithful_61 : decode cX5_isFaithful 61 = .ok (.iconst 0, 1) := by decide +kernel
theorem dX5_isFaithful_62 : decode cX5_isFaithful 62 = .ok (.invokevirtual 94, 3) := by decide +kernel
theorem dX5_isFaithful_65 : decode cX5_isFaithful 65 = .ok (.ifCond .eq 5, 3) := by decide +kernel
theorem dX5_isFaithful_68 : decode cX5_isFaithful 68 = .ok (.iconst 0, 1) := by decide +kernel
theorem dX5_isFaithful_69 : decode cX5_isFaithful 69 = .ok (.ireturn, 1) := by decide +kernel
theorem dX5_isFaithful_70 : decode cX5_isFaithful 70 = .ok (.aload_n 0, 1) := by decide +kernel
theorem dX5_isFaithful_71 : decode cX5_isFaithful 71 = .ok (.getfield 53, 3) := by decide +kernel
theorem dX5_isFaithful_74 : decode cX5_isFaithful 74 = .ok (.iconst 2, 1) := by decide +kernel
theorem dX5_isFaithful_75 : decode cX5_isFaithful 75 = .ok (.iload_n 1, 1) := by decide +kernel
theorem dX5_isFaithful_76 : decode cX5_isFaithful 76 = .ok (.imul, 1) := by decide +kernel
theorem dX5_isFaithful_77 : decode cX5_isFaithful 77 = .ok (.iload_n 2, 1) := by decide +kernel
theorem dX5_isFaithful_78 : decode cX5_isFaithful 78 = .ok (.iadd, 1) := by decide +kernel
theorem dX5_isFaithful_79 : decode cX5_isFaithful 79 = .ok (.iaload, 1) := by decide +kernel
theorem dX5_isFaithful_80 : decode cX5_isFaithful 80 = .ok (.aload_n 0, 1) := by decide +kernel
theorem dX5_isFaithful_81 : decode cX5_isFaithful 81 = .ok (.getfield 50, 3) := by decide +kernel
theorem dX5_isFaithful_84 : decode cX5_isFaithful 84 = .ok (.iload_n 1, 1) := by decide +kernel
theorem dX5_isFaithful_85 : decode cX5_isFaithful 85 = .ok (.iaload, 1) := by decide +kernel
theorem dX5_isFaithful_86 : decode cX5_isFaithful 86 = .ok (.if_icmp .le 16, 3) := by decide +kernel
theorem dX5_isFaithful_89 : decode cX5_isFaithful 89 = .ok (.aload_n 0, 1) := by decide +kernel
theorem dX5_isFaithful_90 : decode cX5_isFaithful 90 = .ok (.getfield 53, 3) := by decide +kernel
theorem dX5_isFaithful_93 : decode cX5_isFaithful 93 = .ok (.iconst 2, 1) := by decide +kernel
theorem dX5_isFaithful_94 : decode cX5_isFaithful 94 = .ok (.iload_n 1, 1) := by decide +kernel
theorem dX5_isFaithful_95 : decode cX5_isFaithful 95 = .ok (.imul, 1) := by decide +kernel
theorem dX5_isFaithful_96 : decode cX5_isFaithful 96 = .ok (.iload_n 2, 1) := by decide +kernel
theorem dX5_isFaithful_97 : decode cX5_isFaithful 97 = .ok (.iadd, 1) := by decide +kernel
theorem dX5_isFaithful_98 : decode cX5_isFaithful 98 = .ok (.iaload, 1) := by decide +kernel
theorem dX5_isFaithful_99 : decode cX5_isFaithful 99 = .ok (.goto 9, 3) := by decide +kernel
theorem dX5_isFaithful_102 : decode cX5_isFaithful 102 = .ok (.aload_n 0, 1) := by decide +kernel
theorem dX5_isFaithful_103 : decode cX5_isFaithful 103 = .ok (.getfield 50, 3) := by decide +kernel
theorem dX5_isFaithful_106 : decode cX5_isFaithful 106 = .ok (.iload_n 1, 1) := by decide +kernel
theorem dX5_isFaithful_107 : decode cX5_isFaithful 107 = .ok (.iaload, 1) := by decide +kernel
theorem dX5_isFaithful_108 : decode cX5_isFaithful 108 = .ok (.istore 4, 2) := by decide +kernel
theorem dX5_isFaithful_110 : decode cX5_isFaithful 110 = .ok (.iconst 1, 1) := by decide +kernel
theorem dX5_isFaithful_111 : decode cX5_isFaithful 111 = .ok (.istore 5, 2) := by decide +kernel
theorem dX5_isFaithful_113 : decode cX5_isFaithful 113 = .ok (.iconst 0, 1) := by decide +kernel
theorem dX5_isFaithful_114 : decode cX5_isFaithful 114 = .ok (.istore 6, 2) := by decide +kernel
theorem dX5_isFaithful_116 : decode cX5_isFaithful 116 = .ok (.iload 6, 2) := by decide +kernel
theorem dX5_isFaithful_118 : decode cX5_isFaithful 118 = .ok (.bipush 12, 2) := by decide +kernel
theorem dX5_isFaithful_120 : decode cX5_isFaithful 120 = .ok (.if_icmp .ge 56, 3) := by decide +kernel
theorem dX5_isFaithful_123 : decode cX5_isFaithful 123 = .ok (.iload 5, 2) := by decide +kernel
theorem dX5_isFaithful_125 : decode cX5_isFaithful 125 = .ok (.ifCond .eq 42, 3) := by decide +kernel
theorem dX5_isFaithful_128 : decode cX5_isFaithful 128 = .ok (.aload_n 0, 1) := by decide +kernel
theorem dX5_isFaithful_129 : decode cX5_isFaithful 129 = .ok (.getfield 56, 3) := by decide +kernel
theorem dX5_isFaithful_132 : decode cX5_isFaithful 132 = .ok (.bipush 24, 2) := by decide +kernel
theorem dX5_isFaithful_134 : decode cX5_isFaithful 134 = .ok (.iload_n 1, 1) := by decide +kernel
theorem dX5_isFaithful_135 : decode cX5_isFaithful 135 = .ok (.imul, 1) := by decide +kernel
theorem dX5_isFaithful_136 : decode cX5_isFaithful 136 = .ok (.bipush 12, 2) := by decide +kernel
theorem dX5_isFaithful_138 : decode cX5_isFaithful 138 = .ok (.iload_n 2, 1) := by decide +kernel
theorem dX5_isFaithful_139 : decode cX5_isFaithful 139 = .ok (.imul, 1) := by decide +kernel
theorem dX5_isFaithful_140 : decode cX5_isFaithful 140 = .ok (.iadd, 1) := by decide +kernel
theorem dX5_isFaithful_141 : decode cX5_isFaithful 141 = .ok (.iload 6, 2) := by decide +kernel
theorem dX5_isFaithful_143 : decode cX5_isFaithful 143 = .ok (.iadd, 1) := by decide +kernel
theorem dX5_isFaithful_144 : decode cX5_isFaithful 144 = .ok (.iaload, 1) := by decide +kernel
theorem dX5_isFaithful_145 : decode cX5_isFaithful 145 = .ok (.aload_n 0, 1) := by decide +kernel
theorem dX5_isFaithful_146 : decode cX5_isFaithful 146 = .ok (.aload_n 0, 1) := by decide +kernel
theorem dX5_isFaithful_147 : decode cX5_isFaithful 147 = .ok (.getfield 44, 3) := by decide +kernel
theorem dX5_isFaithful_150 : decode cX5_isFaithful 150 = .ok (.iload_n 1, 1) := by decide +kernel
theorem dX5_isFaithful_151 : decode cX5_isFaithful 151 = .ok (.iaload, 1) := by decide +kernel
theorem dX5_isFaithful_152 : decode cX5_isFaithful 152 = .ok (.iload_n 2, 1) := by decide +kernel
theorem dX5_isFaithful_153 : decode cX5_isFaithful 153 = .ok (.iload 6, 2) := by decide +kernel
theorem dX5_isFaithful_155 : decode cX5_isFaithful 155 = .ok (.iload 4, 2) := by decide +kernel
theorem dX5_isFaithful_157 : decode cX5_isFaithful 157 = .ok (.invokevirtual 122, 3) := by decide +kernel
theorem dX5_isFaithful_160 : decode cX5_isFaithful 160 = .ok (.if_icmp .ne 7, 3) := by decide +kernel
theorem dX5_isFaithful_163 : decode cX5_isFaithful 163 = .ok (.iconst 1, 1) := by decide +kernel
theorem dX5_isFaithful_164 : decode cX5_isFaithful 164 = .ok (.goto 4, 3) := by decide +kernel
theorem dX5_isFaithful_167 : decode cX5_isFaithful 167 = .ok (.iconst 0, 1) := by decide +kernel
theorem dX5_isFaithful_168 : decode cX5_isFaithful 168 = .ok (.istore 5, 2) := by decide +kernel
theorem dX5_isFaithful_170 : decode cX5_isFaithful 170 = .ok (.iinc 6 1, 3) := by decide +kernel
theorem dX5_isFaithful_173 : decode cX5_isFaithful 173 = .ok (.goto (-57), 3) := by decide +kernel
theorem dX5_isFaithful_176 : decode cX5_isFaithful 176 = .ok (.iload 5, 2) := by decide +kernel
theorem dX5_isFaithful_178 : decode cX5_isFaithful 178 = .ok (.ireturn, 1) := by decide +kernel
end
section
theorem dJ9_max_7cf53_0 : decode cJ9_max_7cf53 0 = .ok (.iload_n 0, 1) := by decide +kernel
theorem dJ9_max_7cf53_1 : decode cJ9_max_7cf53 1 = .ok (.iload_n 1, 1) := by decide +kernel
theorem dJ9_max_7cf53_2 : decode cJ9_max_7cf53 2 = .ok (.if_icmp .lt 7, 3) := by decide +kernel
theorem dJ9_max_7cf53_5 : decode cJ9_max_7cf53 5 = .ok (.iload_n 0, 1) := by decide +kernel
theorem dJ9_max_7cf53_6 : decode cJ9_max_7cf53 6 = .ok (.goto 4, 3) := by decide +kernel
theorem dJ9_max_7cf53_9 : decode cJ9_max_7cf53 9 = .ok (.iload_n 1, 1) := by decide +kernel
theorem dJ9_max_7cf53_10 : decode cJ9_max_7cf53 10 = .ok (.ireturn, 1) := by decide +kernel
set_option maxRecDepth 20000 in
theorem ggL_put_X4_put : GoodIn wsL_put wsX4_put := goodIn_ca (goodIn_ca (goodIn_ca (goodIn_r _ [8, 9, 10, 11, 7, 12, 13, 14, 15, 16, 17, 18, 19, 20, 21, 22, 23, 24, 25, 26, 27, 28, 29, 30, 31, 32, 33, 34, 35, 36, 37, 38, 39, 40, 41, 42, 43, 44, 45, 46, 47, 48, 49, 50, 51, 52, 53, 54, 55, 56, 57, 58, 59, 60, 61] (by decide +kernel) (by decide +kernel)) (goodIn_sub (fun _ h => List.mem_cons_of_mem _ (List.mem_append_left _ (List.mem_append_left _ (List.mem_append_right _ h)))) (by decide +kernel))) (goodIn_sub (fun _ h => List.mem_cons_of_mem _ (List.mem_append_left _ (List.mem_append_right _ h))) (by decide +kernel))) (goodIn_sub (fun _ h => List.mem_cons_of_mem _ (List.mem_append_right _ h)) (by decide +kernel))
set_option maxRecDepth 20000 in
theorem gL_put_X4_put : GoodIn wsL_put (wsV RL 7 RX4 yX4_put wsX4_put) := goodIn_app (goodIn_of _ (by decide +kernel)) ggL_put_X4_put
theorem dL_put_0 : decode cL_put 0 = .ok (.aload 6, 2) := by decide +kernel
theorem dL_put_2 : decode cL_put 2 = .ok (.iconst 0, 1) := by decide +kernel
theorem dL_put_3 : decode cL_put 3 = .ok (.aload_n 0, 1) := by decide +kernel
theorem dL_put_4 : decode cL_put 4 = .ok (.iload_n 1, 1) := by decide +kernel
theorem dL_put_5 : decode cL_put 5 = .ok (.iload_n 2, 1) := by decide +kernel
theorem dL_put_6 : decode cL_put 6 = .ok (.iload_n 3, 1) := by decide +kernel
theorem dL_put_7 : decode cL_put 7 = .ok (.iload 4, 2) := by decide +kernel
theorem dL_put_9 : decode cL_put 9 = .ok (.iload 5, 2) := by decide +kernel
theorem dL_put_11 : decode cL_put 11 = .ok (.invokevirtual 7, 3) := by decide +kernel
theorem dL_put_14 : decode cL_put 14 = .ok (.ifCond .eq 7, 3) := by decide +kernel
theorem dL_put_17 : decode cL_put 17 = .ok (.lconst 1, 1) := by decide +kernel
theorem dL_put_18 : decode cL_put 18 = .ok (.goto 4, 3) := by decide +kernel
theorem dL_put_21 : decode cL_put 21 = .ok (.lconst 0, 1) := by decide +kernel
theorem dL_put_22 : decode cL_put 22 = .ok (.lastore, 1) := by decide +kernel
theorem dL_put_23 : decode cL_put 23 = .ok (.goto 15, 3) := by decide +kernel
theorem dL_put_26 : decode cL_put 26 = .ok (.astore 7, 2) := by decide +kernel
theorem dL_put_28 : decode cL_put 28 = .ok (.iconst 1, 1) := by decide +kernel
theorem dL_put_29 : decode cL_put 29 = .ok (.ireturn, 1) := by decide +kernel
theorem dL_put_30 : decode cL_put 30 = .ok (.astore 7, 2) := by decide +kernel
theorem dL_put_32 : decode cL_put 32 = .ok (.iconst 2, 1) := by decide +kernel
theorem dL_put_33 : decode cL_put 33 = .ok (.ireturn, 1) := by decide +kernel
theorem dL_put_34 : decode cL_put 34 = .ok (.astore 7, 2) := by decide +kernel
theorem dL_put_36 : decode cL_put 36 = .ok (.iconst 3, 1) := by decide +kernel
theorem dL_put_37 : decode cL_put 37 = .ok (.ireturn, 1) := by decide +kernel
theorem dL_put_38 : decode cL_put 38 = .ok (.iconst 0, 1) := by decide +kernel
theorem dL_put_39 : decode cL_put 39 = .ok (.ireturn, 1) := by decide +kernel
set_option maxRecDepth 20000 in
theorem ggL_take_X4_take : GoodIn wsL_take wsX4_take := goodIn_ca (goodIn_ca (goodIn_r _ [7, 8, 9, 10, 11, 12, 6, 13, 14, 15, 16, 17, 18, 19, 20, 21, 22, 23, 24, 25, 26, 27, 28, 29, 30, 31, 32, 33, 34, 35, 36, 37, 38, 39, 40, 41, 42, 43, 44, 45, 46, 47, 48, 49, 50, 51, 52] (by decide +kernel) (by decide +kernel)) (goodIn_sub (fun _ h => List.mem_cons_of_mem _ (List.mem_append_left _ (List.mem_append_right _ h))) (by decide +kernel))) (goodIn_sub (fun _ h => List.mem_cons_of_mem _ (List.mem_append_right _ h)) (by decide +kernel))
set_option maxRecDepth 20000 in
theorem gL_take_X4_take : GoodIn wsL_take (wsV RL 19 RX4 yX4_take wsX4_take) := goodIn_app (goodIn_of _ (by decide +kernel)) ggL_take_X4_take
theorem dL_take_0 : decode cL_take 0 = .ok (.aload_n 0, 1) := by decide +kernel
theorem dL_take_1 : decode cL_take 1 = .ok (.iload_n 1, 1) := by decide +kernel
theorem dL_take_2 : decode cL_take 2 = .ok (.iload_n 2, 1) := by decide +kernel
theorem dL_take_3 : decode cL_take 3 = .ok (.invokevirtual 19, 3) := by decide +kernel
theorem dL_take_6 : decode cL_take 6 = .ok (.goto 9, 3) := by decide +kernel
theorem dL_take_9 : decode cL_take 9 = .ok (.astore_n 3, 1) := by decide +kernel
theorem dL_take_10 : decode cL_take 10 = .ok (.iconst 1, 1) := by decide +kernel
theorem dL_take_11 : decode cL_take 11 = .ok (.ireturn, 1) := by decide +kernel
theorem dL_take_12 : decode cL_take 12 = .ok (.astore_n 3, 1) := by decide +kernel
theorem dL_take_13 : decode cL_take 13 = .ok (.iconst 2, 1) := by decide +kernel
theorem dL_take_14 : decode cL_take 14 = .ok (.ireturn, 1) := by decide +kernel
theorem dL_take_15 : decode cL_take 15 = .ok (.iconst 0, 1) := by decide +kernel
theorem dL_take_16 : decode cL_take 16 = .ok (.ireturn, 1) := by decide +kernel
set_option maxRecDepth 20000 in
theorem ggL_truncate_X4_truncate : GoodIn wsL_truncate wsX4_truncate := goodIn_ca (goodIn_ca (goodIn_r _ [7, 8, 9, 10, 6, 11, 12, 13, 14, 15, 16, 17, 18, 19, 20, 21, 22, 23, 24, 25, 26, 27, 28, 29, 30, 31, 32, 33, 34, 35, 36, 37, 38, 39, 40, 41, 42, 43, 44, 45, 46, 47, 48, 49] (by decide +kernel) (by decide +kernel)) (goodIn_sub (fun _ h => List.mem_cons_of_mem _ (List.mem_append_left _ (List.mem_append_right _ h))) (by decide +kernel))) (goodIn_sub (fun _ h => List.mem_cons_of_mem _ (List.mem_append_right _ h)) (by decide +kernel))
set_option maxRecDepth 20000 in
theorem gL_truncate_X4_truncate : GoodIn wsL_truncate (wsV RL 23 RX4 yX4_truncate wsX4_truncate) := goodIn_app (goodIn_of _ (by decide +kernel)) ggL_truncate_X4_truncate
theorem dL_truncate_0 : decode cL_truncate 0 = .ok (.aload_n 2, 1) := by decide +kernel
theorem dL_truncate_1 : decode cL_truncate 1 = .ok (.iconst 0, 1) := by decide +kernel
theorem dL_truncate_2 : decode cL_truncate 2 = .ok (.aload_n 0, 1) := by decide +kernel
theorem dL_truncate_3 : decode cL_truncate 3 = .ok (.iload_n 1, 1) := by decide +kernel
theorem dL_truncate_4 : decode cL_truncate 4 = .ok (.invokevirtual 23, 3) := by decide +kernel
theorem dL_truncate_7 : decode cL_truncate 7 = .ok (.i2l, 1) := by decide +kernel
theorem dL_truncate_8 : decode cL_truncate 8 = .ok (.lastore, 1) := by decide +kernel
theorem dL_truncate_9 : decode cL_truncate 9 = .ok (.goto 9, 3) := by decide +kernel
theorem dL_truncate_12 : decode cL_truncate 12 = .ok (.astore_n 3, 1) := by decide +kernel
theorem dL_truncate_13 : decode cL_truncate 13 = .ok (.iconst 1, 1) := by decide +kernel
theorem dL_truncate_14 : decode cL_truncate 14 = .ok (.ireturn, 1) := by decide +kernel
theorem dL_truncate_15 : decode cL_truncate 15 = .ok (.astore_n 3, 1) := by decide +kernel
theorem dL_truncate_16 : decode cL_truncate 16 = .ok (.iconst 2, 1) := by decide +kernel
theorem dL_truncate_17 : decode cL_truncate 17 = .ok (.ireturn, 1) := by decide +kernel
theorem dL_truncate_18 : decode cL_truncate 18 = .ok (.iconst 0, 1) := by decide +kernel
theorem dL_truncate_19 : decode cL_truncate 19 = .ok (.ireturn, 1) := by decide +kernel
set_option maxRecDepth 20000 in
theorem ggL_commit_X4_commit : GoodIn wsL_commit wsX4_commit := goodIn_ca (goodIn_r _ [6, 7, 8, 9, 10, 11, 12, 13, 14, 15, 16, 17, 18, 19, 20, 21, 22, 23, 24, 5, 25, 26, 27, 28, 29, 30, 31, 32, 33, 34, 35, 36, 37, 38, 39, 40, 41, 42, 43, 44, 45, 46, 47, 48, 49, 50, 51, 52, 53, 54, 55] (by decide +kernel) (by decide +kernel)) (goodIn_sub (fun _ h => List.mem_cons_of_mem _ (List.mem_append_right _ h)) (by decide +kernel))
set_option maxRecDepth 20000 in
theorem gL_commit_X4_commit : GoodIn wsL_commit (wsV RL 27 RX4 yX4_commit wsX4_commit) := goodIn_app (goodIn_of _ (by decide +kernel)) ggL_commit_X4_commit
theorem dL_commit_0 : decode cL_commit 0 = .ok (.aload_n 1, 1) := by decide +kernel
theorem dL_commit_1 : decode cL_commit 1 = .ok (.iconst 0, 1) := by decide +kernel
theorem dL_commit_2 : decode cL_commit 2 = .ok (.aload_n 0, 1) := by decide +kernel
theorem dL_commit_3 : decode cL_commit 3 = .ok (.invokevirtual 27, 3) := by decide +kernel
theorem dL_commit_6 : decode cL_commit 6 = .ok (.i2l, 1) := by decide +kernel
theorem dL_commit_7 : decode cL_commit 7 = .ok (.lastore, 1) := by decide +kernel
theorem dL_commit_8 : decode cL_commit 8 = .ok (.goto 6, 3) := by decide +kernel
theorem dL_commit_11 : decode cL_commit 11 = .ok (.astore_n 2, 1) := by decide +kernel
theorem dL_commit_12 : decode cL_commit 12 = .ok (.iconst 1, 1) := by decide +kernel
theorem dL_commit_13 : decode cL_commit 13 = .ok (.ireturn, 1) := by decide +kernel
theorem dL_commit_14 : decode cL_commit 14 = .ok (.iconst 0, 1) := by decide +kernel
theorem dL_commit_15 : decode cL_commit 15 = .ok (.ireturn, 1) := by decide +kernel
set_option maxRecDepth 20000 in
theorem ggL_at_X4_at : GoodIn wsL_at wsX4_at := goodIn_ca (goodIn_r _ [6, 7, 8, 9, 5, 10, 11, 12, 13, 14, 15, 16, 17, 18, 19, 20, 21, 22, 23, 24, 25, 26, 27, 28, 29, 30, 31, 32, 33, 34, 35, 36] (by decide +kernel) (by decide +kernel)) (goodIn_sub (fun _ h => List.mem_cons_of_mem _ (List.mem_append_right _ h)) (by decide +kernel))
set_option maxRecDepth 20000 in
theorem gL_at_X4_at : GoodIn wsL_at (wsV RL 31 RX4 yX4_at wsX4_at) := goodIn_app (goodIn_of _ (by decide +kernel)) ggL_at_X4_at
theorem dL_at_0 : decode cL_at 0 = .ok (.aload 4, 2) := by decide +kernel
theorem dL_at_2 : decode cL_at 2 = .ok (.iconst 0, 1) := by decide +kernel
theorem dL_at_3 : decode cL_at 3 = .ok (.aload_n 0, 1) := by decide +kernel
theorem dL_at_4 : decode cL_at 4 = .ok (.iload_n 1, 1) := by decide +kernel
theorem dL_at_5 : decode cL_at 5 = .ok (.iload_n 2, 1) := by decide +kernel
theorem dL_at_6 : decode cL_at 6 = .ok (.iload_n 3, 1) := by decide +kernel
theorem dL_at_7 : decode cL_at 7 = .ok (.invokevirtual 31, 3) := by decide +kernel
theorem dL_at_10 : decode cL_at 10 = .ok (.i2l, 1) := by decide +kernel
theorem dL_at_11 : decode cL_at 11 = .ok (.lastore, 1) := by decide +kernel
theorem dL_at_12 : decode cL_at 12 = .ok (.goto 7, 3) := by decide +kernel
theorem dL_at_15 : decode cL_at 15 = .ok (.astore 5, 2) := by decide +kernel
theorem dL_at_17 : decode cL_at 17 = .ok (.iconst 1, 1) := by decide +kernel
theorem dL_at_18 : decode cL_at 18 = .ok (.ireturn, 1) := by decide +kernel
theorem dL_at_19 : decode cL_at 19 = .ok (.iconst 0, 1) := by decide +kernel
theorem dL_at_20 : decode cL_at 20 = .ok (.ireturn, 1) := by decide +kernel
set_option maxRecDepth 20000 in
theorem ggL_setLimit_X4_setLimit : GoodIn wsL_setLimit wsX4_setLimit := goodIn_ca (goodIn_r _ [6, 7, 8, 9, 10, 11, 12, 5, 13, 14, 15, 16, 17, 18, 19, 20, 21, 22, 23, 24, 25, 26, 27, 28, 29, 30, 31, 32, 33, 34, 35, 36, 37, 38, 39, 40, 41, 42, 43] (by decide +kernel) (by decide +kernel)) (goodIn_sub (fun _ h => List.mem_cons_of_mem _ (List.mem_append_right _ h)) (by decide +kernel))
set_option maxRecDepth 20000 in
theorem gL_setLimit_X4_setLimit : GoodIn wsL_setLimit (wsV RL 35 RX4 yX4_setLimit wsX4_setLimit) := goodIn_app (goodIn_of _ (by decide +kernel)) ggL_setLimit_X4_setLimit
theorem dL_setLimit_0 : decode cL_setLimit 0 = .ok (.aload_n 2, 1) := by decide +kernel
theorem dL_setLimit_1 : decode cL_setLimit 1 = .ok (.iconst 0, 1) := by decide +kernel
theorem dL_setLimit_2 : decode cL_setLimit 2 = .ok (.aload_n 0, 1) := by decide +kernel
theorem dL_setLimit_3 : decode cL_setLimit 3 = .ok (.iload_n 1, 1) := by decide +kernel
theorem dL_setLimit_4 : decode cL_setLimit 4 = .ok (.invokevirtual 35, 3) := by decide +kernel
theorem dL_setLimit_7 : decode cL_setLimit 7 = .ok (.i2l, 1) := by decide +kernel
theorem dL_setLimit_8 : decode cL_setLimit 8 = .ok (.lastore, 1) := by decide +kernel
theorem dL_setLimit_9 : decode cL_setLimit 9 = .ok (.goto 6, 3) := by decide +kernel
theorem dL_setLimit_12 : decode cL_setLimit 12 = .ok (.astore_n 3, 1) := by decide +kernel
theorem dL_setLimit_13 : decode cL_setLimit 13 = .ok (.iconst 1, 1) := by decide +kernel
theorem dL_setLimit_14 : decode cL_setLimit 14 = .ok (.ireturn, 1) := by decide +kernel
theorem dL_setLimit_15 : decode cL_setLimit 15 = .ok (.iconst 0, 1) := by decide +kernel
theorem dL_setLimit_16 : decode cL_setLimit 16 = .ok (.ireturn, 1) := by decide +kernel
set_option maxRecDepth 20000 in
theorem ggL_setCondition_X4_setCondition : GoodIn wsL_setCondition wsX4_setCondition := goodIn_ca (goodIn_ca (goodIn_r _ [7, 8, 9, 10, 11, 12, 6, 13, 14, 15, 16, 17, 18, 19, 20, 21, 22, 23, 24, 25, 26, 27, 28, 29, 30, 31, 32, 33, 34, 35, 36, 37, 38, 39, 40, 41, 42, 43] (by decide +kernel) (by decide +kernel)) (goodIn_sub (fun _ h => List.mem_cons_of_mem _ (List.mem_append_left _ (List.mem_append_right _ h))) (by decide +kernel))) (goodIn_sub (fun _ h => List.mem_cons_of_mem _ (List.mem_append_right _ h)) (by decide +kernel))
set_option maxRecDepth 20000 in
theorem gL_setCondition_X4_setCondition : GoodIn wsL_setCondition (wsV RL 38 RX4 yX4_setCondition wsX4_setCondition) := goodIn_app (goodIn_of _ (by decide +kernel)) ggL_setCondition_X4_setCondition
theorem dL_setCondition_0 : decode cL_setCondition 0 = .ok (.aload 6, 2) := by decide +kernel
theorem dL_setCondition_2 : decode cL_setCondition 2 = .ok (.iconst 0, 1) := by decide +kernel
theorem dL_setCondition_3 : decode cL_setCondition 3 = .ok (.aload_n 0, 1) := by decide +kernel
theorem dL_setCondition_4 : decode cL_setCondition 4 = .ok (.iload_n 1, 1) := by decide +kernel
theorem dL_setCondition_5 : decode cL_setCondition 5 = .ok (.iload_n 2, 1) := by decide +kernel
theorem dL_setCondition_6 : decode cL_setCondition 6 = .ok (.iload_n 3, 1) := by decide +kernel
theorem dL_setCondition_7 : decode cL_setCondition 7 = .ok (.iload 4, 2) := by decide +kernel
theorem dL_setCondition_9 : decode cL_setCondition 9 = .ok (.iload 5, 2) := by decide +kernel
theorem dL_setCondition_11 : decode cL_setCondition 11 = .ok (.invokevirtual 38, 3) := by decide +kernel
theorem dL_setCondition_14 : decode cL_setCondition 14 = .ok (.i2l, 1) := by decide +kernel
theorem dL_setCondition_15 : decode cL_setCondition 15 = .ok (.lastore, 1) := by decide +kernel
theorem dL_setCondition_16 : decode cL_setCondition 16 = .ok (.goto 11, 3) := by decide +kernel
theorem dL_setCondition_19 : decode cL_setCondition 19 = .ok (.astore 7, 2) := by decide +kernel
theorem dL_setCondition_21 : decode cL_setCondition 21 = .ok (.iconst 1, 1) := by decide +kernel
theorem dL_setCondition_22 : decode cL_setCondition 22 = .ok (.ireturn, 1) := by decide +kernel
theorem dL_setCondition_23 : decode cL_setCondition 23 = .ok (.astore 7, 2) := by decide +kernel
theorem dL_setCondition_25 : decode cL_setCondition 25 = .ok (.iconst 2, 1) := by decide +kernel
theorem dL_setCondition_26 : decode cL_setCondition 26 = .ok (.ireturn, 1) := by decide +kernel
theorem dL_setCondition_27 : decode cL_setCondition 27 = .ok (.iconst 0, 1) := by decide +kernel
theorem dL_setCondition_28 : decode cL_setCondition 28 = .ok (.ireturn, 1) := by decide +kernel
set_option maxRecDepth 20000 in
theorem ggL_setColumns_X4_setColumns : GoodIn wsL_setColumns wsX4_setColumns := goodIn_ca (goodIn_ca (goodIn_r _ [7, 8, 9, 10, 11, 12, 6, 13, 14, 15, 16, 17, 18, 19, 20, 21, 22, 23, 24, 25, 26, 27, 28, 29, 30, 31, 32, 33, 34, 35, 36, 37, 38, 39, 40] (by decide +kernel) (by decide +kernel)) (goodIn_sub (fun _ h => List.mem_cons_of_mem _ (List.mem_append_left _ (List.mem_append_right _ h))) (by decide +kernel))) (goodIn_sub (fun _ h => List.mem_cons_of_mem _ (List.mem_append_right _ h)) (by decide +kernel))
set_option maxRecDepth 20000 in
theorem gL_setColumns_X4_setColumns : GoodIn wsL_setColumns (wsV RL 42 RX4 yX4_setColumns wsX4_setColumns) := goodIn_app (goodIn_of _ (by decide +kernel)) ggL_setColumns_X4_setColumns
theorem dL_setColumns_0 : decode cL_setColumns 0 = .ok (.aload 4, 2) := by decide +kernel
theorem dL_setColumns_2 : decode cL_setColumns 2 = .ok (.iconst 0, 1) := by decide +kernel
theorem dL_setColumns_3 : decode cL_setColumns 3 = .ok (.aload_n 0, 1) := by decide +kernel
theorem dL_setColumns_4 : decode cL_setColumns 4 = .ok (.iload_n 1, 1) := by decide +kernel
theorem dL_setColumns_5 : decode cL_setColumns 5 = .ok (.iload_n 2, 1) := by decide +kernel
theorem dL_setColumns_6 : decode cL_setColumns 6 = .ok (.iload_n 3, 1) := by decide +kernel
theorem dL_setColumns_7 : decode cL_setColumns 7 = .ok (.invokevirtual 42, 3) := by decide +kernel
theorem dL_setColumns_10 : decode cL_setColumns 10 = .ok (.i2l, 1) := by decide +kernel
theorem dL_setColumns_11 : decode cL_setColumns 11 = .ok (.lastore, 1) := by decide +kernel
theorem dL_setColumns_12 : decode cL_setColumns 12 = .ok (.goto 11, 3) := by decide +kernel
theorem dL_setColumns_15 : decode cL_setColumns 15 = .ok (.astore 5, 2) := by decide +kernel
theorem dL_setColumns_17 : decode cL_setColumns 17 = .ok (.iconst 1, 1) := by decide +kernel
theorem dL_setColumns_18 : decode cL_setColumns 18 = .ok (.ireturn, 1) := by decide +kernel
theorem dL_setColumns_19 : decode cL_setColumns 19 = .ok (.astore 5, 2) := by decide +kernel
theorem dL_setColumns_21 : decode cL_setColumns 21 = .ok (.iconst 2, 1) := by decide +kernel
theorem dL_setColumns_22 : decode cL_setColumns 22 = .ok (.ireturn, 1) := by decide +kernel
theorem dL_setColumns_23 : decode cL_setColumns 23 = .ok (.iconst 0, 1) := by decide +kernel
theorem dL_setColumns_24 : decode cL_setColumns 24 = .ok (.ireturn, 1) := by decide +kernel
set_option maxRecDepth 20000 in
theorem ggL_subscribe_X4_subscribe : GoodIn wsL_subscribe wsX4_subscribe := goodIn_ca (goodIn_r _ [6, 7, 8, 9, 10, 11, 5, 12, 13, 14, 15, 16, 17, 18, 19, 20, 21, 22, 23, 24, 25, 26, 27, 28, 29, 30, 31, 32, 33, 34, 35, 36, 37, 38, 39, 40, 41, 42, 43, 44, 45, 46, 47] (by decide +kernel) (by decide +kernel)) (goodIn_sub (fun _ h => List.mem_cons_of_mem _ (List.mem_append_right _ h)) (by decide +kernel))
set_option maxRecDepth 20000 in
theorem gL_subscribe_X4_subscribe : GoodIn wsL_subscribe (wsV RL 45 RX4 yX4_subscribe wsX4_subscribe) := goodIn_app (goodIn_of _ (by decide +kernel)) ggL_subscribe_X4_subscribe
theorem dL_subscribe_0 : decode cL_subscribe 0 = .ok (.aload_n 3, 1) := by decide +kernel
theorem dL_subscribe_1 : decode cL_subscribe 1 = .ok (.iconst 0, 1) := by decide +kernel
theorem dL_subscribe_2 : decode cL_subscribe 2 = .ok (.aload_n 0, 1) := by decide +kernel
theorem dL_subscribe_3 : decode cL_subscribe 3 = .ok (.iload_n 1, 1) := by decide +kernel
theorem dL_subscribe_4 : decode cL_subscribe 4 = .ok (.iload_n 2, 1) := by decide +kernel
theorem dL_subscribe_5 : decode cL_subscribe 5 = .ok (.invokevirtual 45, 3) := by decide +kernel
theorem dL_subscribe_8 : decode cL_subscribe 8 = .ok (.i2l, 1) := by decide +kernel
theorem dL_subscribe_9 : decode cL_subscribe 9 = .ok (.lastore, 1) := by decide +kernel
theorem dL_subscribe_10 : decode cL_subscribe 10 = .ok (.goto 7, 3) := by decide +kernel
theorem dL_subscribe_13 : decode cL_subscribe 13 = .ok (.astore 4, 2) := by decide +kernel
theorem dL_subscribe_15 : decode cL_subscribe 15 = .ok (.iconst 1, 1) := by decide +kernel
theorem dL_subscribe_16 : decode cL_subscribe 16 = .ok (.ireturn, 1) := by decide +kernel
theorem dL_subscribe_17 : decode cL_subscribe 17 = .ok (.iconst 0, 1) := by decide +kernel
theorem dL_subscribe_18 : decode cL_subscribe 18 = .ok (.ireturn, 1) := by decide +kernel
set_option maxRecDepth 20000 in
theorem ggL_drop_X4_drop : GoodIn wsL_drop wsX4_drop := goodIn_ca (goodIn_r _ [6, 7, 8, 9, 5, 10, 11, 12, 13, 14, 15, 16, 17, 18, 19, 20, 21, 22, 23, 24, 25, 26, 27, 28, 29, 30, 31, 32, 33, 34] (by decide +kernel) (by decide +kernel)) (goodIn_sub (fun _ h => List.mem_cons_of_mem _ (List.mem_append_right _ h)) (by decide +kernel))
set_option maxRecDepth 20000 in
theorem gL_drop_X4_drop : GoodIn wsL_drop (wsV RL 49 RX4 yX4_drop wsX4_drop) := goodIn_app (goodIn_of _ (by decide +kernel)) ggL_drop_X4_drop
theorem dL_drop_0 : decode cL_drop 0 = .ok (.aload_n 2, 1) := by decide +kernel
theorem dL_drop_1 : decode cL_drop 1 = .ok (.iconst 0, 1) := by decide +kernel
theorem dL_drop_2 : decode cL_drop 2 = .ok (.aload_n 0, 1) := by decide +kernel
theorem dL_drop_3 : decode cL_drop 3 = .ok (.iload_n 1, 1) := by decide +kernel
theorem dL_drop_4 : decode cL_drop 4 = .ok (.invokevirtual 49, 3) := by decide +kernel
theorem dL_drop_7 : decode cL_drop 7 = .ok (.i2l, 1) := by decide +kernel
theorem dL_drop_8 : decode cL_drop 8 = .ok (.lastore, 1) := by decide +kernel
theorem dL_drop_9 : decode cL_drop 9 = .ok (.goto 6, 3) := by decide +kernel
theorem dL_drop_12 : decode cL_drop 12 = .ok (.astore_n 3, 1) := by decide +kernel
theorem dL_drop_13 : decode cL_drop 13 = .ok (.iconst 1, 1) := by decide +kernel
theorem dL_drop_14 : decode cL_drop 14 = .ok (.ireturn, 1) := by decide +kernel
theorem dL_drop_15 : decode cL_drop 15 = .ok (.iconst 0, 1) := by decide +kernel
theorem dL_drop_16 : decode cL_drop 16 = .ok (.ireturn, 1) := by decide +kernel
set_option maxRecDepth 20000 in
theorem ggL_copy_X4_copy : GoodIn wsL_copy wsX4_copy := goodIn_ca (goodIn_ca (goodIn_r _ [7, 8, 9, 10, 11, 12, 13, 6, 14, 15, 16, 17, 18, 19, 20, 21, 22, 23, 24, 25, 26, 27, 28, 29, 30, 31, 32, 33, 34, 35, 36, 37, 38, 39, 40, 41, 42, 43, 44, 45, 46, 47, 48, 49, 50, 51, 52, 53, 54, 55, 56, 57, 58, 59, 60, 61, 62, 63, 64, 65] (by decide +kernel) (by decide +kernel)) (goodIn_sub (fun _ h => List.mem_cons_of_mem _ (List.mem_append_left _ (List.mem_append_right _ h))) (by decide +kernel))) (goodIn_sub (fun _ h => List.mem_cons_of_mem _ (List.mem_append_right _ h)) (by decide +kernel))
set_option maxRecDepth 20000 in
theorem gL_copy_X4_copy : GoodIn wsL_copy (wsV RL 52 RX4 yX4_copy wsX4_copy) := goodIn_app (goodIn_of _ (by decide +kernel)) ggL_copy_X4_copy
theorem dL_copy_0 : decode cL_copy 0 = .ok (.aload_n 3, 1) := by decide +kernel
theorem dL_copy_1 : decode cL_copy 1 = .ok (.iconst 0, 1) := by decide +kernel
theorem dL_copy_2 : decode cL_copy 2 = .ok (.aload_n 0, 1) := by decide +kernel
theorem dL_copy_3 : decode cL_copy 3 = .ok (.iload_n 1, 1) := by decide +kernel
theorem dL_copy_4 : decode cL_copy 4 = .ok (.iload_n 2, 1) := by decide +kernel
theorem dL_copy_5 : decode cL_copy 5 = .ok (.invokevirtual 52, 3) := by decide +kernel
theorem dL_copy_8 : decode cL_copy 8 = .ok (.i2l, 1) := by decide +kernel
theorem dL_copy_9 : decode cL_copy 9 = .ok (.lastore, 1) := by decide +kernel
theorem dL_copy_10 : decode cL_copy 10 = .ok (.goto 11, 3) := by decide +kernel
theorem dL_copy_13 : decode cL_copy 13 = .ok (.astore 4, 2) := by decide +kernel
theorem dL_copy_15 : decode cL_copy 15 = .ok (.iconst 1, 1) := by decide +kernel
theorem dL_copy_16 : decode cL_copy 16 = .ok (.ireturn, 1) := by decide +kernel
theorem dL_copy_17 : decode cL_copy 17 = .ok (.astore 4, 2) := by decide +kernel
theorem dL_copy_19 : decode cL_copy 19 = .ok (.iconst 2, 1) := by decide +kernel
theorem dL_copy_20 : decode cL_copy 20 = .ok (.ireturn, 1) := by decide +kernel
theorem dL_copy_21 : decode cL_copy 21 = .ok (.iconst 0, 1) := by decide +kernel
theorem dL_copy_22 : decode cL_copy 22 = .ok (.ireturn, 1) := by decide +kernel
set_option maxRecDepth 20000 in
theorem ggL_receive_X4_receive : GoodIn wsL_receive wsX4_receive := goodIn_ca (goodIn_ca (goodIn_ca (goodIn_r _ [8, 9, 10, 11, 12, 13, 14, 15, 16, 17, 7, 18, 19, 20, 21, 22, 23, 24, 25, 26, 27, 28, 29, 30, 31, 32, 33, 34, 35, 36, 37, 38, 39, 40, 41, 42, 43, 44, 45, 46, 47, 48, 49, 50, 51, 52, 53, 54, 55, 56, 57, 58, 59, 60, 61, 62, 63, 64, 65, 66, 67, 68, 69, 70, 71, 72, 73, 74, 75, 76, 77, 78, 79, 80, 81, 82, 83, 84, 85, 86, 87, 88, 89, 90, 91, 92] (by decide +kernel) (by decide +kernel)) (goodIn_sub (fun _ h => List.mem_cons_of_mem _ (List.mem_append_left _ (List.mem_append_left _ (List.mem_append_right _ h)))) (by decide +kernel))) (goodIn_sub (fun _ h => List.mem_cons_of_mem _ (List.mem_append_left _ (List.mem_append_right _ h))) (by decide +kernel))) (goodIn_sub (fun _ h => List.mem_cons_of_mem _ (List.mem_append_right _ h)) (by decide +kernel))
set_option maxRecDepth 20000 in
theorem gL_receive_X4_receive : GoodIn wsL_receive (wsV RL 55 RX4 yX4_receive wsX4_receive) := goodIn_app (goodIn_of _ (by decide +kernel)) ggL_receive_X4_receive
theorem dL_receive_0 : decode cL_receive 0 = .ok (.aload_n 3, 1) := by decide +kernel
theorem dL_receive_1 : decode cL_receive 1 = .ok (.iconst 0, 1) := by decide +kernel
theorem dL_receive_2 : decode cL_receive 2 = .ok (.aload_n 0, 1) := by decide +kernel
theorem dL_receive_3 : decode cL_receive 3 = .ok (.iload_n 1, 1) := by decide +kernel
theorem dL_receive_4 : decode cL_receive 4 = .ok (.iload_n 2, 1) := by decide +kernel
theorem dL_receive_5 : decode cL_receive 5 = .ok (.invokevirtual 55, 3) := by decide +kernel
theorem dL_receive_8 : decode cL_receive 8 = .ok (.i2l, 1) := by decide +kernel
theorem dL_receive_9 : decode cL_receive 9 = .ok (.lastore, 1) := by decide +kernel
theorem dL_receive_10 : decode cL_receive 10 = .ok (.goto 15, 3) := by decide +kernel
theorem dL_receive_13 : decode cL_receive 13 = .ok (.astore 4, 2) := by decide +kernel
theorem dL_receive_15 : decode cL_receive 15 = .ok (.iconst 1, 1) := by decide +kernel
theorem dL_receive_16 : decode cL_receive 16 = .ok (.ireturn, 1) := by decide +kernel
theorem dL_receive_17 : decode cL_receive 17 = .ok (.astore 4, 2) := by decide +kernel
theorem dL_receive_19 : decode cL_receive 19 = .ok (.iconst 2, 1) := by decide +kernel
theorem dL_receive_20 : decode cL_receive 20 = .ok (.ireturn, 1) := by decide +kernel
theorem dL_receive_21 : decode cL_receive 21 = .ok (.astore 4, 2) := by decide +kernel
theorem dL_receive_23 : decode cL_receive 23 = .ok (.iconst 3, 1) := by decide +kernel
theorem dL_receive_24 : decode cL_receive 24 = .ok (.ireturn, 1) := by decide +kernel
theorem dL_receive_25 : decode cL_receive 25 = .ok (.iconst 0, 1) := by decide +kernel
theorem dL_receive_26 : decode cL_receive 26 = .ok (.ireturn, 1) := by decide +kernel
set_option maxRecDepth 20000 in
theorem ggL_goOn_X4_goOn : GoodIn wsL_goOn wsX4_goOn := goodIn_ca (goodIn_ca (goodIn_r _ [7, 8, 9, 10, 11, 12, 6, 13, 14, 15, 16, 17, 18, 19, 20, 21, 22, 23, 24, 25] (by decide +kernel) (by decide +kernel)) (goodIn_sub (fun _ h => List.mem_cons_of_mem _ (List.mem_append_left _ (List.mem_append_right _ h))) (by decide +kernel))) (goodIn_sub (fun _ h => List.mem_cons_of_mem _ (List.mem_append_right _ h)) (by decide +kernel))
set_option maxRecDepth 20000 in
theorem gL_goOn_X4_goOn : GoodIn wsL_goOn (wsV RL 58 RX4 yX4_goOn wsX4_goOn) := goodIn_app (goodIn_of _ (by decide +kernel)) ggL_goOn_X4_goOn
theorem dL_goOn_0 : decode cL_goOn 0 = .ok (.aload_n 3, 1) := by decide +kernel
theorem dL_goOn_1 : decode cL_goOn 1 = .ok (.iconst 0, 1) := by decide +kernel
theorem dL_goOn_2 : decode cL_goOn 2 = .ok (.aload_n 0, 1) := by decide +kernel
theorem dL_goOn_3 : decode cL_goOn 3 = .ok (.iload_n 1, 1) := by decide +kernel
theorem dL_goOn_4 : decode cL_goOn 4 = .ok (.iload_n 2, 1) := by decide +kernel
theorem dL_goOn_5 : decode cL_goOn 5 = .ok (.invokevirtual 58, 3) := by decide +kernel
theorem dL_goOn_8 : decode cL_goOn 8 = .ok (.i2l, 1) := by decide +kernel
theorem dL_goOn_9 : decode cL_goOn 9 = .ok (.lastore, 1) := by decide +kernel
theorem dL_goOn_10 : decode cL_goOn 10 = .ok (.goto 11, 3) := by decide +kernel
theorem dL_goOn_13 : decode cL_goOn 13 = .ok (.astore 4, 2) := by decide +kernel
theorem dL_goOn_15 : decode cL_goOn 15 = .ok (.iconst 1, 1) := by decide +kernel
theorem dL_goOn_16 : decode cL_goOn 16 = .ok (.ireturn, 1) := by decide +kernel
theorem dL_goOn_17 : decode cL_goOn 17 = .ok (.astore 4, 2) := by decide +kernel
theorem dL_goOn_19 : decode cL_goOn 19 = .ok (.iconst 2, 1) := by decide +kernel
theorem dL_goOn_20 : decode cL_goOn 20 = .ok (.ireturn, 1) := by decide +kernel
theorem dL_goOn_21 : decode cL_goOn 21 = .ok (.iconst 0, 1) := by decide +kernel
theorem dL_goOn_22 : decode cL_goOn 22 = .ok (.ireturn, 1) := by decide +kernel
set_option maxRecDepth 20000 in
theorem ggL_own_X4_own : GoodIn wsL_own wsX4_own := goodIn_ca (goodIn_ca (goodIn_r _ [7, 8, 9, 10, 6, 11, 12, 13, 14, 15, 16, 17, 18, 19, 20, 21, 22, 23, 24, 25, 26, 27, 28, 29, 30, 31, 32, 33, 34, 35, 36, 37, 38, 39, 40] (by decide +kernel) (by decide +kernel)) (goodIn_sub (fun _ h => List.mem_cons_of_mem _ (List.mem_append_left _ (List.mem_append_right _ h))) (by decide +kernel))) (goodIn_sub (fun _ h => List.mem_cons_of_mem _ (List.mem_append_right _ h)) (by decide +kernel))
set_option maxRecDepth 20000 in
theorem gL_own_X4_own : GoodIn wsL_own (wsV RL 62 RX4 yX4_own wsX4_own) := goodIn_app (goodIn_of _ (by decide +kernel)) ggL_own_X4_own
theorem dL_own_0 : decode cL_own 0 = .ok (.aload 5, 2) := by decide +kernel
theorem dL_own_2 : decode cL_own 2 = .ok (.iconst 0, 1) := by decide +kernel
theorem dL_own_3 : decode cL_own 3 = .ok (.aload_n 0, 1) := by decide +kernel
theorem dL_own_4 : decode cL_own 4 = .ok (.iload_n 1, 1) := by decide +kernel
theorem dL_own_5 : decode cL_own 5 = .ok (.iload_n 2, 1) := by decide +kernel
theorem dL_own_6 : decode cL_own 6 = .ok (.iload_n 3, 1) := by decide +kernel
theorem dL_own_7 : decode cL_own 7 = .ok (.iload 4, 2) := by decide +kernel
theorem dL_own_9 : decode cL_own 9 = .ok (.invokevirtual 62, 3) := by decide +kernel
theorem dL_own_12 : decode cL_own 12 = .ok (.ifCond .eq 7, 3) := by decide +kernel
theorem dL_own_15 : decode cL_own 15 = .ok (.lconst 1, 1) := by decide +kernel
theorem dL_own_16 : decode cL_own 16 = .ok (.goto 4, 3) := by decide +kernel
theorem dL_own_19 : decode cL_own 19 = .ok (.lconst 0, 1) := by decide +kernel
theorem dL_own_20 : decode cL_own 20 = .ok (.lastore, 1) := by decide +kernel
theorem dL_own_21 : decode cL_own 21 = .ok (.goto 11, 3) := by decide +kernel
theorem dL_own_24 : decode cL_own 24 = .ok (.astore 6, 2) := by decide +kernel
theorem dL_own_26 : decode cL_own 26 = .ok (.iconst 1, 1) := by decide +kernel
theorem dL_own_27 : decode cL_own 27 = .ok (.ireturn, 1) := by decide +kernel
theorem dL_own_28 : decode cL_own 28 = .ok (.astore 6, 2) := by decide +kernel
theorem dL_own_30 : decode cL_own 30 = .ok (.iconst 2, 1) := by decide +kernel
theorem dL_own_31 : decode cL_own 31 = .ok (.ireturn, 1) := by decide +kernel
theorem dL_own_32 : decode cL_own 32 = .ok (.iconst 0, 1) := by decide +kernel
theorem dL_own_33 : decode cL_own 33 = .ok (.ireturn, 1) := by decide +kernel
set_option maxRecDepth 20000 in
theorem ggL_state_X4_state : GoodIn wsL_state wsX4_state := goodIn_ca (goodIn_r _ [6, 7, 8, 9, 5, 10, 11, 12, 13, 14, 15, 16, 17, 18, 19, 20, 21, 22] (by decide +kernel) (by decide +kernel)) (goodIn_sub (fun _ h => List.mem_cons_of_mem _ (List.mem_append_right _ h)) (by decide +kernel))
set_option maxRecDepth 20000 in
theorem gL_state_X4_state : GoodIn wsL_state (wsV RL 66 RX4 yX4_state wsX4_state) := goodIn_app (goodIn_of _ (by decide +kernel)) ggL_state_X4_state
theorem dL_state_0 : decode cL_state 0 = .ok (.aload_n 2, 1) := by decide +kernel
theorem dL_state_1 : decode cL_state 1 = .ok (.iconst 0, 1) := by decide +kernel
theorem dL_state_2 : decode cL_state 2 = .ok (.aload_n 0, 1) := by decide +kernel
theorem dL_state_3 : decode cL_state 3 = .ok (.iload_n 1, 1) := by decide +kernel
theorem dL_state_4 : decode cL_state 4 = .ok (.invokevirtual 66, 3) := by decide +kernel
theorem dL_state_7 : decode cL_state 7 = .ok (.i2l, 1) := by decide +kernel
theorem dL_state_8 : decode cL_state 8 = .ok (.lastore, 1) := by decide +kernel
theorem dL_state_9 : decode cL_state 9 = .ok (.goto 6, 3) := by decide +kernel
theorem dL_state_12 : decode cL_state 12 = .ok (.astore_n 3, 1) := by decide +kernel
theorem dL_state_13 : decode cL_state 13 = .ok (.iconst 1, 1) := by decide +kernel
theorem dL_state_14 : decode cL_state 14 = .ok (.ireturn, 1) := by decide +kernel
theorem dL_state_15 : decode cL_state 15 = .ok (.iconst 0, 1) := by decide +kernel
theorem dL_state_16 : decode cL_state 16 = .ok (.ireturn, 1) := by decide +kernel
set_option maxRecDepth 20000 in
theorem ggL_lag_X4_lag : GoodIn wsL_lag wsX4_lag := goodIn_ca (goodIn_r _ [6, 7, 8, 9, 10, 5, 11, 12, 13, 14, 15, 16, 17, 18, 19, 20, 21, 22, 23, 24, 25, 26, 27, 28, 29, 30, 31, 32, 33, 34, 35, 36, 37, 38, 39, 40, 41] (by decide +kernel) (by decide +kernel)) (goodIn_sub (fun _ h => List.mem_cons_of_mem _ (List.mem_append_right _ h)) (by decide +kernel))
set_option maxRecDepth 20000 in
theorem gL_lag_X4_lag : GoodIn wsL_lag (wsV RL 69 RX4 yX4_lag wsX4_lag) := goodIn_app (goodIn_of _ (by decide +kernel)) ggL_lag_X4_lag
theorem dL_lag_0 : decode cL_lag 0 = .ok (.aload_n 2, 1) := by decide +kernel
theorem dL_lag_1 : decode cL_lag 1 = .ok (.iconst 0, 1) := by decide +kernel
theorem dL_lag_2 : decode cL_lag 2 = .ok (.aload_n 0, 1) := by decide +kernel
theorem dL_lag_3 : decode cL_lag 3 = .ok (.iload_n 1, 1) := by decide +kernel
theorem dL_lag_4 : decode cL_lag 4 = .ok (.invokevirtual 69, 3) := by decide +kernel
theorem dL_lag_7 : decode cL_lag 7 = .ok (.i2l, 1) := by decide +kernel
theorem dL_lag_8 : decode cL_lag 8 = .ok (.lastore, 1) := by decide +kernel
theorem dL_lag_9 : decode cL_lag 9 = .ok (.goto 6, 3) := by decide +kernel
theorem dL_lag_12 : decode cL_lag 12 = .ok (.astore_n 3, 1) := by decide +kernel
theorem dL_lag_13 : decode cL_lag 13 = .ok (.iconst 1, 1) := by decide +kernel
theorem dL_lag_14 : decode cL_lag 14 = .ok (.ireturn, 1) := by decide +kernel
theorem dL_lag_15 : decode cL_lag 15 = .ok (.iconst 0, 1) := by decide +kernel
theorem dL_lag_16 : decode cL_lag 16 = .ok (.ireturn, 1) := by decide +kernel
set_option maxRecDepth 20000 in
theorem ggL_copiedAt_X4_copiedAt : GoodIn wsL_copiedAt wsX4_copiedAt := goodIn_ca (goodIn_r _ [6, 7, 8, 9, 5, 10, 11, 12, 13, 14, 15, 16, 17, 18, 19, 20, 21, 22, 23, 24, 25] (by decide +kernel) (by decide +kernel)) (goodIn_sub (fun _ h => List.mem_cons_of_mem _ (List.mem_append_right _ h)) (by decide +kernel))
set_option maxRecDepth 20000 in
theorem gL_copiedAt_X4_copiedAt : GoodIn wsL_copiedAt (wsV RL 72 RX4 yX4_copiedAt wsX4_copiedAt) := goodIn_app (goodIn_of _ (by decide +kernel)) ggL_copiedAt_X4_copiedAt
theorem dL_copiedAt_0 : decode cL_copiedAt 0 = .ok (.aload_n 3, 1) := by decide +kernel
theorem dL_copiedAt_1 : decode cL_copiedAt 1 = .ok (.iconst 0, 1) := by decide +kernel
theorem dL_copiedAt_2 : decode cL_copiedAt 2 = .ok (.aload_n 0, 1) := by decide +kernel
theorem dL_copiedAt_3 : decode cL_copiedAt 3 = .ok (.iload_n 1, 1) := by decide +kernel
theorem dL_copiedAt_4 : decode cL_copiedAt 4 = .ok (.iload_n 2, 1) := by decide +kernel
theorem dL_copiedAt_5 : decode cL_copiedAt 5 = .ok (.invokevirtual 72, 3) := by decide +kernel
theorem dL_copiedAt_8 : decode cL_copiedAt 8 = .ok (.i2l, 1) := by decide +kernel
theorem dL_copiedAt_9 : decode cL_copiedAt 9 = .ok (.lastore, 1) := by decide +kernel
theorem dL_copiedAt_10 : decode cL_copiedAt 10 = .ok (.goto 7, 3) := by decide +kernel
theorem dL_copiedAt_13 : decode cL_copiedAt 13 = .ok (.astore 4, 2) := by decide +kernel
theorem dL_copiedAt_15 : decode cL_copiedAt 15 = .ok (.iconst 1, 1) := by decide +kernel
theorem dL_copiedAt_16 : decode cL_copiedAt 16 = .ok (.ireturn, 1) := by decide +kernel
theorem dL_copiedAt_17 : decode cL_copiedAt 17 = .ok (.iconst 0, 1) := by decide +kernel
theorem dL_copiedAt_18 : decode cL_copiedAt 18 = .ok (.ireturn, 1) := by decide +kernel
set_option maxRecDepth 20000 in
theorem ggL_seen_X4_seen : GoodIn wsL_seen wsX4_seen := goodIn_ca (goodIn_r _ [6, 7, 8, 9, 5, 10, 11, 12, 13, 14, 15, 16, 17, 18, 19, 20, 21, 22, 23, 24, 25, 26, 27, 28, 29, 30, 31, 32, 33, 34, 35, 36, 37] (by decide +kernel) (by decide +kernel)) (goodIn_sub (fun _ h => List.mem_cons_of_mem _ (List.mem_append_right _ h)) (by decide +kernel))
set_option maxRecDepth 20000 in
theorem gL_seen_X4_seen : GoodIn wsL_seen (wsV RL 75 RX4 yX4_seen wsX4_seen) := goodIn_app (goodIn_of _ (by decide +kernel)) ggL_seen_X4_seen
theorem dL_seen_0 : decode cL_seen 0 = .ok (.aload 5, 2) := by decide +kernel
theorem dL_seen_2 : decode cL_seen 2 = .ok (.iconst 0, 1) := by decide +kernel
theorem dL_seen_3 : decode cL_seen 3 = .ok (.aload_n 0, 1) := by decide +kernel
theorem dL_seen_4 : decode cL_seen 4 = .ok (.iload_n 1, 1) := by decide +kernel
theorem dL_seen_5 : decode cL_seen 5 = .ok (.iload_n 2, 1) := by decide +kernel
theorem dL_seen_6 : decode cL_seen 6 = .ok (.iload_n 3, 1) := by decide +kernel
theorem dL_seen_7 : decode cL_seen 7 = .ok (.iload 4, 2) := by decide +kernel
theorem dL_seen_9 : decode cL_seen 9 = .ok (.invokevirtual 75, 3) := by decide +kernel
theorem dL_seen_12 : decode cL_seen 12 = .ok (.i2l, 1) := by decide +kernel
theorem dL_seen_13 : decode cL_seen 13 = .ok (.lastore, 1) := by decide +kernel
theorem dL_seen_14 : decode cL_seen 14 = .ok (.goto 7, 3) := by decide +kernel
theorem dL_seen_17 : decode cL_seen 17 = .ok (.astore 6, 2) := by decide +kernel
theorem dL_seen_19 : decode cL_seen 19 = .ok (.iconst 1, 1) := by decide +kernel
theorem dL_seen_20 : decode cL_seen 20 = .ok (.ireturn, 1) := by decide +kernel
theorem dL_seen_21 : decode cL_seen 21 = .ok (.iconst 0, 1) := by decide +kernel
theorem dL_seen_22 : decode cL_seen 22 = .ok (.ireturn, 1) := by decide +kernel
set_option maxRecDepth 20000 in
theorem ggL_isFaithful_X4_isFaithful : GoodIn wsL_isFaithful wsX4_isFaithful := goodIn_ca (goodIn_ca (goodIn_r _ [7, 8, 9, 10, 11, 12, 13, 14, 15, 16, 17, 6, 18, 19, 20, 21, 22, 23, 24, 25, 26, 27, 28, 29, 30, 31, 32, 33, 34, 35, 36, 37, 38, 39, 40, 41, 42, 43, 44, 45, 46, 47, 48, 49, 50, 51, 52, 53, 54, 55, 56, 57, 58, 59, 60, 61, 62, 63, 64, 65, 66, 67, 68, 69, 70, 71, 72, 73, 74] (by decide +kernel) (by decide +kernel)) (goodIn_sub (fun _ h => List.mem_cons_of_mem _ (List.mem_append_left _ (List.mem_append_right _ h))) (by decide +kernel))) (goodIn_sub (fun _ h => List.mem_cons_of_mem _ (List.mem_append_right _ h)) (by decide +kernel))
set_option maxRecDepth 20000 in
theorem gL_isFaithful_X4_isFaithful : GoodIn wsL_isFaithful (wsV RL 79 RX4 yX4_isFaithful wsX4_isFaithful) := goodIn_app (goodIn_of _ (by decide +kernel)) ggL_isFaithful_X4_isFaithful
theorem dL_isFaithful_0 : decode cL_isFaithful 0 = .ok (.aload_n 3, 1) := by decide +kernel
theorem dL_isFaithful_1 : decode cL_isFaithful 1 = .ok (.iconst 0, 1) := by decide +kernel
theorem dL_isFaithful_2 : decode cL_isFaithful 2 = .ok (.aload_n 0, 1) := by decide +kernel
theorem dL_isFaithful_3 : decode cL_isFaithful 3 = .ok (.iload_n 1, 1) := by decide +kernel
theorem dL_isFaithful_4 : decode cL_isFaithful 4 = .ok (.iload_n 2, 1) := by decide +kernel
theorem dL_isFaithful_5 : decode cL_isFaithful 5 = .ok (.invokevirtual 79, 3) := by decide +kernel
theorem dL_isFaithful_8 : decode cL_isFaithful 8 = .ok (.ifCond .eq 7, 3) := by decide +kernel
theorem dL_isFaithful_11 : decode cL_isFaithful 11 = .ok (.lconst 1, 1) := by decide +kernel
theorem dL_isFaithful_12 : decode cL_isFaithful 12 = .ok (.goto 4, 3) := by decide +kernel
theorem dL_isFaithful_15 : decode cL_isFaithful 15 = .ok (.lconst 0, 1) := by decide +kernel
theorem dL_isFaithful_16 : decode cL_isFaithful 16 = .ok (.lastore, 1) := by decide +kernel
theorem dL_isFaithful_17 : decode cL_isFaithful 17 = .ok (.goto 11, 3) := by decide +kernel
theorem dL_isFaithful_20 : decode cL_isFaithful 20 = .ok (.astore 4, 2) := by decide +kernel
theorem dL_isFaithful_22 : decode cL_isFaithful 22 = .ok (.iconst 1, 1) := by decide +kernel
theorem dL_isFaithful_23 : decode cL_isFaithful 23 = .ok (.ireturn, 1) := by decide +kernel
theorem dL_isFaithful_24 : decode cL_isFaithful 24 = .ok (.astore 4, 2) := by decide +kernel
theorem dL_isFaithful_26 : decode cL_isFaithful 26 = .ok (.iconst 2, 1) := by decide +kernel
theorem dL_isFaithful_27 : decode cL_isFaithful 27 = .ok (.ireturn, 1) := by decide +kernel
theorem dL_isFaithful_28 : decode cL_isFaithful 28 = .ok (.iconst 0, 1) := by decide +kernel
theorem dL_isFaithful_29 : decode cL_isFaithful 29 = .ok (.ireturn, 1) := by decide +kernel
end
section
set_option maxRecDepth 20000 in
theorem ggL_law_X4_init : GoodIn wsL_law wsX4_init := goodIn_r _ [9, 10, 11, 12, 13, 14, 15, 16, 17, 18, 19, 20, 21, 22, 23, 24, 25, 26, 27, 28, 29, 30, 31, 32, 33, 34, 35, 36, 37, 38, 39, 40, 41, 42, 43, 44, 45, 46, 47, 48, 49, 50, 51, 52, 53, 54, 55, 56, 57, 58, 59, 60, 61, 62, 63, 64, 536, 537, 538, 539, 540, 541, 542, 511, 512, 513, 514, 515, 543, 544, 545, 546, 547, 548, 549, 550, 551, 552, 553] (by decide +kernel) (by decide +kernel)
set_option maxRecDepth 20000 in
theorem gL_law_X4_init : GoodIn wsL_law (wsX4_init) := ggL_law_X4_init
set_option maxRecDepth 20000 in
theorem ggL_law_X5_init : GoodIn wsL_law wsX5_init := goodIn_r _ [67, 68, 11, 12, 34, 69, 70, 71, 72, 73, 74, 75, 76, 77, 78, 79, 80, 81, 82, 83, 84, 85, 86, 516, 517, 518, 519, 520, 521, 522, 523, 524, 525, 526, 527, 528, 529, 530, 531, 532, 533, 534, 535] (by decide +kernel) (by decide +kernel)
set_option maxRecDepth 20000 in
theorem gL_law_X5_init : GoodIn wsL_law (wsX5_init) := ggL_law_X5_init
set_option maxRecDepth 20000 in
theorem ggL_law_L_put : GoodIn wsL_law wsL_put := goodIn_ca (goodIn_ca (goodIn_ca (goodIn_r _ [90, 91, 92, 93, 94, 95, 96, 2, 97, 16, 98, 99, 100, 101, 102, 103, 104, 105, 106, 107, 108, 109, 110, 111, 112, 113, 114, 115, 116, 117, 118, 119, 15, 120, 37, 36, 121, 122, 123, 124, 125, 126, 127, 128, 129, 130, 38, 39, 40, 35, 511, 512, 513, 514, 515, 536, 537, 538, 539, 540, 541, 542] (by decide +kernel) (by decide +kernel)) (goodIn_sub (fun _ h => List.mem_append_left _ (List.mem_append_left _ (List.mem_append_right _ h))) (by decide +kernel))) (goodIn_sub (fun _ h => List.mem_append_left _ (List.mem_append_right _ h)) (by decide +kernel))) (goodIn_sub (fun _ h => List.mem_append_right _ h) (by decide +kernel))
set_option maxRecDepth 20000 in
theorem gL_law_L_put : GoodIn wsL_law (va_wsS RL 87 yL_put wsL_put) := goodIn_app (goodIn_of _ (by decide +kernel)) ggL_law_L_put
set_option maxRecDepth 20000 in
theorem ggL_law_X5_put : GoodIn wsL_law wsX5_put := goodIn_r _ [134, 69, 135, 136, 5, 137, 138, 139, 140, 141, 142, 143, 144, 145, 146, 147, 148, 149, 150, 72, 151, 152, 153, 154, 155, 156, 157, 158, 159, 160, 73, 74, 75, 161, 162, 163, 516, 517, 518, 519, 520, 521, 522, 523, 524, 525, 526, 527, 528, 529, 530, 531, 532, 533, 534, 535] (by decide +kernel) (by decide +kernel)
set_option maxRecDepth 20000 in
theorem gL_law_X5_put : GoodIn wsL_law (wsV RL 92 RX5 yX5_put wsX5_put) := goodIn_app (goodIn_of _ (by decide +kernel)) ggL_law_X5_put
set_option maxRecDepth 20000 in
theorem ggL_law_X5_thrown : GoodIn wsL_law wsX5_thrown := goodIn_r _ [167, 156, 516, 517, 518, 519, 520, 521, 522, 523, 524, 525, 526, 527, 528, 529, 530, 531, 532, 533, 534, 535] (by decide +kernel) (by decide +kernel)
set_option maxRecDepth 20000 in
theorem gL_law_X5_thrown : GoodIn wsL_law (wsV RL 93 RX5 yX5_thrown wsX5_thrown) := goodIn_app (goodIn_of _ (by decide +kernel)) ggL_law_X5_thrown
set_option maxRecDepth 20000 in
theorem ggL_law_L_take : GoodIn wsL_law wsL_take := goodIn_ca (goodIn_ca (goodIn_r _ [170, 91, 93, 171, 172, 173, 2, 174, 115, 116, 16, 98, 99, 100, 101, 102, 103, 104, 105, 111, 112, 113, 114, 117, 118, 119, 15, 120, 37, 36, 121, 122, 123, 127, 128, 129, 130, 38, 39, 40, 35, 511, 512, 513, 514, 515, 536, 537, 538, 539, 540, 541, 542] (by decide +kernel) (by decide +kernel)) (goodIn_sub (fun _ h => List.mem_append_right _ h) (by decide +kernel))) (goodIn_sub (fun _ h => List.mem_append_left _ (List.mem_append_left _ (List.mem_append_right _ h))) (by decide +kernel))
set_option maxRecDepth 20000 in
theorem gL_law_L_take : GoodIn wsL_law (va_wsS RL 96 yL_take wsL_take) := goodIn_app (goodIn_of _ (by decide +kernel)) ggL_law_L_take
set_option maxRecDepth 20000 in
theorem ggL_law_X5_take : GoodIn wsL_law wsX5_take := goodIn_r _ [178, 69, 141, 142, 5, 143, 144, 145, 146, 138, 139, 140, 147, 148, 149, 150, 72, 151, 152, 153, 154, 155, 156, 157, 158, 159, 160, 73, 74, 75, 161, 162, 163, 516, 517, 518, 519, 520, 521, 522, 523, 524, 525, 526, 527, 528, 529, 530, 531, 532, 533, 534, 535] (by decide +kernel) (by decide +kernel)
set_option maxRecDepth 20000 in
theorem gL_law_X5_take : GoodIn wsL_law (wsV RL 99 RX5 yX5_take wsX5_take) := goodIn_app (goodIn_of _ (by decide +kernel)) ggL_law_X5_take
set_option maxRecDepth 20000 in
theorem ggL_law_L_truncate : GoodIn wsL_law wsL_truncate := goodIn_ca (goodIn_ca (goodIn_r _ [181, 91, 93, 182, 183, 184, 2, 185, 16, 103, 104, 105, 101, 102, 111, 112, 113, 114, 115, 116, 117, 118, 119, 15, 120, 37, 36, 121, 122, 123, 127, 128, 129, 130, 38, 39, 40, 35, 511, 512, 513, 514, 515, 536, 537, 538, 539, 540, 541, 542] (by decide +kernel) (by decide +kernel)) (goodIn_sub (fun _ h => List.mem_append_left _ (List.mem_append_left _ (List.mem_append_right _ h))) (by decide +kernel))) (goodIn_sub (fun _ h => List.mem_append_right _ h) (by decide +kernel))
set_option maxRecDepth 20000 in
theorem gL_law_L_truncate : GoodIn wsL_law (va_wsS RL 100 yL_truncate wsL_truncate) := goodIn_app (goodIn_of _ (by decide +kernel)) ggL_law_L_truncate
set_option maxRecDepth 20000 in
theorem ggL_law_X5_truncate : GoodIn wsL_law wsX5_truncate := goodIn_r _ [189, 69, 144, 145, 5, 146, 138, 139, 140, 147, 148, 149, 150, 72, 151, 152, 153, 154, 155, 156, 157, 158, 159, 160, 73, 74, 75, 161, 162, 163, 516, 517, 518, 519, 520, 521, 522, 523, 524, 525, 526, 527, 528, 529, 530, 531, 532, 533, 534, 535] (by decide +kernel) (by decide +kernel)
set_option maxRecDepth 20000 in
theorem gL_law_X5_truncate : GoodIn wsL_law (wsV RL 103 RX5 yX5_truncate wsX5_truncate) := goodIn_app (goodIn_of _ (by decide +kernel)) ggL_law_X5_truncate
set_option maxRecDepth 20000 in
theorem ggL_law_L_commit : GoodIn wsL_law wsL_commit := goodIn_ca (goodIn_r _ [192, 93, 193, 194, 195, 2, 196, 115, 116, 16, 197, 198, 199, 15, 200, 36, 35, 41, 201, 202, 203, 204, 205, 206, 207, 208, 20, 25, 209, 210, 211, 29, 212, 64, 213, 214, 215, 216, 63, 511, 512, 513, 514, 515, 536, 537, 538, 539, 540, 541, 542, 549, 550, 551, 552, 553] (by decide +kernel) (by decide +kernel)) (goodIn_sub (fun _ h => List.mem_append_right _ h) (by decide +kernel))
set_option maxRecDepth 20000 in
theorem gL_law_L_commit : GoodIn wsL_law (va_wsS RL 104 yL_commit wsL_commit) := goodIn_app (goodIn_of _ (by decide +kernel)) ggL_law_L_commit
set_option maxRecDepth 20000 in
theorem ggL_law_X5_commit : GoodIn wsL_law wsX5_commit := goodIn_r _ [220, 151, 72, 70, 69, 152, 153, 154, 5, 155, 156, 221, 222, 223, 224, 81, 82, 71, 138, 139, 140, 516, 517, 518, 519, 520, 521, 522, 523, 524, 525, 526, 527, 528, 529, 530, 531, 532, 533, 534, 535] (by decide +kernel) (by decide +kernel)
set_option maxRecDepth 20000 in
theorem gL_law_X5_commit : GoodIn wsL_law (wsV RL 107 RX5 yX5_commit wsX5_commit) := goodIn_app (goodIn_of _ (by decide +kernel)) ggL_law_X5_commit
set_option maxRecDepth 20000 in
theorem ggL_law_X4_rollBack : GoodIn wsL_law wsX4_rollBack := goodIn_r _ [228, 16, 117, 118, 119, 15, 120, 37, 36, 229, 230, 231, 232, 41, 35, 201, 202, 203, 204, 511, 512, 513, 514, 515, 536, 537, 538, 539, 540, 541, 542] (by decide +kernel) (by decide +kernel)
set_option maxRecDepth 20000 in
theorem gL_law_X4_rollBack : GoodIn wsL_law (wsV RL 108 RX4 yX4_rollBack wsX4_rollBack) := goodIn_app (goodIn_of _ (by decide +kernel)) ggL_law_X4_rollBack
set_option maxRecDepth 20000 in
theorem ggL_law_X5_rollBack : GoodIn wsL_law wsX5_rollBack := goodIn_r _ [236, 156, 72, 151, 69, 70, 516, 517, 518, 519, 520, 521, 522, 523, 524, 525, 526, 527, 528, 529, 530, 531, 532, 533, 534, 535] (by decide +kernel) (by decide +kernel)
set_option maxRecDepth 20000 in
theorem gL_law_X5_rollBack : GoodIn wsL_law (wsV RL 111 RX5 yX5_rollBack wsX5_rollBack) := goodIn_app (goodIn_of _ (by decide +kernel)) ggL_law_X5_rollBack
set_option maxRecDepth 20000 in
theorem ggL_law_L_at : GoodIn wsL_law wsL_at := goodIn_ca (goodIn_r _ [239, 91, 240, 241, 242, 2, 243, 16, 98, 99, 100, 101, 102, 103, 104, 105, 244, 245, 246, 121, 122, 123, 247, 248, 249, 511, 512, 513, 514, 515, 536, 537, 538, 539, 540, 541, 542] (by decide +kernel) (by decide +kernel)) (goodIn_sub (fun _ h => List.mem_append_left _ (List.mem_append_left _ (List.mem_append_right _ h))) (by decide +kernel))
set_option maxRecDepth 20000 in
theorem gL_law_L_at : GoodIn wsL_law (va_wsS RL 112 yL_at wsL_at) := goodIn_app (goodIn_of _ (by decide +kernel)) ggL_law_L_at
set_option maxRecDepth 20000 in
theorem ggL_law_X5_at : GoodIn wsL_law wsX5_at := goodIn_r _ [253, 69, 141, 142, 5, 143, 144, 145, 146, 138, 139, 140, 254, 255, 256, 152, 153, 154, 155, 156, 257, 258, 259, 516, 517, 518, 519, 520, 521, 522, 523, 524, 525, 526, 527, 528, 529, 530, 531, 532, 533, 534, 535] (by decide +kernel) (by decide +kernel)
set_option maxRecDepth 20000 in
theorem gL_law_X5_at : GoodIn wsL_law (wsV RL 115 RX5 yX5_at wsX5_at) := goodIn_app (goodIn_of _ (by decide +kernel)) ggL_law_X5_at
set_option maxRecDepth 20000 in
theorem ggL_law_X4_commits : GoodIn wsL_law wsX4_commits := goodIn_r _ [263, 16, 511, 512, 513, 514, 515, 536, 537, 538, 539, 540, 541, 542] (by decide +kernel) (by decide +kernel)
set_option maxRecDepth 20000 in
theorem gL_law_X4_commits : GoodIn wsL_law (wsV RL 116 RX4 yX4_commits wsX4_commits) := goodIn_app (goodIn_of _ (by decide +kernel)) ggL_law_X4_commits
set_option maxRecDepth 20000 in
theorem ggL_law_X5_commits : GoodIn wsL_law wsX5_commits := goodIn_r _ [267, 156, 151, 516, 517, 518, 519, 520, 521, 522, 523, 524, 525, 526, 527, 528, 529, 530, 531, 532, 533, 534, 535] (by decide +kernel) (by decide +kernel)
set_option maxRecDepth 20000 in
theorem gL_law_X5_commits : GoodIn wsL_law (wsV RL 119 RX5 yX5_commits wsX5_commits) := goodIn_app (goodIn_of _ (by decide +kernel)) ggL_law_X5_commits
set_option maxRecDepth 20000 in
theorem ggL_law_L_setLimit : GoodIn wsL_law wsL_setLimit := goodIn_ca (goodIn_r _ [270, 92, 271, 272, 273, 2, 274, 109, 110, 25, 205, 206, 207, 208, 20, 16, 209, 210, 211, 29, 212, 64, 213, 214, 215, 216, 63, 511, 512, 513, 514, 515, 536, 537, 538, 539, 540, 541, 542, 549, 550, 551, 552, 553] (by decide +kernel) (by decide +kernel)) (goodIn_sub (fun _ h => List.mem_append_left _ (List.mem_append_right _ h)) (by decide +kernel))
set_option maxRecDepth 20000 in
theorem gL_law_L_setLimit : GoodIn wsL_law (va_wsS RL 120 yL_setLimit wsL_setLimit) := goodIn_app (goodIn_of _ (by decide +kernel)) ggL_law_L_setLimit
set_option maxRecDepth 20000 in
theorem ggL_law_X5_setLimit : GoodIn wsL_law wsX5_setLimit := goodIn_r _ [278, 71, 138, 139, 5, 140, 152, 153, 154, 155, 156, 221, 222, 223, 224, 81, 151, 82, 516, 517, 518, 519, 520, 521, 522, 523, 524, 525, 526, 527, 528, 529, 530, 531, 532, 533, 534, 535] (by decide +kernel) (by decide +kernel)
set_option maxRecDepth 20000 in
theorem gL_law_X5_setLimit : GoodIn wsL_law (wsV RL 122 RX5 yX5_setLimit wsX5_setLimit) := goodIn_app (goodIn_of _ (by decide +kernel)) ggL_law_X5_setLimit
set_option maxRecDepth 20000 in
theorem ggL_law_L_setCondition : GoodIn wsL_law wsL_setCondition := goodIn_ca (goodIn_ca (goodIn_r _ [281, 91, 92, 282, 283, 284, 2, 285, 109, 110, 18, 286, 287, 288, 101, 102, 103, 104, 105, 244, 245, 246, 106, 107, 108, 289, 290, 291, 292, 20, 511, 512, 513, 514, 515, 545, 546, 547, 548, 549, 550, 551, 552, 553] (by decide +kernel) (by decide +kernel)) (goodIn_sub (fun _ h => List.mem_append_left _ (List.mem_append_right _ h)) (by decide +kernel))) (goodIn_sub (fun _ h => List.mem_append_left _ (List.mem_append_left _ (List.mem_append_right _ h))) (by decide +kernel))
set_option maxRecDepth 20000 in
theorem gL_law_L_setCondition : GoodIn wsL_law (va_wsS RL 123 yL_setCondition wsL_setCondition) := goodIn_app (goodIn_of _ (by decide +kernel)) ggL_law_L_setCondition
set_option maxRecDepth 20000 in
theorem ggL_law_X5_setCondition : GoodIn wsL_law wsX5_setCondition := goodIn_r _ [296, 76, 77, 78, 254, 255, 5, 256, 138, 139, 140, 144, 145, 146, 135, 136, 137, 152, 153, 154, 155, 156, 297, 298, 299, 300, 81, 80, 83, 516, 517, 518, 519, 520, 521, 522, 523, 524, 525, 526, 527, 528, 529, 530, 531, 532, 533, 534, 535] (by decide +kernel) (by decide +kernel)
set_option maxRecDepth 20000 in
theorem gL_law_X5_setCondition : GoodIn wsL_law (wsV RL 125 RX5 yX5_setCondition wsX5_setCondition) := goodIn_app (goodIn_of _ (by decide +kernel)) ggL_law_X5_setCondition
set_option maxRecDepth 20000 in
theorem ggL_law_L_setColumns : GoodIn wsL_law wsL_setColumns := goodIn_ca (goodIn_ca (goodIn_r _ [303, 91, 92, 304, 305, 306, 2, 307, 109, 110, 18, 286, 287, 288, 101, 102, 103, 104, 105, 308, 309, 310, 289, 290, 291, 292, 20, 511, 512, 513, 514, 515, 545, 546, 547, 548, 549, 550, 551, 552, 553] (by decide +kernel) (by decide +kernel)) (goodIn_sub (fun _ h => List.mem_append_left _ (List.mem_append_right _ h)) (by decide +kernel))) (goodIn_sub (fun _ h => List.mem_append_left _ (List.mem_append_left _ (List.mem_append_right _ h))) (by decide +kernel))
set_option maxRecDepth 20000 in
theorem gL_law_L_setColumns : GoodIn wsL_law (va_wsS RL 126 yL_setColumns wsL_setColumns) := goodIn_app (goodIn_of _ (by decide +kernel)) ggL_law_L_setColumns
set_option maxRecDepth 20000 in
theorem ggL_law_X5_setColumns : GoodIn wsL_law wsX5_setColumns := goodIn_r _ [314, 79, 254, 255, 5, 256, 138, 139, 140, 144, 145, 146, 152, 153, 154, 155, 156, 297, 298, 299, 300, 81, 80, 83, 516, 517, 518, 519, 520, 521, 522, 523, 524, 525, 526, 527, 528, 529, 530, 531, 532, 533, 534, 535] (by decide +kernel) (by decide +kernel)
set_option maxRecDepth 20000 in
theorem gL_law_X5_setColumns : GoodIn wsL_law (wsV RL 128 RX5 yX5_setColumns wsX5_setColumns) := goodIn_app (goodIn_of _ (by decide +kernel)) ggL_law_X5_setColumns
set_option maxRecDepth 20000 in
theorem ggL_law_L_subscribe : GoodIn wsL_law wsL_subscribe := goodIn_ca (goodIn_r _ [317, 91, 318, 319, 320, 2, 321, 20, 18, 16, 322, 323, 324, 101, 102, 286, 287, 288, 325, 326, 327, 29, 328, 62, 63, 64, 329, 330, 331, 332, 61, 511, 512, 513, 514, 515, 549, 550, 551, 552, 553, 536, 537, 538, 539, 540, 541, 542] (by decide +kernel) (by decide +kernel)) (goodIn_sub (fun _ h => List.mem_append_left _ (List.mem_append_left _ (List.mem_append_right _ h))) (by decide +kernel))
set_option maxRecDepth 20000 in
theorem gL_law_L_subscribe : GoodIn wsL_law (va_wsS RL 129 yL_subscribe wsL_subscribe) := goodIn_app (goodIn_of _ (by decide +kernel)) ggL_law_L_subscribe
set_option maxRecDepth 20000 in
theorem ggL_law_X5_subscribe : GoodIn wsL_law wsX5_subscribe := goodIn_r _ [336, 81, 80, 82, 151, 83, 254, 255, 5, 256, 138, 139, 140, 152, 153, 154, 155, 156, 516, 517, 518, 519, 520, 521, 522, 523, 524, 525, 526, 527, 528, 529, 530, 531, 532, 533, 534, 535] (by decide +kernel) (by decide +kernel)
set_option maxRecDepth 20000 in
theorem gL_law_X5_subscribe : GoodIn wsL_law (wsV RL 132 RX5 yX5_subscribe wsX5_subscribe) := goodIn_app (goodIn_of _ (by decide +kernel)) ggL_law_X5_subscribe
set_option maxRecDepth 20000 in
theorem ggL_law_L_drop : GoodIn wsL_law wsL_drop := goodIn_ca (goodIn_r _ [339, 91, 340, 341, 342, 2, 343, 20, 322, 323, 324, 101, 102, 344, 345, 346, 29, 347, 62, 63, 329, 330, 331, 332, 61, 511, 512, 513, 514, 515, 549, 550, 551, 552, 553] (by decide +kernel) (by decide +kernel)) (goodIn_sub (fun _ h => List.mem_append_left _ (List.mem_append_left _ (List.mem_append_right _ h))) (by decide +kernel))
set_option maxRecDepth 20000 in
theorem gL_law_L_drop : GoodIn wsL_law (va_wsS RL 133 yL_drop wsL_drop) := goodIn_app (goodIn_of _ (by decide +kernel)) ggL_law_L_drop
set_option maxRecDepth 20000 in
theorem ggL_law_X5_drop : GoodIn wsL_law wsX5_drop := goodIn_r _ [351, 81, 83, 254, 255, 5, 256, 138, 139, 140, 152, 153, 154, 155, 156, 516, 517, 518, 519, 520, 521, 522, 523, 524, 525, 526, 527, 528, 529, 530, 531, 532, 533, 534, 535] (by decide +kernel) (by decide +kernel)
set_option maxRecDepth 20000 in
theorem gL_law_X5_drop : GoodIn wsL_law (wsV RL 135 RX5 yX5_drop wsX5_drop) := goodIn_app (goodIn_of _ (by decide +kernel)) ggL_law_X5_drop
set_option maxRecDepth 20000 in
theorem ggL_law_L_copy : GoodIn wsL_law wsL_copy := goodIn_ca (goodIn_ca (goodIn_r _ [354, 91, 93, 355, 356, 357, 2, 358, 115, 116, 20, 16, 322, 323, 324, 101, 102, 103, 104, 105, 117, 118, 119, 15, 120, 37, 36, 121, 122, 123, 359, 360, 361, 27, 362, 51, 54, 248, 249, 363, 364, 365, 366, 52, 53, 511, 512, 513, 514, 515, 549, 550, 551, 552, 553, 536, 537, 538, 539, 540, 541, 542, 545, 546, 547, 548] (by decide +kernel) (by decide +kernel)) (goodIn_sub (fun _ h => List.mem_append_right _ h) (by decide +kernel))) (goodIn_sub (fun _ h => List.mem_append_left _ (List.mem_append_left _ (List.mem_append_right _ h))) (by decide +kernel))
set_option maxRecDepth 20000 in
theorem gL_law_L_copy : GoodIn wsL_law (va_wsS RL 136 yL_copy wsL_copy) := goodIn_app (goodIn_of _ (by decide +kernel)) ggL_law_L_copy
set_option maxRecDepth 20000 in
theorem ggL_law_X5_copy : GoodIn wsL_law wsX5_copy := goodIn_r _ [370, 81, 72, 151, 84, 80, 83, 254, 255, 5, 256, 138, 139, 140, 144, 145, 146, 152, 153, 154, 155, 156, 371, 372, 373, 374, 70, 375, 376, 377, 378, 76, 77, 78, 257, 258, 259, 379, 380, 381, 382, 79, 516, 517, 518, 519, 520, 521, 522, 523, 524, 525, 526, 527, 528, 529, 530, 531, 532, 533, 534, 535] (by decide +kernel) (by decide +kernel)
set_option maxRecDepth 20000 in
theorem gL_law_X5_copy : GoodIn wsL_law (wsV RL 138 RX5 yX5_copy wsX5_copy) := goodIn_app (goodIn_of _ (by decide +kernel)) ggL_law_X5_copy
set_option maxRecDepth 20000 in
theorem ggL_law_L_receive : GoodIn wsL_law wsL_receive := goodIn_ca (goodIn_ca (goodIn_ca (goodIn_r _ [385, 91, 92, 93, 386, 387, 388, 2, 389, 109, 110, 115, 116, 20, 16, 24, 322, 323, 324, 101, 102, 390, 391, 392, 23, 393, 45, 394, 202, 203, 204, 46, 395, 396, 397, 29, 398, 61, 399, 400, 401, 402, 403, 404, 405, 406, 122, 123, 407, 360, 361, 27, 362, 51, 54, 248, 249, 363, 364, 365, 366, 52, 53, 408, 409, 410, 411, 60, 412, 64, 511, 512, 513, 514, 515, 549, 550, 551, 552, 553, 536, 537, 538, 539, 540, 541, 542, 543, 544, 545, 546, 547, 548] (by decide +kernel) (by decide +kernel)) (goodIn_sub (fun _ h => List.mem_append_left _ (List.mem_append_right _ h)) (by decide +kernel))) (goodIn_sub (fun _ h => List.mem_append_right _ h) (by decide +kernel))) (goodIn_sub (fun _ h => List.mem_append_left _ (List.mem_append_left _ (List.mem_append_right _ h))) (by decide +kernel))
set_option maxRecDepth 20000 in
theorem gL_law_L_receive : GoodIn wsL_law (va_wsS RL 139 yL_receive wsL_receive) := goodIn_app (goodIn_of _ (by decide +kernel)) ggL_law_L_receive
set_option maxRecDepth 20000 in
theorem ggL_law_X5_receive : GoodIn wsL_law wsX5_receive := goodIn_r _ [416, 81, 82, 151, 254, 255, 5, 256, 138, 139, 140, 152, 153, 154, 155, 156, 417, 418, 419, 420, 85, 70, 86, 84, 72, 73, 83, 74, 75, 421, 422, 423, 424, 80, 375, 376, 377, 378, 76, 77, 78, 257, 258, 259, 379, 380, 381, 382, 79, 161, 162, 163, 516, 517, 518, 519, 520, 521, 522, 523, 524, 525, 526, 527, 528, 529, 530, 531, 532, 533, 534, 535] (by decide +kernel) (by decide +kernel)
set_option maxRecDepth 20000 in
theorem gL_law_X5_receive : GoodIn wsL_law (wsV RL 141 RX5 yX5_receive wsX5_receive) := goodIn_app (goodIn_of _ (by decide +kernel)) ggL_law_X5_receive
set_option maxRecDepth 20000 in
theorem ggL_law_L_goOn : GoodIn wsL_law wsL_goOn := goodIn_ca (goodIn_ca (goodIn_r _ [427, 91, 93, 428, 429, 430, 2, 431, 115, 116, 20, 322, 323, 324, 101, 102, 511, 512, 513, 514, 515, 549, 550, 551, 552, 553] (by decide +kernel) (by decide +kernel)) (goodIn_sub (fun _ h => List.mem_append_right _ h) (by decide +kernel))) (goodIn_sub (fun _ h => List.mem_append_left _ (List.mem_append_left _ (List.mem_append_right _ h))) (by decide +kernel))
set_option maxRecDepth 20000 in
theorem gL_law_L_goOn : GoodIn wsL_law (va_wsS RL 142 yL_goOn wsL_goOn) := goodIn_app (goodIn_of _ (by decide +kernel)) ggL_law_L_goOn
set_option maxRecDepth 20000 in
theorem ggL_law_X5_goOn : GoodIn wsL_law wsX5_goOn := goodIn_r _ [435, 81, 82, 254, 255, 5, 256, 138, 139, 140, 152, 153, 154, 155, 156, 516, 517, 518, 519, 520, 521, 522, 523, 524, 525, 526, 527, 528, 529, 530, 531, 532, 533, 534, 535] (by decide +kernel) (by decide +kernel)
set_option maxRecDepth 20000 in
theorem gL_law_X5_goOn : GoodIn wsL_law (wsV RL 145 RX5 yX5_goOn wsX5_goOn) := goodIn_app (goodIn_of _ (by decide +kernel)) ggL_law_X5_goOn
set_option maxRecDepth 20000 in
theorem ggL_law_L_own : GoodIn wsL_law wsL_own := goodIn_ca (goodIn_ca (goodIn_r _ [438, 91, 92, 439, 440, 441, 2, 442, 20, 322, 323, 324, 101, 102, 98, 99, 100, 103, 104, 105, 106, 107, 108, 109, 110, 121, 122, 123, 124, 125, 126, 511, 512, 513, 514, 515, 549, 550, 551, 552, 553] (by decide +kernel) (by decide +kernel)) (goodIn_sub (fun _ h => List.mem_append_left _ (List.mem_append_left _ (List.mem_append_right _ h))) (by decide +kernel))) (goodIn_sub (fun _ h => List.mem_append_left _ (List.mem_append_right _ h)) (by decide +kernel))
set_option maxRecDepth 20000 in
theorem gL_law_L_own : GoodIn wsL_law (va_wsS RL 146 yL_own wsL_own) := goodIn_app (goodIn_of _ (by decide +kernel)) ggL_law_L_own
set_option maxRecDepth 20000 in
theorem ggL_law_X5_own : GoodIn wsL_law wsX5_own := goodIn_r _ [446, 84, 254, 255, 5, 256, 138, 139, 140, 141, 142, 143, 144, 145, 146, 152, 153, 154, 155, 156, 516, 517, 518, 519, 520, 521, 522, 523, 524, 525, 526, 527, 528, 529, 530, 531, 532, 533, 534, 535] (by decide +kernel) (by decide +kernel)
set_option maxRecDepth 20000 in
theorem gL_law_X5_own : GoodIn wsL_law (wsV RL 149 RX5 yX5_own wsX5_own) := goodIn_app (goodIn_of _ (by decide +kernel)) ggL_law_X5_own
set_option maxRecDepth 20000 in
theorem ggL_law_L_state : GoodIn wsL_law wsL_state := goodIn_ca (goodIn_r _ [449, 91, 450, 451, 452, 2, 453, 20, 322, 323, 324, 101, 102, 511, 512, 513, 514, 515, 549, 550, 551, 552, 553] (by decide +kernel) (by decide +kernel)) (goodIn_sub (fun _ h => List.mem_append_left _ (List.mem_append_left _ (List.mem_append_right _ h))) (by decide +kernel))
set_option maxRecDepth 20000 in
theorem gL_law_L_state : GoodIn wsL_law (va_wsS RL 150 yL_state wsL_state) := goodIn_app (goodIn_of _ (by decide +kernel)) ggL_law_L_state
set_option maxRecDepth 20000 in
theorem ggL_law_X5_state : GoodIn wsL_law wsX5_state := goodIn_r _ [457, 81, 254, 255, 5, 256, 138, 139, 140, 152, 153, 154, 155, 156, 516, 517, 518, 519, 520, 521, 522, 523, 524, 525, 526, 527, 528, 529, 530, 531, 532, 533, 534, 535] (by decide +kernel) (by decide +kernel)
set_option maxRecDepth 20000 in
theorem gL_law_X5_state : GoodIn wsL_law (wsV RL 152 RX5 yX5_state wsX5_state) := goodIn_app (goodIn_of _ (by decide +kernel)) ggL_law_X5_state
set_option maxRecDepth 20000 in
theorem ggL_law_L_lag : GoodIn wsL_law wsL_lag := goodIn_ca (goodIn_r _ [460, 91, 461, 462, 463, 2, 464, 20, 16, 322, 323, 324, 101, 102, 209, 210, 211, 29, 212, 64, 213, 214, 215, 216, 63, 511, 512, 513, 514, 515, 536, 537, 538, 539, 540, 541, 542, 549, 550, 551, 552, 553] (by decide +kernel) (by decide +kernel)) (goodIn_sub (fun _ h => List.mem_append_left _ (List.mem_append_left _ (List.mem_append_right _ h))) (by decide +kernel))
set_option maxRecDepth 20000 in
theorem gL_law_L_lag : GoodIn wsL_law (va_wsS RL 153 yL_lag wsL_lag) := goodIn_app (goodIn_of _ (by decide +kernel)) ggL_law_L_lag
set_option maxRecDepth 20000 in
theorem ggL_law_X5_lag : GoodIn wsL_law wsX5_lag := goodIn_r _ [468, 81, 151, 82, 254, 255, 5, 256, 138, 139, 140, 152, 153, 154, 155, 156, 516, 517, 518, 519, 520, 521, 522, 523, 524, 525, 526, 527, 528, 529, 530, 531, 532, 533, 534, 535] (by decide +kernel) (by decide +kernel)
set_option maxRecDepth 20000 in
theorem gL_law_X5_lag : GoodIn wsL_law (wsV RL 155 RX5 yX5_lag wsX5_lag) := goodIn_app (goodIn_of _ (by decide +kernel)) ggL_law_X5_lag
set_option maxRecDepth 20000 in
theorem ggL_law_L_copiedAt : GoodIn wsL_law wsL_copiedAt := goodIn_ca (goodIn_r _ [471, 91, 472, 473, 474, 2, 475, 20, 322, 323, 324, 101, 102, 103, 104, 105, 511, 512, 513, 514, 515, 549, 550, 551, 552, 553] (by decide +kernel) (by decide +kernel)) (goodIn_sub (fun _ h => List.mem_append_left _ (List.mem_append_left _ (List.mem_append_right _ h))) (by decide +kernel))
set_option maxRecDepth 20000 in
theorem gL_law_L_copiedAt : GoodIn wsL_law (va_wsS RL 156 yL_copiedAt wsL_copiedAt) := goodIn_app (goodIn_of _ (by decide +kernel)) ggL_law_L_copiedAt
set_option maxRecDepth 20000 in
theorem ggL_law_X5_copiedAt : GoodIn wsL_law wsX5_copiedAt := goodIn_r _ [479, 83, 254, 255, 5, 256, 138, 139, 140, 144, 145, 146, 152, 153, 154, 155, 156, 516, 517, 518, 519, 520, 521, 522, 523, 524, 525, 526, 527, 528, 529, 530, 531, 532, 533, 534, 535] (by decide +kernel) (by decide +kernel)
set_option maxRecDepth 20000 in
theorem gL_law_X5_copiedAt : GoodIn wsL_law (wsV RL 158 RX5 yX5_copiedAt wsX5_copiedAt) := goodIn_app (goodIn_of _ (by decide +kernel)) ggL_law_X5_copiedAt
set_option maxRecDepth 20000 in
theorem ggL_law_L_seen : GoodIn wsL_law wsL_seen := goodIn_ca (goodIn_r _ [482, 91, 483, 484, 485, 2, 486, 20, 322, 323, 324, 101, 102, 98, 99, 100, 103, 104, 105, 244, 245, 246, 121, 122, 123, 247, 248, 249, 511, 512, 513, 514, 515, 549, 550, 551, 552, 553] (by decide +kernel) (by decide +kernel)) (goodIn_sub (fun _ h => List.mem_append_left _ (List.mem_append_left _ (List.mem_append_right _ h))) (by decide +kernel))
set_option maxRecDepth 20000 in
theorem gL_law_L_seen : GoodIn wsL_law (va_wsS RL 159 yL_seen wsL_seen) := goodIn_app (goodIn_of _ (by decide +kernel)) ggL_law_L_seen
set_option maxRecDepth 20000 in
theorem ggL_law_X5_seen : GoodIn wsL_law wsX5_seen := goodIn_r _ [490, 84, 254, 255, 5, 256, 138, 139, 140, 141, 142, 143, 144, 145, 146, 152, 153, 154, 155, 156, 257, 258, 259, 516, 517, 518, 519, 520, 521, 522, 523, 524, 525, 526, 527, 528, 529, 530, 531, 532, 533, 534, 535] (by decide +kernel) (by decide +kernel)
set_option maxRecDepth 20000 in
theorem gL_law_X5_seen : GoodIn wsL_law (wsV RL 161 RX5 yX5_seen wsX5_seen) := goodIn_app (goodIn_of _ (by decide +kernel)) ggL_law_X5_seen
set_option maxRecDepth 20000 in
theorem ggL_law_L_isFaithful : GoodIn wsL_law wsL_isFaithful := goodIn_ca (goodIn_ca (goodIn_r _ [493, 91, 93, 494, 495, 496, 2, 497, 115, 116, 20, 498, 499, 500, 501, 16, 322, 323, 324, 101, 102, 103, 104, 105, 502, 214, 215, 29, 216, 63, 121, 122, 123, 503, 504, 505, 15, 506, 41, 359, 360, 361, 27, 362, 51, 54, 248, 249, 363, 364, 365, 366, 52, 53, 511, 512, 513, 514, 515, 549, 550, 551, 552, 553, 536, 537, 538, 539, 540, 541, 542, 545, 546, 547, 548] (by decide +kernel) (by decide +kernel)) (goodIn_sub (fun _ h => List.mem_append_right _ h) (by decide +kernel))) (goodIn_sub (fun _ h => List.mem_append_left _ (List.mem_append_left _ (List.mem_append_right _ h))) (by decide +kernel))
set_option maxRecDepth 20000 in
theorem gL_law_L_isFaithful : GoodIn wsL_law (va_wsS RL 162 yL_isFaithful wsL_isFaithful) := goodIn_app (goodIn_of _ (by decide +kernel)) ggL_law_L_isFaithful
set_option maxRecDepth 20000 in
theorem ggL_law_X5_isFaithful : GoodIn wsL_law wsX5_isFaithful := goodIn_r _ [510, 81, 83, 82, 84, 80, 254, 255, 5, 256, 138, 139, 140, 144, 145, 146, 152, 153, 154, 155, 156, 371, 372, 373, 374, 70, 375, 376, 377, 378, 76, 77, 78, 257, 258, 259, 379, 380, 381, 382, 79, 516, 517, 518, 519, 520, 521, 522, 523, 524, 525, 526, 527, 528, 529, 530, 531, 532, 533, 534, 535] (by decide +kernel) (by decide +kernel)
set_option maxRecDepth 20000 in
theorem gL_law_X5_isFaithful : GoodIn wsL_law (wsV RL 164 RX5 yX5_isFaithful wsX5_isFaithful) := goodIn_app (goodIn_of _ (by decide +kernel)) ggL_law_X5_isFaithful
end
section
theorem dL_law_0 : decode cL_law 0 = .ok (.new 8, 3) := by decide +kernel
theorem dL_law_3 : decode cL_law 3 = .ok (.dup, 1) := by decide +kernel
theorem dL_law_4 : decode cL_law 4 = .ok (.invokespecial 83, 3) := by decide +kernel
theorem dL_law_7 : decode cL_law 7 = .ok (.astore_n 1, 1) := by decide +kernel
theorem dL_law_8 : decode cL_law 8 = .ok (.new 84, 3) := by decide +kernel
theorem dL_law_11 : decode cL_law 11 = .ok (.dup, 1) := by decide +kernel
theorem dL_law_12 : decode cL_law 12 = .ok (.invokespecial 86, 3) := by decide +kernel
theorem dL_law_15 : decode cL_law 15 = .ok (.astore_n 2, 1) := by decide +kernel
theorem dL_law_16 : decode cL_law 16 = .ok (.iconst 1, 1) := by decide +kernel
theorem dL_law_17 : decode cL_law 17 = .ok (.newarray .long, 2) := by decide +kernel
theorem dL_law_19 : decode cL_law 19 = .ok (.astore_n 3, 1) := by decide +kernel
theorem dL_law_20 : decode cL_law 20 = .ok (.iconst 0, 1) := by decide +kernel
theorem dL_law_21 : decode cL_law 21 = .ok (.istore 4, 2) := by decide +kernel
theorem dL_law_23 : decode cL_law 23 = .ok (.iload 4, 2) := by decide +kernel
theorem dL_law_25 : decode cL_law 25 = .ok (.aload_n 0, 1) := by decide +kernel
theorem dL_law_26 : decode cL_law 26 = .ok (.arraylength, 1) := by decide +kernel
theorem dL_law_27 : decode cL_law 27 = .ok (.bipush 6, 2) := by decide +kernel
theorem dL_law_29 : decode cL_law 29 = .ok (.isub, 1) := by decide +kernel
theorem dL_law_30 : decode cL_law 30 = .ok (.if_icmp .gt 1511, 3) := by decide +kernel
theorem dL_law_33 : decode cL_law 33 = .ok (.aload_n 0, 1) := by decide +kernel
theorem dL_law_34 : decode cL_law 34 = .ok (.iload 4, 2) := by decide +kernel
theorem dL_law_36 : decode cL_law 36 = .ok (.iaload, 1) := by decide +kernel
theorem dL_law_37 : decode cL_law 37 = .ok (.bipush 31, 2) := by decide +kernel
theorem dL_law_39 : decode cL_law 39 = .ok (.iand, 1) := by decide +kernel
theorem dL_law_40 : decode cL_law 40 = .ok (.tableswitch 1495 0 20 #[100, 211, 259, 315, 359, 372, 452, 465, 521, 625, 705, 773, 829, 897, 965, 1049, 1148, 1204, 1260, 1328, 1420], 100) := by decide +kernel
theorem dL_law_140 : decode cL_law 140 = .ok (.aload_n 1, 1) := by decide +kernel
theorem dL_law_141 : decode cL_law 141 = .ok (.aload_n 0, 1) := by decide +kernel
theorem dL_law_142 : decode cL_law 142 = .ok (.iload 4, 2) := by decide +kernel
theorem dL_law_144 : decode cL_law 144 = .ok (.iconst 1, 1) := by decide +kernel
theorem dL_law_145 : decode cL_law 145 = .ok (.iadd, 1) := by decide +kernel
theorem dL_law_146 : decode cL_law 146 = .ok (.iaload, 1) := by decide +kernel
theorem dL_law_147 : decode cL_law 147 = .ok (.aload_n 0, 1) := by decide +kernel
theorem dL_law_148 : decode cL_law 148 = .ok (.iload 4, 2) := by decide +kernel
theorem dL_law_150 : decode cL_law 150 = .ok (.iconst 2, 1) := by decide +kernel
theorem dL_law_151 : decode cL_law 151 = .ok (.iadd, 1) := by decide +kernel
theorem dL_law_152 : decode cL_law 152 = .ok (.iaload, 1) := by decide +kernel
theorem dL_law_153 : decode cL_law 153 = .ok (.aload_n 0, 1) := by decide +kernel
theorem dL_law_154 : decode cL_law 154 = .ok (.iload 4, 2) := by decide +kernel
theorem dL_law_156 : decode cL_law 156 = .ok (.iconst 3, 1) := by decide +kernel
theorem dL_law_157 : decode cL_law 157 = .ok (.iadd, 1) := by decide +kernel
theorem dL_law_158 : decode cL_law 158 = .ok (.iaload, 1) := by decide +kernel
theorem dL_law_159 : decode cL_law 159 = .ok (.aload_n 0, 1) := by decide +kernel
theorem dL_law_160 : decode cL_law 160 = .ok (.iload 4, 2) := by decide +kernel
theorem dL_law_162 : decode cL_law 162 = .ok (.iconst 4, 1) := by decide +kernel
theorem dL_law_163 : decode cL_law 163 = .ok (.iadd, 1) := by decide +kernel
theorem dL_law_164 : decode cL_law 164 = .ok (.iaload, 1) := by decide +kernel
theorem dL_law_165 : decode cL_law 165 = .ok (.aload_n 0, 1) := by decide +kernel
theorem dL_law_166 : decode cL_law 166 = .ok (.iload 4, 2) := by decide +kernel
theorem dL_law_168 : decode cL_law 168 = .ok (.iconst 5, 1) := by decide +kernel
theorem dL_law_169 : decode cL_law 169 = .ok (.iadd, 1) := by decide +kernel
theorem dL_law_170 : decode cL_law 170 = .ok (.iaload, 1) := by decide +kernel
theorem dL_law_171 : decode cL_law 171 = .ok (.aload_n 3, 1) := by decide +kernel
theorem dL_law_172 : decode cL_law 172 = .ok (.invokestatic 87, 3) := by decide +kernel
theorem dL_law_175 : decode cL_law 175 = .ok (.istore 5, 2) := by decide +kernel
theorem dL_law_177 : decode cL_law 177 = .ok (.aload_n 2, 1) := by decide +kernel
theorem dL_law_178 : decode cL_law 178 = .ok (.aload_n 0, 1) := by decide +kernel
theorem dL_law_179 : decode cL_law 179 = .ok (.iload 4, 2) := by decide +kernel
theorem dL_law_181 : decode cL_law 181 = .ok (.iconst 1, 1) := by decide +kernel
theorem dL_law_182 : decode cL_law 182 = .ok (.iadd, 1) := by decide +kernel
theorem dL_law_183 : decode cL_law 183 = .ok (.iaload, 1) := by decide +kernel
theorem dL_law_184 : decode cL_law 184 = .ok (.aload_n 0, 1) := by decide +kernel
theorem dL_law_185 : decode cL_law 185 = .ok (.iload 4, 2) := by decide +kernel
theorem dL_law_187 : decode cL_law 187 = .ok (.iconst 2, 1) := by decide +kernel
theorem dL_law_188 : decode cL_law 188 = .ok (.iadd, 1) := by decide +kernel
theorem dL_law_189 : decode cL_law 189 = .ok (.iaload, 1) := by decide +kernel
theorem dL_law_190 : decode cL_law 190 = .ok (.aload_n 0, 1) := by decide +kernel
theorem dL_law_191 : decode cL_law 191 = .ok (.iload 4, 2) := by decide +kernel
theorem dL_law_193 : decode cL_law 193 = .ok (.iconst 3, 1) := by decide +kernel
theorem dL_law_194 : decode cL_law 194 = .ok (.iadd, 1) := by decide +kernel
theorem dL_law_195 : decode cL_law 195 = .ok (.iaload, 1) := by decide +kernel
theorem dL_law_196 : decode cL_law 196 = .ok (.aload_n 0, 1) := by decide +kernel
theorem dL_law_197 : decode cL_law 197 = .ok (.iload 4, 2) := by decide +kernel
theorem dL_law_199 : decode cL_law 199 = .ok (.iconst 4, 1) := by decide +kernel
theorem dL_law_200 : decode cL_law 200 = .ok (.iadd, 1) := by decide +kernel
theorem dL_law_201 : decode cL_law 201 = .ok (.iaload, 1) := by decide +kernel
theorem dL_law_202 : decode cL_law 202 = .ok (.aload_n 0, 1) := by decide +kernel
theorem dL_law_203 : decode cL_law 203 = .ok (.iload 4, 2) := by decide +kernel
theorem dL_law_205 : decode cL_law 205 = .ok (.iconst 5, 1) := by decide +kernel
theorem dL_law_206 : decode cL_law 206 = .ok (.iadd, 1) := by decide +kernel
theorem dL_law_207 : decode cL_law 207 = .ok (.iaload, 1) := by decide +kernel
theorem dL_law_208 : decode cL_law 208 = .ok (.invokevirtual 92, 3) := by decide +kernel
theorem dL_law_211 : decode cL_law 211 = .ok (.istore 6, 2) := by decide +kernel
theorem dL_law_213 : decode cL_law 213 = .ok (.aload_n 2, 1) := by decide +kernel
theorem dL_law_214 : decode cL_law 214 = .ok (.invokevirtual 93, 3) := by decide +kernel
theorem dL_law_217 : decode cL_law 217 = .ok (.iload 5, 2) := by decide +kernel
theorem dL_law_219 : decode cL_law 219 = .ok (.if_icmp .eq 5, 3) := by decide +kernel
theorem dL_law_222 : decode cL_law 222 = .ok (.iconst 0, 1) := by decide +kernel
theorem dL_law_223 : decode cL_law 223 = .ok (.ireturn, 1) := by decide +kernel
theorem dL_law_224 : decode cL_law 224 = .ok (.iload 5, 2) := by decide +kernel
theorem dL_law_226 : decode cL_law 226 = .ok (.ifCond .ne 22, 3) := by decide +kernel
theorem dL_law_229 : decode cL_law 229 = .ok (.aload_n 3, 1) := by decide +kernel
theorem dL_law_230 : decode cL_law 230 = .ok (.iconst 0, 1) := by decide +kernel
theorem dL_law_231 : decode cL_law 231 = .ok (.laload, 1) := by decide +kernel
theorem dL_law_232 : decode cL_law 232 = .ok (.iload 6, 2) := by decide +kernel
theorem dL_law_234 : decode cL_law 234 = .ok (.ifCond .eq 7, 3) := by decide +kernel
theorem dL_law_237 : decode cL_law 237 = .ok (.lconst 1, 1) := by decide +kernel
theorem dL_law_238 : decode cL_law 238 = .ok (.goto 4, 3) := by decide +kernel
theorem dL_law_241 : decode cL_law 241 = .ok (.lconst 0, 1) := by decide +kernel
theorem dL_law_242 : decode cL_law 242 = .ok (.lcmp, 1) := by decide +kernel
theorem dL_law_243 : decode cL_law 243 = .ok (.ifCond .eq 5, 3) := by decide +kernel
theorem dL_law_246 : decode cL_law 246 = .ok (.iconst 0, 1) := by decide +kernel
theorem dL_law_247 : decode cL_law 247 = .ok (.ireturn, 1) := by decide +kernel
theorem dL_law_248 : decode cL_law 248 = .ok (.goto 1287, 3) := by decide +kernel
theorem dL_law_251 : decode cL_law 251 = .ok (.aload_n 1, 1) := by decide +kernel
theorem dL_law_252 : decode cL_law 252 = .ok (.aload_n 0, 1) := by decide +kernel
theorem dL_law_253 : decode cL_law 253 = .ok (.iload 4, 2) := by decide +kernel
theorem dL_law_255 : decode cL_law 255 = .ok (.iconst 1, 1) := by decide +kernel
theorem dL_law_256 : decode cL_law 256 = .ok (.iadd, 1) := by decide +kernel
theorem dL_law_257 : decode cL_law 257 = .ok (.iaload, 1) := by decide +kernel
theorem dL_law_258 : decode cL_law 258 = .ok (.aload_n 0, 1) := by decide +kernel
theorem dL_law_259 : decode cL_law 259 = .ok (.iload 4, 2) := by decide +kernel
theorem dL_law_261 : decode cL_law 261 = .ok (.iconst 2, 1) := by decide +kernel
theorem dL_law_262 : decode cL_law 262 = .ok (.iadd, 1) := by decide +kernel
theorem dL_law_263 : decode cL_law 263 = .ok (.iaload, 1) := by decide +kernel
theorem dL_law_264 : decode cL_law 264 = .ok (.invokestatic 96, 3) := by decide +kernel
theorem dL_law_267 : decode cL_law 267 = .ok (.istore 5, 2) := by decide +kernel
theorem dL_law_269 : decode cL_law 269 = .ok (.aload_n 2, 1) := by decide +kernel
theorem dL_law_270 : decode cL_law 270 = .ok (.aload_n 0, 1) := by decide +kernel
theorem dL_law_271 : decode cL_law 271 = .ok (.iload 4, 2) := by decide +kernel
theorem dL_law_273 : decode cL_law 273 = .ok (.iconst 1, 1) := by decide +kernel
theorem dL_law_274 : decode cL_law 274 = .ok (.iadd, 1) := by decide +kernel
theorem dL_law_275 : decode cL_law 275 = .ok (.iaload, 1) := by decide +kernel
theorem dL_law_276 : decode cL_law 276 = .ok (.aload_n 0, 1) := by decide +kernel
theorem dL_law_277 : decode cL_law 277 = .ok (.iload 4, 2) := by decide +kernel
theorem dL_law_279 : decode cL_law 279 = .ok (.iconst 2, 1) := by decide +kernel
theorem dL_law_280 : decode cL_law 280 = .ok (.iadd, 1) := by decide +kernel
theorem dL_law_281 : decode cL_law 281 = .ok (.iaload, 1) := by decide +kernel
theorem dL_law_282 : decode cL_law 282 = .ok (.invokevirtual 99, 3) := by decide +kernel
theorem dL_law_285 : decode cL_law 285 = .ok (.aload_n 2, 1) := by decide +kernel
theorem dL_law_286 : decode cL_law 286 = .ok (.invokevirtual 93, 3) := by decide +kernel
theorem dL_law_289 : decode cL_law 289 = .ok (.iload 5, 2) := by decide +kernel
theorem dL_law_291 : decode cL_law 291 = .ok (.if_icmp .eq 5, 3) := by decide +kernel
theorem dL_law_294 : decode cL_law 294 = .ok (.iconst 0, 1) := by decide +kernel
theorem dL_law_295 : decode cL_law 295 = .ok (.ireturn, 1) := by decide +kernel
theorem dL_law_296 : decode cL_law 296 = .ok (.goto 1239, 3) := by decide +kernel
theorem dL_law_299 : decode cL_law 299 = .ok (.aload_n 1, 1) := by decide +kernel
theorem dL_law_300 : decode cL_law 300 = .ok (.aload_n 0, 1) := by decide +kernel
theorem dL_law_301 : decode cL_law 301 = .ok (.iload 4, 2) := by decide +kernel
theorem dL_law_303 : decode cL_law 303 = .ok (.iconst 1, 1) := by decide +kernel
theorem dL_law_304 : decode cL_law 304 = .ok (.iadd, 1) := by decide +kernel
theorem dL_law_305 : decode cL_law 305 = .ok (.iaload, 1) := by decide +kernel
theorem dL_law_306 : decode cL_law 306 = .ok (.aload_n 3, 1) := by decide +kernel
theorem dL_law_307 : decode cL_law 307 = .ok (.invokestatic 100, 3) := by decide +kernel
theorem dL_law_310 : decode cL_law 310 = .ok (.istore 5, 2) := by decide +kernel
theorem dL_law_312 : decode cL_law 312 = .ok (.aload_n 2, 1) := by decide +kernel
theorem dL_law_313 : decode cL_law 313 = .ok (.aload_n 0, 1) := by decide +kernel
theorem dL_law_314 : decode cL_law 314 = .ok (.iload 4, 2) := by decide +kernel
theorem dL_law_316 : decode cL_law 316 = .ok (.iconst 1, 1) := by decide +kernel
theorem dL_law_317 : decode cL_law 317 = .ok (.iadd, 1) := by decide +kernel
theorem dL_law_318 : decode cL_law 318 = .ok (.iaload, 1) := by decide +kernel
theorem dL_law_319 : decode cL_law 319 = .ok (.invokevirtual 103, 3) := by decide +kernel
theorem dL_law_322 : decode cL_law 322 = .ok (.istore 6, 2) := by decide +kernel
theorem dL_law_324 : decode cL_law 324 = .ok (.aload_n 2, 1) := by decide +kernel
theorem dL_law_325 : decode cL_law 325 = .ok (.invokevirtual 93, 3) := by decide +kernel
theorem dL_law_328 : decode cL_law 328 = .ok (.iload 5, 2) := by decide +kernel
theorem dL_law_330 : decode cL_law 330 = .ok (.if_icmp .eq 5, 3) := by decide +kernel
theorem dL_law_333 : decode cL_law 333 = .ok (.iconst 0, 1) := by decide +kernel
theorem dL_law_334 : decode cL_law 334 = .ok (.ireturn, 1) := by decide +kernel
theorem dL_law_335 : decode cL_law 335 = .ok (.iload 5, 2) := by decide +kernel
theorem dL_law_337 : decode cL_law 337 = .ok (.ifCond .ne 15, 3) := by decide +kernel
end
section
theorem dL_law_340 : decode cL_law 340 = .ok (.aload_n 3, 1) := by decide +kernel
theorem dL_law_341 : decode cL_law 341 = .ok (.iconst 0, 1) := by decide +kernel
theorem dL_law_342 : decode cL_law 342 = .ok (.laload, 1) := by decide +kernel
theorem dL_law_343 : decode cL_law 343 = .ok (.iload 6, 2) := by decide +kernel
theorem dL_law_345 : decode cL_law 345 = .ok (.i2l, 1) := by decide +kernel
theorem dL_law_346 : decode cL_law 346 = .ok (.lcmp, 1) := by decide +kernel
theorem dL_law_347 : decode cL_law 347 = .ok (.ifCond .eq 5, 3) := by decide +kernel
theorem dL_law_350 : decode cL_law 350 = .ok (.iconst 0, 1) := by decide +kernel
theorem dL_law_351 : decode cL_law 351 = .ok (.ireturn, 1) := by decide +kernel
theorem dL_law_352 : decode cL_law 352 = .ok (.goto 1183, 3) := by decide +kernel
theorem dL_law_355 : decode cL_law 355 = .ok (.aload_n 1, 1) := by decide +kernel
theorem dL_law_356 : decode cL_law 356 = .ok (.aload_n 3, 1) := by decide +kernel
theorem dL_law_357 : decode cL_law 357 = .ok (.invokestatic 104, 3) := by decide +kernel
theorem dL_law_360 : decode cL_law 360 = .ok (.istore 5, 2) := by decide +kernel
theorem dL_law_362 : decode cL_law 362 = .ok (.aload_n 2, 1) := by decide +kernel
theorem dL_law_363 : decode cL_law 363 = .ok (.invokevirtual 107, 3) := by decide +kernel
theorem dL_law_366 : decode cL_law 366 = .ok (.istore 6, 2) := by decide +kernel
theorem dL_law_368 : decode cL_law 368 = .ok (.aload_n 2, 1) := by decide +kernel
theorem dL_law_369 : decode cL_law 369 = .ok (.invokevirtual 93, 3) := by decide +kernel
theorem dL_law_372 : decode cL_law 372 = .ok (.iload 5, 2) := by decide +kernel
theorem dL_law_374 : decode cL_law 374 = .ok (.if_icmp .eq 5, 3) := by decide +kernel
theorem dL_law_377 : decode cL_law 377 = .ok (.iconst 0, 1) := by decide +kernel
theorem dL_law_378 : decode cL_law 378 = .ok (.ireturn, 1) := by decide +kernel
theorem dL_law_379 : decode cL_law 379 = .ok (.iload 5, 2) := by decide +kernel
theorem dL_law_381 : decode cL_law 381 = .ok (.ifCond .ne 15, 3) := by decide +kernel
theorem dL_law_384 : decode cL_law 384 = .ok (.aload_n 3, 1) := by decide +kernel
theorem dL_law_385 : decode cL_law 385 = .ok (.iconst 0, 1) := by decide +kernel
theorem dL_law_386 : decode cL_law 386 = .ok (.laload, 1) := by decide +kernel
theorem dL_law_387 : decode cL_law 387 = .ok (.iload 6, 2) := by decide +kernel
theorem dL_law_389 : decode cL_law 389 = .ok (.i2l, 1) := by decide +kernel
theorem dL_law_390 : decode cL_law 390 = .ok (.lcmp, 1) := by decide +kernel
theorem dL_law_391 : decode cL_law 391 = .ok (.ifCond .eq 5, 3) := by decide +kernel
theorem dL_law_394 : decode cL_law 394 = .ok (.iconst 0, 1) := by decide +kernel
theorem dL_law_395 : decode cL_law 395 = .ok (.ireturn, 1) := by decide +kernel
theorem dL_law_396 : decode cL_law 396 = .ok (.goto 1139, 3) := by decide +kernel
theorem dL_law_399 : decode cL_law 399 = .ok (.aload_n 1, 1) := by decide +kernel
theorem dL_law_400 : decode cL_law 400 = .ok (.invokevirtual 108, 3) := by decide +kernel
theorem dL_law_403 : decode cL_law 403 = .ok (.aload_n 2, 1) := by decide +kernel
theorem dL_law_404 : decode cL_law 404 = .ok (.invokevirtual 111, 3) := by decide +kernel
theorem dL_law_407 : decode cL_law 407 = .ok (.if_icmp .eq 1128, 3) := by decide +kernel
theorem dL_law_410 : decode cL_law 410 = .ok (.iconst 0, 1) := by decide +kernel
theorem dL_law_411 : decode cL_law 411 = .ok (.ireturn, 1) := by decide +kernel
theorem dL_law_412 : decode cL_law 412 = .ok (.aload_n 1, 1) := by decide +kernel
theorem dL_law_413 : decode cL_law 413 = .ok (.aload_n 0, 1) := by decide +kernel
theorem dL_law_414 : decode cL_law 414 = .ok (.iload 4, 2) := by decide +kernel
theorem dL_law_416 : decode cL_law 416 = .ok (.iconst 1, 1) := by decide +kernel
theorem dL_law_417 : decode cL_law 417 = .ok (.iadd, 1) := by decide +kernel
theorem dL_law_418 : decode cL_law 418 = .ok (.iaload, 1) := by decide +kernel
theorem dL_law_419 : decode cL_law 419 = .ok (.aload_n 0, 1) := by decide +kernel
theorem dL_law_420 : decode cL_law 420 = .ok (.iload 4, 2) := by decide +kernel
theorem dL_law_422 : decode cL_law 422 = .ok (.iconst 2, 1) := by decide +kernel
theorem dL_law_423 : decode cL_law 423 = .ok (.iadd, 1) := by decide +kernel
theorem dL_law_424 : decode cL_law 424 = .ok (.iaload, 1) := by decide +kernel
theorem dL_law_425 : decode cL_law 425 = .ok (.aload_n 0, 1) := by decide +kernel
theorem dL_law_426 : decode cL_law 426 = .ok (.iload 4, 2) := by decide +kernel
theorem dL_law_428 : decode cL_law 428 = .ok (.iconst 3, 1) := by decide +kernel
theorem dL_law_429 : decode cL_law 429 = .ok (.iadd, 1) := by decide +kernel
theorem dL_law_430 : decode cL_law 430 = .ok (.iaload, 1) := by decide +kernel
theorem dL_law_431 : decode cL_law 431 = .ok (.aload_n 3, 1) := by decide +kernel
theorem dL_law_432 : decode cL_law 432 = .ok (.invokestatic 112, 3) := by decide +kernel
theorem dL_law_435 : decode cL_law 435 = .ok (.istore 5, 2) := by decide +kernel
theorem dL_law_437 : decode cL_law 437 = .ok (.aload_n 2, 1) := by decide +kernel
theorem dL_law_438 : decode cL_law 438 = .ok (.aload_n 0, 1) := by decide +kernel
theorem dL_law_439 : decode cL_law 439 = .ok (.iload 4, 2) := by decide +kernel
theorem dL_law_441 : decode cL_law 441 = .ok (.iconst 1, 1) := by decide +kernel
theorem dL_law_442 : decode cL_law 442 = .ok (.iadd, 1) := by decide +kernel
theorem dL_law_443 : decode cL_law 443 = .ok (.iaload, 1) := by decide +kernel
theorem dL_law_444 : decode cL_law 444 = .ok (.aload_n 0, 1) := by decide +kernel
theorem dL_law_445 : decode cL_law 445 = .ok (.iload 4, 2) := by decide +kernel
theorem dL_law_447 : decode cL_law 447 = .ok (.iconst 2, 1) := by decide +kernel
theorem dL_law_448 : decode cL_law 448 = .ok (.iadd, 1) := by decide +kernel
theorem dL_law_449 : decode cL_law 449 = .ok (.iaload, 1) := by decide +kernel
theorem dL_law_450 : decode cL_law 450 = .ok (.aload_n 0, 1) := by decide +kernel
theorem dL_law_451 : decode cL_law 451 = .ok (.iload 4, 2) := by decide +kernel
theorem dL_law_453 : decode cL_law 453 = .ok (.iconst 3, 1) := by decide +kernel
theorem dL_law_454 : decode cL_law 454 = .ok (.iadd, 1) := by decide +kernel
theorem dL_law_455 : decode cL_law 455 = .ok (.iaload, 1) := by decide +kernel
theorem dL_law_456 : decode cL_law 456 = .ok (.invokevirtual 115, 3) := by decide +kernel
theorem dL_law_459 : decode cL_law 459 = .ok (.istore 6, 2) := by decide +kernel
theorem dL_law_461 : decode cL_law 461 = .ok (.aload_n 2, 1) := by decide +kernel
theorem dL_law_462 : decode cL_law 462 = .ok (.invokevirtual 93, 3) := by decide +kernel
theorem dL_law_465 : decode cL_law 465 = .ok (.iload 5, 2) := by decide +kernel
theorem dL_law_467 : decode cL_law 467 = .ok (.if_icmp .eq 5, 3) := by decide +kernel
theorem dL_law_470 : decode cL_law 470 = .ok (.iconst 0, 1) := by decide +kernel
theorem dL_law_471 : decode cL_law 471 = .ok (.ireturn, 1) := by decide +kernel
theorem dL_law_472 : decode cL_law 472 = .ok (.iload 5, 2) := by decide +kernel
theorem dL_law_474 : decode cL_law 474 = .ok (.ifCond .ne 15, 3) := by decide +kernel
theorem dL_law_477 : decode cL_law 477 = .ok (.aload_n 3, 1) := by decide +kernel
theorem dL_law_478 : decode cL_law 478 = .ok (.iconst 0, 1) := by decide +kernel
theorem dL_law_479 : decode cL_law 479 = .ok (.laload, 1) := by decide +kernel
theorem dL_law_480 : decode cL_law 480 = .ok (.iload 6, 2) := by decide +kernel
theorem dL_law_482 : decode cL_law 482 = .ok (.i2l, 1) := by decide +kernel
theorem dL_law_483 : decode cL_law 483 = .ok (.lcmp, 1) := by decide +kernel
theorem dL_law_484 : decode cL_law 484 = .ok (.ifCond .eq 5, 3) := by decide +kernel
theorem dL_law_487 : decode cL_law 487 = .ok (.iconst 0, 1) := by decide +kernel
theorem dL_law_488 : decode cL_law 488 = .ok (.ireturn, 1) := by decide +kernel
theorem dL_law_489 : decode cL_law 489 = .ok (.goto 1046, 3) := by decide +kernel
theorem dL_law_492 : decode cL_law 492 = .ok (.aload_n 1, 1) := by decide +kernel
theorem dL_law_493 : decode cL_law 493 = .ok (.invokevirtual 116, 3) := by decide +kernel
theorem dL_law_496 : decode cL_law 496 = .ok (.aload_n 2, 1) := by decide +kernel
theorem dL_law_497 : decode cL_law 497 = .ok (.invokevirtual 119, 3) := by decide +kernel
theorem dL_law_500 : decode cL_law 500 = .ok (.if_icmp .eq 1035, 3) := by decide +kernel
theorem dL_law_503 : decode cL_law 503 = .ok (.iconst 0, 1) := by decide +kernel
theorem dL_law_504 : decode cL_law 504 = .ok (.ireturn, 1) := by decide +kernel
theorem dL_law_505 : decode cL_law 505 = .ok (.aload_n 1, 1) := by decide +kernel
theorem dL_law_506 : decode cL_law 506 = .ok (.aload_n 0, 1) := by decide +kernel
theorem dL_law_507 : decode cL_law 507 = .ok (.iload 4, 2) := by decide +kernel
theorem dL_law_509 : decode cL_law 509 = .ok (.iconst 1, 1) := by decide +kernel
theorem dL_law_510 : decode cL_law 510 = .ok (.iadd, 1) := by decide +kernel
theorem dL_law_511 : decode cL_law 511 = .ok (.iaload, 1) := by decide +kernel
theorem dL_law_512 : decode cL_law 512 = .ok (.aload_n 3, 1) := by decide +kernel
theorem dL_law_513 : decode cL_law 513 = .ok (.invokestatic 120, 3) := by decide +kernel
theorem dL_law_516 : decode cL_law 516 = .ok (.istore 5, 2) := by decide +kernel
theorem dL_law_518 : decode cL_law 518 = .ok (.aload_n 2, 1) := by decide +kernel
theorem dL_law_519 : decode cL_law 519 = .ok (.aload_n 0, 1) := by decide +kernel
theorem dL_law_520 : decode cL_law 520 = .ok (.iload 4, 2) := by decide +kernel
theorem dL_law_522 : decode cL_law 522 = .ok (.iconst 1, 1) := by decide +kernel
theorem dL_law_523 : decode cL_law 523 = .ok (.iadd, 1) := by decide +kernel
theorem dL_law_524 : decode cL_law 524 = .ok (.iaload, 1) := by decide +kernel
theorem dL_law_525 : decode cL_law 525 = .ok (.invokevirtual 122, 3) := by decide +kernel
theorem dL_law_528 : decode cL_law 528 = .ok (.istore 6, 2) := by decide +kernel
theorem dL_law_530 : decode cL_law 530 = .ok (.aload_n 2, 1) := by decide +kernel
theorem dL_law_531 : decode cL_law 531 = .ok (.invokevirtual 93, 3) := by decide +kernel
theorem dL_law_534 : decode cL_law 534 = .ok (.iload 5, 2) := by decide +kernel
theorem dL_law_536 : decode cL_law 536 = .ok (.if_icmp .eq 5, 3) := by decide +kernel
theorem dL_law_539 : decode cL_law 539 = .ok (.iconst 0, 1) := by decide +kernel
theorem dL_law_540 : decode cL_law 540 = .ok (.ireturn, 1) := by decide +kernel
theorem dL_law_541 : decode cL_law 541 = .ok (.iload 5, 2) := by decide +kernel
theorem dL_law_543 : decode cL_law 543 = .ok (.ifCond .ne 15, 3) := by decide +kernel
theorem dL_law_546 : decode cL_law 546 = .ok (.aload_n 3, 1) := by decide +kernel
theorem dL_law_547 : decode cL_law 547 = .ok (.iconst 0, 1) := by decide +kernel
theorem dL_law_548 : decode cL_law 548 = .ok (.laload, 1) := by decide +kernel
theorem dL_law_549 : decode cL_law 549 = .ok (.iload 6, 2) := by decide +kernel
theorem dL_law_551 : decode cL_law 551 = .ok (.i2l, 1) := by decide +kernel
theorem dL_law_552 : decode cL_law 552 = .ok (.lcmp, 1) := by decide +kernel
theorem dL_law_553 : decode cL_law 553 = .ok (.ifCond .eq 5, 3) := by decide +kernel
theorem dL_law_556 : decode cL_law 556 = .ok (.iconst 0, 1) := by decide +kernel
theorem dL_law_557 : decode cL_law 557 = .ok (.ireturn, 1) := by decide +kernel
theorem dL_law_558 : decode cL_law 558 = .ok (.goto 977, 3) := by decide +kernel
theorem dL_law_561 : decode cL_law 561 = .ok (.aload_n 1, 1) := by decide +kernel
theorem dL_law_562 : decode cL_law 562 = .ok (.aload_n 0, 1) := by decide +kernel
theorem dL_law_563 : decode cL_law 563 = .ok (.iload 4, 2) := by decide +kernel
theorem dL_law_565 : decode cL_law 565 = .ok (.iconst 1, 1) := by decide +kernel
theorem dL_law_566 : decode cL_law 566 = .ok (.iadd, 1) := by decide +kernel
theorem dL_law_567 : decode cL_law 567 = .ok (.iaload, 1) := by decide +kernel
theorem dL_law_568 : decode cL_law 568 = .ok (.aload_n 0, 1) := by decide +kernel
theorem dL_law_569 : decode cL_law 569 = .ok (.iload 4, 2) := by decide +kernel
theorem dL_law_571 : decode cL_law 571 = .ok (.iconst 2, 1) := by decide +kernel
theorem dL_law_572 : decode cL_law 572 = .ok (.iadd, 1) := by decide +kernel
theorem dL_law_573 : decode cL_law 573 = .ok (.iaload, 1) := by decide +kernel
theorem dL_law_574 : decode cL_law 574 = .ok (.aload_n 0, 1) := by decide +kernel
theorem dL_law_575 : decode cL_law 575 = .ok (.iload 4, 2) := by decide +kernel
theorem dL_law_577 : decode cL_law 577 = .ok (.iconst 3, 1) := by decide +kernel
theorem dL_law_578 : decode cL_law 578 = .ok (.iadd, 1) := by decide +kernel
theorem dL_law_579 : decode cL_law 579 = .ok (.iaload, 1) := by decide +kernel
theorem dL_law_580 : decode cL_law 580 = .ok (.aload_n 0, 1) := by decide +kernel
theorem dL_law_581 : decode cL_law 581 = .ok (.iload 4, 2) := by decide +kernel
theorem dL_law_583 : decode cL_law 583 = .ok (.iconst 4, 1) := by decide +kernel
theorem dL_law_584 : decode cL_law 584 = .ok (.iadd, 1) := by decide +kernel
theorem dL_law_585 : decode cL_law 585 = .ok (.iaload, 1) := by decide +kernel
end
section
theorem dL_law_586 : decode cL_law 586 = .ok (.aload_n 0, 1) := by decide +kernel
theorem dL_law_587 : decode cL_law 587 = .ok (.iload 4, 2) := by decide +kernel
theorem dL_law_589 : decode cL_law 589 = .ok (.iconst 5, 1) := by decide +kernel
theorem dL_law_590 : decode cL_law 590 = .ok (.iadd, 1) := by decide +kernel
theorem dL_law_591 : decode cL_law 591 = .ok (.iaload, 1) := by decide +kernel
theorem dL_law_592 : decode cL_law 592 = .ok (.aload_n 3, 1) := by decide +kernel
theorem dL_law_593 : decode cL_law 593 = .ok (.invokestatic 123, 3) := by decide +kernel
theorem dL_law_596 : decode cL_law 596 = .ok (.istore 5, 2) := by decide +kernel
theorem dL_law_598 : decode cL_law 598 = .ok (.aload_n 2, 1) := by decide +kernel
theorem dL_law_599 : decode cL_law 599 = .ok (.aload_n 0, 1) := by decide +kernel
theorem dL_law_600 : decode cL_law 600 = .ok (.iload 4, 2) := by decide +kernel
theorem dL_law_602 : decode cL_law 602 = .ok (.iconst 1, 1) := by decide +kernel
theorem dL_law_603 : decode cL_law 603 = .ok (.iadd, 1) := by decide +kernel
theorem dL_law_604 : decode cL_law 604 = .ok (.iaload, 1) := by decide +kernel
theorem dL_law_605 : decode cL_law 605 = .ok (.aload_n 0, 1) := by decide +kernel
theorem dL_law_606 : decode cL_law 606 = .ok (.iload 4, 2) := by decide +kernel
theorem dL_law_608 : decode cL_law 608 = .ok (.iconst 2, 1) := by decide +kernel
theorem dL_law_609 : decode cL_law 609 = .ok (.iadd, 1) := by decide +kernel
theorem dL_law_610 : decode cL_law 610 = .ok (.iaload, 1) := by decide +kernel
theorem dL_law_611 : decode cL_law 611 = .ok (.aload_n 0, 1) := by decide +kernel
theorem dL_law_612 : decode cL_law 612 = .ok (.iload 4, 2) := by decide +kernel
theorem dL_law_614 : decode cL_law 614 = .ok (.iconst 3, 1) := by decide +kernel
theorem dL_law_615 : decode cL_law 615 = .ok (.iadd, 1) := by decide +kernel
theorem dL_law_616 : decode cL_law 616 = .ok (.iaload, 1) := by decide +kernel
theorem dL_law_617 : decode cL_law 617 = .ok (.aload_n 0, 1) := by decide +kernel
theorem dL_law_618 : decode cL_law 618 = .ok (.iload 4, 2) := by decide +kernel
theorem dL_law_620 : decode cL_law 620 = .ok (.iconst 4, 1) := by decide +kernel
theorem dL_law_621 : decode cL_law 621 = .ok (.iadd, 1) := by decide +kernel
theorem dL_law_622 : decode cL_law 622 = .ok (.iaload, 1) := by decide +kernel
theorem dL_law_623 : decode cL_law 623 = .ok (.aload_n 0, 1) := by decide +kernel
theorem dL_law_624 : decode cL_law 624 = .ok (.iload 4, 2) := by decide +kernel
theorem dL_law_626 : decode cL_law 626 = .ok (.iconst 5, 1) := by decide +kernel
theorem dL_law_627 : decode cL_law 627 = .ok (.iadd, 1) := by decide +kernel
theorem dL_law_628 : decode cL_law 628 = .ok (.iaload, 1) := by decide +kernel
theorem dL_law_629 : decode cL_law 629 = .ok (.invokevirtual 125, 3) := by decide +kernel
theorem dL_law_632 : decode cL_law 632 = .ok (.istore 6, 2) := by decide +kernel
theorem dL_law_634 : decode cL_law 634 = .ok (.aload_n 2, 1) := by decide +kernel
theorem dL_law_635 : decode cL_law 635 = .ok (.invokevirtual 93, 3) := by decide +kernel
theorem dL_law_638 : decode cL_law 638 = .ok (.iload 5, 2) := by decide +kernel
theorem dL_law_640 : decode cL_law 640 = .ok (.if_icmp .eq 5, 3) := by decide +kernel
theorem dL_law_643 : decode cL_law 643 = .ok (.iconst 0, 1) := by decide +kernel
theorem dL_law_644 : decode cL_law 644 = .ok (.ireturn, 1) := by decide +kernel
theorem dL_law_645 : decode cL_law 645 = .ok (.iload 5, 2) := by decide +kernel
theorem dL_law_647 : decode cL_law 647 = .ok (.ifCond .ne 15, 3) := by decide +kernel
theorem dL_law_650 : decode cL_law 650 = .ok (.aload_n 3, 1) := by decide +kernel
theorem dL_law_651 : decode cL_law 651 = .ok (.iconst 0, 1) := by decide +kernel
theorem dL_law_652 : decode cL_law 652 = .ok (.laload, 1) := by decide +kernel
theorem dL_law_653 : decode cL_law 653 = .ok (.iload 6, 2) := by decide +kernel
theorem dL_law_655 : decode cL_law 655 = .ok (.i2l, 1) := by decide +kernel
theorem dL_law_656 : decode cL_law 656 = .ok (.lcmp, 1) := by decide +kernel
theorem dL_law_657 : decode cL_law 657 = .ok (.ifCond .eq 5, 3) := by decide +kernel
theorem dL_law_660 : decode cL_law 660 = .ok (.iconst 0, 1) := by decide +kernel
theorem dL_law_661 : decode cL_law 661 = .ok (.ireturn, 1) := by decide +kernel
theorem dL_law_662 : decode cL_law 662 = .ok (.goto 873, 3) := by decide +kernel
theorem dL_law_665 : decode cL_law 665 = .ok (.aload_n 1, 1) := by decide +kernel
theorem dL_law_666 : decode cL_law 666 = .ok (.aload_n 0, 1) := by decide +kernel
theorem dL_law_667 : decode cL_law 667 = .ok (.iload 4, 2) := by decide +kernel
theorem dL_law_669 : decode cL_law 669 = .ok (.iconst 1, 1) := by decide +kernel
theorem dL_law_670 : decode cL_law 670 = .ok (.iadd, 1) := by decide +kernel
theorem dL_law_671 : decode cL_law 671 = .ok (.iaload, 1) := by decide +kernel
theorem dL_law_672 : decode cL_law 672 = .ok (.aload_n 0, 1) := by decide +kernel
theorem dL_law_673 : decode cL_law 673 = .ok (.iload 4, 2) := by decide +kernel
theorem dL_law_675 : decode cL_law 675 = .ok (.iconst 2, 1) := by decide +kernel
theorem dL_law_676 : decode cL_law 676 = .ok (.iadd, 1) := by decide +kernel
theorem dL_law_677 : decode cL_law 677 = .ok (.iaload, 1) := by decide +kernel
theorem dL_law_678 : decode cL_law 678 = .ok (.aload_n 0, 1) := by decide +kernel
theorem dL_law_679 : decode cL_law 679 = .ok (.iload 4, 2) := by decide +kernel
theorem dL_law_681 : decode cL_law 681 = .ok (.iconst 3, 1) := by decide +kernel
theorem dL_law_682 : decode cL_law 682 = .ok (.iadd, 1) := by decide +kernel
theorem dL_law_683 : decode cL_law 683 = .ok (.iaload, 1) := by decide +kernel
theorem dL_law_684 : decode cL_law 684 = .ok (.aload_n 3, 1) := by decide +kernel
theorem dL_law_685 : decode cL_law 685 = .ok (.invokestatic 126, 3) := by decide +kernel
theorem dL_law_688 : decode cL_law 688 = .ok (.istore 5, 2) := by decide +kernel
theorem dL_law_690 : decode cL_law 690 = .ok (.aload_n 2, 1) := by decide +kernel
theorem dL_law_691 : decode cL_law 691 = .ok (.aload_n 0, 1) := by decide +kernel
theorem dL_law_692 : decode cL_law 692 = .ok (.iload 4, 2) := by decide +kernel
theorem dL_law_694 : decode cL_law 694 = .ok (.iconst 1, 1) := by decide +kernel
theorem dL_law_695 : decode cL_law 695 = .ok (.iadd, 1) := by decide +kernel
theorem dL_law_696 : decode cL_law 696 = .ok (.iaload, 1) := by decide +kernel
theorem dL_law_697 : decode cL_law 697 = .ok (.aload_n 0, 1) := by decide +kernel
theorem dL_law_698 : decode cL_law 698 = .ok (.iload 4, 2) := by decide +kernel
theorem dL_law_700 : decode cL_law 700 = .ok (.iconst 2, 1) := by decide +kernel
theorem dL_law_701 : decode cL_law 701 = .ok (.iadd, 1) := by decide +kernel
theorem dL_law_702 : decode cL_law 702 = .ok (.iaload, 1) := by decide +kernel
theorem dL_law_703 : decode cL_law 703 = .ok (.aload_n 0, 1) := by decide +kernel
theorem dL_law_704 : decode cL_law 704 = .ok (.iload 4, 2) := by decide +kernel
theorem dL_law_706 : decode cL_law 706 = .ok (.iconst 3, 1) := by decide +kernel
theorem dL_law_707 : decode cL_law 707 = .ok (.iadd, 1) := by decide +kernel
theorem dL_law_708 : decode cL_law 708 = .ok (.iaload, 1) := by decide +kernel
theorem dL_law_709 : decode cL_law 709 = .ok (.invokevirtual 128, 3) := by decide +kernel
theorem dL_law_712 : decode cL_law 712 = .ok (.istore 6, 2) := by decide +kernel
theorem dL_law_714 : decode cL_law 714 = .ok (.aload_n 2, 1) := by decide +kernel
theorem dL_law_715 : decode cL_law 715 = .ok (.invokevirtual 93, 3) := by decide +kernel
theorem dL_law_718 : decode cL_law 718 = .ok (.iload 5, 2) := by decide +kernel
theorem dL_law_720 : decode cL_law 720 = .ok (.if_icmp .eq 5, 3) := by decide +kernel
theorem dL_law_723 : decode cL_law 723 = .ok (.iconst 0, 1) := by decide +kernel
theorem dL_law_724 : decode cL_law 724 = .ok (.ireturn, 1) := by decide +kernel
theorem dL_law_725 : decode cL_law 725 = .ok (.iload 5, 2) := by decide +kernel
theorem dL_law_727 : decode cL_law 727 = .ok (.ifCond .ne 15, 3) := by decide +kernel
theorem dL_law_730 : decode cL_law 730 = .ok (.aload_n 3, 1) := by decide +kernel
theorem dL_law_731 : decode cL_law 731 = .ok (.iconst 0, 1) := by decide +kernel
theorem dL_law_732 : decode cL_law 732 = .ok (.laload, 1) := by decide +kernel
theorem dL_law_733 : decode cL_law 733 = .ok (.iload 6, 2) := by decide +kernel
theorem dL_law_735 : decode cL_law 735 = .ok (.i2l, 1) := by decide +kernel
theorem dL_law_736 : decode cL_law 736 = .ok (.lcmp, 1) := by decide +kernel
theorem dL_law_737 : decode cL_law 737 = .ok (.ifCond .eq 5, 3) := by decide +kernel
theorem dL_law_740 : decode cL_law 740 = .ok (.iconst 0, 1) := by decide +kernel
theorem dL_law_741 : decode cL_law 741 = .ok (.ireturn, 1) := by decide +kernel
theorem dL_law_742 : decode cL_law 742 = .ok (.goto 793, 3) := by decide +kernel
theorem dL_law_745 : decode cL_law 745 = .ok (.aload_n 1, 1) := by decide +kernel
theorem dL_law_746 : decode cL_law 746 = .ok (.aload_n 0, 1) := by decide +kernel
theorem dL_law_747 : decode cL_law 747 = .ok (.iload 4, 2) := by decide +kernel
theorem dL_law_749 : decode cL_law 749 = .ok (.iconst 1, 1) := by decide +kernel
theorem dL_law_750 : decode cL_law 750 = .ok (.iadd, 1) := by decide +kernel
theorem dL_law_751 : decode cL_law 751 = .ok (.iaload, 1) := by decide +kernel
theorem dL_law_752 : decode cL_law 752 = .ok (.aload_n 0, 1) := by decide +kernel
theorem dL_law_753 : decode cL_law 753 = .ok (.iload 4, 2) := by decide +kernel
theorem dL_law_755 : decode cL_law 755 = .ok (.iconst 2, 1) := by decide +kernel
theorem dL_law_756 : decode cL_law 756 = .ok (.iadd, 1) := by decide +kernel
theorem dL_law_757 : decode cL_law 757 = .ok (.iaload, 1) := by decide +kernel
theorem dL_law_758 : decode cL_law 758 = .ok (.aload_n 3, 1) := by decide +kernel
theorem dL_law_759 : decode cL_law 759 = .ok (.invokestatic 129, 3) := by decide +kernel
theorem dL_law_762 : decode cL_law 762 = .ok (.istore 5, 2) := by decide +kernel
theorem dL_law_764 : decode cL_law 764 = .ok (.aload_n 2, 1) := by decide +kernel
theorem dL_law_765 : decode cL_law 765 = .ok (.aload_n 0, 1) := by decide +kernel
theorem dL_law_766 : decode cL_law 766 = .ok (.iload 4, 2) := by decide +kernel
theorem dL_law_768 : decode cL_law 768 = .ok (.iconst 1, 1) := by decide +kernel
theorem dL_law_769 : decode cL_law 769 = .ok (.iadd, 1) := by decide +kernel
theorem dL_law_770 : decode cL_law 770 = .ok (.iaload, 1) := by decide +kernel
theorem dL_law_771 : decode cL_law 771 = .ok (.aload_n 0, 1) := by decide +kernel
theorem dL_law_772 : decode cL_law 772 = .ok (.iload 4, 2) := by decide +kernel
theorem dL_law_774 : decode cL_law 774 = .ok (.iconst 2, 1) := by decide +kernel
theorem dL_law_775 : decode cL_law 775 = .ok (.iadd, 1) := by decide +kernel
theorem dL_law_776 : decode cL_law 776 = .ok (.iaload, 1) := by decide +kernel
theorem dL_law_777 : decode cL_law 777 = .ok (.invokevirtual 132, 3) := by decide +kernel
theorem dL_law_780 : decode cL_law 780 = .ok (.istore 6, 2) := by decide +kernel
theorem dL_law_782 : decode cL_law 782 = .ok (.aload_n 2, 1) := by decide +kernel
theorem dL_law_783 : decode cL_law 783 = .ok (.invokevirtual 93, 3) := by decide +kernel
theorem dL_law_786 : decode cL_law 786 = .ok (.iload 5, 2) := by decide +kernel
theorem dL_law_788 : decode cL_law 788 = .ok (.if_icmp .eq 5, 3) := by decide +kernel
theorem dL_law_791 : decode cL_law 791 = .ok (.iconst 0, 1) := by decide +kernel
theorem dL_law_792 : decode cL_law 792 = .ok (.ireturn, 1) := by decide +kernel
theorem dL_law_793 : decode cL_law 793 = .ok (.iload 5, 2) := by decide +kernel
theorem dL_law_795 : decode cL_law 795 = .ok (.ifCond .ne 15, 3) := by decide +kernel
theorem dL_law_798 : decode cL_law 798 = .ok (.aload_n 3, 1) := by decide +kernel
theorem dL_law_799 : decode cL_law 799 = .ok (.iconst 0, 1) := by decide +kernel
theorem dL_law_800 : decode cL_law 800 = .ok (.laload, 1) := by decide +kernel
theorem dL_law_801 : decode cL_law 801 = .ok (.iload 6, 2) := by decide +kernel
theorem dL_law_803 : decode cL_law 803 = .ok (.i2l, 1) := by decide +kernel
theorem dL_law_804 : decode cL_law 804 = .ok (.lcmp, 1) := by decide +kernel
theorem dL_law_805 : decode cL_law 805 = .ok (.ifCond .eq 5, 3) := by decide +kernel
theorem dL_law_808 : decode cL_law 808 = .ok (.iconst 0, 1) := by decide +kernel
theorem dL_law_809 : decode cL_law 809 = .ok (.ireturn, 1) := by decide +kernel
theorem dL_law_810 : decode cL_law 810 = .ok (.goto 725, 3) := by decide +kernel
theorem dL_law_813 : decode cL_law 813 = .ok (.aload_n 1, 1) := by decide +kernel
theorem dL_law_814 : decode cL_law 814 = .ok (.aload_n 0, 1) := by decide +kernel
theorem dL_law_815 : decode cL_law 815 = .ok (.iload 4, 2) := by decide +kernel
theorem dL_law_817 : decode cL_law 817 = .ok (.iconst 1, 1) := by decide +kernel
theorem dL_law_818 : decode cL_law 818 = .ok (.iadd, 1) := by decide +kernel
theorem dL_law_819 : decode cL_law 819 = .ok (.iaload, 1) := by decide +kernel
end
section
theorem dL_law_820 : decode cL_law 820 = .ok (.aload_n 3, 1) := by decide +kernel
theorem dL_law_821 : decode cL_law 821 = .ok (.invokestatic 133, 3) := by decide +kernel
theorem dL_law_824 : decode cL_law 824 = .ok (.istore 5, 2) := by decide +kernel
theorem dL_law_826 : decode cL_law 826 = .ok (.aload_n 2, 1) := by decide +kernel
theorem dL_law_827 : decode cL_law 827 = .ok (.aload_n 0, 1) := by decide +kernel
theorem dL_law_828 : decode cL_law 828 = .ok (.iload 4, 2) := by decide +kernel
theorem dL_law_830 : decode cL_law 830 = .ok (.iconst 1, 1) := by decide +kernel
theorem dL_law_831 : decode cL_law 831 = .ok (.iadd, 1) := by decide +kernel
theorem dL_law_832 : decode cL_law 832 = .ok (.iaload, 1) := by decide +kernel
theorem dL_law_833 : decode cL_law 833 = .ok (.invokevirtual 135, 3) := by decide +kernel
theorem dL_law_836 : decode cL_law 836 = .ok (.istore 6, 2) := by decide +kernel
theorem dL_law_838 : decode cL_law 838 = .ok (.aload_n 2, 1) := by decide +kernel
theorem dL_law_839 : decode cL_law 839 = .ok (.invokevirtual 93, 3) := by decide +kernel
theorem dL_law_842 : decode cL_law 842 = .ok (.iload 5, 2) := by decide +kernel
theorem dL_law_844 : decode cL_law 844 = .ok (.if_icmp .eq 5, 3) := by decide +kernel
theorem dL_law_847 : decode cL_law 847 = .ok (.iconst 0, 1) := by decide +kernel
theorem dL_law_848 : decode cL_law 848 = .ok (.ireturn, 1) := by decide +kernel
theorem dL_law_849 : decode cL_law 849 = .ok (.iload 5, 2) := by decide +kernel
theorem dL_law_851 : decode cL_law 851 = .ok (.ifCond .ne 15, 3) := by decide +kernel
theorem dL_law_854 : decode cL_law 854 = .ok (.aload_n 3, 1) := by decide +kernel
theorem dL_law_855 : decode cL_law 855 = .ok (.iconst 0, 1) := by decide +kernel
theorem dL_law_856 : decode cL_law 856 = .ok (.laload, 1) := by decide +kernel
theorem dL_law_857 : decode cL_law 857 = .ok (.iload 6, 2) := by decide +kernel
theorem dL_law_859 : decode cL_law 859 = .ok (.i2l, 1) := by decide +kernel
theorem dL_law_860 : decode cL_law 860 = .ok (.lcmp, 1) := by decide +kernel
theorem dL_law_861 : decode cL_law 861 = .ok (.ifCond .eq 5, 3) := by decide +kernel
theorem dL_law_864 : decode cL_law 864 = .ok (.iconst 0, 1) := by decide +kernel
theorem dL_law_865 : decode cL_law 865 = .ok (.ireturn, 1) := by decide +kernel
theorem dL_law_866 : decode cL_law 866 = .ok (.goto 669, 3) := by decide +kernel
theorem dL_law_869 : decode cL_law 869 = .ok (.aload_n 1, 1) := by decide +kernel
theorem dL_law_870 : decode cL_law 870 = .ok (.aload_n 0, 1) := by decide +kernel
theorem dL_law_871 : decode cL_law 871 = .ok (.iload 4, 2) := by decide +kernel
theorem dL_law_873 : decode cL_law 873 = .ok (.iconst 1, 1) := by decide +kernel
theorem dL_law_874 : decode cL_law 874 = .ok (.iadd, 1) := by decide +kernel
theorem dL_law_875 : decode cL_law 875 = .ok (.iaload, 1) := by decide +kernel
theorem dL_law_876 : decode cL_law 876 = .ok (.aload_n 0, 1) := by decide +kernel
theorem dL_law_877 : decode cL_law 877 = .ok (.iload 4, 2) := by decide +kernel
theorem dL_law_879 : decode cL_law 879 = .ok (.iconst 2, 1) := by decide +kernel
theorem dL_law_880 : decode cL_law 880 = .ok (.iadd, 1) := by decide +kernel
theorem dL_law_881 : decode cL_law 881 = .ok (.iaload, 1) := by decide +kernel
theorem dL_law_882 : decode cL_law 882 = .ok (.aload_n 3, 1) := by decide +kernel
theorem dL_law_883 : decode cL_law 883 = .ok (.invokestatic 136, 3) := by decide +kernel
theorem dL_law_886 : decode cL_law 886 = .ok (.istore 5, 2) := by decide +kernel
theorem dL_law_888 : decode cL_law 888 = .ok (.aload_n 2, 1) := by decide +kernel
theorem dL_law_889 : decode cL_law 889 = .ok (.aload_n 0, 1) := by decide +kernel
theorem dL_law_890 : decode cL_law 890 = .ok (.iload 4, 2) := by decide +kernel
theorem dL_law_892 : decode cL_law 892 = .ok (.iconst 1, 1) := by decide +kernel
theorem dL_law_893 : decode cL_law 893 = .ok (.iadd, 1) := by decide +kernel
theorem dL_law_894 : decode cL_law 894 = .ok (.iaload, 1) := by decide +kernel
theorem dL_law_895 : decode cL_law 895 = .ok (.aload_n 0, 1) := by decide +kernel
theorem dL_law_896 : decode cL_law 896 = .ok (.iload 4, 2) := by decide +kernel
theorem dL_law_898 : decode cL_law 898 = .ok (.iconst 2, 1) := by decide +kernel
theorem dL_law_899 : decode cL_law 899 = .ok (.iadd, 1) := by decide +kernel
theorem dL_law_900 : decode cL_law 900 = .ok (.iaload, 1) := by decide +kernel
theorem dL_law_901 : decode cL_law 901 = .ok (.invokevirtual 138, 3) := by decide +kernel
theorem dL_law_904 : decode cL_law 904 = .ok (.istore 6, 2) := by decide +kernel
theorem dL_law_906 : decode cL_law 906 = .ok (.aload_n 2, 1) := by decide +kernel
theorem dL_law_907 : decode cL_law 907 = .ok (.invokevirtual 93, 3) := by decide +kernel
theorem dL_law_910 : decode cL_law 910 = .ok (.iload 5, 2) := by decide +kernel
theorem dL_law_912 : decode cL_law 912 = .ok (.if_icmp .eq 5, 3) := by decide +kernel
theorem dL_law_915 : decode cL_law 915 = .ok (.iconst 0, 1) := by decide +kernel
theorem dL_law_916 : decode cL_law 916 = .ok (.ireturn, 1) := by decide +kernel
theorem dL_law_917 : decode cL_law 917 = .ok (.iload 5, 2) := by decide +kernel
theorem dL_law_919 : decode cL_law 919 = .ok (.ifCond .ne 15, 3) := by decide +kernel
theorem dL_law_922 : decode cL_law 922 = .ok (.aload_n 3, 1) := by decide +kernel
theorem dL_law_923 : decode cL_law 923 = .ok (.iconst 0, 1) := by decide +kernel
theorem dL_law_924 : decode cL_law 924 = .ok (.laload, 1) := by decide +kernel
theorem dL_law_925 : decode cL_law 925 = .ok (.iload 6, 2) := by decide +kernel
theorem dL_law_927 : decode cL_law 927 = .ok (.i2l, 1) := by decide +kernel
theorem dL_law_928 : decode cL_law 928 = .ok (.lcmp, 1) := by decide +kernel
theorem dL_law_929 : decode cL_law 929 = .ok (.ifCond .eq 5, 3) := by decide +kernel
theorem dL_law_932 : decode cL_law 932 = .ok (.iconst 0, 1) := by decide +kernel
theorem dL_law_933 : decode cL_law 933 = .ok (.ireturn, 1) := by decide +kernel
theorem dL_law_934 : decode cL_law 934 = .ok (.goto 601, 3) := by decide +kernel
theorem dL_law_937 : decode cL_law 937 = .ok (.aload_n 1, 1) := by decide +kernel
theorem dL_law_938 : decode cL_law 938 = .ok (.aload_n 0, 1) := by decide +kernel
theorem dL_law_939 : decode cL_law 939 = .ok (.iload 4, 2) := by decide +kernel
theorem dL_law_941 : decode cL_law 941 = .ok (.iconst 1, 1) := by decide +kernel
theorem dL_law_942 : decode cL_law 942 = .ok (.iadd, 1) := by decide +kernel
theorem dL_law_943 : decode cL_law 943 = .ok (.iaload, 1) := by decide +kernel
theorem dL_law_944 : decode cL_law 944 = .ok (.aload_n 0, 1) := by decide +kernel
theorem dL_law_945 : decode cL_law 945 = .ok (.iload 4, 2) := by decide +kernel
theorem dL_law_947 : decode cL_law 947 = .ok (.iconst 2, 1) := by decide +kernel
theorem dL_law_948 : decode cL_law 948 = .ok (.iadd, 1) := by decide +kernel
theorem dL_law_949 : decode cL_law 949 = .ok (.iaload, 1) := by decide +kernel
theorem dL_law_950 : decode cL_law 950 = .ok (.aload_n 3, 1) := by decide +kernel
theorem dL_law_951 : decode cL_law 951 = .ok (.invokestatic 139, 3) := by decide +kernel
theorem dL_law_954 : decode cL_law 954 = .ok (.istore 5, 2) := by decide +kernel
theorem dL_law_956 : decode cL_law 956 = .ok (.aload_n 2, 1) := by decide +kernel
theorem dL_law_957 : decode cL_law 957 = .ok (.aload_n 0, 1) := by decide +kernel
theorem dL_law_958 : decode cL_law 958 = .ok (.iload 4, 2) := by decide +kernel
theorem dL_law_960 : decode cL_law 960 = .ok (.iconst 1, 1) := by decide +kernel
theorem dL_law_961 : decode cL_law 961 = .ok (.iadd, 1) := by decide +kernel
theorem dL_law_962 : decode cL_law 962 = .ok (.iaload, 1) := by decide +kernel
theorem dL_law_963 : decode cL_law 963 = .ok (.aload_n 0, 1) := by decide +kernel
theorem dL_law_964 : decode cL_law 964 = .ok (.iload 4, 2) := by decide +kernel
theorem dL_law_966 : decode cL_law 966 = .ok (.iconst 2, 1) := by decide +kernel
theorem dL_law_967 : decode cL_law 967 = .ok (.iadd, 1) := by decide +kernel
theorem dL_law_968 : decode cL_law 968 = .ok (.iaload, 1) := by decide +kernel
theorem dL_law_969 : decode cL_law 969 = .ok (.invokevirtual 141, 3) := by decide +kernel
theorem dL_law_972 : decode cL_law 972 = .ok (.istore 6, 2) := by decide +kernel
theorem dL_law_974 : decode cL_law 974 = .ok (.aload_n 2, 1) := by decide +kernel
theorem dL_law_975 : decode cL_law 975 = .ok (.invokevirtual 93, 3) := by decide +kernel
theorem dL_law_978 : decode cL_law 978 = .ok (.iload 5, 2) := by decide +kernel
theorem dL_law_980 : decode cL_law 980 = .ok (.if_icmp .eq 5, 3) := by decide +kernel
theorem dL_law_983 : decode cL_law 983 = .ok (.iconst 0, 1) := by decide +kernel
theorem dL_law_984 : decode cL_law 984 = .ok (.ireturn, 1) := by decide +kernel
theorem dL_law_985 : decode cL_law 985 = .ok (.iload 5, 2) := by decide +kernel
theorem dL_law_987 : decode cL_law 987 = .ok (.ifCond .ne 15, 3) := by decide +kernel
theorem dL_law_990 : decode cL_law 990 = .ok (.aload_n 3, 1) := by decide +kernel
theorem dL_law_991 : decode cL_law 991 = .ok (.iconst 0, 1) := by decide +kernel
theorem dL_law_992 : decode cL_law 992 = .ok (.laload, 1) := by decide +kernel
theorem dL_law_993 : decode cL_law 993 = .ok (.iload 6, 2) := by decide +kernel
theorem dL_law_995 : decode cL_law 995 = .ok (.i2l, 1) := by decide +kernel
theorem dL_law_996 : decode cL_law 996 = .ok (.lcmp, 1) := by decide +kernel
theorem dL_law_997 : decode cL_law 997 = .ok (.ifCond .eq 5, 3) := by decide +kernel
theorem dL_law_1000 : decode cL_law 1000 = .ok (.iconst 0, 1) := by decide +kernel
theorem dL_law_1001 : decode cL_law 1001 = .ok (.ireturn, 1) := by decide +kernel
theorem dL_law_1002 : decode cL_law 1002 = .ok (.goto 533, 3) := by decide +kernel
theorem dL_law_1005 : decode cL_law 1005 = .ok (.aload_n 1, 1) := by decide +kernel
theorem dL_law_1006 : decode cL_law 1006 = .ok (.aload_n 0, 1) := by decide +kernel
theorem dL_law_1007 : decode cL_law 1007 = .ok (.iload 4, 2) := by decide +kernel
theorem dL_law_1009 : decode cL_law 1009 = .ok (.iconst 1, 1) := by decide +kernel
theorem dL_law_1010 : decode cL_law 1010 = .ok (.iadd, 1) := by decide +kernel
theorem dL_law_1011 : decode cL_law 1011 = .ok (.iaload, 1) := by decide +kernel
theorem dL_law_1012 : decode cL_law 1012 = .ok (.aload_n 0, 1) := by decide +kernel
theorem dL_law_1013 : decode cL_law 1013 = .ok (.iload 4, 2) := by decide +kernel
theorem dL_law_1015 : decode cL_law 1015 = .ok (.iconst 2, 1) := by decide +kernel
theorem dL_law_1016 : decode cL_law 1016 = .ok (.iadd, 1) := by decide +kernel
theorem dL_law_1017 : decode cL_law 1017 = .ok (.iaload, 1) := by decide +kernel
theorem dL_law_1018 : decode cL_law 1018 = .ok (.ifCond .eq 7, 3) := by decide +kernel
theorem dL_law_1021 : decode cL_law 1021 = .ok (.iconst 1, 1) := by decide +kernel
theorem dL_law_1022 : decode cL_law 1022 = .ok (.goto 4, 3) := by decide +kernel
theorem dL_law_1025 : decode cL_law 1025 = .ok (.iconst 0, 1) := by decide +kernel
theorem dL_law_1026 : decode cL_law 1026 = .ok (.aload_n 3, 1) := by decide +kernel
theorem dL_law_1027 : decode cL_law 1027 = .ok (.invokestatic 142, 3) := by decide +kernel
theorem dL_law_1030 : decode cL_law 1030 = .ok (.istore 5, 2) := by decide +kernel
theorem dL_law_1032 : decode cL_law 1032 = .ok (.aload_n 2, 1) := by decide +kernel
theorem dL_law_1033 : decode cL_law 1033 = .ok (.aload_n 0, 1) := by decide +kernel
theorem dL_law_1034 : decode cL_law 1034 = .ok (.iload 4, 2) := by decide +kernel
theorem dL_law_1036 : decode cL_law 1036 = .ok (.iconst 1, 1) := by decide +kernel
theorem dL_law_1037 : decode cL_law 1037 = .ok (.iadd, 1) := by decide +kernel
theorem dL_law_1038 : decode cL_law 1038 = .ok (.iaload, 1) := by decide +kernel
theorem dL_law_1039 : decode cL_law 1039 = .ok (.aload_n 0, 1) := by decide +kernel
theorem dL_law_1040 : decode cL_law 1040 = .ok (.iload 4, 2) := by decide +kernel
theorem dL_law_1042 : decode cL_law 1042 = .ok (.iconst 2, 1) := by decide +kernel
theorem dL_law_1043 : decode cL_law 1043 = .ok (.iadd, 1) := by decide +kernel
theorem dL_law_1044 : decode cL_law 1044 = .ok (.iaload, 1) := by decide +kernel
theorem dL_law_1045 : decode cL_law 1045 = .ok (.ifCond .eq 7, 3) := by decide +kernel
theorem dL_law_1048 : decode cL_law 1048 = .ok (.iconst 1, 1) := by decide +kernel
theorem dL_law_1049 : decode cL_law 1049 = .ok (.goto 4, 3) := by decide +kernel
theorem dL_law_1052 : decode cL_law 1052 = .ok (.iconst 0, 1) := by decide +kernel
theorem dL_law_1053 : decode cL_law 1053 = .ok (.invokevirtual 145, 3) := by decide +kernel
theorem dL_law_1056 : decode cL_law 1056 = .ok (.istore 6, 2) := by decide +kernel
theorem dL_law_1058 : decode cL_law 1058 = .ok (.aload_n 2, 1) := by decide +kernel
theorem dL_law_1059 : decode cL_law 1059 = .ok (.invokevirtual 93, 3) := by decide +kernel
theorem dL_law_1062 : decode cL_law 1062 = .ok (.iload 5, 2) := by decide +kernel
theorem dL_law_1064 : decode cL_law 1064 = .ok (.if_icmp .eq 5, 3) := by decide +kernel
theorem dL_law_1067 : decode cL_law 1067 = .ok (.iconst 0, 1) := by decide +kernel
theorem dL_law_1068 : decode cL_law 1068 = .ok (.ireturn, 1) := by decide +kernel
end
section
theorem dL_law_1069 : decode cL_law 1069 = .ok (.iload 5, 2) := by decide +kernel
theorem dL_law_1071 : decode cL_law 1071 = .ok (.ifCond .ne 15, 3) := by decide +kernel
theorem dL_law_1074 : decode cL_law 1074 = .ok (.aload_n 3, 1) := by decide +kernel
theorem dL_law_1075 : decode cL_law 1075 = .ok (.iconst 0, 1) := by decide +kernel
theorem dL_law_1076 : decode cL_law 1076 = .ok (.laload, 1) := by decide +kernel
theorem dL_law_1077 : decode cL_law 1077 = .ok (.iload 6, 2) := by decide +kernel
theorem dL_law_1079 : decode cL_law 1079 = .ok (.i2l, 1) := by decide +kernel
theorem dL_law_1080 : decode cL_law 1080 = .ok (.lcmp, 1) := by decide +kernel
theorem dL_law_1081 : decode cL_law 1081 = .ok (.ifCond .eq 5, 3) := by decide +kernel
theorem dL_law_1084 : decode cL_law 1084 = .ok (.iconst 0, 1) := by decide +kernel
theorem dL_law_1085 : decode cL_law 1085 = .ok (.ireturn, 1) := by decide +kernel
theorem dL_law_1086 : decode cL_law 1086 = .ok (.goto 449, 3) := by decide +kernel
theorem dL_law_1089 : decode cL_law 1089 = .ok (.aload_n 1, 1) := by decide +kernel
theorem dL_law_1090 : decode cL_law 1090 = .ok (.aload_n 0, 1) := by decide +kernel
theorem dL_law_1091 : decode cL_law 1091 = .ok (.iload 4, 2) := by decide +kernel
theorem dL_law_1093 : decode cL_law 1093 = .ok (.iconst 1, 1) := by decide +kernel
theorem dL_law_1094 : decode cL_law 1094 = .ok (.iadd, 1) := by decide +kernel
theorem dL_law_1095 : decode cL_law 1095 = .ok (.iaload, 1) := by decide +kernel
theorem dL_law_1096 : decode cL_law 1096 = .ok (.aload_n 0, 1) := by decide +kernel
theorem dL_law_1097 : decode cL_law 1097 = .ok (.iload 4, 2) := by decide +kernel
theorem dL_law_1099 : decode cL_law 1099 = .ok (.iconst 2, 1) := by decide +kernel
theorem dL_law_1100 : decode cL_law 1100 = .ok (.iadd, 1) := by decide +kernel
theorem dL_law_1101 : decode cL_law 1101 = .ok (.iaload, 1) := by decide +kernel
theorem dL_law_1102 : decode cL_law 1102 = .ok (.aload_n 0, 1) := by decide +kernel
theorem dL_law_1103 : decode cL_law 1103 = .ok (.iload 4, 2) := by decide +kernel
theorem dL_law_1105 : decode cL_law 1105 = .ok (.iconst 3, 1) := by decide +kernel
theorem dL_law_1106 : decode cL_law 1106 = .ok (.iadd, 1) := by decide +kernel
theorem dL_law_1107 : decode cL_law 1107 = .ok (.iaload, 1) := by decide +kernel
theorem dL_law_1108 : decode cL_law 1108 = .ok (.aload_n 0, 1) := by decide +kernel
theorem dL_law_1109 : decode cL_law 1109 = .ok (.iload 4, 2) := by decide +kernel
theorem dL_law_1111 : decode cL_law 1111 = .ok (.iconst 4, 1) := by decide +kernel
theorem dL_law_1112 : decode cL_law 1112 = .ok (.iadd, 1) := by decide +kernel
theorem dL_law_1113 : decode cL_law 1113 = .ok (.iaload, 1) := by decide +kernel
theorem dL_law_1114 : decode cL_law 1114 = .ok (.aload_n 3, 1) := by decide +kernel
theorem dL_law_1115 : decode cL_law 1115 = .ok (.invokestatic 146, 3) := by decide +kernel
theorem dL_law_1118 : decode cL_law 1118 = .ok (.istore 5, 2) := by decide +kernel
theorem dL_law_1120 : decode cL_law 1120 = .ok (.aload_n 2, 1) := by decide +kernel
theorem dL_law_1121 : decode cL_law 1121 = .ok (.aload_n 0, 1) := by decide +kernel
theorem dL_law_1122 : decode cL_law 1122 = .ok (.iload 4, 2) := by decide +kernel
theorem dL_law_1124 : decode cL_law 1124 = .ok (.iconst 1, 1) := by decide +kernel
theorem dL_law_1125 : decode cL_law 1125 = .ok (.iadd, 1) := by decide +kernel
theorem dL_law_1126 : decode cL_law 1126 = .ok (.iaload, 1) := by decide +kernel
theorem dL_law_1127 : decode cL_law 1127 = .ok (.aload_n 0, 1) := by decide +kernel
theorem dL_law_1128 : decode cL_law 1128 = .ok (.iload 4, 2) := by decide +kernel
theorem dL_law_1130 : decode cL_law 1130 = .ok (.iconst 2, 1) := by decide +kernel
theorem dL_law_1131 : decode cL_law 1131 = .ok (.iadd, 1) := by decide +kernel
theorem dL_law_1132 : decode cL_law 1132 = .ok (.iaload, 1) := by decide +kernel
theorem dL_law_1133 : decode cL_law 1133 = .ok (.aload_n 0, 1) := by decide +kernel
theorem dL_law_1134 : decode cL_law 1134 = .ok (.iload 4, 2) := by decide +kernel
theorem dL_law_1136 : decode cL_law 1136 = .ok (.iconst 3, 1) := by decide +kernel
theorem dL_law_1137 : decode cL_law 1137 = .ok (.iadd, 1) := by decide +kernel
theorem dL_law_1138 : decode cL_law 1138 = .ok (.iaload, 1) := by decide +kernel
theorem dL_law_1139 : decode cL_law 1139 = .ok (.aload_n 0, 1) := by decide +kernel
theorem dL_law_1140 : decode cL_law 1140 = .ok (.iload 4, 2) := by decide +kernel
theorem dL_law_1142 : decode cL_law 1142 = .ok (.iconst 4, 1) := by decide +kernel
theorem dL_law_1143 : decode cL_law 1143 = .ok (.iadd, 1) := by decide +kernel
theorem dL_law_1144 : decode cL_law 1144 = .ok (.iaload, 1) := by decide +kernel
theorem dL_law_1145 : decode cL_law 1145 = .ok (.invokevirtual 149, 3) := by decide +kernel
theorem dL_law_1148 : decode cL_law 1148 = .ok (.istore 6, 2) := by decide +kernel
theorem dL_law_1150 : decode cL_law 1150 = .ok (.aload_n 2, 1) := by decide +kernel
theorem dL_law_1151 : decode cL_law 1151 = .ok (.invokevirtual 93, 3) := by decide +kernel
theorem dL_law_1154 : decode cL_law 1154 = .ok (.iload 5, 2) := by decide +kernel
theorem dL_law_1156 : decode cL_law 1156 = .ok (.if_icmp .eq 5, 3) := by decide +kernel
theorem dL_law_1159 : decode cL_law 1159 = .ok (.iconst 0, 1) := by decide +kernel
theorem dL_law_1160 : decode cL_law 1160 = .ok (.ireturn, 1) := by decide +kernel
theorem dL_law_1161 : decode cL_law 1161 = .ok (.iload 5, 2) := by decide +kernel
theorem dL_law_1163 : decode cL_law 1163 = .ok (.ifCond .ne 22, 3) := by decide +kernel
theorem dL_law_1166 : decode cL_law 1166 = .ok (.aload_n 3, 1) := by decide +kernel
theorem dL_law_1167 : decode cL_law 1167 = .ok (.iconst 0, 1) := by decide +kernel
theorem dL_law_1168 : decode cL_law 1168 = .ok (.laload, 1) := by decide +kernel
theorem dL_law_1169 : decode cL_law 1169 = .ok (.iload 6, 2) := by decide +kernel
theorem dL_law_1171 : decode cL_law 1171 = .ok (.ifCond .eq 7, 3) := by decide +kernel
theorem dL_law_1174 : decode cL_law 1174 = .ok (.lconst 1, 1) := by decide +kernel
theorem dL_law_1175 : decode cL_law 1175 = .ok (.goto 4, 3) := by decide +kernel
theorem dL_law_1178 : decode cL_law 1178 = .ok (.lconst 0, 1) := by decide +kernel
theorem dL_law_1179 : decode cL_law 1179 = .ok (.lcmp, 1) := by decide +kernel
theorem dL_law_1180 : decode cL_law 1180 = .ok (.ifCond .eq 5, 3) := by decide +kernel
theorem dL_law_1183 : decode cL_law 1183 = .ok (.iconst 0, 1) := by decide +kernel
theorem dL_law_1184 : decode cL_law 1184 = .ok (.ireturn, 1) := by decide +kernel
theorem dL_law_1185 : decode cL_law 1185 = .ok (.goto 350, 3) := by decide +kernel
theorem dL_law_1188 : decode cL_law 1188 = .ok (.aload_n 1, 1) := by decide +kernel
theorem dL_law_1189 : decode cL_law 1189 = .ok (.aload_n 0, 1) := by decide +kernel
theorem dL_law_1190 : decode cL_law 1190 = .ok (.iload 4, 2) := by decide +kernel
theorem dL_law_1192 : decode cL_law 1192 = .ok (.iconst 1, 1) := by decide +kernel
theorem dL_law_1193 : decode cL_law 1193 = .ok (.iadd, 1) := by decide +kernel
theorem dL_law_1194 : decode cL_law 1194 = .ok (.iaload, 1) := by decide +kernel
theorem dL_law_1195 : decode cL_law 1195 = .ok (.aload_n 3, 1) := by decide +kernel
theorem dL_law_1196 : decode cL_law 1196 = .ok (.invokestatic 150, 3) := by decide +kernel
theorem dL_law_1199 : decode cL_law 1199 = .ok (.istore 5, 2) := by decide +kernel
theorem dL_law_1201 : decode cL_law 1201 = .ok (.aload_n 2, 1) := by decide +kernel
theorem dL_law_1202 : decode cL_law 1202 = .ok (.aload_n 0, 1) := by decide +kernel
theorem dL_law_1203 : decode cL_law 1203 = .ok (.iload 4, 2) := by decide +kernel
theorem dL_law_1205 : decode cL_law 1205 = .ok (.iconst 1, 1) := by decide +kernel
theorem dL_law_1206 : decode cL_law 1206 = .ok (.iadd, 1) := by decide +kernel
theorem dL_law_1207 : decode cL_law 1207 = .ok (.iaload, 1) := by decide +kernel
theorem dL_law_1208 : decode cL_law 1208 = .ok (.invokevirtual 152, 3) := by decide +kernel
theorem dL_law_1211 : decode cL_law 1211 = .ok (.istore 6, 2) := by decide +kernel
theorem dL_law_1213 : decode cL_law 1213 = .ok (.aload_n 2, 1) := by decide +kernel
theorem dL_law_1214 : decode cL_law 1214 = .ok (.invokevirtual 93, 3) := by decide +kernel
theorem dL_law_1217 : decode cL_law 1217 = .ok (.iload 5, 2) := by decide +kernel
theorem dL_law_1219 : decode cL_law 1219 = .ok (.if_icmp .eq 5, 3) := by decide +kernel
theorem dL_law_1222 : decode cL_law 1222 = .ok (.iconst 0, 1) := by decide +kernel
theorem dL_law_1223 : decode cL_law 1223 = .ok (.ireturn, 1) := by decide +kernel
theorem dL_law_1224 : decode cL_law 1224 = .ok (.iload 5, 2) := by decide +kernel
theorem dL_law_1226 : decode cL_law 1226 = .ok (.ifCond .ne 15, 3) := by decide +kernel
theorem dL_law_1229 : decode cL_law 1229 = .ok (.aload_n 3, 1) := by decide +kernel
theorem dL_law_1230 : decode cL_law 1230 = .ok (.iconst 0, 1) := by decide +kernel
theorem dL_law_1231 : decode cL_law 1231 = .ok (.laload, 1) := by decide +kernel
theorem dL_law_1232 : decode cL_law 1232 = .ok (.iload 6, 2) := by decide +kernel
theorem dL_law_1234 : decode cL_law 1234 = .ok (.i2l, 1) := by decide +kernel
theorem dL_law_1235 : decode cL_law 1235 = .ok (.lcmp, 1) := by decide +kernel
theorem dL_law_1236 : decode cL_law 1236 = .ok (.ifCond .eq 5, 3) := by decide +kernel
theorem dL_law_1239 : decode cL_law 1239 = .ok (.iconst 0, 1) := by decide +kernel
theorem dL_law_1240 : decode cL_law 1240 = .ok (.ireturn, 1) := by decide +kernel
theorem dL_law_1241 : decode cL_law 1241 = .ok (.goto 294, 3) := by decide +kernel
theorem dL_law_1244 : decode cL_law 1244 = .ok (.aload_n 1, 1) := by decide +kernel
theorem dL_law_1245 : decode cL_law 1245 = .ok (.aload_n 0, 1) := by decide +kernel
theorem dL_law_1246 : decode cL_law 1246 = .ok (.iload 4, 2) := by decide +kernel
theorem dL_law_1248 : decode cL_law 1248 = .ok (.iconst 1, 1) := by decide +kernel
theorem dL_law_1249 : decode cL_law 1249 = .ok (.iadd, 1) := by decide +kernel
theorem dL_law_1250 : decode cL_law 1250 = .ok (.iaload, 1) := by decide +kernel
theorem dL_law_1251 : decode cL_law 1251 = .ok (.aload_n 3, 1) := by decide +kernel
theorem dL_law_1252 : decode cL_law 1252 = .ok (.invokestatic 153, 3) := by decide +kernel
theorem dL_law_1255 : decode cL_law 1255 = .ok (.istore 5, 2) := by decide +kernel
theorem dL_law_1257 : decode cL_law 1257 = .ok (.aload_n 2, 1) := by decide +kernel
theorem dL_law_1258 : decode cL_law 1258 = .ok (.aload_n 0, 1) := by decide +kernel
theorem dL_law_1259 : decode cL_law 1259 = .ok (.iload 4, 2) := by decide +kernel
theorem dL_law_1261 : decode cL_law 1261 = .ok (.iconst 1, 1) := by decide +kernel
theorem dL_law_1262 : decode cL_law 1262 = .ok (.iadd, 1) := by decide +kernel
theorem dL_law_1263 : decode cL_law 1263 = .ok (.iaload, 1) := by decide +kernel
theorem dL_law_1264 : decode cL_law 1264 = .ok (.invokevirtual 155, 3) := by decide +kernel
theorem dL_law_1267 : decode cL_law 1267 = .ok (.istore 6, 2) := by decide +kernel
theorem dL_law_1269 : decode cL_law 1269 = .ok (.aload_n 2, 1) := by decide +kernel
theorem dL_law_1270 : decode cL_law 1270 = .ok (.invokevirtual 93, 3) := by decide +kernel
theorem dL_law_1273 : decode cL_law 1273 = .ok (.iload 5, 2) := by decide +kernel
theorem dL_law_1275 : decode cL_law 1275 = .ok (.if_icmp .eq 5, 3) := by decide +kernel
theorem dL_law_1278 : decode cL_law 1278 = .ok (.iconst 0, 1) := by decide +kernel
theorem dL_law_1279 : decode cL_law 1279 = .ok (.ireturn, 1) := by decide +kernel
theorem dL_law_1280 : decode cL_law 1280 = .ok (.iload 5, 2) := by decide +kernel
theorem dL_law_1282 : decode cL_law 1282 = .ok (.ifCond .ne 15, 3) := by decide +kernel
theorem dL_law_1285 : decode cL_law 1285 = .ok (.aload_n 3, 1) := by decide +kernel
theorem dL_law_1286 : decode cL_law 1286 = .ok (.iconst 0, 1) := by decide +kernel
theorem dL_law_1287 : decode cL_law 1287 = .ok (.laload, 1) := by decide +kernel
theorem dL_law_1288 : decode cL_law 1288 = .ok (.iload 6, 2) := by decide +kernel
theorem dL_law_1290 : decode cL_law 1290 = .ok (.i2l, 1) := by decide +kernel
theorem dL_law_1291 : decode cL_law 1291 = .ok (.lcmp, 1) := by decide +kernel
theorem dL_law_1292 : decode cL_law 1292 = .ok (.ifCond .eq 5, 3) := by decide +kernel
theorem dL_law_1295 : decode cL_law 1295 = .ok (.iconst 0, 1) := by decide +kernel
theorem dL_law_1296 : decode cL_law 1296 = .ok (.ireturn, 1) := by decide +kernel
theorem dL_law_1297 : decode cL_law 1297 = .ok (.goto 238, 3) := by decide +kernel
theorem dL_law_1300 : decode cL_law 1300 = .ok (.aload_n 1, 1) := by decide +kernel
theorem dL_law_1301 : decode cL_law 1301 = .ok (.aload_n 0, 1) := by decide +kernel
theorem dL_law_1302 : decode cL_law 1302 = .ok (.iload 4, 2) := by decide +kernel
theorem dL_law_1304 : decode cL_law 1304 = .ok (.iconst 1, 1) := by decide +kernel
theorem dL_law_1305 : decode cL_law 1305 = .ok (.iadd, 1) := by decide +kernel
theorem dL_law_1306 : decode cL_law 1306 = .ok (.iaload, 1) := by decide +kernel
theorem dL_law_1307 : decode cL_law 1307 = .ok (.aload_n 0, 1) := by decide +kernel
theorem dL_law_1308 : decode cL_law 1308 = .ok (.iload 4, 2) := by decide +kernel
theorem dL_law_1310 : decode cL_law 1310 = .ok (.iconst 2, 1) := by decide +kernel
theorem dL_law_1311 : decode cL_law 1311 = .ok (.iadd, 1) := by decide +kernel
end
section
theorem dL_law_1312 : decode cL_law 1312 = .ok (.iaload, 1) := by decide +kernel
theorem dL_law_1313 : decode cL_law 1313 = .ok (.aload_n 3, 1) := by decide +kernel
theorem dL_law_1314 : decode cL_law 1314 = .ok (.invokestatic 156, 3) := by decide +kernel
theorem dL_law_1317 : decode cL_law 1317 = .ok (.istore 5, 2) := by decide +kernel
theorem dL_law_1319 : decode cL_law 1319 = .ok (.aload_n 2, 1) := by decide +kernel
theorem dL_law_1320 : decode cL_law 1320 = .ok (.aload_n 0, 1) := by decide +kernel
theorem dL_law_1321 : decode cL_law 1321 = .ok (.iload 4, 2) := by decide +kernel
theorem dL_law_1323 : decode cL_law 1323 = .ok (.iconst 1, 1) := by decide +kernel
theorem dL_law_1324 : decode cL_law 1324 = .ok (.iadd, 1) := by decide +kernel
theorem dL_law_1325 : decode cL_law 1325 = .ok (.iaload, 1) := by decide +kernel
theorem dL_law_1326 : decode cL_law 1326 = .ok (.aload_n 0, 1) := by decide +kernel
theorem dL_law_1327 : decode cL_law 1327 = .ok (.iload 4, 2) := by decide +kernel
theorem dL_law_1329 : decode cL_law 1329 = .ok (.iconst 2, 1) := by decide +kernel
theorem dL_law_1330 : decode cL_law 1330 = .ok (.iadd, 1) := by decide +kernel
theorem dL_law_1331 : decode cL_law 1331 = .ok (.iaload, 1) := by decide +kernel
theorem dL_law_1332 : decode cL_law 1332 = .ok (.invokevirtual 158, 3) := by decide +kernel
theorem dL_law_1335 : decode cL_law 1335 = .ok (.istore 6, 2) := by decide +kernel
theorem dL_law_1337 : decode cL_law 1337 = .ok (.aload_n 2, 1) := by decide +kernel
theorem dL_law_1338 : decode cL_law 1338 = .ok (.invokevirtual 93, 3) := by decide +kernel
theorem dL_law_1341 : decode cL_law 1341 = .ok (.iload 5, 2) := by decide +kernel
theorem dL_law_1343 : decode cL_law 1343 = .ok (.if_icmp .eq 5, 3) := by decide +kernel
theorem dL_law_1346 : decode cL_law 1346 = .ok (.iconst 0, 1) := by decide +kernel
theorem dL_law_1347 : decode cL_law 1347 = .ok (.ireturn, 1) := by decide +kernel
theorem dL_law_1348 : decode cL_law 1348 = .ok (.iload 5, 2) := by decide +kernel
theorem dL_law_1350 : decode cL_law 1350 = .ok (.ifCond .ne 15, 3) := by decide +kernel
theorem dL_law_1353 : decode cL_law 1353 = .ok (.aload_n 3, 1) := by decide +kernel
theorem dL_law_1354 : decode cL_law 1354 = .ok (.iconst 0, 1) := by decide +kernel
theorem dL_law_1355 : decode cL_law 1355 = .ok (.laload, 1) := by decide +kernel
theorem dL_law_1356 : decode cL_law 1356 = .ok (.iload 6, 2) := by decide +kernel
theorem dL_law_1358 : decode cL_law 1358 = .ok (.i2l, 1) := by decide +kernel
theorem dL_law_1359 : decode cL_law 1359 = .ok (.lcmp, 1) := by decide +kernel
theorem dL_law_1360 : decode cL_law 1360 = .ok (.ifCond .eq 5, 3) := by decide +kernel
theorem dL_law_1363 : decode cL_law 1363 = .ok (.iconst 0, 1) := by decide +kernel
theorem dL_law_1364 : decode cL_law 1364 = .ok (.ireturn, 1) := by decide +kernel
theorem dL_law_1365 : decode cL_law 1365 = .ok (.goto 170, 3) := by decide +kernel
theorem dL_law_1368 : decode cL_law 1368 = .ok (.aload_n 1, 1) := by decide +kernel
theorem dL_law_1369 : decode cL_law 1369 = .ok (.aload_n 0, 1) := by decide +kernel
theorem dL_law_1370 : decode cL_law 1370 = .ok (.iload 4, 2) := by decide +kernel
theorem dL_law_1372 : decode cL_law 1372 = .ok (.iconst 1, 1) := by decide +kernel
theorem dL_law_1373 : decode cL_law 1373 = .ok (.iadd, 1) := by decide +kernel
theorem dL_law_1374 : decode cL_law 1374 = .ok (.iaload, 1) := by decide +kernel
theorem dL_law_1375 : decode cL_law 1375 = .ok (.aload_n 0, 1) := by decide +kernel
theorem dL_law_1376 : decode cL_law 1376 = .ok (.iload 4, 2) := by decide +kernel
theorem dL_law_1378 : decode cL_law 1378 = .ok (.iconst 2, 1) := by decide +kernel
theorem dL_law_1379 : decode cL_law 1379 = .ok (.iadd, 1) := by decide +kernel
theorem dL_law_1380 : decode cL_law 1380 = .ok (.iaload, 1) := by decide +kernel
theorem dL_law_1381 : decode cL_law 1381 = .ok (.aload_n 0, 1) := by decide +kernel
theorem dL_law_1382 : decode cL_law 1382 = .ok (.iload 4, 2) := by decide +kernel
theorem dL_law_1384 : decode cL_law 1384 = .ok (.iconst 3, 1) := by decide +kernel
theorem dL_law_1385 : decode cL_law 1385 = .ok (.iadd, 1) := by decide +kernel
theorem dL_law_1386 : decode cL_law 1386 = .ok (.iaload, 1) := by decide +kernel
theorem dL_law_1387 : decode cL_law 1387 = .ok (.aload_n 0, 1) := by decide +kernel
theorem dL_law_1388 : decode cL_law 1388 = .ok (.iload 4, 2) := by decide +kernel
theorem dL_law_1390 : decode cL_law 1390 = .ok (.iconst 4, 1) := by decide +kernel
theorem dL_law_1391 : decode cL_law 1391 = .ok (.iadd, 1) := by decide +kernel
theorem dL_law_1392 : decode cL_law 1392 = .ok (.iaload, 1) := by decide +kernel
theorem dL_law_1393 : decode cL_law 1393 = .ok (.aload_n 3, 1) := by decide +kernel
theorem dL_law_1394 : decode cL_law 1394 = .ok (.invokestatic 159, 3) := by decide +kernel
theorem dL_law_1397 : decode cL_law 1397 = .ok (.istore 5, 2) := by decide +kernel
theorem dL_law_1399 : decode cL_law 1399 = .ok (.aload_n 2, 1) := by decide +kernel
theorem dL_law_1400 : decode cL_law 1400 = .ok (.aload_n 0, 1) := by decide +kernel
theorem dL_law_1401 : decode cL_law 1401 = .ok (.iload 4, 2) := by decide +kernel
theorem dL_law_1403 : decode cL_law 1403 = .ok (.iconst 1, 1) := by decide +kernel
theorem dL_law_1404 : decode cL_law 1404 = .ok (.iadd, 1) := by decide +kernel
theorem dL_law_1405 : decode cL_law 1405 = .ok (.iaload, 1) := by decide +kernel
theorem dL_law_1406 : decode cL_law 1406 = .ok (.aload_n 0, 1) := by decide +kernel
theorem dL_law_1407 : decode cL_law 1407 = .ok (.iload 4, 2) := by decide +kernel
theorem dL_law_1409 : decode cL_law 1409 = .ok (.iconst 2, 1) := by decide +kernel
theorem dL_law_1410 : decode cL_law 1410 = .ok (.iadd, 1) := by decide +kernel
theorem dL_law_1411 : decode cL_law 1411 = .ok (.iaload, 1) := by decide +kernel
theorem dL_law_1412 : decode cL_law 1412 = .ok (.aload_n 0, 1) := by decide +kernel
theorem dL_law_1413 : decode cL_law 1413 = .ok (.iload 4, 2) := by decide +kernel
theorem dL_law_1415 : decode cL_law 1415 = .ok (.iconst 3, 1) := by decide +kernel
theorem dL_law_1416 : decode cL_law 1416 = .ok (.iadd, 1) := by decide +kernel
theorem dL_law_1417 : decode cL_law 1417 = .ok (.iaload, 1) := by decide +kernel
theorem dL_law_1418 : decode cL_law 1418 = .ok (.aload_n 0, 1) := by decide +kernel
theorem dL_law_1419 : decode cL_law 1419 = .ok (.iload 4, 2) := by decide +kernel
theorem dL_law_1421 : decode cL_law 1421 = .ok (.iconst 4, 1) := by decide +kernel
theorem dL_law_1422 : decode cL_law 1422 = .ok (.iadd, 1) := by decide +kernel
theorem dL_law_1423 : decode cL_law 1423 = .ok (.iaload, 1) := by decide +kernel
theorem dL_law_1424 : decode cL_law 1424 = .ok (.invokevirtual 161, 3) := by decide +kernel
theorem dL_law_1427 : decode cL_law 1427 = .ok (.istore 6, 2) := by decide +kernel
theorem dL_law_1429 : decode cL_law 1429 = .ok (.aload_n 2, 1) := by decide +kernel
theorem dL_law_1430 : decode cL_law 1430 = .ok (.invokevirtual 93, 3) := by decide +kernel
theorem dL_law_1433 : decode cL_law 1433 = .ok (.iload 5, 2) := by decide +kernel
theorem dL_law_1435 : decode cL_law 1435 = .ok (.if_icmp .eq 5, 3) := by decide +kernel
theorem dL_law_1438 : decode cL_law 1438 = .ok (.iconst 0, 1) := by decide +kernel
theorem dL_law_1439 : decode cL_law 1439 = .ok (.ireturn, 1) := by decide +kernel
theorem dL_law_1440 : decode cL_law 1440 = .ok (.iload 5, 2) := by decide +kernel
theorem dL_law_1442 : decode cL_law 1442 = .ok (.ifCond .ne 15, 3) := by decide +kernel
theorem dL_law_1445 : decode cL_law 1445 = .ok (.aload_n 3, 1) := by decide +kernel
theorem dL_law_1446 : decode cL_law 1446 = .ok (.iconst 0, 1) := by decide +kernel
theorem dL_law_1447 : decode cL_law 1447 = .ok (.laload, 1) := by decide +kernel
theorem dL_law_1448 : decode cL_law 1448 = .ok (.iload 6, 2) := by decide +kernel
theorem dL_law_1450 : decode cL_law 1450 = .ok (.i2l, 1) := by decide +kernel
theorem dL_law_1451 : decode cL_law 1451 = .ok (.lcmp, 1) := by decide +kernel
theorem dL_law_1452 : decode cL_law 1452 = .ok (.ifCond .eq 5, 3) := by decide +kernel
theorem dL_law_1455 : decode cL_law 1455 = .ok (.iconst 0, 1) := by decide +kernel
theorem dL_law_1456 : decode cL_law 1456 = .ok (.ireturn, 1) := by decide +kernel
theorem dL_law_1457 : decode cL_law 1457 = .ok (.goto 78, 3) := by decide +kernel
theorem dL_law_1460 : decode cL_law 1460 = .ok (.aload_n 1, 1) := by decide +kernel
theorem dL_law_1461 : decode cL_law 1461 = .ok (.aload_n 0, 1) := by decide +kernel
theorem dL_law_1462 : decode cL_law 1462 = .ok (.iload 4, 2) := by decide +kernel
theorem dL_law_1464 : decode cL_law 1464 = .ok (.iconst 1, 1) := by decide +kernel
theorem dL_law_1465 : decode cL_law 1465 = .ok (.iadd, 1) := by decide +kernel
theorem dL_law_1466 : decode cL_law 1466 = .ok (.iaload, 1) := by decide +kernel
theorem dL_law_1467 : decode cL_law 1467 = .ok (.aload_n 0, 1) := by decide +kernel
theorem dL_law_1468 : decode cL_law 1468 = .ok (.iload 4, 2) := by decide +kernel
theorem dL_law_1470 : decode cL_law 1470 = .ok (.iconst 2, 1) := by decide +kernel
theorem dL_law_1471 : decode cL_law 1471 = .ok (.iadd, 1) := by decide +kernel
theorem dL_law_1472 : decode cL_law 1472 = .ok (.iaload, 1) := by decide +kernel
theorem dL_law_1473 : decode cL_law 1473 = .ok (.aload_n 3, 1) := by decide +kernel
theorem dL_law_1474 : decode cL_law 1474 = .ok (.invokestatic 162, 3) := by decide +kernel
theorem dL_law_1477 : decode cL_law 1477 = .ok (.istore 5, 2) := by decide +kernel
theorem dL_law_1479 : decode cL_law 1479 = .ok (.aload_n 2, 1) := by decide +kernel
theorem dL_law_1480 : decode cL_law 1480 = .ok (.aload_n 0, 1) := by decide +kernel
theorem dL_law_1481 : decode cL_law 1481 = .ok (.iload 4, 2) := by decide +kernel
theorem dL_law_1483 : decode cL_law 1483 = .ok (.iconst 1, 1) := by decide +kernel
theorem dL_law_1484 : decode cL_law 1484 = .ok (.iadd, 1) := by decide +kernel
theorem dL_law_1485 : decode cL_law 1485 = .ok (.iaload, 1) := by decide +kernel
theorem dL_law_1486 : decode cL_law 1486 = .ok (.aload_n 0, 1) := by decide +kernel
theorem dL_law_1487 : decode cL_law 1487 = .ok (.iload 4, 2) := by decide +kernel
theorem dL_law_1489 : decode cL_law 1489 = .ok (.iconst 2, 1) := by decide +kernel
theorem dL_law_1490 : decode cL_law 1490 = .ok (.iadd, 1) := by decide +kernel
theorem dL_law_1491 : decode cL_law 1491 = .ok (.iaload, 1) := by decide +kernel
theorem dL_law_1492 : decode cL_law 1492 = .ok (.invokevirtual 164, 3) := by decide +kernel
theorem dL_law_1495 : decode cL_law 1495 = .ok (.istore 6, 2) := by decide +kernel
theorem dL_law_1497 : decode cL_law 1497 = .ok (.aload_n 2, 1) := by decide +kernel
theorem dL_law_1498 : decode cL_law 1498 = .ok (.invokevirtual 93, 3) := by decide +kernel
theorem dL_law_1501 : decode cL_law 1501 = .ok (.iload 5, 2) := by decide +kernel
theorem dL_law_1503 : decode cL_law 1503 = .ok (.if_icmp .eq 5, 3) := by decide +kernel
theorem dL_law_1506 : decode cL_law 1506 = .ok (.iconst 0, 1) := by decide +kernel
theorem dL_law_1507 : decode cL_law 1507 = .ok (.ireturn, 1) := by decide +kernel
theorem dL_law_1508 : decode cL_law 1508 = .ok (.iload 5, 2) := by decide +kernel
theorem dL_law_1510 : decode cL_law 1510 = .ok (.ifCond .ne 22, 3) := by decide +kernel
theorem dL_law_1513 : decode cL_law 1513 = .ok (.aload_n 3, 1) := by decide +kernel
theorem dL_law_1514 : decode cL_law 1514 = .ok (.iconst 0, 1) := by decide +kernel
theorem dL_law_1515 : decode cL_law 1515 = .ok (.laload, 1) := by decide +kernel
theorem dL_law_1516 : decode cL_law 1516 = .ok (.iload 6, 2) := by decide +kernel
theorem dL_law_1518 : decode cL_law 1518 = .ok (.ifCond .eq 7, 3) := by decide +kernel
theorem dL_law_1521 : decode cL_law 1521 = .ok (.lconst 1, 1) := by decide +kernel
theorem dL_law_1522 : decode cL_law 1522 = .ok (.goto 4, 3) := by decide +kernel
theorem dL_law_1525 : decode cL_law 1525 = .ok (.lconst 0, 1) := by decide +kernel
theorem dL_law_1526 : decode cL_law 1526 = .ok (.lcmp, 1) := by decide +kernel
theorem dL_law_1527 : decode cL_law 1527 = .ok (.ifCond .eq 5, 3) := by decide +kernel
theorem dL_law_1530 : decode cL_law 1530 = .ok (.iconst 0, 1) := by decide +kernel
theorem dL_law_1531 : decode cL_law 1531 = .ok (.ireturn, 1) := by decide +kernel
theorem dL_law_1532 : decode cL_law 1532 = .ok (.goto 3, 3) := by decide +kernel
theorem dL_law_1535 : decode cL_law 1535 = .ok (.iinc 4 6, 3) := by decide +kernel
theorem dL_law_1538 : decode cL_law 1538 = .ok (.goto (-1515), 3) := by decide +kernel
theorem dL_law_1541 : decode cL_law 1541 = .ok (.iconst 1, 1) := by decide +kernel
theorem dL_law_1542 : decode cL_law 1542 = .ok (.ireturn, 1) := by decide +kernel
end
section
/-! My own rows over the kit's: numbers in normal form (nI of a natural number), a row an instruction with the next world named, a row a call. -/
abbrev rmD (d mc ms : Nat) : Room := { frames := d, cells := mc, slots := ms, locals := 30 * d }
/-- a natural number shifted by one: 0 stands for -1 -/
def eX (k : Nat) : Int32 := nI k - nI 1
def bI (b : Bool) : Int32 := if b then nI 1 else nI 0
theorem eX_0 : eX 0 = -1 := by decide
theorem eX_s (k : Nat) : eX (k + 1) = nI k := by unfold eX; rw [pk_sub (by omega)]; rfl
theorem eX_pos {k : Nat} (h : 0 < k) : eX k = nI (k - 1) := by
  obtain ⟨j, rfl⟩ : ∃ j, k = j + 1 := ⟨k - 1, by omega⟩
  rw [eX_s]; rfl
theorem eX_int {k : Nat} (h : k < 2 ^ 30) : (eX k).toInt = (k : Int) - 1 := pk_sub_toInt h (by decide)
theorem nI_int {k : Nat} (h : k < 2 ^ 30) : (nI k).toInt = (k : Int) := nI_toInt (by omega)
theorem eX_inj {a b : Nat} (ha : a < 2 ^ 30) (hb : b < 2 ^ 30) : eX a = eX b ↔ a = b := by
  rw [← Int32.toInt_inj, eX_int ha, eX_int hb]; omega
theorem eX_m1 {k : Nat} (h : k < 2 ^ 30) : eX k = -1 ↔ k = 0 := by rw [← eX_0]; exact eX_inj h (by decide)
theorem eX_lt_n {a b : Nat} (ha : a < 2 ^ 30) (hb : b < 2 ^ 30) : eX a < nI b ↔ a ≤ b := by
  rw [Int32.lt_iff_toInt_lt, eX_int ha, nI_int hb]; omega
theorem n_le_eX {a b : Nat} (ha : a < 2 ^ 30) (hb : b < 2 ^ 30) : nI b ≤ eX a ↔ b + 1 ≤ a := by
  rw [Int32.le_iff_toInt_le, eX_int ha, nI_int hb]; omega
theorem eX_le_n {a b : Nat} (ha : a < 2 ^ 30) (hb : b < 2 ^ 30) : eX a ≤ nI b ↔ a ≤ b + 1 := by
  rw [Int32.le_iff_toInt_le, eX_int ha, nI_int hb]; omega
theorem n_lt_eX {a b : Nat} (ha : a < 2 ^ 30) (hb : b < 2 ^ 30) : nI b < eX a ↔ b + 1 < a := by
  rw [Int32.lt_iff_toInt_lt, eX_int ha, nI_int hb]; omega
theorem eX_eq_n {a b : Nat} (ha : a < 2 ^ 30) (hb : b < 2 ^ 30) : eX a = nI b ↔ a = b + 1 := by
  rw [← Int32.toInt_inj, eX_int ha, nI_int hb]; omega
theorem n_eq_eX {a b : Nat} (ha : a < 2 ^ 30) (hb : b < 2 ^ 30) : nI b = eX a ↔ a = b + 1 := by
  rw [← Int32.toInt_inj, eX_int ha, nI_int hb]; omega
theorem bI_0 (b : Bool) : bI b = 0 ↔ b = false := by cases b <;> decide
theorem bI_t : bI true = nI 1 := rfl
theorem bI_f : bI false = nI 0 := rfl
theorem bI_d {P : Prop} [Decidable P] (h : P) : bI (decide P) = nI 1 := by rw [decide_eq_true h]; rfl
theorem bI_n {P : Prop} [Decidable P] (h : ¬ P) : bI (decide P) = nI 0 := by rw [decide_eq_false h]; rfl
theorem nI_z {k : Nat} (h : k < 2 ^ 31) : nI k = 0 ↔ k = 0 := by rw [← nI_0]; exact nI_eq h (by decide)
theorem nI_ng {k : Nat} (h : k < 2 ^ 31) : nI k < 0 ↔ False := ⟨fun q => nI_pos h q, fun q => q.elim⟩
theorem nI_lez {k : Nat} (h : k < 2 ^ 31) : nI k ≤ 0 ↔ k = 0 := by rw [← nI_0, nI_leI h (by decide)]; omega
/-- in range, of a plain int: from 0 on and less than N -/
theorem in_and {x : Int32} {n : Nat} (hn : n < 2 ^ 31) : (nI 0 ≤ x ∧ x ≤ nI n) ↔ vp_in x (n + 1) := by
  rw [vp_in_iff, Int32.le_iff_toInt_le, Int32.le_iff_toInt_le, nI_toInt hn, nI_toInt (by decide)]; omega
theorem in_lt {x : Int32} {n : Nat} (hn : n < 2 ^ 31) (h0 : ¬ x < 0) (h1 : ¬ nI n ≤ x) : vp_in x n := by
  rw [vp_in_iff]
  rw [Int32.lt_iff_toInt_lt] at h0
  rw [Int32.le_iff_toInt_le, nI_toInt hn] at h1
  have : (0 : Int32).toInt = 0 := by decide
  omega
theorem in_neg {x : Int32} {n : Nat} (h : x < 0) : ¬ vp_in x n := fun q => q (Or.inl h)
theorem in_big {x : Int32} {n : Nat} (hn : n < 2 ^ 31) (h : nI n ≤ x) : ¬ vp_in x n := by
  rw [vp_in_iff]
  rw [Int32.le_iff_toInt_le, nI_toInt hn] at h
  omega
section ROWS
variable {p : Program} {l : Launch} {e : Env} {R : Room} {s : State} {m : MethodId} {args : Array Value} {below : List Frame} {meth : Method} {c : Code} {H : Heap} {locs : List Loc} {cells slots : Nat} {Q : State → Prop}
variable {cc : ByteArray} {pc : Nat} {ls : Array Slot} {rest : List Value} {D : va_G} {tys : List (ClassId × FieldType)} {ws : va_W} {A : Nat → Prop} {H0 : Heap} {a : Nat}
/-- the top of the stack under another name -/
theorem x_top {x y : Int32} (h : x = y) (k : W p l e R s m args below meth c H locs cells slots Q (F0 m pc ls (.int y :: rest))) : W p l e R s m args below meth c H locs cells slots Q (F0 m pc ls (.int x :: rest)) := by rw [h]; exact k
theorem x_add (hx : p.tables.exec = Jvm.exec) (hb : c.code = cc) {i j k : Nat} (hdg : decode cc pc = .ok (.iadd, 1)) (h : i + j = k) (kk : W p l e R s m args below meth c H locs cells slots Q (F0 m (pc + 1) ls (.int (nI k) :: rest))) : W p l e R s m args below meth c H locs cells slots Q (F0 m pc ls (.int (nI j) :: .int (nI i) :: rest)) :=
  lv_iadd hx hb hdg (x_top (by rw [nI_add, h]) kk)
theorem x_sub (hx : p.tables.exec = Jvm.exec) (hb : c.code = cc) {i j k : Nat} (hdg : decode cc pc = .ok (.isub, 1)) (hle : j ≤ i) (h : i - j = k) (kk : W p l e R s m args below meth c H locs cells slots Q (F0 m (pc + 1) ls (.int (nI k) :: rest))) : W p l e R s m args below meth c H locs cells slots Q (F0 m pc ls (.int (nI j) :: .int (nI i) :: rest)) :=
  lv_isub hx hb hdg (x_top (by rw [pk_sub hle, h]) kk)
theorem x_mul (hx : p.tables.exec = Jvm.exec) (hb : c.code = cc) {i j k : Nat} (hdg : decode cc pc = .ok (.imul, 1)) (h : i * j = k) (kk : W p l e R s m args below meth c H locs cells slots Q (F0 m (pc + 1) ls (.int (nI k) :: rest))) : W p l e R s m args below meth c H locs cells slots Q (F0 m pc ls (.int (nI j) :: .int (nI i) :: rest)) :=
  lv_imul hx hb hdg (x_top (by rw [pk_mul, h]) kk)
theorem x_div (hx : p.tables.exec = Jvm.exec) (hb : c.code = cc) {i j k : Nat} (hdg : decode cc pc = .ok (.idiv, 1)) (hi : i < 2 ^ 31) (h0 : 0 < j) (hj : j < 2 ^ 31) (h : i / j = k) (kk : W p l e R s m args below meth c H locs cells slots Q (F0 m (pc + 1) ls (.int (nI k) :: rest))) : W p l e R s m args below meth c H locs cells slots Q (F0 m pc ls (.int (nI j) :: .int (nI i) :: rest)) :=
  lv_idiv hx hb hdg (nI_ne0 h0 hj) (x_top (by rw [pk_div hi h0 hj, h]) kk)
theorem x_rem (hx : p.tables.exec = Jvm.exec) (hb : c.code = cc) {i j k : Nat} (hdg : decode cc pc = .ok (.irem, 1)) (hi : i < 2 ^ 31) (h0 : 0 < j) (hj : j < 2 ^ 31) (h : i % j = k) (kk : W p l e R s m args below meth c H locs cells slots Q (F0 m (pc + 1) ls (.int (nI k) :: rest))) : W p l e R s m args below meth c H locs cells slots Q (F0 m pc ls (.int (nI j) :: .int (nI i) :: rest)) :=
  lv_irem hx hb hdg (nI_ne0 h0 hj) (x_top (by rw [pk_rem hi h0 hj, h]) kk)
theorem x_iinc (hx : p.tables.exec = Jvm.exec) (hb : c.code = cc) {i nL k o x v : Nat} {n : Int} {lv lv' : List (Nat × Value)} (hdg : decode cc pc = .ok (.iinc i n, 3)) (h : lv_has ls nL lv) (hk : lv[k]? = some (i, .int (nI x))) (hno : n = (o : Int)) (hv : x + o = v) (hn : i < nL) (hl : (i, Value.int (nI v)) :: lv.filter (fun q => !(q.1 == i) && !(q.1 + 1 == i && q.2.category == 2)) = lv')
    (kk : ∀ ls' : Array Slot, lv_has ls' nL lv' → W p l e R s m args below meth c H locs cells slots Q (F0 m (pc + 3) ls' rest)) : W p l e R s m args below meth c H locs cells slots Q (F0 m pc ls rest) :=
  lv_iinc hx hb hdg h hk (by rw [hno, ← hv, ← nI_add]; congr 1) hn hl kk
/-- a place of an int array -/
theorem x_ald (hx : p.tables.exec = Jvm.exec) (hb : c.code = cc) (hK : va_K D vwCl tys s) (hP : va_P D vwCl ws H) (q0 t0 : Nat) {cA : ClassId} {n k : Nat} {f : Nat → Int32} {v : Int32} (ha : ws[q0]? = some (a, .inl (cA, n, .inl f))) (ht : tys[t0]? = some (cA, .int)) (hk : k < n) (hn : n < 2 ^ 31) (hv : f k = v) (hdg : decode cc pc = .ok (.iaload, 1))
    (kk : W p l e R s m args below meth c H locs cells slots Q (F0 m (pc + 1) ls (.int v :: rest))) : W p l e R s m args below meth c H locs cells slots Q (F0 m pc ls (.int (nI k) :: .ref a :: rest)) :=
  va_iald hx hb hK hP q0 t0 ha ht (vp_in_nI hk hn) hdg (x_top (by rw [nI_clamp (by omega)]; exact hv) kk)
theorem x_ast (hx : p.tables.exec = Jvm.exec) (hb : c.code = cc) (hK : va_K D vwCl tys s) (hP : va_P D vwCl ws H) (hD : va_D A ws) (hS : va_S A H0 H locs) (q0 t0 : Nat) {cA : ClassId} {n k : Nat} {f g : Nat → Int32} {x : Int32} {ws' : va_W} (ha : ws[q0]? = some (a, .inl (cA, n, .inl f))) (ht : tys[t0]? = some (cA, .int)) (hk : k < n) (hn : n < 2 ^ 31) (hg : upd f k x = g) (hw : ws.set q0 (a, .inl (cA, n, .inl g)) = ws') (hdg : decode cc pc = .ok (.iastore, 1))
    (kk : ∀ (H1 : Heap) (locs1 : List Loc), va_P D vwCl ws' H1 → va_D A ws' → va_S A H0 H1 locs1 → W p l e R s m args below meth c H1 locs1 cells slots Q (F0 m (pc + 1) ls rest)) : W p l e R s m args below meth c H locs cells slots Q (F0 m pc ls (.int x :: .int (nI k) :: .ref a :: rest)) :=
  va_iast hx hb hK hP hD hS q0 t0 ha ht (vp_in_nI hk hn) hdg (by rw [nI_clamp (show k < 2 ^ 31 by omega), hg, hw]; exact kk)
theorem x_aldq (hx : p.tables.exec = Jvm.exec) (hb : c.code = cc) (hK : va_K D vwCl tys s) (hP : va_P D vwCl ws H) (q0 t0 : Nat) {cA : ClassId} {C : String} {n k b : Nat} {f : Nat → Option Nat} (ha : ws[q0]? = some (a, .inl (cA, n, .inr (.inr (.inr (.inr f)))))) (ht : tys[t0]? = some (cA, .object C)) (hk : k < n) (hn : n < 2 ^ 31) (hv : f k = some b) (hdg : decode cc pc = .ok (.aaload, 1))
    (kk : W p l e R s m args below meth c H locs cells slots Q (F0 m (pc + 1) ls (.ref b :: rest))) : W p l e R s m args below meth c H locs cells slots Q (F0 m pc ls (.int (nI k) :: .ref a :: rest)) :=
  va_aldq hx hb hK hP q0 t0 ha ht (vp_in_nI hk hn) hdg (by rw [nI_clamp (show k < 2 ^ 31 by omega), hv]; exact kk)
/-- branches, their condition under another name -/
theorem x_cmp_ge (hx : p.tables.exec = Jvm.exec) (hb : c.code = cc) {x y : Int32} {off : Int} {tgt : Nat} {P : Prop} (hP : y ≤ x ↔ P) (hdg : decode cc pc = .ok (.if_icmp .ge off, 3)) (ht : (pc : Int) + off = (tgt : Int)) (kt : P → W p l e R s m args below meth c H locs cells slots Q (F0 m tgt ls rest)) (kf : ¬ P → W p l e R s m args below meth c H locs cells slots Q (F0 m (pc + 3) ls rest)) : W p l e R s m args below meth c H locs cells slots Q (F0 m pc ls (.int y :: .int x :: rest)) :=
  lv_icmp_ge hx hb hdg ht (fun h => kt (hP.mp h)) (fun h => kf (fun q => h (hP.mpr q)))
theorem x_cmp_lt (hx : p.tables.exec = Jvm.exec) (hb : c.code = cc) {x y : Int32} {off : Int} {tgt : Nat} {P : Prop} (hP : x < y ↔ P) (hdg : decode cc pc = .ok (.if_icmp .lt off, 3)) (ht : (pc : Int) + off = (tgt : Int)) (kt : P → W p l e R s m args below meth c H locs cells slots Q (F0 m tgt ls rest)) (kf : ¬ P → W p l e R s m args below meth c H locs cells slots Q (F0 m (pc + 3) ls rest)) : W p l e R s m args below meth c H locs cells slots Q (F0 m pc ls (.int y :: .int x :: rest)) :=
  lv_icmp_lt hx hb hdg ht (fun h => kt (hP.mp h)) (fun h => kf (fun q => h (hP.mpr q)))
theorem x_cmp_gt (hx : p.tables.exec = Jvm.exec) (hb : c.code = cc) {x y : Int32} {off : Int} {tgt : Nat} {P : Prop} (hP : y < x ↔ P) (hdg : decode cc pc = .ok (.if_icmp .gt off, 3)) (ht : (pc : Int) + off = (tgt : Int)) (kt : P → W p l e R s m args below meth c H locs cells slots Q (F0 m tgt ls rest)) (kf : ¬ P → W p l e R s m args below meth c H locs cells slots Q (F0 m (pc + 3) ls rest)) : W p l e R s m args below meth c H locs cells slots Q (F0 m pc ls (.int y :: .int x :: rest)) :=
  lv_icmp_gt hx hb hdg ht (fun h => kt (hP.mp h)) (fun h => kf (fun q => h (hP.mpr q)))
theorem x_cmp_le (hx : p.tables.exec = Jvm.exec) (hb : c.code = cc) {x y : Int32} {off : Int} {tgt : Nat} {P : Prop} (hP : x ≤ y ↔ P) (hdg : decode cc pc = .ok (.if_icmp .le off, 3)) (ht : (pc : Int) + off = (tgt : Int)) (kt : P → W p l e R s m args below meth c H locs cells slots Q (F0 m tgt ls rest)) (kf : ¬ P → W p l e R s m args below meth c H locs cells slots Q (F0 m (pc + 3) ls rest)) : W p l e R s m args below meth c H locs cells slots Q (F0 m pc ls (.int y :: .int x :: rest)) :=
  lv_icmp_le hx hb hdg ht (fun h => kt (hP.mp h)) (fun h => kf (fun q => h (hP.mpr q)))
theorem x_cmp_eq (hx : p.tables.exec = Jvm.exec) (hb : c.code = cc) {x y : Int32} {off : Int} {tgt : Nat} {P : Prop} (hP : x = y ↔ P) (hdg : decode cc pc = .ok (.if_icmp .eq off, 3)) (ht : (pc : Int) + off = (tgt : Int)) (kt : P → W p l e R s m args below meth c H locs cells slots Q (F0 m tgt ls rest)) (kf : ¬ P → W p l e R s m args below meth c H locs cells slots Q (F0 m (pc + 3) ls rest)) : W p l e R s m args below meth c H locs cells slots Q (F0 m pc ls (.int y :: .int x :: rest)) :=
  lv_icmp_eq hx hb hdg ht (fun h => kt (hP.mp h)) (fun h => kf (fun q => h (hP.mpr q)))
theorem x_cmp_ne (hx : p.tables.exec = Jvm.exec) (hb : c.code = cc) {x y : Int32} {off : Int} {tgt : Nat} {P : Prop} (hP : x = y ↔ P) (hdg : decode cc pc = .ok (.if_icmp .ne off, 3)) (ht : (pc : Int) + off = (tgt : Int)) (kt : ¬ P → W p l e R s m args below meth c H locs cells slots Q (F0 m tgt ls rest)) (kf : P → W p l e R s m args below meth c H locs cells slots Q (F0 m (pc + 3) ls rest)) : W p l e R s m args below meth c H locs cells slots Q (F0 m pc ls (.int y :: .int x :: rest)) :=
  lv_icmp_ne hx hb hdg ht (fun h => kt (fun q => h (hP.mpr q))) (fun h => kf (hP.mp h))
theorem x_if_eq (hx : p.tables.exec = Jvm.exec) (hb : c.code = cc) {x : Int32} {off : Int} {tgt : Nat} {P : Prop} (hP : x = 0 ↔ P) (hdg : decode cc pc = .ok (.ifCond .eq off, 3)) (ht : (pc : Int) + off = (tgt : Int)) (kt : P → W p l e R s m args below meth c H locs cells slots Q (F0 m tgt ls rest)) (kf : ¬ P → W p l e R s m args below meth c H locs cells slots Q (F0 m (pc + 3) ls rest)) : W p l e R s m args below meth c H locs cells slots Q (F0 m pc ls (.int x :: rest)) :=
  lv_if_eq hx hb hdg ht (fun h => kt (hP.mp h)) (fun h => kf (fun q => h (hP.mpr q)))
theorem x_if_ne (hx : p.tables.exec = Jvm.exec) (hb : c.code = cc) {x : Int32} {off : Int} {tgt : Nat} {P : Prop} (hP : x = 0 ↔ P) (hdg : decode cc pc = .ok (.ifCond .ne off, 3)) (ht : (pc : Int) + off = (tgt : Int)) (kt : ¬ P → W p l e R s m args below meth c H locs cells slots Q (F0 m tgt ls rest)) (kf : P → W p l e R s m args below meth c H locs cells slots Q (F0 m (pc + 3) ls rest)) : W p l e R s m args below meth c H locs cells slots Q (F0 m pc ls (.int x :: rest)) :=
  lv_if_ne hx hb hdg ht (fun h => kt (fun q => h (hP.mpr q))) (fun h => kf (hP.mp h))
theorem x_if_lt (hx : p.tables.exec = Jvm.exec) (hb : c.code = cc) {x : Int32} {off : Int} {tgt : Nat} {P : Prop} (hP : x < 0 ↔ P) (hdg : decode cc pc = .ok (.ifCond .lt off, 3)) (ht : (pc : Int) + off = (tgt : Int)) (kt : P → W p l e R s m args below meth c H locs cells slots Q (F0 m tgt ls rest)) (kf : ¬ P → W p l e R s m args below meth c H locs cells slots Q (F0 m (pc + 3) ls rest)) : W p l e R s m args below meth c H locs cells slots Q (F0 m pc ls (.int x :: rest)) :=
  lv_if_lt hx hb hdg ht (fun h => kt (hP.mp h)) (fun h => kf (fun q => h (hP.mpr q)))
theorem x_if_le (hx : p.tables.exec = Jvm.exec) (hb : c.code = cc) {x : Int32} {off : Int} {tgt : Nat} {P : Prop} (hP : x ≤ 0 ↔ P) (hdg : decode cc pc = .ok (.ifCond .le off, 3)) (ht : (pc : Int) + off = (tgt : Int)) (kt : P → W p l e R s m args below meth c H locs cells slots Q (F0 m tgt ls rest)) (kf : ¬ P → W p l e R s m args below meth c H locs cells slots Q (F0 m (pc + 3) ls rest)) : W p l e R s m args below meth c H locs cells slots Q (F0 m pc ls (.int x :: rest)) :=
  lv_if_le hx hb hdg ht (fun h => kt (hP.mp h)) (fun h => kf (fun q => h (hP.mpr q)))
/-- a field written, the next world named -/
theorem x_put (hx : p.tables.exec = Jvm.exec) (hb : c.code = cc) {own ref C : String} {T : u_T} {N ci index : Nat} {Ts : List Cond} (hts : ∀ w ∈ Ts, w.before args s = true) (hin : ∀ w ∈ u_ws C T N, w ∈ Ts) (ty0 : Nat → FieldType) (hty : ∀ k, k < N → parseFieldDescriptor (T k).2.2.1 = some (ty0 k)) (hnm : ∀ a, a < N → ∀ b, b < N → a ≠ b → (T a).2.1 ≠ (T b).2.1) (hown : s.vm.findClass own = some m.cls) (hK : va_K D vwCl tys s) (hP : va_P D vwCl ws H) (hD : va_D A ws) (hS0 : va_S A H0 H locs) (q0 : Nat) {fs fs' : List Value} {ws' : va_W} (he : ws[q0]? = some (a, .inr (ci, fs))) (hc : vwCl[ci]? = some (C, T, N)) (k : Nat) (hk : k < N) (hlink : (Cond.fieldLink own index ref (T k).2.1 (T k).2.2.1).before args s = true) (hsame : ∀ x, s.fieldFound? (T k).1 (T k).2.1 (T k).2.2.1 = some x → s.fieldFound? ref (T k).2.1 (T k).2.2.1 = some x) (hfin : (T k).2.2.2 = false) {ty : FieldType} {v : Value} (hd : parseFieldDescriptor (T k).2.2.1 = some ty) (hn : narrow ty v = v) (hfit : fits ty v = true) (hl : k < fs.length)
    (hfs : fs.set k v = fs') (hw : ws.set q0 (a, .inr (ci, fs')) = ws') (hdg : decode cc pc = .ok (.putfield index, 3)) (kk : ∀ (H1 : Heap) (locs1 : List Loc), va_P D vwCl ws' H1 → va_D A ws' → va_S A H0 H1 locs1 → W p l e R s m args below meth c H1 locs1 cells slots Q (F0 m (pc + 3) ls rest)) : W p l e R s m args below meth c H locs cells slots Q (F0 m pc ls (v :: .ref a :: rest)) :=
  va_put hx hb hts hin ty0 hty hnm hown hK hP hD hS0 q0 he hc k hk hlink hsame hfin hd hn hfit hl hdg (by rw [hfs, hw]; exact kk)
theorem x_putF (hx : p.tables.exec = Jvm.exec) (hb : c.code = cc) {own ref C : String} {T : u_T} {N ci index : Nat} {Ts : List Cond} (hts : ∀ w ∈ Ts, w.before args s = true) (hin : ∀ w ∈ u_ws C T N, w ∈ Ts) (ty0 : Nat → FieldType) (hty : ∀ k, k < N → parseFieldDescriptor (T k).2.2.1 = some (ty0 k)) (hnm : ∀ a, a < N → ∀ b, b < N → a ≠ b → (T a).2.1 ≠ (T b).2.1) (hown : s.vm.findClass own = some m.cls) (hK : va_K D vwCl tys s) (hP : va_P D vwCl ws H) (hD : va_D A ws) (hS0 : va_S A H0 H locs) (q0 : Nat) {fs fs' : List Value} {ws' : va_W} (he : ws[q0]? = some (a, .inr (ci, fs))) (hc : vwCl[ci]? = some (C, T, N)) (k : Nat) (hk : k < N) (hlink : (Cond.fieldLink own index ref (T k).2.1 (T k).2.2.1).before args s = true) (hsame : ∀ x, s.fieldFound? (T k).1 (T k).2.1 (T k).2.2.1 = some x → s.fieldFound? ref (T k).2.1 (T k).2.2.1 = some x) (hfin : (T k).2.2.2 = true) (hin2 : meth.name = "<init>") (hdecl : (T k).1 = own) {ty : FieldType} {v : Value} (hd : parseFieldDescriptor (T k).2.2.1 = some ty) (hn : narrow ty v = v) (hfit : fits ty v = true) (hl : k < fs.length)
    (hfs : fs.set k v = fs') (hw : ws.set q0 (a, .inr (ci, fs')) = ws') (hdg : decode cc pc = .ok (.putfield index, 3)) (kk : ∀ (H1 : Heap) (locs1 : List Loc), va_P D vwCl ws' H1 → va_D A ws' → va_S A H0 H1 locs1 → W p l e R s m args below meth c H1 locs1 cells slots Q (F0 m (pc + 3) ls rest)) : W p l e R s m args below meth c H locs cells slots Q (F0 m pc ls (v :: .ref a :: rest)) :=
  va_putF hx hb hts hin ty0 hty hnm hown hK hP hD hS0 q0 he hc k hk hlink hsame hfin hin2 hdecl hd hn hfit hl hdg (by rw [hfs, hw]; exact kk)
end ROWS
end
section
/-! Worlds ahead of a method and behind it; contracts in short; calls; ends. -/
def xNf : List (String × Nat × String × String × String) := [("RowReplicator", 112, "RowReplicator$Publication", "columns", "[I"), ("RowReplicator", 115, "RowReplicator$Publication", "relations", "[I"), ("RowReplicator", 118, "RowReplicator$Publication", "numbers", "[I"), ("RowReplicator", 127, "RowReplicator$Publication", "masks", "[I"), ("RowReplicator", 137, "RowReplicator$Subscriber", "state", "I"), ("RowReplicator", 147, "RowReplicator$Subscriber", "publication", "LRowReplicator$Publication;"), ("RowReplicator", 158, "RowReplicator$Subscriber", "rows", "[I"), ("RowReplicator", 159, "RowReplicator$Subscriber", "copies", "[I"), ("RowReplicator", 164, "RowReplicator$Subscriber", "slot", "I"), ("RowReplicator", 171, "RowReplicator$Trial", "rows", "[I"), ("RowReplicator", 52, "RowReplicator$Publisher", "rows", "[I"), ("RowReplicator", 78, "RowReplicator$Publisher", "commitCount", "I"), ("RowReplicator$Trial", 18, "RowReplicator$Subscriber", "slot", "I"), ("RowReplicator$Trial", 24, "RowReplicator$Publisher", "committedRows", "[I"), ("RowReplicator$Trial", 35, "RowReplicator$Subscriber", "rows", "[I"), ("RowReplicator$Trial", 36, "RowReplicator$Publisher", "changeCounts", "[I"), ("RowReplicator$Trial", 39, "RowReplicator$Publisher", "changedTables", "[I"), ("RowReplicator$Trial", 42, "RowReplicator$Publisher", "changedKeys", "[I"), ("RowReplicator$Trial", 53, "RowReplicator$Publisher", "newRows", "[I")]
def xNm : List (String × Nat × MethodName) := [("RowReplicator", 30, ⟨"RowReplicator$Trial", "<init>", "()V"⟩), ("RowReplicator$Publication", 25, ⟨"RowReplicator", "numberIn", "(II)I"⟩), ("RowReplicator$Publisher", 34, ⟨"RowReplicator", "placeOf", "(II)I"⟩), ("RowReplicator$Trial", 60, ⟨"RowReplicator", "placeOf", "(II)I"⟩)]
/-- links among the nest's mates, by the tables -/
def xN (U : State) : Prop := (∀ q ∈ xNf, va_Nw (.fieldLinkNest q.1 q.2.1 q.2.2.1 q.2.2.2.1 q.2.2.2.2 "RowReplicator") U) ∧ (∀ q ∈ xNm, va_Nw (.methodLinkNest q.1 q.2.1 q.2.2 "RowReplicator") U)
theorem xN.warm {s U : State} (hW : s.WarmedH U.vm) (h : xN s) : xN U := ⟨fun q hq => (h.1 q hq).warmF hW, fun q hq => (h.2 q hq).warmM hW⟩
theorem xN.vm {u U : State} (hv : U.vm = u.vm) (h : xN u) : xN U := ⟨fun q hq => va_Nw.same rfl hv.symm (h.1 q hq), fun q hq => va_Nw.same rfl hv.symm (h.2 q hq)⟩
def xP (D : va_G) (tys : List (ClassId × FieldType)) (ws : va_W) (sz : Nat) (U : State) : Prop := U.heap.size = sz ∧ va_P D vwCl ws U.heap ∧ va_K D vwCl tys U ∧ va_D (fun _ => True) ws ∧ xN U
def xB (D : va_G) (A : Nat → Prop) (ws : va_W) (t : State) : Prop := va_P D vwCl ws t.heap ∧ va_D A ws
def xTx : List (Nat × String) := [(201, "a table is 0 or 1"), (204, "a key is 0 to 11"), (212, "a number is 0 to 99"), (197, "the transaction has 12 changes"), (70, "there is no row with this key"), (81, "there are 50 commits"), (206, "a column is 0 to 2"), (104, "the limit is 0 to 50"), (208, "a publication is 0 to 2"), (110, "a relation is 0 to 2"), (125, "a set of columns is 0 to 7"), (210, "a subscriber is 0 to 2"), (151, "the state of the subscriber is not 1"), (153, "a transaction is open"), (162, "1 to 50 commits are taken at most"), (176, "the state of the subscriber is not 2"), (185, "the state of the subscriber is neither 1 nor 2"), (187, "the table is not copied")]
abbrev nIO : String := "java/lang/IndexOutOfBoundsException"
abbrev nIA : String := "java/lang/IllegalArgumentException"
abbrev nIS : String := "java/lang/IllegalStateException"
def xDs : List String := ["java/lang/RuntimeException", "java/lang/Exception", Bundle.tN]
/-- what a throw needs beside the tables: two statics of Throwable, the texts, which of the three kinds can't be cast to which -/
def XE (A : Nat → Prop) (U : State) (H : Heap) : Prop := vx_Zq Bundle.tN "UNASSIGNED_STACK" Bundle.steD A U H ∧ vx_Zq Bundle.tN "SUPPRESSED_SENTINEL" Bundle.listD A U H ∧ (∀ q ∈ xTx, ∃ sa, vk_R RX4 q.1 q.2 sa U) ∧ (∀ q ∈ [nIO, nIA, nIS], ∀ r ∈ [nIO, nIA, nIS], q ≠ r → va_Nc q r U) ∧ (∀ q ∈ [nIO, nIA, nIS], va_Nw (.castable q q) U) ∧ (∀ q ∈ xDs, va_Nw (.declares (Bundle.initS q)) U)
theorem XE.narrow {A B : Nat → Prop} {U : State} {H : Heap} (h : XE A U H) (hAB : ∀ q, B q → A q) : XE B U H := ⟨h.1.narrow hAB, h.2.1.narrow hAB, h.2.2⟩
theorem XE.kept {A : Nat → Prop} {U : State} {H H1 : Heap} (h : XE A U H) (hq : ∀ a : Nat, a < H.size → ¬ A a → H1[a]? = H[a]?) : XE A U H1 := ⟨h.1.kept hq, h.2.1.kept hq, h.2.2⟩
theorem XE.warm {A : Nat → Prop} {s U : State} {H : Heap} (hW : s.WarmedH U.vm) (h : XE A s H) : XE A U H :=
  ⟨h.1.moved hW.alike, h.2.1.moved hW.alike, fun q hq => (h.2.2.1 q hq).elim (fun sa k => ⟨sa, vk_R.warm hW k⟩), fun q hq r hr n => (h.2.2.2.1 q hq r hr n).moved hW.alike, fun q hq => (h.2.2.2.2.1 q hq).warmC hW, fun q hq => (h.2.2.2.2.2 q hq).warmD hW⟩
theorem XE.vm {A : Nat → Prop} {u U : State} {H : Heap} (hv : U.vm = u.vm) (h : XE A u H) : XE A U H :=
  ⟨h.1.moved (by rw [hv]; exact Vm.Alike.refl _), h.2.1.moved (by rw [hv]; exact Vm.Alike.refl _), fun q hq => (h.2.2.1 q hq).elim (fun sa k => ⟨sa, vk_R.same hv k⟩), fun q hq r hr n => (h.2.2.2.1 q hq r hr n).moved (by rw [hv]; exact Vm.Alike.refl _), fun q hq => va_Nw.same rfl hv.symm (h.2.2.2.2.1 q hq), fun q hq => va_Nw.same rfl hv.symm (h.2.2.2.2.2 q hq)⟩
def xPE (D : va_G) (tys : List (ClassId × FieldType)) (ws : va_W) (sz : Nat) (U : State) : Prop := xP D tys ws sz U ∧ XE (va_A ws sz) U U.heap
theorem xP_blind {av : List Value} {D : va_G} {tys : List (ClassId × FieldType)} {ws : va_W} {sz : Nat} : FrameBlind (va_Pc av (xP D tys ws sz)) := fun a U g mk q => by
  obtain ⟨q0, q1, qP, qK, qD, qN⟩ := q
  exact ⟨q0, q1, qP, va_K.moved (u := U) (U := U.calling g mk a) (Vm.Alike.refl U.vm) qK, qD, xN.vm (u := U) (U := U.calling g mk a) rfl qN⟩
theorem xPE_blind {av : List Value} {D : va_G} {tys : List (ClassId × FieldType)} {ws : va_W} {sz : Nat} : FrameBlind (va_Pc av (xPE D tys ws sz)) := fun a U g mk q => by
  obtain ⟨q0, ⟨q1, qP, qK, qD, qN⟩, qE⟩ := q
  exact ⟨q0, ⟨q1, qP, va_K.moved (u := U) (U := U.calling g mk a) (Vm.Alike.refl U.vm) qK, qD, xN.vm (u := U) (U := U.calling g mk a) rfl qN⟩, XE.vm (u := U) (U := U.calling g mk a) rfl qE⟩
theorem xP_pick {D : va_G} {ws w : va_W} {H : Heap} {is : List Nat} (h : va_P D vwCl ws H) (hs : is.map (fun i => ws[i]?) = w.map some) : va_P D vwCl w H := by
  intro k q hq
  have h1 : (is.map (fun i => ws[i]?))[k]? = some (some q) := by rw [hs, List.getElem?_map, hq]; rfl
  rw [List.getElem?_map] at h1
  cases hi : is[k]? with
  | none => rw [hi] at h1; cases h1
  | some i => rw [hi] at h1; exact h i q (Option.some.inj h1)
/-- contracts: a method that returns an int, or nothing; and one that may throw beside, the world then as it was -/
def xMi (l : Launch) (y : MethodName) (wy : List Cond) (rm : Room) (D : va_G) (tys : List (ClassId × FieldType)) (av : List Value) (w0 : va_W) {S : Type} (post : Int32 → S → Prop) (w1 : S → va_W) (mc ms : Nat) : Prop :=
  ∀ sz, Met l y wy rm (va_Pc av (xP D tys w0 sz)) (va_Qi post (fun u t => xB D (va_A w0 sz) (w1 u) t) (va_A w0 sz)) mc ms (va_A w0 sz)
def xMv (l : Launch) (y : MethodName) (wy : List Cond) (rm : Room) (D : va_G) (tys : List (ClassId × FieldType)) (av : List Value) (w0 : va_W) {S : Type} (post : S → Prop) (w1 : S → va_W) (mc ms : Nat) : Prop :=
  ∀ sz, Met l y wy rm (va_Pc av (xP D tys w0 sz)) (va_Qv post (fun u t => xB D (va_A w0 sz) (w1 u) t) (va_A w0 sz)) mc ms (va_A w0 sz)
abbrev xXC (D : va_G) (A : Nat → Prop) (w0 : va_W) (EX : String → Prop) : String → State → State → Prop := vx_X (fun _ : Unit => True) (fun E _ t => EX E ∧ xB D A w0 t) A
def xXi (l : Launch) (y : MethodName) (wy : List Cond) (rm : Room) (D : va_G) (tys : List (ClassId × FieldType)) (av : List Value) (w0 : va_W) {S : Type} (post : Int32 → S → Prop) (w1 : S → va_W) (EX : String → Prop) (mc ms : Nat) : Prop :=
  ∀ sz, vx_Met l y wy rm (va_Pc av (xPE D tys w0 sz)) (va_Qi post (fun u t => xB D (va_A w0 sz) (w1 u) t) (va_A w0 sz)) (xXC D (va_A w0 sz) w0 EX) mc ms (va_A w0 sz)
def xXv (l : Launch) (y : MethodName) (wy : List Cond) (rm : Room) (D : va_G) (tys : List (ClassId × FieldType)) (av : List Value) (w0 : va_W) {S : Type} (post : S → Prop) (w1 : S → va_W) (EX : String → Prop) (mc ms : Nat) : Prop :=
  ∀ sz, vx_Met l y wy rm (va_Pc av (xPE D tys w0 sz)) (va_Qv post (fun u t => xB D (va_A w0 sz) (w1 u) t) (va_A w0 sz)) (xXC D (va_A w0 sz) w0 EX) mc ms (va_A w0 sz)
/-- what a body has at its start -/
def xIn (p : Program) (s : State) (m : MethodId) (meth : Method) (c : Code) (A : Nat → Prop) (y : MethodName) (cc : ByteArray) (maxL : Nat) (ret : Option FieldType) (wy : List Cond) (D : va_G) (tys : List (ClassId × FieldType)) (av : List Value) (w0 : va_W) (ls : Array Slot) : Prop :=
  p.tables.exec = Jvm.exec ∧ c.code = cc ∧ c.maxLocals = maxL ∧ meth.sig.returnType = ret ∧ (∀ w ∈ wy, w.before av.toArray s = true) ∧ s.vm.findClass y.cls = some m.cls ∧ meth.name = y.name ∧ meth.locks = false ∧ va_K D vwCl tys s ∧ va_P D vwCl w0 s.heap ∧ va_D A w0 ∧ (∀ q, s.heap.size ≤ q → A q) ∧ va_S A s.heap s.heap [] ∧ xN s ∧ lv_has ls maxL (lv_args 0 av)
section ENTRY
variable {l : Launch} {y : MethodName} {wy ws' : List Cond} {rm : Room} {D : va_G} {tys : List (ClassId × FieldType)} {av : List Value} {w0 : va_W} {mc ms : Nat} {cc : ByteArray} {maxL : Nat} {ret : Option FieldType}
theorem xe_in {p : Program} {e : Env} {s s₁ : State} {m : MethodId} {args : Array Value} {below : List Frame} {meth : Method} {c : Code} {sz : Nat} {A : Nat → Prop} (B : BodyLoose p l y (headSpec wy rm) cc maxL ret e s m args below meth c s₁) (hml : c.maxLocals = maxL) (hav : (lg_sl av).length ≤ maxL) (hargs : args = av.toArray) (hv : xP D tys w0 sz s) (hAe : va_A w0 sz = A) :
    xIn p s m meth c A y cc maxL ret wy D tys av w0 ((lg_sl av ++ List.replicate (maxL - (lg_sl av).length) Slot.unset).toArray) := by
  obtain ⟨hsz, hP, hK, hD0, hN⟩ := hv
  subst hargs
  subst hAe
  subst hsz
  exact ⟨B.exec, B.bytes, hml, B.returns, atoms_spec (ws := wy) B.pre, findClass_of_methodNamed B.named, (name_of_methodNamed B.named B.method).1, B.notSynchronized, hK, hP, hD0.self, fun q h => Or.inr h, va_S.rf, hN, lv_entry av hav⟩
theorem xe_i {S : Type} {post : Int32 → S → Prop} {w1 : S → va_W} (hy : plainName y.cls = true) (hw : wy = Cond.code y cc maxL ret :: ws') (hav : (lg_sl av).length ≤ maxL)
    (body : ∀ (p : Program) (e : Env) (s : State) (m : MethodId) (below : List Frame) (meth : Method) (c : Code) (A : Nat → Prop) (ls : Array Slot), xIn p s m meth c A y cc maxL ret wy D tys av w0 ls → W p l e rm s m av.toArray below meth c s.heap [] 0 0 (MQ below (va_Qi post (fun u t => xB D A (w1 u) t) A) av.toArray s mc ms A) (F0 m 0 ls [])) : xMi l y wy rm D tys av w0 post w1 mc ms := by
  intro sz
  refine Met.ofW (cc := cc) (maxL := maxL) (ret := ret) hy hw ?_
  intro p e s m args below meth c s₁ B hml hv
  obtain ⟨rfl, hv⟩ := hv
  have h := body p e s m below meth c _ _ (xe_in B hml hav rfl hv rfl)
  rw [lg_entry_eq]
  exact h
theorem xe_v {S : Type} {post : S → Prop} {w1 : S → va_W} (hy : plainName y.cls = true) (hw : wy = Cond.code y cc maxL ret :: ws') (hav : (lg_sl av).length ≤ maxL)
    (body : ∀ (p : Program) (e : Env) (s : State) (m : MethodId) (below : List Frame) (meth : Method) (c : Code) (A : Nat → Prop) (ls : Array Slot), xIn p s m meth c A y cc maxL ret wy D tys av w0 ls → W p l e rm s m av.toArray below meth c s.heap [] 0 0 (MQ below (va_Qv post (fun u t => xB D A (w1 u) t) A) av.toArray s mc ms A) (F0 m 0 ls [])) : xMv l y wy rm D tys av w0 post w1 mc ms := by
  intro sz
  refine Met.ofW (cc := cc) (maxL := maxL) (ret := ret) hy hw ?_
  intro p e s m args below meth c s₁ B hml hv
  obtain ⟨rfl, hv⟩ := hv
  have h := body p e s m below meth c _ _ (xe_in B hml hav rfl hv rfl)
  rw [lg_entry_eq]
  exact h
theorem xe_Xi {S : Type} {post : Int32 → S → Prop} {w1 : S → va_W} {EX : String → Prop} (hy : plainName y.cls = true) (hw : wy = Cond.code y cc maxL ret :: ws') (hav : (lg_sl av).length ≤ maxL)
    (body : ∀ (p : Program) (e : Env) (s : State) (m : MethodId) (below : List Frame) (meth : Method) (c : Code) (A : Nat → Prop) (ls : Array Slot), xIn p s m meth c A y cc maxL ret wy D tys av w0 ls → (∀ x ∈ c.exceptionTable.toList, False) → XE A s s.heap → W p l e rm s m av.toArray below meth c s.heap [] 0 0 (vx_MQ below (va_Qi post (fun u t => xB D A (w1 u) t) A) (xXC D A w0 EX) av.toArray s mc ms A) (F0 m 0 ls [])) : xXi l y wy rm D tys av w0 post w1 EX mc ms := by
  intro sz
  refine vx_ofW (cc := cc) (maxL := maxL) (ret := ret) hy hw ?_
  intro p e s m args below meth c s₁ B hml htab hv
  obtain ⟨rfl, hv, hE⟩ := hv
  have h := body p e s m below meth c _ _ (xe_in B hml hav rfl hv rfl) htab hE
  rw [lg_entry_eq]
  exact h
theorem xe_Xv {S : Type} {post : S → Prop} {w1 : S → va_W} {EX : String → Prop} (hy : plainName y.cls = true) (hw : wy = Cond.code y cc maxL ret :: ws') (hav : (lg_sl av).length ≤ maxL)
    (body : ∀ (p : Program) (e : Env) (s : State) (m : MethodId) (below : List Frame) (meth : Method) (c : Code) (A : Nat → Prop) (ls : Array Slot), xIn p s m meth c A y cc maxL ret wy D tys av w0 ls → (∀ x ∈ c.exceptionTable.toList, False) → XE A s s.heap → W p l e rm s m av.toArray below meth c s.heap [] 0 0 (vx_MQ below (va_Qv post (fun u t => xB D A (w1 u) t) A) (xXC D A w0 EX) av.toArray s mc ms A) (F0 m 0 ls [])) : xXv l y wy rm D tys av w0 post w1 EX mc ms := by
  intro sz
  refine vx_ofW (cc := cc) (maxL := maxL) (ret := ret) hy hw ?_
  intro p e s m args below meth c s₁ B hml htab hv
  obtain ⟨rfl, hv, hE⟩ := hv
  have h := body p e s m below meth c _ _ (xe_in B hml hav rfl hv rfl) htab hE
  rw [lg_entry_eq]
  exact h
end ENTRY
section CALLS
variable {p : Program} {l : Launch} {e : Env} {R : Room} {s : State} {m : MethodId} {args : Array Value} {below : List Frame} {meth : Method} {c : Code} {H : Heap} {locs : List Loc} {cells slots : Nat} {Q : State → Prop}
variable {cc : ByteArray} {pc : Nat} {ls : Array Slot} {rest st0 : List Value} {D : va_G} {tys : List (ClassId × FieldType)} {ws : va_W} {A : Nat → Prop} {H0 : Heap} {a : Array Value} {mc ms : Nat}
variable {y : MethodName} {wy ws' : List Cond} {rm : Room} {bytes : ByteArray} {maxL nL n index : Nat} {ret : Option FieldType} {Ts : List Cond} {own C : String} {b : Addr} {As : List Value} {wc : va_W} {Qc : Nat → Array Value → State → Outcome → State → Prop}
theorem xPof (hN : xN s) (hK : va_K D vwCl tys s) (hP : va_P D vwCl ws H) (hD : va_D A ws) (isC : List Nat) (hnC : va_nd isC = true) (hC : isC.map (fun i => ws[i]?) = wc.map some) {U : State} (hU : U.heap = H) (hW : s.WarmedH U.vm) : xP D tys wc H.size U :=
  ⟨by rw [hU], by rw [hU]; exact xP_pick hP hC, va_K.moved hW.alike hK, (hD.sub isC hnC hC).weaken (fun _ _ _ _ => trivial), hN.warm hW⟩
theorem xPEof (hN : xN s) (hK : va_K D vwCl tys s) (hP : va_P D vwCl ws H) (hD : va_D A ws) (hS : va_S A H0 H locs) (hA : ∀ q, H0.size ≤ q → A q) (hE : XE A s H0) (isC : List Nat) (hnC : va_nd isC = true) (hC : isC.map (fun i => ws[i]?) = wc.map some) {U : State} (hU : U.heap = H) (hW : s.WarmedH U.vm) : xPE D tys wc H.size U :=
  ⟨xPof hN hK hP hD isC hnC hC hU hW, by rw [hU]; exact ((hE.kept hS.2.1).narrow (va_free hD hS hA isC hC)).warm hW⟩
theorem x_runV (Sx : CallFix p m c cc nL s args Ts own) (hM : ∀ sz, Met l y wy rm (va_Pc (.ref b :: As) (xP D tys wc sz)) (Qc sz) mc ms (va_A wc sz)) (hG : GoodIn Ts (wsV own index C y wy)) (hw : wy = Cond.code y bytes maxL ret :: ws') (hrc : rm.cells = mc) (hrs : rm.slots = ms)
    (hd : y.cls = C ∧ y.cls ≠ "java/lang/invoke/MethodHandle" ∧ y.cls ≠ "java/lang/invoke/VarHandle" ∧ (parseMethodDescriptor y.desc).map (fun d => d.parameters.length) = some n) (hR : rm.frames + 1 ≤ R.frames ∧ 8 + (maxL + 11) + rm.locals ≤ R.locals)
    (hN : xN s) (hK : va_K D vwCl tys s) (hP : va_P D vwCl ws H) (hD : va_D A ws) (isC : List Nat) (hnC : va_nd isC = true) (hC : isC.map (fun i => ws[i]?) = wc.map some) {ci q0 : Nat} {q : vw_C} {fs : List Value} (hc : vwCl[ci]? = some q) (hq : q.1 = C) (he : ws[q0]? = some (b, .inr (ci, fs)))
    (hn : As.length = n) (hsz : ls.size = nL) (hst : st0 = As.reverse ++ .ref b :: rest) (hcat : (rest.map fun v => v.category).sum ≤ 8) (hdg : decode cc pc = .ok (.invokevirtual index, 3)) (hf : cells + mc ≤ R.cells ∧ slots + ms ≤ R.slots) :
    va_Run p l e R s m args below meth c H locs cells slots mc ms (F0 m pc ls st0) rest (Qc H.size (Value.ref b :: As).toArray) (va_A wc H.size) :=
  va_runV Sx (hM H.size) (cwV n Sx.2.2.2.2 hG hw hrc hrs hd hR) ⟨xP_blind, by have h := va_recv hK hP hc he; rw [hq] at h; exact h, fun U hU hW => ⟨rfl, xPof hN hK hP hD isC hnC hC hU hW⟩⟩ rfl hn hsz hst (lv_room hcat) hdg hf
theorem x_runS (Sx : CallFix p m c cc nL s args Ts own) (hM : ∀ sz, Met l y wy rm (va_Pc As (xP D tys wc sz)) (Qc sz) mc ms (va_A wc sz)) (hG : GoodIn Ts (va_wsS own index y wy)) (hw : wy = Cond.code y bytes maxL ret :: ws') (hrc : rm.cells = mc) (hrs : rm.slots = ms)
    (hd : y.cls ≠ "java/lang/invoke/MethodHandle" ∧ y.cls ≠ "java/lang/invoke/VarHandle" ∧ (parseMethodDescriptor y.desc).map (fun d => d.parameters.length) = some n) (hR : rm.frames + 1 ≤ R.frames ∧ 8 + (maxL + 11) + rm.locals ≤ R.locals)
    (hN : xN s) (hK : va_K D vwCl tys s) (hP : va_P D vwCl ws H) (hD : va_D A ws) (isC : List Nat) (hnC : va_nd isC = true) (hC : isC.map (fun i => ws[i]?) = wc.map some)
    (hn : As.length = n) (hsz : ls.size = nL) (hst : st0 = As.reverse ++ rest) (hcat : (rest.map fun v => v.category).sum ≤ 8) (hdg : decode cc pc = .ok (.invokestatic index, 3)) (hf : cells + mc ≤ R.cells ∧ slots + ms ≤ R.slots) :
    va_Run p l e R s m args below meth c H locs cells slots mc ms (F0 m pc ls st0) rest (Qc H.size As.toArray) (va_A wc H.size) :=
  va_runS Sx (hM H.size) (va_cwS n Sx.2.2.2.2 hG hw hrc hrs hd hR) ⟨xP_blind, fun U hU hW => ⟨rfl, xPof hN hK hP hD isC hnC hC hU hW⟩⟩ rfl hn hsz hst (lv_room hcat) hdg hf
theorem x_runI (Sx : CallFix p m c cc nL s args Ts own) (hM : ∀ sz, Met l y wy rm (va_Pc (.ref b :: As) (xP D tys wc sz)) (Qc sz) mc ms (va_A wc sz)) (hG : GoodIn Ts wy) (hw : wy = Cond.code y bytes maxL none :: ws') (hrc : rm.cells = mc) (hrs : rm.slots = ms) (hini : Cond.initialized y.cls ∈ Ts) (hl : Cond.methodLink own index y ∈ Ts) (hin : Cond.instanceMethod y ∈ Ts) (hy1 : y.name = "<init>")
    (hd : y.cls ≠ "java/lang/invoke/MethodHandle" ∧ y.cls ≠ "java/lang/invoke/VarHandle" ∧ (parseMethodDescriptor y.desc).map (fun d => d.parameters.length) = some n) (hR : rm.frames + 1 ≤ R.frames ∧ 8 + (maxL + 11) + rm.locals ≤ R.locals)
    (hN : xN s) (hK : va_K D vwCl tys s) (hP : va_P D vwCl ws H) (hD : va_D A ws) (isC : List Nat) (hnC : va_nd isC = true) (hC : isC.map (fun i => ws[i]?) = wc.map some)
    (hn : As.length = n) (hsz : ls.size = nL) (hst : st0 = As.reverse ++ .ref b :: rest) (hcat : (rest.map fun v => v.category).sum ≤ 8) (hdg : decode cc pc = .ok (.invokespecial index, 3)) (hf : cells + mc ≤ R.cells ∧ slots + ms ≤ R.slots) :
    va_Run p l e R s m args below meth c H locs cells slots mc ms (F0 m pc ls st0) rest (Qc H.size (Value.ref b :: As).toArray) (va_A wc H.size) :=
  va_runI Sx (hM H.size) (cwI n Sx.2.2.2.2 hG hw hrc hrs (Sx.2.2.2.2 _ hini) (Sx.2.2.2.2 _ hl) (Sx.2.2.2.2 _ hin) hy1 hd hR) ⟨xP_blind, fun U hU hW => ⟨rfl, xPof hN hK hP hD isC hnC hC hU hW⟩⟩ rfl hn hsz hst (lv_room hcat) hdg hf
theorem x_runSN (Sx : CallFix p m c cc nL s args Ts own) (hM : ∀ sz, Met l y wy rm (va_Pc As (xP D tys wc sz)) (Qc sz) mc ms (va_A wc sz)) (hG : GoodIn Ts wy) (hw : wy = Cond.code y bytes maxL ret :: ws') (hrc : rm.cells = mc) (hrs : rm.slots = ms) (hl : (own, index, y) ∈ xNm) (hstat : Cond.static y ∈ Ts) (hini : Cond.initialized y.cls ∈ Ts)
    (hd : y.cls ≠ "java/lang/invoke/MethodHandle" ∧ y.cls ≠ "java/lang/invoke/VarHandle" ∧ (parseMethodDescriptor y.desc).map (fun d => d.parameters.length) = some n) (hR : rm.frames + 1 ≤ R.frames ∧ 8 + (maxL + 11) + rm.locals ≤ R.locals)
    (hN : xN s) (hK : va_K D vwCl tys s) (hP : va_P D vwCl ws H) (hD : va_D A ws) (isC : List Nat) (hnC : va_nd isC = true) (hC : isC.map (fun i => ws[i]?) = wc.map some)
    (hn : As.length = n) (hsz : ls.size = nL) (hst : st0 = As.reverse ++ rest) (hcat : (rest.map fun v => v.category).sum ≤ 8) (hdg : decode cc pc = .ok (.invokestatic index, 3)) (hf : cells + mc ≤ R.cells ∧ slots + ms ≤ R.slots) :
    va_Run p l e R s m args below meth c H locs cells slots mc ms (F0 m pc ls st0) rest (Qc H.size As.toArray) (va_A wc H.size) :=
  va_runSN Sx (hM H.size) ⟨va_cnB n Sx.2.2.2.2 hG hw hrc hrs (hN.2 _ hl) (Sx.2.2.2.2 _ hini) hd hR, Sx.2.2.2.2 _ hstat, trivial⟩ ⟨xP_blind, fun U hU hW => ⟨rfl, xPof hN hK hP hD isC hnC hC hU hW⟩⟩ rfl hn hsz hst (lv_room hcat) hdg hf
theorem x_runIN (Sx : CallFix p m c cc nL s args Ts own) (hM : ∀ sz, Met l y wy rm (va_Pc (.ref b :: As) (xP D tys wc sz)) (Qc sz) mc ms (va_A wc sz)) (hG : GoodIn Ts wy) (hw : wy = Cond.code y bytes maxL none :: ws') (hrc : rm.cells = mc) (hrs : rm.slots = ms) (hl : (own, index, y) ∈ xNm) (hini : Cond.initialized y.cls ∈ Ts) (hin : Cond.instanceMethod y ∈ Ts) (hy1 : y.name = "<init>")
    (hd : y.cls ≠ "java/lang/invoke/MethodHandle" ∧ y.cls ≠ "java/lang/invoke/VarHandle" ∧ (parseMethodDescriptor y.desc).map (fun d => d.parameters.length) = some n) (hR : rm.frames + 1 ≤ R.frames ∧ 8 + (maxL + 11) + rm.locals ≤ R.locals)
    (hN : xN s) (hK : va_K D vwCl tys s) (hP : va_P D vwCl ws H) (hD : va_D A ws) (isC : List Nat) (hnC : va_nd isC = true) (hC : isC.map (fun i => ws[i]?) = wc.map some)
    (hn : As.length = n) (hsz : ls.size = nL) (hst : st0 = As.reverse ++ .ref b :: rest) (hcat : (rest.map fun v => v.category).sum ≤ 8) (hdg : decode cc pc = .ok (.invokespecial index, 3)) (hf : cells + mc ≤ R.cells ∧ slots + ms ≤ R.slots) :
    va_Run p l e R s m args below meth c H locs cells slots mc ms (F0 m pc ls st0) rest (Qc H.size (Value.ref b :: As).toArray) (va_A wc H.size) :=
  va_runIN Sx (hM H.size) ⟨va_cnB n Sx.2.2.2.2 hG hw hrc hrs (hN.2 _ hl) (Sx.2.2.2.2 _ hini) hd hR, hy1, Sx.2.2.2.2 _ hin⟩ ⟨xP_blind, fun U hU hW => ⟨rfl, xPof hN hK hP hD isC hnC hC hU hW⟩⟩ rfl hn hsz hst (lv_room hcat) hdg hf
theorem x_getN (hx : p.tables.exec = Jvm.exec) (hb : c.code = cc) {ref : String} {T : u_T} {N ci : Nat} {a : Nat} (hts : ∀ w ∈ Ts, w.before args s = true) (hin : ∀ w ∈ u_ws C T N, w ∈ Ts) (hown : s.vm.findClass own = some m.cls) (hN : xN s) (hK : va_K D vwCl tys s) (hP : va_P D vwCl ws H) (q0 : Nat) {fs : List Value} (he : ws[q0]? = some (a, .inr (ci, fs))) (hc : vwCl[ci]? = some (C, T, N)) (k : Nat) (hk : k < N) (hl : (own, index, ref, (T k).2.1, (T k).2.2.1) ∈ xNf) (hsame : ∀ x, s.fieldFound? (T k).1 (T k).2.1 (T k).2.2.1 = some x → s.fieldFound? ref (T k).2.1 (T k).2.2.1 = some x) {v : Value} (hv : fs[k]? = some v) (hdg : decode cc pc = .ok (.getfield index, 3))
    (kk : W p l e R s m args below meth c H locs cells slots Q (F0 m (pc + 3) ls (v :: rest))) : W p l e R s m args below meth c H locs cells slots Q (F0 m pc ls (.ref a :: rest)) :=
  va_getN hx hb hts hin hown hK hP q0 he hc k hk (va_Nw.use rfl (hN.1 _ hl)) hsame hv hdg kk
theorem x_putN {A : Nat → Prop} (hx : p.tables.exec = Jvm.exec) (hb : c.code = cc) {ref : String} {T : u_T} {N ci : Nat} {a : Nat} (hts : ∀ w ∈ Ts, w.before args s = true) (hin : ∀ w ∈ u_ws C T N, w ∈ Ts) (ty0 : Nat → FieldType) (hty : ∀ k, k < N → parseFieldDescriptor (T k).2.2.1 = some (ty0 k)) (hnm : ∀ a, a < N → ∀ b, b < N → a ≠ b → (T a).2.1 ≠ (T b).2.1) (hown : s.vm.findClass own = some m.cls) (hN : xN s) (hK : va_K D vwCl tys s) (hP : va_P D vwCl ws H) (hD : va_D A ws) (hS0 : va_S A H0 H locs) (q0 : Nat) {fs fs' : List Value} {w' : va_W} (he : ws[q0]? = some (a, .inr (ci, fs))) (hc : vwCl[ci]? = some (C, T, N)) (k : Nat) (hk : k < N) (hl0 : (own, index, ref, (T k).2.1, (T k).2.2.1) ∈ xNf) (hsame : ∀ x, s.fieldFound? (T k).1 (T k).2.1 (T k).2.2.1 = some x → s.fieldFound? ref (T k).2.1 (T k).2.2.1 = some x) (hfin : (T k).2.2.2 = false) {ty : FieldType} {v : Value} (hd : parseFieldDescriptor (T k).2.2.1 = some ty) (hn : narrow ty v = v) (hfit : fits ty v = true) (hl : k < fs.length)
    (hfs : fs.set k v = fs') (hw : ws.set q0 (a, .inr (ci, fs')) = w') (hdg : decode cc pc = .ok (.putfield index, 3)) (kk : ∀ (H1 : Heap) (locs1 : List Loc), va_P D vwCl w' H1 → va_D A w' → va_S A H0 H1 locs1 → W p l e R s m args below meth c H1 locs1 cells slots Q (F0 m (pc + 3) ls rest)) : W p l e R s m args below meth c H locs cells slots Q (F0 m pc ls (v :: .ref a :: rest)) :=
  va_putN hx hb hts hin ty0 hty hnm hown hK hP hD hS0 q0 he hc k hk (va_Nw.use rfl (hN.1 _ hl0)) hsame hfin hd hn hfit hl hdg (by rw [hfs, hw]; exact kk)
theorem x_calli {S : Type} {post : Int32 → S → Prop} {w1 w2 : S → va_W} {wr : va_W} (hr : va_Run p l e R s m args below meth c H locs cells slots mc ms (F0 m pc ls st0) rest (va_Qi post (fun u t => xB D (va_A wc H.size) (w1 u) t) (va_A wc H.size) a) (va_A wc H.size))
    (hP : va_P D vwCl ws H) (hD : va_D A ws) (hS : va_S A H0 H locs) (hA : ∀ q, H0.size ≤ q → A q) (isC isR is2 : List Nat) (hC : isC.map (fun i => ws[i]?) = wc.map some) (hR : isR.map (fun i => ws[i]?) = wr.map some) (hn : va_nd isR = true) (hdis : ∀ i ∈ isR, i ∉ isC) (hn2 : va_nd is2 = true) (h2 : ∀ u, is2.map (fun i => (wr ++ w1 u)[i]?) = (w2 u).map some)
    (kk : ∀ (r : Int32) (u : S) (H1 : Heap) (locs1 : List Loc), post r u → va_P D vwCl (w2 u) H1 → va_D A (w2 u) → va_S A H0 H1 locs1 → W p l e R s m args below meth c H1 locs1 (cells + mc) (slots + ms) Q (F0 m (pc + 3) ls (.int r :: rest))) : W p l e R s m args below meth c H locs cells slots Q (F0 m pc ls st0) := by
  have hF := va_free (wc := wc) hD hS hA isC hC
  refine va_calli hr hS (fun q _ h => hF q h) hF (fun r u t H1 locs1 ht hvm hw hB hz hk hS1 => ?_)
  obtain ⟨hP1, hD1⟩ := hB
  rw [ht] at hP1
  obtain ⟨hP', hD'⟩ := va_join hP hD isC isR hC hR hn hdis hk hF hP1 hD1
  exact kk r u H1 locs1 hw (xP_pick hP' (h2 u)) (hD'.sub is2 hn2 (h2 u)) hS1
theorem x_callv {S : Type} {post : S → Prop} {w1 w2 : S → va_W} {wr : va_W} (hr : va_Run p l e R s m args below meth c H locs cells slots mc ms (F0 m pc ls st0) rest (va_Qv post (fun u t => xB D (va_A wc H.size) (w1 u) t) (va_A wc H.size) a) (va_A wc H.size))
    (hP : va_P D vwCl ws H) (hD : va_D A ws) (hS : va_S A H0 H locs) (hA : ∀ q, H0.size ≤ q → A q) (isC isR is2 : List Nat) (hC : isC.map (fun i => ws[i]?) = wc.map some) (hR : isR.map (fun i => ws[i]?) = wr.map some) (hn : va_nd isR = true) (hdis : ∀ i ∈ isR, i ∉ isC) (hn2 : va_nd is2 = true) (h2 : ∀ u, is2.map (fun i => (wr ++ w1 u)[i]?) = (w2 u).map some)
    (kk : ∀ (u : S) (H1 : Heap) (locs1 : List Loc), post u → va_P D vwCl (w2 u) H1 → va_D A (w2 u) → va_S A H0 H1 locs1 → W p l e R s m args below meth c H1 locs1 (cells + mc) (slots + ms) Q (F0 m (pc + 3) ls rest)) : W p l e R s m args below meth c H locs cells slots Q (F0 m pc ls st0) := by
  have hF := va_free (wc := wc) hD hS hA isC hC
  refine va_callv hr hS (fun q _ h => hF q h) hF (fun u t H1 locs1 ht hvm hw hB hz hk hS1 => ?_)
  obtain ⟨hP1, hD1⟩ := hB
  rw [ht] at hP1
  obtain ⟨hP', hD'⟩ := va_join hP hD isC isR hC hR hn hdis hk hF hP1 hD1
  exact kk u H1 locs1 hw (xP_pick hP' (h2 u)) (hD'.sub is2 hn2 (h2 u)) hS1
end CALLS
section THROWS
variable {p : Program} {l : Launch} {e : Env} {R : Room} {s : State} {m : MethodId} {args : Array Value} {below : List Frame} {meth : Method} {c : Code} {H : Heap} {locs : List Loc} {cells slots : Nat} {Q : State → Prop}
variable {cc : ByteArray} {pc : Nat} {ls : Array Slot} {rest st0 : List Value} {D : va_G} {tys : List (ClassId × FieldType)} {ws : va_W} {A : Nat → Prop} {H0 : Heap} {a : Array Value} {mc ms : Nat}
variable {y : MethodName} {wy ws' : List Cond} {rm : Room} {bytes : ByteArray} {maxL nL n index : Nat} {ret : Option FieldType} {Ts : List Cond} {own C : String} {b : Addr} {As : List Value} {wc : va_W} {Qc : Nat → Array Value → State → Outcome → State → Prop} {XC : Nat → String → State → State → Prop}
theorem x_runXV (Sx : CallFix p m c cc nL s args Ts own) (hM : ∀ sz, vx_Met l y wy rm (va_Pc (.ref b :: As) (xPE D tys wc sz)) (Qc sz) (XC sz) mc ms (va_A wc sz)) (hG : GoodIn Ts (wsV own index C y wy)) (hw : wy = Cond.code y bytes maxL ret :: ws') (hrc : rm.cells = mc) (hrs : rm.slots = ms)
    (hd : y.cls = C ∧ y.cls ≠ "java/lang/invoke/MethodHandle" ∧ y.cls ≠ "java/lang/invoke/VarHandle" ∧ (parseMethodDescriptor y.desc).map (fun d => d.parameters.length) = some n) (hR : rm.frames + 1 ≤ R.frames ∧ 8 + (maxL + 11) + rm.locals ≤ R.locals)
    (hN : xN s) (hK : va_K D vwCl tys s) (hP : va_P D vwCl ws H) (hD : va_D A ws) (hS : va_S A H0 H locs) (hA : ∀ q, H0.size ≤ q → A q) (hE : XE A s H0) (isC : List Nat) (hnC : va_nd isC = true) (hC : isC.map (fun i => ws[i]?) = wc.map some) {ci q0 : Nat} {q : vw_C} {fs : List Value} (hc : vwCl[ci]? = some q) (hq : q.1 = C) (he : ws[q0]? = some (b, .inr (ci, fs)))
    (hn : As.length = n) (hsz : ls.size = nL) (hst : st0 = As.reverse ++ .ref b :: rest) (hcat : (rest.map fun v => v.category).sum ≤ 8) (hdg : decode cc pc = .ok (.invokevirtual index, 3)) (hf : cells + mc ≤ R.cells ∧ slots + ms ≤ R.slots) :
    vx_Run p l e R s m args below meth c H locs cells slots mc ms (F0 m pc ls st0) rest (Qc H.size (Value.ref b :: As).toArray) (XC H.size) (va_A wc H.size) :=
  vx_runV Sx (hM H.size) (cwV n Sx.2.2.2.2 hG hw hrc hrs hd hR) ⟨xPE_blind, by have h := va_recv hK hP hc he; rw [hq] at h; exact h, fun U hU hW => ⟨rfl, xPEof hN hK hP hD hS hA hE isC hnC hC hU hW⟩⟩ rfl hn hsz hst (lv_room hcat) hdg hf
theorem x_runXS (Sx : CallFix p m c cc nL s args Ts own) (hM : ∀ sz, vx_Met l y wy rm (va_Pc As (xPE D tys wc sz)) (Qc sz) (XC sz) mc ms (va_A wc sz)) (hG : GoodIn Ts (va_wsS own index y wy)) (hw : wy = Cond.code y bytes maxL ret :: ws') (hrc : rm.cells = mc) (hrs : rm.slots = ms)
    (hd : y.cls ≠ "java/lang/invoke/MethodHandle" ∧ y.cls ≠ "java/lang/invoke/VarHandle" ∧ (parseMethodDescriptor y.desc).map (fun d => d.parameters.length) = some n) (hR : rm.frames + 1 ≤ R.frames ∧ 8 + (maxL + 11) + rm.locals ≤ R.locals)
    (hN : xN s) (hK : va_K D vwCl tys s) (hP : va_P D vwCl ws H) (hD : va_D A ws) (hS : va_S A H0 H locs) (hA : ∀ q, H0.size ≤ q → A q) (hE : XE A s H0) (isC : List Nat) (hnC : va_nd isC = true) (hC : isC.map (fun i => ws[i]?) = wc.map some)
    (hn : As.length = n) (hsz : ls.size = nL) (hst : st0 = As.reverse ++ rest) (hcat : (rest.map fun v => v.category).sum ≤ 8) (hdg : decode cc pc = .ok (.invokestatic index, 3)) (hf : cells + mc ≤ R.cells ∧ slots + ms ≤ R.slots) :
    vx_Run p l e R s m args below meth c H locs cells slots mc ms (F0 m pc ls st0) rest (Qc H.size As.toArray) (XC H.size) (va_A wc H.size) :=
  vx_runS Sx (hM H.size) (va_cwS n Sx.2.2.2.2 hG hw hrc hrs hd hR) ⟨xPE_blind, fun U hU hW => ⟨rfl, xPEof hN hK hP hD hS hA hE isC hnC hC hU hW⟩⟩ rfl hn hsz hst (lv_room hcat) hdg hf
/-- a call that may throw; what is thrown goes on to the caller, whose world is still as at its start -/
theorem x_passed {Qr : Array Value → State → Outcome → State → Prop} {EX EX' : String → Prop} {w0 wr : va_W} {mc' ms' : Nat} {E : String} {ce : Cell} {q9 : Addr} {t : State} {H1 : Heap} {locs1 : List Loc} {k1 n1 : Nat} (htab : ∀ x ∈ c.exceptionTable.toList, False) (hlk : meth.locks = false) (hEE : ∀ E, EX E → EX' E)
    (hP : va_P D vwCl w0 H) (hD : va_D A w0) (hF : ∀ q, va_A wc H.size q → A q) (isC isR is3 : List Nat) (hC : isC.map (fun i => w0[i]?) = wc.map some) (hR : isR.map (fun i => w0[i]?) = wr.map some) (hn : va_nd isR = true) (hdis : ∀ i ∈ isR, i ∉ isC) (hn3 : va_nd is3 = true) (h3 : is3.map (fun i => (wr ++ wc)[i]?) = w0.map some)
    (ht : t.heap = H1) (hB : EX E ∧ xB D (va_A wc H.size) wc t) (hk : ∀ q : Nat, q < H.size → ¬ va_A wc H.size q → H1[q]? = H[q]?) (hS1 : va_S A s.heap H1 locs1) (hce : H1[q9]? = some ce) (hcv : ce.vm = .none) (hcl : s.vm.findClass E = some ce.cls) (h1 : k1 ≤ mc') (h2 : n1 ≤ ms') :
    vx_W p l e R s m args below meth c H1 locs1 k1 n1 (vx_MQ below Qr (xXC D A w0 EX') args s mc' ms' A) (F0 m pc ls rest) q9 := by
  obtain ⟨hE1, hP1, hD1⟩ := hB
  rw [ht] at hP1
  obtain ⟨hP', hD'⟩ := va_join hP hD isC isR hC hR hn hdis hk hF hP1 hD1
  have hP3 := xP_pick hP' h3
  have hD3 := hD'.sub is3 hn3 h3
  exact vx_out (fun x hx => (htab x hx).elim) hlk hce hcv hcl (fun t9 ht9 _ => ⟨(), trivial, ⟨hEE E hE1, by rw [ht9]; exact hP3, hD3⟩, hS1.F ht9⟩) hS1.2.2 h1 h2
theorem x_callXi {S : Type} {post : Int32 → S → Prop} {w1 w2 : S → va_W} {w0 wr : va_W} {Qr : Array Value → State → Outcome → State → Prop} {EX EX' : String → Prop} {mc' ms' : Nat} (hr : vx_Run p l e R s m args below meth c H locs cells slots mc ms (F0 m pc ls st0) rest (va_Qi post (fun u t => xB D (va_A wc H.size) (w1 u) t) (va_A wc H.size) a) (xXC D (va_A wc H.size) wc EX) (va_A wc H.size))
    (htab : ∀ x ∈ c.exceptionTable.toList, False) (hlk : meth.locks = false) (hEE : ∀ E, EX E → EX' E) (hcm : cells + mc ≤ mc' ∧ slots + ms ≤ ms')
    (hP : va_P D vwCl w0 H) (hD : va_D A w0) (hS : va_S A s.heap H locs) (hA : ∀ q, s.heap.size ≤ q → A q) (isC isR is2 is3 : List Nat) (hC : isC.map (fun i => w0[i]?) = wc.map some) (hR : isR.map (fun i => w0[i]?) = wr.map some) (hn : va_nd isR = true) (hdis : ∀ i ∈ isR, i ∉ isC) (hn3 : va_nd is3 = true) (h3 : is3.map (fun i => (wr ++ wc)[i]?) = w0.map some) (hn2 : va_nd is2 = true) (h2 : ∀ u, is2.map (fun i => (wr ++ w1 u)[i]?) = (w2 u).map some)
    (kk : ∀ (r : Int32) (u : S) (H1 : Heap) (locs1 : List Loc), post r u → va_P D vwCl (w2 u) H1 → va_D A (w2 u) → va_S A s.heap H1 locs1 → W p l e R s m args below meth c H1 locs1 (cells + mc) (slots + ms) (vx_MQ below Qr (xXC D A w0 EX') args s mc' ms' A) (F0 m (pc + 3) ls (.int r :: rest))) : W p l e R s m args below meth c H locs cells slots (vx_MQ below Qr (xXC D A w0 EX') args s mc' ms' A) (F0 m pc ls st0) := by
  have hF := va_free (wc := wc) hD hS hA isC hC
  refine vx_calli hr hS (fun q _ h => hF q h) hF (fun q _ h => hF q h) (fun E ce q9 u t H1 locs1 ht hvm hw hB hz hk hS1 hce hcv hcl => ?_) (fun r u t H1 locs1 ht hvm hw hB hz hk hS1 => ?_)
  · exact x_passed htab hlk hEE hP hD hF isC isR is3 hC hR hn hdis hn3 h3 ht hB hk hS1 hce hcv hcl hcm.1 hcm.2
  · obtain ⟨hP1, hD1⟩ := hB
    rw [ht] at hP1
    obtain ⟨hP', hD'⟩ := va_join hP hD isC isR hC hR hn hdis hk hF hP1 hD1
    exact kk r u H1 locs1 hw (xP_pick hP' (h2 u)) (hD'.sub is2 hn2 (h2 u)) hS1
theorem x_callXv {S : Type} {post : S → Prop} {w1 w2 : S → va_W} {w0 wr : va_W} {Qr : Array Value → State → Outcome → State → Prop} {EX EX' : String → Prop} {mc' ms' : Nat} (hr : vx_Run p l e R s m args below meth c H locs cells slots mc ms (F0 m pc ls st0) rest (va_Qv post (fun u t => xB D (va_A wc H.size) (w1 u) t) (va_A wc H.size) a) (xXC D (va_A wc H.size) wc EX) (va_A wc H.size))
    (htab : ∀ x ∈ c.exceptionTable.toList, False) (hlk : meth.locks = false) (hEE : ∀ E, EX E → EX' E) (hcm : cells + mc ≤ mc' ∧ slots + ms ≤ ms')
    (hP : va_P D vwCl w0 H) (hD : va_D A w0) (hS : va_S A s.heap H locs) (hA : ∀ q, s.heap.size ≤ q → A q) (isC isR is2 is3 : List Nat) (hC : isC.map (fun i => w0[i]?) = wc.map some) (hR : isR.map (fun i => w0[i]?) = wr.map some) (hn : va_nd isR = true) (hdis : ∀ i ∈ isR, i ∉ isC) (hn3 : va_nd is3 = true) (h3 : is3.map (fun i => (wr ++ wc)[i]?) = w0.map some) (hn2 : va_nd is2 = true) (h2 : ∀ u, is2.map (fun i => (wr ++ w1 u)[i]?) = (w2 u).map some)
    (kk : ∀ (u : S) (H1 : Heap) (locs1 : List Loc), post u → va_P D vwCl (w2 u) H1 → va_D A (w2 u) → va_S A s.heap H1 locs1 → W p l e R s m args below meth c H1 locs1 (cells + mc) (slots + ms) (vx_MQ below Qr (xXC D A w0 EX') args s mc' ms' A) (F0 m (pc + 3) ls rest)) : W p l e R s m args below meth c H locs cells slots (vx_MQ below Qr (xXC D A w0 EX') args s mc' ms' A) (F0 m pc ls st0) := by
  have hF := va_free (wc := wc) hD hS hA isC hC
  refine vx_callv hr hS (fun q _ h => hF q h) hF (fun q _ h => hF q h) (fun E ce q9 u t H1 locs1 ht hvm hw hB hz hk hS1 hce hcv hcl => ?_) (fun u t H1 locs1 ht hvm hw hB hz hk hS1 => ?_)
  · exact x_passed htab hlk hEE hP hD hF isC isR is3 hC hR hn hdis hn3 h3 ht hB hk hS1 hce hcv hcl hcm.1 hcm.2
  · obtain ⟨hP1, hD1⟩ := hB
    rw [ht] at hP1
    obtain ⟨hP', hD'⟩ := va_join hP hD isC isR hC hR hn hdis hk hF hP1 hD1
    exact kk u H1 locs1 hw (xP_pick hP' (h2 u)) (hD'.sub is2 hn2 (h2 u)) hS1
/-- 'throw new E("text")' out of the class, its world as at its start -/
theorem x_throw {Qr : Array Value → State → Outcome → State → Prop} {EX : String → Prop} {w0 : va_W} {cls text : String} {ik is ic : Nat} (hx : p.tables.exec = Jvm.exec) (hb : c.code = cc) (hml : c.maxLocals = nL) (hfl : l.stackTraces = false) (htab : ∀ x ∈ c.exceptionTable.toList, False) (hlk : meth.locks = false) (hown : s.vm.findClass RX4 = some m.cls) (hts : ∀ w ∈ Ts, w.before args s = true) (hcls : cls = nIO ∨ cls = nIA ∨ cls = nIS)
    (hk : Cond.classLink RX4 ik cls ∈ Ts) (hini : Cond.initialized cls ∈ Ts) (hat : ∀ w ∈ (vx_atS RX4 ic cls ["java/lang/RuntimeException", "java/lang/Exception"]).filter goodWord, w ∈ Ts) (hng : ∀ w ∈ (vx_atS RX4 ic cls ["java/lang/RuntimeException", "java/lang/Exception"]).filter (fun w => !goodWord w), w ∈ Cond.castable cls cls :: xDs.map (fun q => Cond.declares (Bundle.initS q)))
    (hgood : ∀ w ∈ Cond.classLink RX4 ik cls :: Cond.initialized cls :: vx_atS RX4 ic cls ["java/lang/RuntimeException", "java/lang/Exception"], vx_ot w = true)
    (htx : (is, text) ∈ xTx) (hE : XE A s s.heap) (hP : va_P D vwCl w0 H) (hD : va_D A w0) (hS : va_S A s.heap H locs) (hsz : ls.size = nL)
    (d0 : decode cc pc = .ok (.new ik, 3)) (d3 : decode cc (pc + 3) = .ok (.dup, 1)) (d4 : decode cc (pc + 4) = .ok (.ldc is, 2)) (d6 : decode cc (pc + 6) = .ok (.invokespecial ic, 3)) (d9 : decode cc (pc + 9) = .ok (.athrow, 1))
    (hRm : 6 ≤ R.frames ∧ 100 ≤ R.locals ∧ cells + 1 ≤ R.cells ∧ slots + 6 ≤ R.slots) (hcm : cells + 1 ≤ mc ∧ slots + 6 ≤ ms) (hEX : EX cls) :
    W p l e R s m args below meth c H locs cells slots (vx_MQ below Qr (xXC D A w0 EX) args s mc ms A) (F0 m pc ls []) := by
  obtain ⟨sa, hstr⟩ := hE.2.2.1 _ htx
  have hcast : (Cond.castable cls cls).before args s = true := va_Nw.use rfl (hE.2.2.2.2.1 cls (by rcases hcls with h | h | h <;> rw [h] <;> simp))
  exact vx_throwS (text := text) (names := ["java/lang/RuntimeException", "java/lang/Exception"]) (A := A) hx hb hfl hown (by rcases hcls with h | h | h <;> rw [h] <;> decide) (by decide) (hts _ hk) (hts _ hini) hstr (vx_hat (fun w h => hts w (hat w h)) hng (vx_c hcast (fun w h => (List.mem_map.mp h).elim (fun q k => by rw [← k.2]; exact va_Nw.use rfl (hE.2.2.2.2.2 q k.1))))) hgood hE.1 hE.2.1 hS (hsz.trans hml.symm) d0 d3 d4 d6 d9 (fun x hx9 => (htab x hx9).elim) (by show 2 + 3 < R.frames; omega) (by show 0 + (13 * (2 + 1) + 43) ≤ R.locals; omega) hRm.2.2.1 hRm.2.2.2 hlk
    (fun t hvm hz hq => ⟨(), trivial, ⟨hEX, hP.kept (fun k q hk => hq q.1 (hP k q hk).lt), hD⟩, ⟨Nat.le_trans hS.1 hz, fun q h1 h2 => (hq q (Nat.lt_of_lt_of_le h1 hS.1)).trans (hS.2.1 q h1 h2)⟩⟩) hS.2.2 hcm.1 hcm.2
end THROWS
section ENDS
variable {p : Program} {l : Launch} {e : Env} {R : Room} {s : State} {m : MethodId} {args : Array Value} {below : List Frame} {meth : Method} {c : Code} {H : Heap} {locs : List Loc} {cells slots : Nat}
variable {cc : ByteArray} {pc : Nat} {ls : Array Slot} {D : va_G} {ws : va_W} {A : Nat → Prop} {mc ms : Nat}
theorem x_ret_i {S : Type} {post : Int32 → S → Prop} {w1 : S → va_W} {v : Int32} (hx : p.tables.exec = Jvm.exec) (hb : c.code = cc) (hr : meth.sig.returnType = some .int) (hlk : meth.locks = false) (hP : va_P D vwCl ws H) (hD : va_D A ws) (hS : va_S A s.heap H locs) (hdg : decode cc pc = .ok (.ireturn, 1)) (hcm : cells ≤ mc ∧ slots ≤ ms) (u : S) (hp : post v u) (hw : ws = w1 u) :
    W p l e R s m args below meth c H locs cells slots (MQ below (va_Qi post (fun u t => xB D A (w1 u) t) A) args s mc ms A) (F0 m pc ls [.int v]) := by
  subst hw
  exact W.widen hcm.1 hcm.2 (W.iret (v := v) hx hb hr (fun t ht hW => ⟨⟨v, u, rfl, hp, by rw [ht]; exact hP, hD⟩, hS.F ht⟩) hS.2.2 hdg hlk)
theorem x_ret_z {S : Type} {post : Int32 → S → Prop} {w1 : S → va_W} {v : Int32} (hx : p.tables.exec = Jvm.exec) (hb : c.code = cc) (hr : meth.sig.returnType = some .boolean) (hv : v = nI 0 ∨ v = nI 1) (hlk : meth.locks = false) (hP : va_P D vwCl ws H) (hD : va_D A ws) (hS : va_S A s.heap H locs) (hdg : decode cc pc = .ok (.ireturn, 1)) (hcm : cells ≤ mc ∧ slots ≤ ms) (u : S) (hp : post v u) (hw : ws = w1 u) :
    W p l e R s m args below meth c H locs cells slots (MQ below (va_Qi post (fun u t => xB D A (w1 u) t) A) args s mc ms A) (F0 m pc ls [.int v]) := by
  subst hw
  exact W.widen hcm.1 hcm.2 (W.zret (v := v) hx hb hr (by rcases hv with h | h <;> rw [h] <;> decide) (fun t ht hW => ⟨⟨v, u, rfl, hp, by rw [ht]; exact hP, hD⟩, hS.F ht⟩) hS.2.2 hdg hlk)
theorem x_ret_v {S : Type} {post : S → Prop} {w1 : S → va_W} (hx : p.tables.exec = Jvm.exec) (hb : c.code = cc) (hr : meth.sig.returnType = none) (hlk : meth.locks = false) (hP : va_P D vwCl ws H) (hD : va_D A ws) (hS : va_S A s.heap H locs) (hdg : decode cc pc = .ok (.return_, 1)) (hcm : cells ≤ mc ∧ slots ≤ ms) (u : S) (hp : post u) (hw : ws = w1 u) :
    W p l e R s m args below meth c H locs cells slots (MQ below (va_Qv post (fun u t => xB D A (w1 u) t) A) args s mc ms A) (F0 m pc ls []) := by
  subst hw
  exact W.widen hcm.1 hcm.2 (W.vret hx hb hr (fun t ht hW => ⟨⟨u, rfl, hp, by rw [ht]; exact hP, hD⟩, hS.F ht⟩) hS.2.2 hdg hlk)
end ENDS
section LOOPS
variable {p : Program} {l : Launch} {e : Env} {R : Room} {s : State} {m : MethodId} {args : Array Value} {below : List Frame} {meth : Method} {c : Code} {H : Heap} {locs : List Loc} {cells slots : Nat} {Q : State → Prop} {pc : Nat} {ls : Array Slot} {D : va_G} {A : Nat → Prop} {H0 : Heap} {nL : Nat}
/-- a loop: an invariant, a measure that falls, the world, the locals and the stack by the loop's own numbers -/
theorem x_loop {σ : Type} (inv : σ → Prop) (μ : σ → Nat) (w : σ → va_W) (lv : σ → List (Nat × Value)) (st : σ → List Value)
    (body : ∀ x : σ, inv x → (∀ x' : σ, inv x' → μ x' < μ x → ∀ (H : Heap) (locs : List Loc) (ls : Array Slot), va_P D vwCl (w x') H → va_D A (w x') → va_S A H0 H locs → lv_has ls nL (lv x') → W p l e R s m args below meth c H locs cells slots Q (F0 m pc ls (st x'))) →
      ∀ (H : Heap) (locs : List Loc) (ls : Array Slot), va_P D vwCl (w x) H → va_D A (w x) → va_S A H0 H locs → lv_has ls nL (lv x) → W p l e R s m args below meth c H locs cells slots Q (F0 m pc ls (st x)))
    (x0 : σ) (h0 : inv x0) (hP : va_P D vwCl (w x0) H) (hD : va_D A (w x0)) (hS : va_S A H0 H locs) (hl : lv_has ls nL (lv x0)) : W p l e R s m args below meth c H locs cells slots Q (F0 m pc ls (st x0)) := by
  have key : ∀ (d : Nat) (x : σ), inv x → μ x < d → ∀ (H : Heap) (locs : List Loc) (ls : Array Slot), va_P D vwCl (w x) H → va_D A (w x) → va_S A H0 H locs → lv_has ls nL (lv x) → W p l e R s m args below meth c H locs cells slots Q (F0 m pc ls (st x)) := by
    intro d
    induction d with
    | zero => intro x _ hd; exact absurd hd (Nat.not_lt_zero _)
    | succ d ih => intro x hi hd; exact body x hi (fun x' hi' hm => ih x' hi' (by omega))
  exact key (μ x0 + 1) x0 h0 (by omega) H locs ls hP hD hS hl
end LOOPS
section COPY
variable {p : Program} {l : Launch} {e : Env} {R : Room} {s : State} {m : MethodId} {args : Array Value} {below : List Frame} {meth : Method} {c : Code} {H : Heap} {locs : List Loc} {cells slots : Nat} {Q : State → Prop} {pc : Nat} {ls : Array Slot} {rest : List Value} {D : va_G} {tys : List (ClassId × FieldType)} {ws : va_W} {A : Nat → Prop} {H0 : Heap} {a : Nat}
theorem x_cpy {cc : ByteArray} (hexec : p.tables.exec = Jvm.exec) (hb : c.code = cc) (hml : c.maxLocals = ls.size) {own : String} {index : Nat} (hown : s.vm.findClass own = some m.cls) (hlink : (Cond.methodLink own index arraycopyName).before args s = true) (hnat : (Cond.native arraycopyName).before args s = true) (hstat : (Cond.static arraycopyName).before args s = true) (hini : (Cond.initialized "java/lang/System").before args s = true)
    (hK : va_K D vwCl tys s) (hP : va_P D vwCl ws H) (hD : va_D A ws) (hS : va_S A H0 H locs) (q0 q1 t0 t1 : Nat) {a0 : Nat} {c0 c1 : ClassId} {n0 n1 : Nat} {f g0 g : Nat → Int32} {ws' : va_W} (ha0 : ws[q0]? = some (a0, .inl (c0, n0, .inl f))) (ha1 : ws[q1]? = some (a, .inl (c1, n1, .inl g0))) (ht0 : tys[t0]? = some (c0, .int)) (ht1 : tys[t1]? = some (c1, .int))
    {sp dp n : Nat} (h1 : sp < 2 ^ 31) (h2 : dp < 2 ^ 31) (h3 : n < 2 ^ 31) (h4 : sp + n ≤ n0) (h5 : dp + n ≤ n1) (hg : va_cpy f g0 sp dp n = g) (hw : ws.set q1 (a, .inl (c1, n1, .inl g)) = ws')
    (hframes : 1 ≤ R.frames) (hlocals : (rest.map fun v => v.category).sum + (nativeFrameWords "java/lang/System" "arraycopy" 5 + 11) ≤ R.locals) (hdg : decode cc pc = .ok (.invokestatic index, 3))
    (kk : ∀ (H1 : Heap) (locs1 : List Loc), va_P D vwCl ws' H1 → va_D A ws' → va_S A H0 H1 locs1 → W p l e R s m args below meth c H1 locs1 cells slots Q (F0 m (pc + 3) ls rest)) : W p l e R s m args below meth c H locs cells slots Q (F0 m pc ls (.int (nI n) :: .int (nI dp) :: .ref a :: .int (nI sp) :: .ref a0 :: rest)) :=
  va_copyi hexec hb hml hown hlink hnat hstat hini hK hP hD hS q0 q1 t0 t1 ha0 ha1 ht0 ht1 rfl (nI_pos h1) (nI_pos h2) (nI_pos h3) (by rw [nI_clamp h1, nI_clamp h3]; exact h4) (by rw [nI_clamp h2, nI_clamp h3]; exact h5) (fun i _ => rfl) hframes hlocals hdg (by rw [nI_clamp h1, nI_clamp h2, nI_clamp h3, hg, hw]; exact kk)
end COPY
set_option maxRecDepth 20000 in
theorem xg_203_nIO_n : ∀ w ∈ (vx_atS RX4 203 nIO ["java/lang/RuntimeException", "java/lang/Exception"]).filter (fun w => !goodWord w), w ∈ Cond.castable nIO nIO :: xDs.map (fun q => Cond.declares (Bundle.initS q)) := by decide +kernel
set_option maxRecDepth 20000 in
theorem xg_106_nIA_n : ∀ w ∈ (vx_atS RX4 106 nIA ["java/lang/RuntimeException", "java/lang/Exception"]).filter (fun w => !goodWord w), w ∈ Cond.castable nIA nIA :: xDs.map (fun q => Cond.declares (Bundle.initS q)) := by decide +kernel
set_option maxRecDepth 20000 in
theorem xg_72_nIS_n : ∀ w ∈ (vx_atS RX4 72 nIS ["java/lang/RuntimeException", "java/lang/Exception"]).filter (fun w => !goodWord w), w ∈ Cond.castable nIS nIS :: xDs.map (fun q => Cond.declares (Bundle.initS q)) := by decide +kernel
set_option maxRecDepth 20000 in
theorem xg_203_nIO_g : ∀ w ∈ Cond.classLink RX4 199 nIO :: Cond.initialized nIO :: vx_atS RX4 203 nIO ["java/lang/RuntimeException", "java/lang/Exception"], vx_ot w = true := by decide +kernel
set_option maxRecDepth 20000 in
theorem xg_106_nIA_g : ∀ w ∈ Cond.classLink RX4 102 nIA :: Cond.initialized nIA :: vx_atS RX4 106 nIA ["java/lang/RuntimeException", "java/lang/Exception"], vx_ot w = true := by decide +kernel
set_option maxRecDepth 20000 in
theorem xg_72_nIS_g : ∀ w ∈ Cond.classLink RX4 68 nIS :: Cond.initialized nIS :: vx_atS RX4 72 nIS ["java/lang/RuntimeException", "java/lang/Exception"], vx_ot w = true := by decide +kernel
end
section
/-! what the leaves answer, in plain words over Int32 -/
def qNum (row col : Int32) : Int32 := if row = -1 then -1 else (row >>> ((col * nI 7) &&& 31)) &&& nI 127
def qRow (x y z : Int32) : Int32 := (x ||| (y <<< (nI 7 &&& 31))) ||| (z <<< (nI 14 &&& 31))
def qMaskN (cs : Int32) : Nat → Int32
  | 0 => nI 0
  | k + 1 => if (cs >>> (nI k &&& 31)) &&& nI 1 = nI 1 then qMaskN cs k ||| (nI 127 <<< (nI (k * 7) &&& 31)) else qMaskN cs k
def qLets (re nu v : Int32) : Prop := if re = nI 1 then v < nu else if re = nI 2 then nu ≤ v else True
noncomputable def qLetB (re nu v : Int32) : Bool := @decide (qLets re nu v) (Classical.propDecidable _)
theorem qLetB_t {re nu v : Int32} (h : qLets re nu v) : qLetB re nu v = true := by unfold qLetB; exact @decide_eq_true _ (Classical.propDecidable _) h
theorem qLetB_f {re nu v : Int32} (h : ¬ qLets re nu v) : qLetB re nu v = false := by unfold qLetB; exact @decide_eq_false _ (Classical.propDecidable _) h
noncomputable def qCho (co re nu ma row : Int32) : Int32 := if row = -1 then -1 else if qLetB re nu (qNum row co) = true then row &&& ma else -1
theorem look_1 {x : Int32} {d o1 o2 : Int} (h : x = nI 1) : Op.lookupswitch.offset [(1, o1), (2, o2)] d x.toInt = o1 := by subst h; rfl
theorem look_2 {x : Int32} {d o1 o2 : Int} (h : x = nI 2) : Op.lookupswitch.offset [(1, o1), (2, o2)] d x.toInt = o2 := by subst h; rfl
theorem look_0 {x : Int32} {d o1 o2 : Int} (h1 : ¬ x = nI 1) (h2 : ¬ x = nI 2) : Op.lookupswitch.offset [(1, o1), (2, o2)] d x.toInt = d := by
  have e1 : ¬ x.toInt = 1 := fun q => h1 (by rw [← Int32.toInt_inj, q]; decide)
  have e2 : ¬ x.toInt = 2 := fun q => h2 (by rw [← Int32.toInt_inj, q]; decide)
  simp [Op.lookupswitch.offset, List.find?, Ne.symm e1, Ne.symm e2, e1, e2]
theorem nI_m1 {k : Nat} (h : k < 2 ^ 31) : nI k = -1 ↔ False := ⟨fun q => by
  have h1 := congrArg Int32.toInt q
  rw [nI_toInt h] at h1
  have : (-1 : Int32).toInt = -1 := by decide
  omega, fun q => q.elim⟩
def qFill (f : Nat → Int32) (a j : Nat) (v : Int32) : Nat → Int32 := fun i => if a ≤ i ∧ i < a + j then v else f i
theorem qFill_0 (f : Nat → Int32) (a : Nat) (v : Int32) : qFill f a 0 v = f := by
  funext i; unfold qFill; rw [if_neg (by omega)]
theorem qFill_s (f : Nat → Int32) (a j : Nat) (v : Int32) : upd (qFill f a j v) (a + j) v = qFill f a (j + 1) v := by
  funext i; unfold qFill upd
  by_cases h : i = a + j
  · rw [if_pos h, if_pos (by omega)]
  · rw [if_neg h]; dsimp only
    by_cases h2 : a ≤ i ∧ i < a + j
    · rw [if_pos h2, if_pos (by omega)]
    · rw [if_neg h2, if_neg (by omega)]
def qTk (x y : Int32) : Bool := decide (¬ x = -1 ∧ x < y)
noncomputable def qTaR (f g : Nat → Int32) (co re nu ma : Int32) (a j : Nat) : Nat → Int32 := fun i => if a ≤ i ∧ i < a + j ∧ ¬ qCho co re nu ma (f i) = -1 then -1 else g i
theorem qTaR_0 (f g : Nat → Int32) (co re nu ma : Int32) (a : Nat) : qTaR f g co re nu ma a 0 = g := by
  funext i; unfold qTaR; rw [if_neg (by omega)]
theorem qTaR_y (f g : Nat → Int32) (co re nu ma : Int32) (a j : Nat) (h : ¬ qCho co re nu ma (f (a + j)) = -1) : upd (qTaR f g co re nu ma a j) (a + j) (-1) = qTaR f g co re nu ma a (j + 1) := by
  funext i; unfold qTaR upd
  by_cases e : i = a + j
  · subst e; rw [if_pos rfl, if_pos ⟨by omega, by omega, h⟩]
  · rw [if_neg e]; dsimp only
    by_cases h2 : a ≤ i ∧ i < a + j ∧ ¬ qCho co re nu ma (f i) = -1
    · rw [if_pos h2, if_pos ⟨h2.1, by omega, h2.2.2⟩]
    · rw [if_neg h2, if_neg (fun q => h2 ⟨q.1, by omega, q.2.2⟩)]
theorem qTaR_n (f g : Nat → Int32) (co re nu ma : Int32) (a j : Nat) (h : qCho co re nu ma (f (a + j)) = -1) : qTaR f g co re nu ma a j = qTaR f g co re nu ma a (j + 1) := by
  funext i; unfold qTaR
  by_cases e : i = a + j
  · subst e; rw [if_neg (by omega), if_neg (fun q => q.2.2 h)]
  · by_cases h2 : a ≤ i ∧ i < a + j ∧ ¬ qCho co re nu ma (f i) = -1
    · rw [if_pos h2, if_pos ⟨h2.1, by omega, h2.2.2⟩]
    · rw [if_neg h2, if_neg (fun q => h2 ⟨q.1, by omega, q.2.2⟩)]
theorem qFill_in {f : Nat → Int32} {a j i : Nat} {v : Int32} (h : ¬ (a ≤ i ∧ i < a + j)) : qFill f a j v i = f i := by unfold qFill; rw [if_neg h]
theorem qCho_m1 (co re nu ma : Int32) : qCho co re nu ma (-1) = -1 := by unfold qCho; rw [if_pos rfl]
/-- one change tried: the row chosen of the old one and of the new one, what stands at the subscriber -/
abbrev qCf (co cn rw : Int32) : Prop := co = -1 ∧ ¬ cn = -1 ∧ ¬ rw = -1
abbrev qF : Type := Nat → Int32
theorem qTa_step {old rw o w o1 w1 : qF} {co re nu ma : Int32} {a j : Nat} (ho : o = qFill old a j (-1)) (hw : w = qTaR old rw co re nu ma a j) (ho1 : o1 = upd o (a + j) (-1))
    (hw1 : w1 = if qCho co re nu ma (o (a + j)) = -1 ∧ qCho co re nu ma (-1) = -1 then w else upd w (a + j) (qCho co re nu ma (-1))) : o1 = qFill old a (j + 1) (-1) ∧ w1 = qTaR old rw co re nu ma a (j + 1) := by
  subst ho; subst hw
  rw [qFill_in (by omega), qCho_m1] at hw1
  refine ⟨by rw [ho1]; exact qFill_s _ _ _ _, ?_⟩
  by_cases h : qCho co re nu ma (old (a + j)) = -1
  · rw [hw1, if_pos ⟨h, rfl⟩]; exact qTaR_n _ _ _ _ _ _ _ _ h
  · rw [hw1, if_neg (fun q => h q.1)]; exact qTaR_y _ _ _ _ _ _ _ _ h
/-- one change tried on a subscriber's rows -/
noncomputable def qAp1 (co re nu ma : qF) (tk : Bool) (t : Nat) (K v : Int32) (o w : qF) : Option (qF × qF) :=
  if tk = false then some (o, w) else if K = -1 then some (qFill o (t * 12) 12 (-1), qTaR o w (co t) (re t) (nu t) (ma t) (t * 12) 12)
  else if qCf (qCho (co t) (re t) (nu t) (ma t) (o (t * 12 + K.toNatClampNeg))) (qCho (co t) (re t) (nu t) (ma t) v) (w (t * 12 + K.toNatClampNeg)) then none
  else some (upd o (t * 12 + K.toNatClampNeg) v, if qCho (co t) (re t) (nu t) (ma t) (o (t * 12 + K.toNatClampNeg)) = -1 ∧ qCho (co t) (re t) (nu t) (ma t) v = -1 then w else upd w (t * 12 + K.toNatClampNeg) (qCho (co t) (re t) (nu t) (ma t) v))
/-- a commit's changes, the first i of them -/
noncomputable def qAp (co re nu ma cp : qF) (y : Int32) (ct ck nr : qF) (b : Nat) (o w : qF) : Nat → Option (qF × qF)
  | 0 => some (o, w)
  | i + 1 => (qAp co re nu ma cp y ct ck nr b o w i).bind (fun q => qAp1 co re nu ma (qTk (cp (ct (b + i)).toNatClampNeg) y) (ct (b + i)).toNatClampNeg (ck (b + i)) (nr (b + i)) q.1 q.2)
theorem qAp_s {co re nu ma cp : qF} {y : Int32} {ct ck nr : qF} {b : Nat} {o w o1 w1 : qF} {i t : Nat} (h : qAp co re nu ma cp y ct ck nr b o w i = some (o1, w1)) (ht : t < 2) (et : ct (b + i) = nI t) : qAp co re nu ma cp y ct ck nr b o w (i + 1) = qAp1 co re nu ma (qTk (cp t) y) t (ck (b + i)) (nr (b + i)) o1 w1 := by
  show (qAp co re nu ma cp y ct ck nr b o w i).bind _ = _
  rw [h, et, nI_clamp (by omega)]; rfl
theorem qAp_none {co re nu ma cp : qF} {y : Int32} {ct ck nr : qF} {b : Nat} {o w : qF} {i : Nat} (h : qAp co re nu ma cp y ct ck nr b o w i = none) : ∀ j, qAp co re nu ma cp y ct ck nr b o w (i + j) = none
  | 0 => h
  | j + 1 => by
    show (qAp co re nu ma cp y ct ck nr b o w (i + j)).bind _ = _
    rw [qAp_none h j]; rfl
theorem qAp1_n {co re nu ma : qF} {tk : Bool} {t : Nat} {K v : Int32} {o w : qF} (h : tk = false) : qAp1 co re nu ma tk t K v o w = some (o, w) := by unfold qAp1; rw [if_pos h]
theorem qAp1_a {co re nu ma : qF} {tk : Bool} {t : Nat} {K v : Int32} {o w : qF} (h : ¬ tk = false) (hK : K = -1) : qAp1 co re nu ma tk t K v o w = some (qFill o (t * 12) 12 (-1), qTaR o w (co t) (re t) (nu t) (ma t) (t * 12) 12) := by unfold qAp1; rw [if_neg h, if_pos hK]
theorem qAp1_k {co re nu ma : qF} {tk : Bool} {t k : Nat} {K v : Int32} {o w : qF} (h : ¬ tk = false) (hk : k < 12) (hK : K = nI k) : qAp1 co re nu ma tk t K v o w = if qCf (qCho (co t) (re t) (nu t) (ma t) (o (t * 12 + k))) (qCho (co t) (re t) (nu t) (ma t) v) (w (t * 12 + k)) then none else some (upd o (t * 12 + k) v, if qCho (co t) (re t) (nu t) (ma t) (o (t * 12 + k)) = -1 ∧ qCho (co t) (re t) (nu t) (ma t) v = -1 then w else upd w (t * 12 + k) (qCho (co t) (re t) (nu t) (ma t) v)) := by
  unfold qAp1
  rw [if_neg h, hK, if_neg (fun q => (nI_m1 (by omega)).mp q), nI_clamp (by omega)]
theorem ite_y {α : Type} {q : Prop} [Decidable q] {a b : α} (h : q) : a = if q then a else b := (if_pos h).symm
theorem ite_n {α : Type} {q : Prop} [Decidable q] {a b : α} (h : ¬ q) : b = if q then a else b := (if_neg h).symm
end
section
set_option maxHeartbeats 4000000 in
set_option maxRecDepth 100000 in
theorem zX4_placeOf (l : Launch) (D : va_G) (cI cP cS cL : ClassId) (t k : Nat)  : xMi l yX4_placeOf wsX4_placeOf (rmD 0 0 0) D [(cI, .int), (cP, .object RX0), (cS, .object RX2), (cL, .long)] [.int (nI t), .int (nI k)] [] (fun (r : Int32) (u : Unit) => r = nI (t * 12 + k)) (fun (u : Unit) => []) 0 0 := by
  refine xe_i (cc := cX4_placeOf) (maxL := 2) (ret := (some .int)) (by decide) rfl (Nat.le_of_ble_eq_true rfl) ?_
  intro zp ze s zm below meth zc A ls B
  obtain ⟨hx, hb, hml, hrt, hts, hown, hnm, hlk, hK, hP, hD, hA, hS, hN, hl⟩ := B
  have hown : s.vm.findClass RX4 = some zm.cls := hown
  have hl : lv_has ls 2 [(0, .int (nI t)), (1, .int (nI k))] := hl
  have hA : ∀ q, s.heap.size ≤ q → A q := hA
  refine lv_iload_n hx hb dX4_placeOf_0 rfl (lv_at hl 0 rfl) ?_
  refine lv_bipush (v := nI 12) hx hb dX4_placeOf_1 (by decide) ?_
  refine x_mul (k := t * 12) hx hb dX4_placeOf_3 rfl ?_
  refine lv_iload_n hx hb dX4_placeOf_4 rfl (lv_at hl 1 rfl) ?_
  refine x_add (k := (t * 12) + k) hx hb dX4_placeOf_5 rfl ?_
  exact x_ret_i hx hb hrt hlk hP hD hS dX4_placeOf_6 ⟨by decide, by decide⟩ () rfl rfl

set_option maxHeartbeats 4000000 in
set_option maxRecDepth 100000 in
theorem zX4_rowOf (l : Launch) (D : va_G) (cI cP cS cL : ClassId) (x y z : Int32)  : xMi l yX4_rowOf wsX4_rowOf (rmD 0 0 0) D [(cI, .int), (cP, .object RX0), (cS, .object RX2), (cL, .long)] [.int x, .int y, .int z] [] (fun (r : Int32) (u : Unit) => r = qRow x y z) (fun (u : Unit) => []) 0 0 := by
  refine xe_i (cc := cX4_rowOf) (maxL := 3) (ret := (some .int)) (by decide) rfl (Nat.le_of_ble_eq_true rfl) ?_
  intro zp ze s zm below meth zc A ls B
  obtain ⟨hx, hb, hml, hrt, hts, hown, hnm, hlk, hK, hP, hD, hA, hS, hN, hl⟩ := B
  have hown : s.vm.findClass RX4 = some zm.cls := hown
  have hl : lv_has ls 3 [(0, .int x), (1, .int y), (2, .int z)] := hl
  have hA : ∀ q, s.heap.size ≤ q → A q := hA
  refine lv_iload_n hx hb dX4_rowOf_0 rfl (lv_at hl 0 rfl) ?_
  refine lv_iload_n hx hb dX4_rowOf_1 rfl (lv_at hl 1 rfl) ?_
  refine lv_bipush (v := nI 7) hx hb dX4_rowOf_2 (by decide) ?_
  refine lv_ishl hx hb dX4_rowOf_4 ?_
  refine lv_ior hx hb dX4_rowOf_5 ?_
  refine lv_iload_n hx hb dX4_rowOf_6 rfl (lv_at hl 2 rfl) ?_
  refine lv_bipush (v := nI 14) hx hb dX4_rowOf_7 (by decide) ?_
  refine lv_ishl hx hb dX4_rowOf_9 ?_
  refine lv_ior hx hb dX4_rowOf_10 ?_
  exact x_ret_i hx hb hrt hlk hP hD hS dX4_rowOf_11 ⟨by decide, by decide⟩ () rfl rfl

set_option maxHeartbeats 4000000 in
set_option maxRecDepth 100000 in
theorem zX4_numberIn (l : Launch) (D : va_G) (cI cP cS cL : ClassId) (x y : Int32)  : xMi l yX4_numberIn wsX4_numberIn (rmD 0 0 0) D [(cI, .int), (cP, .object RX0), (cS, .object RX2), (cL, .long)] [.int x, .int y] [] (fun (r : Int32) (u : Unit) => r = qNum x y) (fun (u : Unit) => []) 0 0 := by
  refine xe_i (cc := cX4_numberIn) (maxL := 2) (ret := (some .int)) (by decide) rfl (Nat.le_of_ble_eq_true rfl) ?_
  intro zp ze s zm below meth zc A ls B
  obtain ⟨hx, hb, hml, hrt, hts, hown, hnm, hlk, hK, hP, hD, hA, hS, hN, hl⟩ := B
  have hown : s.vm.findClass RX4 = some zm.cls := hown
  have hl : lv_has ls 2 [(0, .int x), (1, .int y)] := hl
  have hA : ∀ q, s.heap.size ≤ q → A q := hA
  refine lv_iload_n hx hb dX4_numberIn_0 rfl (lv_at hl 0 rfl) ?_
  refine lv_iconst (v := -1) hx hb dX4_numberIn_1 (by decide) ?_
  refine x_cmp_ne (tgt := 9) hx hb (Iff.rfl) dX4_numberIn_2 (by decide) (fun c2 => ?_) (fun c2 => ?_)
  · refine lv_iload_n hx hb dX4_numberIn_9 rfl (lv_at hl 0 rfl) ?_
    refine lv_iload_n hx hb dX4_numberIn_10 rfl (lv_at hl 1 rfl) ?_
    refine lv_bipush (v := nI 7) hx hb dX4_numberIn_11 (by decide) ?_
    refine lv_imul hx hb dX4_numberIn_13 ?_
    refine lv_ishr hx hb dX4_numberIn_14 ?_
    refine lv_bipush (v := nI 127) hx hb dX4_numberIn_15 (by decide) ?_
    refine lv_iand hx hb dX4_numberIn_17 ?_
    exact x_ret_i hx hb hrt hlk hP hD hS dX4_numberIn_18 ⟨by decide, by decide⟩ () (by unfold qNum; first | rw [if_pos (by assumption)] | rw [if_neg (by assumption)]) rfl
  · refine lv_iconst (v := -1) hx hb dX4_numberIn_5 (by decide) ?_
    refine lv_goto (tgt := 18) hx hb dX4_numberIn_6 (by decide) ?_
    exact x_ret_i hx hb hrt hlk hP hD hS dX4_numberIn_18 ⟨by decide, by decide⟩ () (by unfold qNum; first | rw [if_pos (by assumption)] | rw [if_neg (by assumption)]) rfl

set_option maxHeartbeats 4000000 in
set_option maxRecDepth 100000 in
theorem zX4_maskOf (l : Launch) (D : va_G) (cI cP cS cL : ClassId) (cs : Int32)  : xMi l yX4_maskOf wsX4_maskOf (rmD 0 0 0) D [(cI, .int), (cP, .object RX0), (cS, .object RX2), (cL, .long)] [.int cs] [] (fun (r : Int32) (u : Unit) => r = qMaskN cs 3) (fun (u : Unit) => []) 0 0 := by
  refine xe_i (cc := cX4_maskOf) (maxL := 3) (ret := (some .int)) (by decide) rfl (Nat.le_of_ble_eq_true rfl) ?_
  intro zp ze s zm below meth zc A ls B
  obtain ⟨hx, hb, hml, hrt, hts, hown, hnm, hlk, hK, hP, hD, hA, hS, hN, hl⟩ := B
  have hown : s.vm.findClass RX4 = some zm.cls := hown
  have hl : lv_has ls 3 [(0, .int cs)] := hl
  have hA : ∀ q, s.heap.size ≤ q → A q := hA
  refine lv_iconst (v := nI 0) hx hb dX4_maskOf_0 (by decide) ?_
  refine lv_istore_n (lv' := [(1, .int (nI 0)), (0, .int cs)]) hx hb dX4_maskOf_1 rfl hl (by decide) rfl (fun ls hl => ?_)
  refine lv_iconst (v := nI 0) hx hb dX4_maskOf_2 (by decide) ?_
  refine lv_istore_n (lv' := [(2, .int (nI 0)), (1, .int (nI 0)), (0, .int cs)]) hx hb dX4_maskOf_3 rfl hl (by decide) rfl (fun ls hl => ?_)
  refine x_loop (nL := 3) (fun (x : Nat × Int32) => match x with | (k, mm) => k ≤ 3 ∧ mm = qMaskN cs k) (fun (x : Nat × Int32) => match x with | (k, mm) => 3 - k) (fun (x : Nat × Int32) => match x with | (k, mm) => []) (fun (x : Nat × Int32) => match x with | (k, mm) => [(0, .int cs), (1, .int mm), (2, .int (nI k))]) (fun (x : Nat × Int32) => match x with | (k, mm) => []) ?_ (0, nI 0) ⟨by omega, rfl⟩ hP hD hS (lv_sub hl [2, 1, 0] rfl)
  intro x9 hI4 ih4 H locs ls hP hD hS hl
  obtain ⟨k, mm⟩ := x9
  have hP : va_P D vwCl [] H := hP
  have hD : va_D A [] := hD
  have hl : lv_has ls 3 [(0, .int cs), (1, .int mm), (2, .int (nI k))] := hl
  obtain ⟨hk, hm⟩ := hI4
  refine lv_iload_n hx hb dX4_maskOf_4 rfl (lv_at hl 2 rfl) ?_
  refine lv_iconst (v := nI 3) hx hb dX4_maskOf_5 (by decide) ?_
  refine x_cmp_ge (tgt := 34) hx hb (nI_leI (a := 3) (b := k) (by omega) (by omega)) dX4_maskOf_6 (by decide) (fun c6 => ?_) (fun c6 => ?_)
  · refine lv_iload_n hx hb dX4_maskOf_34 rfl (lv_at hl 1 rfl) ?_
    exact x_ret_i hx hb hrt hlk hP hD hS dX4_maskOf_35 ⟨by decide, by decide⟩ () (by rw [hm]; congr 1; omega) rfl
  · refine lv_iload_n hx hb dX4_maskOf_9 rfl (lv_at hl 0 rfl) ?_
    refine lv_iload_n hx hb dX4_maskOf_10 rfl (lv_at hl 2 rfl) ?_
    refine lv_ishr hx hb dX4_maskOf_11 ?_
    refine lv_iconst (v := nI 1) hx hb dX4_maskOf_12 (by decide) ?_
    refine lv_iand hx hb dX4_maskOf_13 ?_
    refine lv_iconst (v := nI 1) hx hb dX4_maskOf_14 (by decide) ?_
    refine x_cmp_ne (tgt := 28) hx hb (Iff.rfl) dX4_maskOf_15 (by decide) (fun c15 => ?_) (fun c15 => ?_)
    · refine x_iinc (k := 2) (o := 1) (v := k + 1) (lv' := [(2, .int (nI (k + 1))), (0, .int cs), (1, .int mm)]) hx hb dX4_maskOf_28 hl rfl rfl rfl (by decide) rfl (fun ls hl => ?_)
      refine lv_goto (tgt := 4) hx hb dX4_maskOf_31 (by decide) ?_
      exact ih4 (k + 1, mm) ⟨by omega, (by rw [hm]; show _ = ite _ _ _; first | rw [if_pos (by assumption)] | rw [if_neg (by assumption)])⟩ (by show 3 - (k + 1) < 3 - k; omega) _ _ _ hP hD hS (lv_sub hl [1, 2, 0] rfl)
    · refine lv_iload_n hx hb dX4_maskOf_18 rfl (lv_at hl 1 rfl) ?_
      refine lv_bipush (v := nI 127) hx hb dX4_maskOf_19 (by decide) ?_
      refine lv_iload_n hx hb dX4_maskOf_21 rfl (lv_at hl 2 rfl) ?_
      refine lv_bipush (v := nI 7) hx hb dX4_maskOf_22 (by decide) ?_
      refine x_mul (k := k * 7) hx hb dX4_maskOf_24 rfl ?_
      refine lv_ishl hx hb dX4_maskOf_25 ?_
      refine lv_ior hx hb dX4_maskOf_26 ?_
      refine lv_istore_n (lv' := [(1, .int (mm ||| ((nI 127) <<< ((nI (k * 7)) &&& 31)))), (0, .int cs), (2, .int (nI k))]) hx hb dX4_maskOf_27 rfl hl (by decide) rfl (fun ls hl => ?_)
      refine x_iinc (k := 2) (o := 1) (v := k + 1) (lv' := [(2, .int (nI (k + 1))), (1, .int (mm ||| ((nI 127) <<< ((nI (k * 7)) &&& 31)))), (0, .int cs)]) hx hb dX4_maskOf_28 hl rfl rfl rfl (by decide) rfl (fun ls hl => ?_)
      refine lv_goto (tgt := 4) hx hb dX4_maskOf_31 (by decide) ?_
      exact ih4 (k + 1, mm ||| ((nI 127) <<< ((nI (k * 7)) &&& 31))) ⟨by omega, (by rw [hm]; show _ = ite _ _ _; first | rw [if_pos (by assumption)] | rw [if_neg (by assumption)])⟩ (by show 3 - (k + 1) < 3 - k; omega) _ _ _ hP hD hS (lv_sub hl [2, 1, 0] rfl)

set_option maxRecDepth 20000 in
theorem kX0_lets_f15 : Cond.fieldLink RX0 15 "RowReplicator$Publication" "relations" "[I" ∈ wsX0_lets := by decide +kernel
set_option maxRecDepth 20000 in
theorem kX0_lets_X0 : ∀ w ∈ wsX00, w ∈ wsX0_lets := by decide +kernel
set_option maxRecDepth 20000 in
theorem kX0_lets_f18 : Cond.fieldLink RX0 18 "RowReplicator$Publication" "numbers" "[I" ∈ wsX0_lets := by decide +kernel
set_option maxHeartbeats 4000000 in
set_option maxRecDepth 100000 in
theorem zX0_lets (l : Launch) (D : va_G) (cI cP cS cL : ClassId) (h0 h1 h2 h3 h4 : Nat) (co re nu ma : Nat → Int32) (t : Nat) (v : Int32) (ht : t < 2) : xMi l yX0_lets wsX0_lets (rmD 0 0 0) D [(cI, .int), (cP, .object RX0), (cS, .object RX2), (cL, .long)] [.ref h0, .int (nI t), .int v] [(h0, .inr (0, [.ref h1, .ref h2, .ref h3, .ref h4])), (h1, .inl (cI, 2, .inl co)), (h2, .inl (cI, 2, .inl re)), (h3, .inl (cI, 2, .inl nu)), (h4, .inl (cI, 2, .inl ma))] (fun (r : Int32) (u : Unit) => r = bI (qLetB (re t) (nu t) v)) (fun (u : Unit) => [(h0, .inr (0, [.ref h1, .ref h2, .ref h3, .ref h4])), (h1, .inl (cI, 2, .inl co)), (h2, .inl (cI, 2, .inl re)), (h3, .inl (cI, 2, .inl nu)), (h4, .inl (cI, 2, .inl ma))]) 0 0 := by
  refine xe_i (cc := cX0_lets) (maxL := 3) (ret := (some .boolean)) (by decide) rfl (Nat.le_of_ble_eq_true rfl) ?_
  intro zp ze s zm below meth zc A ls B
  obtain ⟨hx, hb, hml, hrt, hts, hown, hnm, hlk, hK, hP, hD, hA, hS, hN, hl⟩ := B
  have hown : s.vm.findClass RX0 = some zm.cls := hown
  have hl : lv_has ls 3 [(0, .ref h0), (1, .int (nI t)), (2, .int v)] := hl
  have hA : ∀ q, s.heap.size ≤ q → A q := hA
  refine lv_aload_n hx hb dX0_lets_0 rfl (lv_at hl 0 rfl) ?_
  refine va_get (D := D) (ci := 0) (v := .ref h2) (C := RX0) (T := TX0) (N := 4) hx hb hts kX0_lets_X0 hown hK hP 0 rfl rfl 1 (by decide) (hts _ kX0_lets_f15) (fun _ h9 => h9) rfl dX0_lets_1 ?_
  refine lv_iload_n hx hb dX0_lets_4 rfl (lv_at hl 1 rfl) ?_
  refine x_ald (v := re t) hx hb hK hP 2 0 rfl rfl (by omega) (by omega) rfl dX0_lets_5 ?_
  rcases Classical.em (re t = nI 1) with c6 | c6
  · refine lv_lookup (tgt := 32) hx hb dX0_lets_6 (by decide) (look_1 c6) (by decide) ?_
    refine lv_iload_n hx hb dX0_lets_32 rfl (lv_at hl 2 rfl) ?_
    refine lv_aload_n hx hb dX0_lets_33 rfl (lv_at hl 0 rfl) ?_
    refine va_get (D := D) (ci := 0) (v := .ref h3) (C := RX0) (T := TX0) (N := 4) hx hb hts kX0_lets_X0 hown hK hP 0 rfl rfl 2 (by decide) (hts _ kX0_lets_f18) (fun _ h9 => h9) rfl dX0_lets_34 ?_
    refine lv_iload_n hx hb dX0_lets_37 rfl (lv_at hl 1 rfl) ?_
    refine x_ald (v := nu t) hx hb hK hP 3 0 rfl rfl (by omega) (by omega) rfl dX0_lets_38 ?_
    refine x_cmp_ge (tgt := 46) hx hb (Iff.rfl) dX0_lets_39 (by decide) (fun c39 => ?_) (fun c39 => ?_)
    · refine lv_iconst (v := nI 0) hx hb dX0_lets_46 (by decide) ?_
      exact x_ret_z hx hb hrt (by first | exact Or.inl rfl | exact Or.inr rfl) hlk hP hD hS dX0_lets_47 ⟨by decide, by decide⟩ () (by rw [qLetB_f (by unfold qLets; first | (rw [if_pos c6]; first | assumption | exact Int32.not_lt.mpr c39) | (rw [if_neg c6, if_pos c7]; first | assumption | exact Int32.not_le.mpr c55))]; rfl) rfl
    · refine lv_iconst (v := nI 1) hx hb dX0_lets_42 (by decide) ?_
      refine lv_goto (tgt := 47) hx hb dX0_lets_43 (by decide) ?_
      exact x_ret_z hx hb hrt (by first | exact Or.inl rfl | exact Or.inr rfl) hlk hP hD hS dX0_lets_47 ⟨by decide, by decide⟩ () (by rw [qLetB_t (by unfold qLets; first | (rw [if_pos c6]; first | assumption | exact Int32.not_le.mp c39) | (rw [if_neg c6, if_pos c7]; first | assumption | exact Int32.not_lt.mp c55) | (rw [if_neg c6, if_neg c7]; trivial))]; rfl) rfl
  rcases Classical.em (re t = nI 2) with c7 | c7
  · refine lv_lookup (tgt := 48) hx hb dX0_lets_6 (by decide) (look_2 c7) (by decide) ?_
    refine lv_iload_n hx hb dX0_lets_48 rfl (lv_at hl 2 rfl) ?_
    refine lv_aload_n hx hb dX0_lets_49 rfl (lv_at hl 0 rfl) ?_
    refine va_get (D := D) (ci := 0) (v := .ref h3) (C := RX0) (T := TX0) (N := 4) hx hb hts kX0_lets_X0 hown hK hP 0 rfl rfl 2 (by decide) (hts _ kX0_lets_f18) (fun _ h9 => h9) rfl dX0_lets_50 ?_
    refine lv_iload_n hx hb dX0_lets_53 rfl (lv_at hl 1 rfl) ?_
    refine x_ald (v := nu t) hx hb hK hP 3 0 rfl rfl (by omega) (by omega) rfl dX0_lets_54 ?_
    refine x_cmp_lt (tgt := 62) hx hb (Iff.rfl) dX0_lets_55 (by decide) (fun c55 => ?_) (fun c55 => ?_)
    · refine lv_iconst (v := nI 0) hx hb dX0_lets_62 (by decide) ?_
      exact x_ret_z hx hb hrt (by first | exact Or.inl rfl | exact Or.inr rfl) hlk hP hD hS dX0_lets_63 ⟨by decide, by decide⟩ () (by rw [qLetB_f (by unfold qLets; first | (rw [if_pos c6]; first | assumption | exact Int32.not_lt.mpr c39) | (rw [if_neg c6, if_pos c7]; first | assumption | exact Int32.not_le.mpr c55))]; rfl) rfl
    · refine lv_iconst (v := nI 1) hx hb dX0_lets_58 (by decide) ?_
      refine lv_goto (tgt := 63) hx hb dX0_lets_59 (by decide) ?_
      exact x_ret_z hx hb hrt (by first | exact Or.inl rfl | exact Or.inr rfl) hlk hP hD hS dX0_lets_63 ⟨by decide, by decide⟩ () (by rw [qLetB_t (by unfold qLets; first | (rw [if_pos c6]; first | assumption | exact Int32.not_le.mp c39) | (rw [if_neg c6, if_pos c7]; first | assumption | exact Int32.not_lt.mp c55) | (rw [if_neg c6, if_neg c7]; trivial))]; rfl) rfl
  refine lv_lookup (tgt := 64) hx hb dX0_lets_6 (by decide) (look_0 c6 c7) (by decide) ?_
  refine lv_iconst (v := nI 1) hx hb dX0_lets_64 (by decide) ?_
  exact x_ret_z hx hb hrt (by first | exact Or.inl rfl | exact Or.inr rfl) hlk hP hD hS dX0_lets_65 ⟨by decide, by decide⟩ () (by rw [qLetB_t (by unfold qLets; first | (rw [if_pos c6]; first | assumption | exact Int32.not_le.mp c39) | (rw [if_neg c6, if_pos c7]; first | assumption | exact Int32.not_lt.mp c55) | (rw [if_neg c6, if_neg c7]; trivial))]; rfl) rfl

set_option maxRecDepth 20000 in
theorem kX0_choose_f9 : Cond.fieldLink RX0 9 "RowReplicator$Publication" "columns" "[I" ∈ wsX0_choose := by decide +kernel
set_option maxRecDepth 20000 in
theorem kX0_choose_X0 : ∀ w ∈ wsX00, w ∈ wsX0_choose := by decide +kernel
set_option maxRecDepth 20000 in
theorem kX0_choose_s_X4_numberIn : Cond.static yX4_numberIn ∈ wsX0_choose := by decide +kernel
set_option maxRecDepth 20000 in
theorem kX0_choose_i_X4 : Cond.initialized RX4 ∈ wsX0_choose := by decide +kernel
set_option maxRecDepth 20000 in
theorem kX0_choose_f21 : Cond.fieldLink RX0 21 "RowReplicator$Publication" "masks" "[I" ∈ wsX0_choose := by decide +kernel
set_option maxHeartbeats 4000000 in
set_option maxRecDepth 100000 in
theorem zX0_choose (l : Launch) (D : va_G) (cI cP cS cL : ClassId) (h0 h1 h2 h3 h4 : Nat) (co re nu ma : Nat → Int32) (t : Nat) (row : Int32) (ht : t < 2) : xMi l yX0_choose wsX0_choose (rmD 1 0 0) D [(cI, .int), (cP, .object RX0), (cS, .object RX2), (cL, .long)] [.ref h0, .int (nI t), .int row] [(h0, .inr (0, [.ref h1, .ref h2, .ref h3, .ref h4])), (h1, .inl (cI, 2, .inl co)), (h2, .inl (cI, 2, .inl re)), (h3, .inl (cI, 2, .inl nu)), (h4, .inl (cI, 2, .inl ma))] (fun (r : Int32) (u : Unit) => r = qCho (co t) (re t) (nu t) (ma t) row) (fun (u : Unit) => [(h0, .inr (0, [.ref h1, .ref h2, .ref h3, .ref h4])), (h1, .inl (cI, 2, .inl co)), (h2, .inl (cI, 2, .inl re)), (h3, .inl (cI, 2, .inl nu)), (h4, .inl (cI, 2, .inl ma))]) 0 0 := by
  refine xe_i (cc := cX0_choose) (maxL := 3) (ret := (some .int)) (by decide) rfl (Nat.le_of_ble_eq_true rfl) ?_
  intro zp ze s zm below meth zc A ls B
  obtain ⟨hx, hb, hml, hrt, hts, hown, hnm, hlk, hK, hP, hD, hA, hS, hN, hl⟩ := B
  have hown : s.vm.findClass RX0 = some zm.cls := hown
  have hl : lv_has ls 3 [(0, .ref h0), (1, .int (nI t)), (2, .int row)] := hl
  have hA : ∀ q, s.heap.size ≤ q → A q := hA
  refine lv_iload_n hx hb dX0_choose_0 rfl (lv_at hl 2 rfl) ?_
  refine lv_iconst (v := -1) hx hb dX0_choose_1 (by decide) ?_
  refine x_cmp_eq (tgt := 34) hx hb (Iff.rfl) dX0_choose_2 (by decide) (fun c2 => ?_) (fun c2 => ?_)
  · refine lv_iconst (v := -1) hx hb dX0_choose_34 (by decide) ?_
    exact x_ret_i hx hb hrt hlk hP hD hS dX0_choose_35 ⟨by decide, by decide⟩ () (by unfold qCho; first | rw [if_pos (by assumption)] | (rw [if_neg c2]; first | rw [if_neg (by rw [c20]; decide)] | rw [if_pos (by cases h : qLetB (re t) (nu t) (qNum row (co t)) with | true => rfl | false => exact absurd h c20)])) rfl
  · refine lv_aload_n hx hb dX0_choose_5 rfl (lv_at hl 0 rfl) ?_
    refine lv_iload_n hx hb dX0_choose_6 rfl (lv_at hl 1 rfl) ?_
    refine lv_iload_n hx hb dX0_choose_7 rfl (lv_at hl 2 rfl) ?_
    refine lv_aload_n hx hb dX0_choose_8 rfl (lv_at hl 0 rfl) ?_
    refine va_get (D := D) (ci := 0) (v := .ref h1) (C := RX0) (T := TX0) (N := 4) hx hb hts kX0_choose_X0 hown hK hP 0 rfl rfl 0 (by decide) (hts _ kX0_choose_f9) (fun _ h9 => h9) rfl dX0_choose_9 ?_
    refine lv_iload_n hx hb dX0_choose_12 rfl (lv_at hl 1 rfl) ?_
    refine x_ald (v := co t) hx hb hK hP 1 0 rfl rfl (by omega) (by omega) rfl dX0_choose_13 ?_
    refine x_calli (w2 := fun (u : Unit) => [(h0, .inr (0, [.ref h1, .ref h2, .ref h3, .ref h4])), (h1, .inl (cI, 2, .inl co)), (h2, .inl (cI, 2, .inl re)), (h3, .inl (cI, 2, .inl nu)), (h4, .inl (cI, 2, .inl ma))]) (wr := [(h0, .inr (0, [.ref h1, .ref h2, .ref h3, .ref h4])), (h1, .inl (cI, 2, .inl co)), (h2, .inl (cI, 2, .inl re)), (h3, .inl (cI, 2, .inl nu)), (h4, .inl (cI, 2, .inl ma))]) (x_runSN (n := 2) ⟨hx, hb, hml, hown, hts⟩ (zX4_numberIn l D cI cP cS cL row (co t)) gX0_choose_X4_numberIn_n25 rfl rfl rfl (by decide +kernel) kX0_choose_s_X4_numberIn kX0_choose_i_X4 (by decide +kernel) ⟨by decide, by decide⟩ hN hK hP hD [] rfl rfl rfl hl.1 (rest := [.int (nI t), .ref h0]) (As := [.int row, .int (co t)]) rfl (Nat.le_of_ble_eq_true rfl) dX0_choose_14 ⟨by decide, by decide⟩) hP hD hS hA [] [0, 1, 2, 3, 4] [0, 1, 2, 3, 4] rfl rfl rfl (by decide) rfl (fun _ => rfl) (fun r14 u H locs hw hP hD hS => ?_)
    subst hw
    refine x_calli (w2 := fun (u : Unit) => [(h0, .inr (0, [.ref h1, .ref h2, .ref h3, .ref h4])), (h1, .inl (cI, 2, .inl co)), (h2, .inl (cI, 2, .inl re)), (h3, .inl (cI, 2, .inl nu)), (h4, .inl (cI, 2, .inl ma))]) (wr := []) (x_runV (n := 2) ⟨hx, hb, hml, hown, hts⟩ (zX0_lets l D cI cP cS cL h0 h1 h2 h3 h4 co re nu ma t (qNum row (co t)) ht) gX0_choose_X0_lets rfl rfl rfl (by decide +kernel) ⟨by decide, by decide⟩ hN hK hP hD [0, 1, 2, 3, 4] rfl rfl (ci := 0) (q0 := 0) rfl rfl rfl rfl hl.1 (rest := []) (As := [.int (nI t), .int (qNum row (co t))]) rfl (Nat.le_of_ble_eq_true rfl) dX0_choose_17 ⟨by decide, by decide⟩) hP hD hS hA [0, 1, 2, 3, 4] [] [0, 1, 2, 3, 4] rfl rfl rfl (by decide) rfl (fun _ => rfl) (fun r17 u H locs hw hP hD hS => ?_)
    subst hw
    refine x_if_eq (tgt := 34) hx hb (bI_0 _) dX0_choose_20 (by decide) (fun c20 => ?_) (fun c20 => ?_)
    · refine lv_iconst (v := -1) hx hb dX0_choose_34 (by decide) ?_
      exact x_ret_i hx hb hrt hlk hP hD hS dX0_choose_35 ⟨by decide, by decide⟩ () (by unfold qCho; first | rw [if_pos (by assumption)] | (rw [if_neg c2]; first | rw [if_neg (by rw [c20]; decide)] | rw [if_pos (by cases h : qLetB (re t) (nu t) (qNum row (co t)) with | true => rfl | false => exact absurd h c20)])) rfl
    · refine lv_iload_n hx hb dX0_choose_23 rfl (lv_at hl 2 rfl) ?_
      refine lv_aload_n hx hb dX0_choose_24 rfl (lv_at hl 0 rfl) ?_
      refine va_get (D := D) (ci := 0) (v := .ref h4) (C := RX0) (T := TX0) (N := 4) hx hb hts kX0_choose_X0 hown hK hP 0 rfl rfl 3 (by decide) (hts _ kX0_choose_f21) (fun _ h9 => h9) rfl dX0_choose_25 ?_
      refine lv_iload_n hx hb dX0_choose_28 rfl (lv_at hl 1 rfl) ?_
      refine x_ald (v := ma t) hx hb hK hP 4 0 rfl rfl (by omega) (by omega) rfl dX0_choose_29 ?_
      refine lv_iand hx hb dX0_choose_30 ?_
      refine lv_goto (tgt := 35) hx hb dX0_choose_31 (by decide) ?_
      exact x_ret_i hx hb hrt hlk hP hD hS dX0_choose_35 ⟨by decide, by decide⟩ () (by unfold qCho; first | rw [if_pos (by assumption)] | (rw [if_neg c2]; first | rw [if_neg (by rw [c20]; decide)] | rw [if_pos (by cases h : qLetB (re t) (nu t) (qNum row (co t)) with | true => rfl | false => exact absurd h c20)])) rfl
end
section
set_option maxRecDepth 20000 in
theorem kX4_checkTable_c199 : Cond.classLink RX4 199 "java/lang/IndexOutOfBoundsException" ∈ wsX4_checkTable := by decide +kernel
set_option maxRecDepth 20000 in
theorem kX4_checkTable_inIO : Cond.initialized "java/lang/IndexOutOfBoundsException" ∈ wsX4_checkTable := by decide +kernel
set_option maxRecDepth 20000 in
theorem kX4_checkTable_t203 : ∀ w ∈ (vx_atS RX4 203 "java/lang/IndexOutOfBoundsException" ["java/lang/RuntimeException", "java/lang/Exception"]).filter goodWord, w ∈ wsX4_checkTable := fun _ h => List.mem_cons_of_mem _ (List.mem_append_right _ h)
set_option maxHeartbeats 4000000 in
set_option maxRecDepth 100000 in
theorem zX4_checkTable (l : Launch) (D : va_G) (cI cP cS cL : ClassId) (hfl : l.stackTraces = false) (x : Int32)  : xXv l yX4_checkTable wsX4_checkTable (rmD 6 1 6) D [(cI, .int), (cP, .object RX0), (cS, .object RX2), (cL, .long)] [.int x] [] (fun (u : Nat) => match u with | xn => (x = nI xn ∧ xn < 2)) (fun (u : Nat) => match u with | xn => []) (fun E => E = nIO ∧ ¬ vp_in x 2) 1 6 := by
  refine xe_Xv (cc := cX4_checkTable) (maxL := 1) (ret := none) (by decide) rfl (Nat.le_of_ble_eq_true rfl) ?_
  intro zp ze s zm below meth zc A ls B htab hE
  obtain ⟨hx, hb, hml, hrt, hts, hown, hnm, hlk, hK, hP, hD, hA, hS, hN, hl⟩ := B
  have hown : s.vm.findClass RX4 = some zm.cls := hown
  have hl : lv_has ls 1 [(0, .int x)] := hl
  have hA : ∀ q, s.heap.size ≤ q → A q := hA
  refine lv_iload_n hx hb dX4_checkTable_0 rfl (lv_at hl 0 rfl) ?_
  refine x_if_lt (tgt := 9) hx hb (Iff.rfl) dX4_checkTable_1 (by decide) (fun c1 => ?_) (fun c1 => ?_)
  · exact x_throw (text := "a table is 0 or 1") hx hb hml hfl htab hlk hown hts (by decide) kX4_checkTable_c199 kX4_checkTable_inIO kX4_checkTable_t203 xg_203_nIO_n xg_203_nIO_g (by decide) hE hP hD hS hl.1 dX4_checkTable_9 dX4_checkTable_12 dX4_checkTable_13 dX4_checkTable_15 dX4_checkTable_18 ⟨by decide, by decide, by decide, by decide⟩ ⟨by decide, by decide⟩ ⟨rfl, in_neg c1⟩
  · refine lv_iload_n hx hb dX4_checkTable_4 rfl (lv_at hl 0 rfl) ?_
    refine lv_iconst (v := nI 2) hx hb dX4_checkTable_5 (by decide) ?_
    refine x_cmp_lt (tgt := 19) hx hb (Iff.rfl) dX4_checkTable_6 (by decide) (fun c6 => ?_) (fun c6 => ?_)
    · obtain ⟨j9, hj9, ej9⟩ := vp_in_of (in_lt (by decide) c1 (Int32.not_le.mpr c6)) (by decide)
      exact vx_ret (x_ret_v hx hb hrt hlk hP hD hS dX4_checkTable_19 ⟨by decide, by decide⟩ j9 ⟨ej9, hj9⟩ rfl)
    · exact x_throw (text := "a table is 0 or 1") hx hb hml hfl htab hlk hown hts (by decide) kX4_checkTable_c199 kX4_checkTable_inIO kX4_checkTable_t203 xg_203_nIO_n xg_203_nIO_g (by decide) hE hP hD hS hl.1 dX4_checkTable_9 dX4_checkTable_12 dX4_checkTable_13 dX4_checkTable_15 dX4_checkTable_18 ⟨by decide, by decide, by decide, by decide⟩ ⟨by decide, by decide⟩ ⟨rfl, in_big (by decide) (Int32.not_lt.mp c6)⟩

set_option maxRecDepth 20000 in
theorem kX4_checkColumn_c199 : Cond.classLink RX4 199 "java/lang/IndexOutOfBoundsException" ∈ wsX4_checkColumn := by decide +kernel
set_option maxRecDepth 20000 in
theorem kX4_checkColumn_inIO : Cond.initialized "java/lang/IndexOutOfBoundsException" ∈ wsX4_checkColumn := by decide +kernel
set_option maxRecDepth 20000 in
theorem kX4_checkColumn_t203 : ∀ w ∈ (vx_atS RX4 203 "java/lang/IndexOutOfBoundsException" ["java/lang/RuntimeException", "java/lang/Exception"]).filter goodWord, w ∈ wsX4_checkColumn := fun _ h => List.mem_cons_of_mem _ (List.mem_append_right _ h)
set_option maxHeartbeats 4000000 in
set_option maxRecDepth 100000 in
theorem zX4_checkColumn (l : Launch) (D : va_G) (cI cP cS cL : ClassId) (hfl : l.stackTraces = false) (x : Int32)  : xXv l yX4_checkColumn wsX4_checkColumn (rmD 6 1 6) D [(cI, .int), (cP, .object RX0), (cS, .object RX2), (cL, .long)] [.int x] [] (fun (u : Nat) => match u with | xn => (x = nI xn ∧ xn < 3)) (fun (u : Nat) => match u with | xn => []) (fun E => E = nIO ∧ ¬ vp_in x 3) 1 6 := by
  refine xe_Xv (cc := cX4_checkColumn) (maxL := 1) (ret := none) (by decide) rfl (Nat.le_of_ble_eq_true rfl) ?_
  intro zp ze s zm below meth zc A ls B htab hE
  obtain ⟨hx, hb, hml, hrt, hts, hown, hnm, hlk, hK, hP, hD, hA, hS, hN, hl⟩ := B
  have hown : s.vm.findClass RX4 = some zm.cls := hown
  have hl : lv_has ls 1 [(0, .int x)] := hl
  have hA : ∀ q, s.heap.size ≤ q → A q := hA
  refine lv_iload_n hx hb dX4_checkColumn_0 rfl (lv_at hl 0 rfl) ?_
  refine x_if_lt (tgt := 9) hx hb (Iff.rfl) dX4_checkColumn_1 (by decide) (fun c1 => ?_) (fun c1 => ?_)
  · exact x_throw (text := "a column is 0 to 2") hx hb hml hfl htab hlk hown hts (by decide) kX4_checkColumn_c199 kX4_checkColumn_inIO kX4_checkColumn_t203 xg_203_nIO_n xg_203_nIO_g (by decide) hE hP hD hS hl.1 dX4_checkColumn_9 dX4_checkColumn_12 dX4_checkColumn_13 dX4_checkColumn_15 dX4_checkColumn_18 ⟨by decide, by decide, by decide, by decide⟩ ⟨by decide, by decide⟩ ⟨rfl, in_neg c1⟩
  · refine lv_iload_n hx hb dX4_checkColumn_4 rfl (lv_at hl 0 rfl) ?_
    refine lv_iconst (v := nI 3) hx hb dX4_checkColumn_5 (by decide) ?_
    refine x_cmp_lt (tgt := 19) hx hb (Iff.rfl) dX4_checkColumn_6 (by decide) (fun c6 => ?_) (fun c6 => ?_)
    · obtain ⟨j9, hj9, ej9⟩ := vp_in_of (in_lt (by decide) c1 (Int32.not_le.mpr c6)) (by decide)
      exact vx_ret (x_ret_v hx hb hrt hlk hP hD hS dX4_checkColumn_19 ⟨by decide, by decide⟩ j9 ⟨ej9, hj9⟩ rfl)
    · exact x_throw (text := "a column is 0 to 2") hx hb hml hfl htab hlk hown hts (by decide) kX4_checkColumn_c199 kX4_checkColumn_inIO kX4_checkColumn_t203 xg_203_nIO_n xg_203_nIO_g (by decide) hE hP hD hS hl.1 dX4_checkColumn_9 dX4_checkColumn_12 dX4_checkColumn_13 dX4_checkColumn_15 dX4_checkColumn_18 ⟨by decide, by decide, by decide, by decide⟩ ⟨by decide, by decide⟩ ⟨rfl, in_big (by decide) (Int32.not_lt.mp c6)⟩

set_option maxRecDepth 20000 in
theorem kX4_checkPublication_c199 : Cond.classLink RX4 199 "java/lang/IndexOutOfBoundsException" ∈ wsX4_checkPublication := by decide +kernel
set_option maxRecDepth 20000 in
theorem kX4_checkPublication_inIO : Cond.initialized "java/lang/IndexOutOfBoundsException" ∈ wsX4_checkPublication := by decide +kernel
set_option maxRecDepth 20000 in
theorem kX4_checkPublication_t203 : ∀ w ∈ (vx_atS RX4 203 "java/lang/IndexOutOfBoundsException" ["java/lang/RuntimeException", "java/lang/Exception"]).filter goodWord, w ∈ wsX4_checkPublication := fun _ h => List.mem_cons_of_mem _ (List.mem_append_right _ h)
set_option maxHeartbeats 4000000 in
set_option maxRecDepth 100000 in
theorem zX4_checkPublication (l : Launch) (D : va_G) (cI cP cS cL : ClassId) (hfl : l.stackTraces = false) (x : Int32)  : xXv l yX4_checkPublication wsX4_checkPublication (rmD 6 1 6) D [(cI, .int), (cP, .object RX0), (cS, .object RX2), (cL, .long)] [.int x] [] (fun (u : Nat) => match u with | xn => (x = nI xn ∧ xn < 3)) (fun (u : Nat) => match u with | xn => []) (fun E => E = nIO ∧ ¬ vp_in x 3) 1 6 := by
  refine xe_Xv (cc := cX4_checkPublication) (maxL := 1) (ret := none) (by decide) rfl (Nat.le_of_ble_eq_true rfl) ?_
  intro zp ze s zm below meth zc A ls B htab hE
  obtain ⟨hx, hb, hml, hrt, hts, hown, hnm, hlk, hK, hP, hD, hA, hS, hN, hl⟩ := B
  have hown : s.vm.findClass RX4 = some zm.cls := hown
  have hl : lv_has ls 1 [(0, .int x)] := hl
  have hA : ∀ q, s.heap.size ≤ q → A q := hA
  refine lv_iload_n hx hb dX4_checkPublication_0 rfl (lv_at hl 0 rfl) ?_
  refine x_if_lt (tgt := 9) hx hb (Iff.rfl) dX4_checkPublication_1 (by decide) (fun c1 => ?_) (fun c1 => ?_)
  · exact x_throw (text := "a publication is 0 to 2") hx hb hml hfl htab hlk hown hts (by decide) kX4_checkPublication_c199 kX4_checkPublication_inIO kX4_checkPublication_t203 xg_203_nIO_n xg_203_nIO_g (by decide) hE hP hD hS hl.1 dX4_checkPublication_9 dX4_checkPublication_12 dX4_checkPublication_13 dX4_checkPublication_15 dX4_checkPublication_18 ⟨by decide, by decide, by decide, by decide⟩ ⟨by decide, by decide⟩ ⟨rfl, in_neg c1⟩
  · refine lv_iload_n hx hb dX4_checkPublication_4 rfl (lv_at hl 0 rfl) ?_
    refine lv_iconst (v := nI 3) hx hb dX4_checkPublication_5 (by decide) ?_
    refine x_cmp_lt (tgt := 19) hx hb (Iff.rfl) dX4_checkPublication_6 (by decide) (fun c6 => ?_) (fun c6 => ?_)
    · obtain ⟨j9, hj9, ej9⟩ := vp_in_of (in_lt (by decide) c1 (Int32.not_le.mpr c6)) (by decide)
      exact vx_ret (x_ret_v hx hb hrt hlk hP hD hS dX4_checkPublication_19 ⟨by decide, by decide⟩ j9 ⟨ej9, hj9⟩ rfl)
    · exact x_throw (text := "a publication is 0 to 2") hx hb hml hfl htab hlk hown hts (by decide) kX4_checkPublication_c199 kX4_checkPublication_inIO kX4_checkPublication_t203 xg_203_nIO_n xg_203_nIO_g (by decide) hE hP hD hS hl.1 dX4_checkPublication_9 dX4_checkPublication_12 dX4_checkPublication_13 dX4_checkPublication_15 dX4_checkPublication_18 ⟨by decide, by decide, by decide, by decide⟩ ⟨by decide, by decide⟩ ⟨rfl, in_big (by decide) (Int32.not_lt.mp c6)⟩

set_option maxRecDepth 20000 in
theorem kX4_checkSubscriber_c199 : Cond.classLink RX4 199 "java/lang/IndexOutOfBoundsException" ∈ wsX4_checkSubscriber := by decide +kernel
set_option maxRecDepth 20000 in
theorem kX4_checkSubscriber_inIO : Cond.initialized "java/lang/IndexOutOfBoundsException" ∈ wsX4_checkSubscriber := by decide +kernel
set_option maxRecDepth 20000 in
theorem kX4_checkSubscriber_t203 : ∀ w ∈ (vx_atS RX4 203 "java/lang/IndexOutOfBoundsException" ["java/lang/RuntimeException", "java/lang/Exception"]).filter goodWord, w ∈ wsX4_checkSubscriber := fun _ h => List.mem_cons_of_mem _ (List.mem_append_right _ h)
set_option maxHeartbeats 4000000 in
set_option maxRecDepth 100000 in
theorem zX4_checkSubscriber (l : Launch) (D : va_G) (cI cP cS cL : ClassId) (hfl : l.stackTraces = false) (x : Int32)  : xXv l yX4_checkSubscriber wsX4_checkSubscriber (rmD 6 1 6) D [(cI, .int), (cP, .object RX0), (cS, .object RX2), (cL, .long)] [.int x] [] (fun (u : Nat) => match u with | xn => (x = nI xn ∧ xn < 3)) (fun (u : Nat) => match u with | xn => []) (fun E => E = nIO ∧ ¬ vp_in x 3) 1 6 := by
  refine xe_Xv (cc := cX4_checkSubscriber) (maxL := 1) (ret := none) (by decide) rfl (Nat.le_of_ble_eq_true rfl) ?_
  intro zp ze s zm below meth zc A ls B htab hE
  obtain ⟨hx, hb, hml, hrt, hts, hown, hnm, hlk, hK, hP, hD, hA, hS, hN, hl⟩ := B
  have hown : s.vm.findClass RX4 = some zm.cls := hown
  have hl : lv_has ls 1 [(0, .int x)] := hl
  have hA : ∀ q, s.heap.size ≤ q → A q := hA
  refine lv_iload_n hx hb dX4_checkSubscriber_0 rfl (lv_at hl 0 rfl) ?_
  refine x_if_lt (tgt := 9) hx hb (Iff.rfl) dX4_checkSubscriber_1 (by decide) (fun c1 => ?_) (fun c1 => ?_)
  · exact x_throw (text := "a subscriber is 0 to 2") hx hb hml hfl htab hlk hown hts (by decide) kX4_checkSubscriber_c199 kX4_checkSubscriber_inIO kX4_checkSubscriber_t203 xg_203_nIO_n xg_203_nIO_g (by decide) hE hP hD hS hl.1 dX4_checkSubscriber_9 dX4_checkSubscriber_12 dX4_checkSubscriber_13 dX4_checkSubscriber_15 dX4_checkSubscriber_18 ⟨by decide, by decide, by decide, by decide⟩ ⟨by decide, by decide⟩ ⟨rfl, in_neg c1⟩
  · refine lv_iload_n hx hb dX4_checkSubscriber_4 rfl (lv_at hl 0 rfl) ?_
    refine lv_iconst (v := nI 3) hx hb dX4_checkSubscriber_5 (by decide) ?_
    refine x_cmp_lt (tgt := 19) hx hb (Iff.rfl) dX4_checkSubscriber_6 (by decide) (fun c6 => ?_) (fun c6 => ?_)
    · obtain ⟨j9, hj9, ej9⟩ := vp_in_of (in_lt (by decide) c1 (Int32.not_le.mpr c6)) (by decide)
      exact vx_ret (x_ret_v hx hb hrt hlk hP hD hS dX4_checkSubscriber_19 ⟨by decide, by decide⟩ j9 ⟨ej9, hj9⟩ rfl)
    · exact x_throw (text := "a subscriber is 0 to 2") hx hb hml hfl htab hlk hown hts (by decide) kX4_checkSubscriber_c199 kX4_checkSubscriber_inIO kX4_checkSubscriber_t203 xg_203_nIO_n xg_203_nIO_g (by decide) hE hP hD hS hl.1 dX4_checkSubscriber_9 dX4_checkSubscriber_12 dX4_checkSubscriber_13 dX4_checkSubscriber_15 dX4_checkSubscriber_18 ⟨by decide, by decide, by decide, by decide⟩ ⟨by decide, by decide⟩ ⟨rfl, in_big (by decide) (Int32.not_lt.mp c6)⟩

set_option maxRecDepth 20000 in
theorem kX4_checkNumber_c102 : Cond.classLink RX4 102 "java/lang/IllegalArgumentException" ∈ wsX4_checkNumber := by decide +kernel
set_option maxRecDepth 20000 in
theorem kX4_checkNumber_inIA : Cond.initialized "java/lang/IllegalArgumentException" ∈ wsX4_checkNumber := by decide +kernel
set_option maxRecDepth 20000 in
theorem kX4_checkNumber_t106 : ∀ w ∈ (vx_atS RX4 106 "java/lang/IllegalArgumentException" ["java/lang/RuntimeException", "java/lang/Exception"]).filter goodWord, w ∈ wsX4_checkNumber := fun _ h => List.mem_cons_of_mem _ (List.mem_append_right _ h)
set_option maxHeartbeats 4000000 in
set_option maxRecDepth 100000 in
theorem zX4_checkNumber (l : Launch) (D : va_G) (cI cP cS cL : ClassId) (hfl : l.stackTraces = false) (x : Int32)  : xXv l yX4_checkNumber wsX4_checkNumber (rmD 6 1 6) D [(cI, .int), (cP, .object RX0), (cS, .object RX2), (cL, .long)] [.int x] [] (fun (u : Nat) => match u with | xn => (x = nI xn ∧ xn < 100)) (fun (u : Nat) => match u with | xn => []) (fun E => E = nIA ∧ ¬ vp_in x 100) 1 6 := by
  refine xe_Xv (cc := cX4_checkNumber) (maxL := 1) (ret := none) (by decide) rfl (Nat.le_of_ble_eq_true rfl) ?_
  intro zp ze s zm below meth zc A ls B htab hE
  obtain ⟨hx, hb, hml, hrt, hts, hown, hnm, hlk, hK, hP, hD, hA, hS, hN, hl⟩ := B
  have hown : s.vm.findClass RX4 = some zm.cls := hown
  have hl : lv_has ls 1 [(0, .int x)] := hl
  have hA : ∀ q, s.heap.size ≤ q → A q := hA
  refine lv_iload_n hx hb dX4_checkNumber_0 rfl (lv_at hl 0 rfl) ?_
  refine x_if_lt (tgt := 10) hx hb (Iff.rfl) dX4_checkNumber_1 (by decide) (fun c1 => ?_) (fun c1 => ?_)
  · exact x_throw (text := "a number is 0 to 99") hx hb hml hfl htab hlk hown hts (by decide) kX4_checkNumber_c102 kX4_checkNumber_inIA kX4_checkNumber_t106 xg_106_nIA_n xg_106_nIA_g (by decide) hE hP hD hS hl.1 dX4_checkNumber_10 dX4_checkNumber_13 dX4_checkNumber_14 dX4_checkNumber_16 dX4_checkNumber_19 ⟨by decide, by decide, by decide, by decide⟩ ⟨by decide, by decide⟩ ⟨rfl, in_neg c1⟩
  · refine lv_iload_n hx hb dX4_checkNumber_4 rfl (lv_at hl 0 rfl) ?_
    refine lv_bipush (v := nI 100) hx hb dX4_checkNumber_5 (by decide) ?_
    refine x_cmp_lt (tgt := 20) hx hb (Iff.rfl) dX4_checkNumber_7 (by decide) (fun c7 => ?_) (fun c7 => ?_)
    · obtain ⟨j9, hj9, ej9⟩ := vp_in_of (in_lt (by decide) c1 (Int32.not_le.mpr c7)) (by decide)
      exact vx_ret (x_ret_v hx hb hrt hlk hP hD hS dX4_checkNumber_20 ⟨by decide, by decide⟩ j9 ⟨ej9, hj9⟩ rfl)
    · exact x_throw (text := "a number is 0 to 99") hx hb hml hfl htab hlk hown hts (by decide) kX4_checkNumber_c102 kX4_checkNumber_inIA kX4_checkNumber_t106 xg_106_nIA_n xg_106_nIA_g (by decide) hE hP hD hS hl.1 dX4_checkNumber_10 dX4_checkNumber_13 dX4_checkNumber_14 dX4_checkNumber_16 dX4_checkNumber_19 ⟨by decide, by decide, by decide, by decide⟩ ⟨by decide, by decide⟩ ⟨rfl, in_big (by decide) (Int32.not_lt.mp c7)⟩

set_option maxRecDepth 20000 in
theorem kX4_checkKey_c199 : Cond.classLink RX4 199 "java/lang/IndexOutOfBoundsException" ∈ wsX4_checkKey := by decide +kernel
set_option maxRecDepth 20000 in
theorem kX4_checkKey_inIO : Cond.initialized "java/lang/IndexOutOfBoundsException" ∈ wsX4_checkKey := by decide +kernel
set_option maxRecDepth 20000 in
theorem kX4_checkKey_t203 : ∀ w ∈ (vx_atS RX4 203 "java/lang/IndexOutOfBoundsException" ["java/lang/RuntimeException", "java/lang/Exception"]).filter goodWord, w ∈ wsX4_checkKey := fun _ h => List.mem_cons_of_mem _ (List.mem_append_right _ h)
set_option maxHeartbeats 4000000 in
set_option maxRecDepth 100000 in
theorem zX4_checkKey (l : Launch) (D : va_G) (cI cP cS cL : ClassId) (hfl : l.stackTraces = false) (x y : Int32)  : xXv l yX4_checkKey wsX4_checkKey (rmD 7 2 12) D [(cI, .int), (cP, .object RX0), (cS, .object RX2), (cL, .long)] [.int x, .int y] [] (fun (u : Nat × Nat) => match u with | (xn, yn) => (x = nI xn ∧ xn < 2 ∧ y = nI yn ∧ yn < 12)) (fun (u : Nat × Nat) => match u with | (xn, yn) => []) (fun E => E = nIO ∧ ¬ (vp_in x 2 ∧ vp_in y 12)) 2 12 := by
  refine xe_Xv (cc := cX4_checkKey) (maxL := 2) (ret := none) (by decide) rfl (Nat.le_of_ble_eq_true rfl) ?_
  intro zp ze s zm below meth zc A ls B htab hE
  obtain ⟨hx, hb, hml, hrt, hts, hown, hnm, hlk, hK, hP, hD, hA, hS, hN, hl⟩ := B
  have hown : s.vm.findClass RX4 = some zm.cls := hown
  have hl : lv_has ls 2 [(0, .int x), (1, .int y)] := hl
  have hA : ∀ q, s.heap.size ≤ q → A q := hA
  refine lv_iload_n hx hb dX4_checkKey_0 rfl (lv_at hl 0 rfl) ?_
  refine x_callXv (w2 := fun (u : Nat) => match u with | xn => []) (wr := []) (x_runXS (n := 1) ⟨hx, hb, hml, hown, hts⟩ (zX4_checkTable l D cI cP cS cL hfl x) gX4_checkKey_X4_checkTable rfl rfl rfl (by decide +kernel) ⟨by decide, by decide⟩ hN hK hP hD hS hA hE [] rfl rfl rfl hl.1 (rest := []) (As := [.int x]) rfl (Nat.le_of_ble_eq_true rfl) dX4_checkKey_1 ⟨by decide, by decide⟩) htab hlk (fun _ h => ⟨h.1, fun q => h.2 q.1⟩) ⟨by decide, by decide⟩ hP hD hS hA [] [] [] [] rfl rfl rfl (by decide) rfl rfl rfl (fun _ => rfl) (fun u H locs hw hP hD hS => ?_)
  obtain ⟨xn, h9⟩ : ∃ z, z = u := ⟨u, rfl⟩
  subst h9
  have hP : va_P D vwCl [] H := hP
  have hD : va_D A [] := hD
  refine lv_iload_n hx hb dX4_checkKey_4 rfl (lv_at hl 1 rfl) ?_
  refine x_if_lt (tgt := 14) hx hb (Iff.rfl) dX4_checkKey_5 (by decide) (fun c5 => ?_) (fun c5 => ?_)
  · exact x_throw (text := "a key is 0 to 11") hx hb hml hfl htab hlk hown hts (by decide) kX4_checkKey_c199 kX4_checkKey_inIO kX4_checkKey_t203 xg_203_nIO_n xg_203_nIO_g (by decide) hE hP hD hS hl.1 dX4_checkKey_14 dX4_checkKey_17 dX4_checkKey_18 dX4_checkKey_20 dX4_checkKey_23 ⟨by decide, by decide, by decide, by decide⟩ ⟨by decide, by decide⟩ ⟨rfl, fun q => in_neg c5 q.2⟩
  · refine lv_iload_n hx hb dX4_checkKey_8 rfl (lv_at hl 1 rfl) ?_
    refine lv_bipush (v := nI 12) hx hb dX4_checkKey_9 (by decide) ?_
    refine x_cmp_lt (tgt := 24) hx hb (Iff.rfl) dX4_checkKey_11 (by decide) (fun c11 => ?_) (fun c11 => ?_)
    · obtain ⟨j9, hj9, ej9⟩ := vp_in_of (in_lt (by decide) c5 (Int32.not_le.mpr c11)) (by decide)
      exact vx_ret (x_ret_v hx hb hrt hlk hP hD hS dX4_checkKey_24 ⟨by decide, by decide⟩ (xn, j9) ⟨hw.1, hw.2, ej9, hj9⟩ rfl)
    · exact x_throw (text := "a key is 0 to 11") hx hb hml hfl htab hlk hown hts (by decide) kX4_checkKey_c199 kX4_checkKey_inIO kX4_checkKey_t203 xg_203_nIO_n xg_203_nIO_g (by decide) hE hP hD hS hl.1 dX4_checkKey_14 dX4_checkKey_17 dX4_checkKey_18 dX4_checkKey_20 dX4_checkKey_23 ⟨by decide, by decide, by decide, by decide⟩ ⟨by decide, by decide⟩ ⟨rfl, fun q => in_big (by decide) (Int32.not_lt.mp c11) q.2⟩

set_option maxRecDepth 20000 in
theorem kX1_openChanges_f19 : Cond.fieldLink RX1 19 "RowReplicator$Publisher" "changeCounts" "[I" ∈ wsX1_openChanges := by decide +kernel
set_option maxRecDepth 20000 in
theorem kX1_openChanges_X1 : ∀ w ∈ wsX10, w ∈ wsX1_openChanges := by decide +kernel
set_option maxRecDepth 20000 in
theorem kX1_openChanges_f15 : Cond.fieldLink RX1 15 "RowReplicator$Publisher" "commitCount" "I" ∈ wsX1_openChanges := by decide +kernel
set_option maxHeartbeats 4000000 in
set_option maxRecDepth 100000 in
theorem zX1_openChanges (l : Launch) (D : va_G) (cI cP cS cL : ClassId) (h0 hr hc ht hk hn hm : Nat) (n : Nat) (cc : Nat → Int32) (hn9 : n ≤ 50) : xMi l yX1_openChanges wsX1_openChanges (rmD 0 0 0) D [(cI, .int), (cP, .object RX0), (cS, .object RX2), (cL, .long)] [.ref h0] [(h0, .inr (1, [.ref hr, .int (nI n), .ref hc, .ref ht, .ref hk, .ref hn, .ref hm])), (hc, .inl (cI, 51, .inl cc))] (fun (r : Int32) (u : Unit) => r = cc n) (fun (u : Unit) => [(h0, .inr (1, [.ref hr, .int (nI n), .ref hc, .ref ht, .ref hk, .ref hn, .ref hm])), (hc, .inl (cI, 51, .inl cc))]) 0 0 := by
  refine xe_i (cc := cX1_openChanges) (maxL := 1) (ret := (some .int)) (by decide) rfl (Nat.le_of_ble_eq_true rfl) ?_
  intro zp ze s zm below meth zc A ls B
  obtain ⟨hx, hb, hml, hrt, hts, hown, hnm, hlk, hK, hP, hD, hA, hS, hN, hl⟩ := B
  have hown : s.vm.findClass RX1 = some zm.cls := hown
  have hl : lv_has ls 1 [(0, .ref h0)] := hl
  have hA : ∀ q, s.heap.size ≤ q → A q := hA
  refine lv_aload_n hx hb dX1_openChanges_0 rfl (lv_at hl 0 rfl) ?_
  refine va_get (D := D) (ci := 1) (v := .ref hc) (C := RX1) (T := TX1) (N := 7) hx hb hts kX1_openChanges_X1 hown hK hP 0 rfl rfl 2 (by decide) (hts _ kX1_openChanges_f19) (fun _ h9 => h9) rfl dX1_openChanges_1 ?_
  refine lv_aload_n hx hb dX1_openChanges_4 rfl (lv_at hl 0 rfl) ?_
  refine va_get (D := D) (ci := 1) (v := .int (nI n)) (C := RX1) (T := TX1) (N := 7) hx hb hts kX1_openChanges_X1 hown hK hP 0 rfl rfl 1 (by decide) (hts _ kX1_openChanges_f15) (fun _ h9 => h9) rfl dX1_openChanges_5 ?_
  refine x_ald (v := cc n) hx hb hK hP 1 0 rfl rfl (by omega) (by omega) rfl dX1_openChanges_8 ?_
  exact x_ret_i hx hb hrt hlk hP hD hS dX1_openChanges_9 ⟨by decide, by decide⟩ () rfl rfl

set_option maxRecDepth 20000 in
theorem kX1_rowAsOf_f31 : Cond.fieldLink RX1 31 "RowReplicator$Publisher" "committedRows" "[I" ∈ wsX1_rowAsOf := by decide +kernel
set_option maxRecDepth 20000 in
theorem kX1_rowAsOf_X1 : ∀ w ∈ wsX10, w ∈ wsX1_rowAsOf := by decide +kernel
set_option maxHeartbeats 4000000 in
set_option maxRecDepth 100000 in
theorem zX1_rowAsOf (l : Launch) (D : va_G) (cI cP cS cL : ClassId) (h0 hr hc ht hk hn hm : Nat) (n c p : Nat) (cr : Nat → Int32) (hc9 : c ≤ 50) (hp9 : p < 24) : xMi l yX1_rowAsOf wsX1_rowAsOf (rmD 0 0 0) D [(cI, .int), (cP, .object RX0), (cS, .object RX2), (cL, .long)] [.ref h0, .int (nI c), .int (nI p)] [(h0, .inr (1, [.ref hr, .int (nI n), .ref hc, .ref ht, .ref hk, .ref hn, .ref hm])), (hm, .inl (cI, 1224, .inl cr))] (fun (r : Int32) (u : Unit) => r = cr (c * 24 + p)) (fun (u : Unit) => [(h0, .inr (1, [.ref hr, .int (nI n), .ref hc, .ref ht, .ref hk, .ref hn, .ref hm])), (hm, .inl (cI, 1224, .inl cr))]) 0 0 := by
  refine xe_i (cc := cX1_rowAsOf) (maxL := 3) (ret := (some .int)) (by decide) rfl (Nat.le_of_ble_eq_true rfl) ?_
  intro zp ze s zm below meth zc A ls B
  obtain ⟨hx, hb, hml, hrt, hts, hown, hnm, hlk, hK, hP, hD, hA, hS, hN, hl⟩ := B
  have hown : s.vm.findClass RX1 = some zm.cls := hown
  have hl : lv_has ls 3 [(0, .ref h0), (1, .int (nI c)), (2, .int (nI p))] := hl
  have hA : ∀ q, s.heap.size ≤ q → A q := hA
  refine lv_aload_n hx hb dX1_rowAsOf_0 rfl (lv_at hl 0 rfl) ?_
  refine va_get (D := D) (ci := 1) (v := .ref hm) (C := RX1) (T := TX1) (N := 7) hx hb hts kX1_rowAsOf_X1 hown hK hP 0 rfl rfl 6 (by decide) (hts _ kX1_rowAsOf_f31) (fun _ h9 => h9) rfl dX1_rowAsOf_1 ?_
  refine lv_iload_n hx hb dX1_rowAsOf_4 rfl (lv_at hl 1 rfl) ?_
  refine lv_bipush (v := nI 24) hx hb dX1_rowAsOf_5 (by decide) ?_
  refine x_mul (k := c * 24) hx hb dX1_rowAsOf_7 rfl ?_
  refine lv_iload_n hx hb dX1_rowAsOf_8 rfl (lv_at hl 2 rfl) ?_
  refine x_add (k := (c * 24) + p) hx hb dX1_rowAsOf_9 rfl ?_
  refine x_ald (v := cr ((c * 24) + p)) hx hb hK hP 1 0 rfl rfl (by omega) (by omega) rfl dX1_rowAsOf_10 ?_
  exact x_ret_i hx hb hrt hlk hP hD hS dX1_rowAsOf_11 ⟨by decide, by decide⟩ () rfl rfl

set_option maxRecDepth 20000 in
theorem kX1_close_f15 : Cond.fieldLink RX1 15 "RowReplicator$Publisher" "commitCount" "I" ∈ wsX1_close := by decide +kernel
set_option maxRecDepth 20000 in
theorem kX1_close_X1 : ∀ w ∈ wsX10, w ∈ wsX1_close := by decide +kernel
set_option maxRecDepth 20000 in
theorem kX1_close_f9 : Cond.fieldLink RX1 9 "RowReplicator$Publisher" "rows" "[I" ∈ wsX1_close := by decide +kernel
set_option maxRecDepth 20000 in
theorem kX1_close_f31 : Cond.fieldLink RX1 31 "RowReplicator$Publisher" "committedRows" "[I" ∈ wsX1_close := by decide +kernel
set_option maxRecDepth 20000 in
theorem kX1_close_a1 : Cond.methodLink RX1 38 arraycopyName ∈ wsX1_close := by decide +kernel
set_option maxRecDepth 20000 in
theorem kX1_close_a2 : Cond.native arraycopyName ∈ wsX1_close := by decide +kernel
set_option maxRecDepth 20000 in
theorem kX1_close_a3 : Cond.static arraycopyName ∈ wsX1_close := by decide +kernel
set_option maxRecDepth 20000 in
theorem kX1_close_a4 : Cond.initialized "java/lang/System" ∈ wsX1_close := by decide +kernel
set_option maxHeartbeats 4000000 in
set_option maxRecDepth 100000 in
theorem zX1_close (l : Launch) (D : va_G) (cI cP cS cL : ClassId) (h0 hr hc ht hk hn hm : Nat) (n : Nat) (rows cr : Nat → Int32) (hn9 : n < 50) : xMv l yX1_close wsX1_close (rmD 2 0 0) D [(cI, .int), (cP, .object RX0), (cS, .object RX2), (cL, .long)] [.ref h0] [(h0, .inr (1, [.ref hr, .int (nI n), .ref hc, .ref ht, .ref hk, .ref hn, .ref hm])), (hr, .inl (cI, 24, .inl rows)), (hm, .inl (cI, 1224, .inl cr))] (fun (u : Unit) => True) (fun (u : Unit) => [(h0, .inr (1, [.ref hr, .int (nI (n + 1)), .ref hc, .ref ht, .ref hk, .ref hn, .ref hm])), (hr, .inl (cI, 24, .inl rows)), (hm, .inl (cI, 1224, .inl (va_cpy rows cr 0 ((n + 1) * 24) 24)))]) 0 0 := by
  refine xe_v (cc := cX1_close) (maxL := 1) (ret := none) (by decide) rfl (Nat.le_of_ble_eq_true rfl) ?_
  intro zp ze s zm below meth zc A ls B
  obtain ⟨hx, hb, hml, hrt, hts, hown, hnm, hlk, hK, hP, hD, hA, hS, hN, hl⟩ := B
  have hown : s.vm.findClass RX1 = some zm.cls := hown
  have hl : lv_has ls 1 [(0, .ref h0)] := hl
  have hA : ∀ q, s.heap.size ≤ q → A q := hA
  refine lv_aload_n hx hb dX1_close_0 rfl (lv_at hl 0 rfl) ?_
  refine lv_dup hx hb dX1_close_1 rfl ?_
  refine va_get (D := D) (ci := 1) (v := .int (nI n)) (C := RX1) (T := TX1) (N := 7) hx hb hts kX1_close_X1 hown hK hP 0 rfl rfl 1 (by decide) (hts _ kX1_close_f15) (fun _ h9 => h9) rfl dX1_close_2 ?_
  refine lv_iconst (v := nI 1) hx hb dX1_close_5 (by decide) ?_
  refine x_add (k := n + 1) hx hb dX1_close_6 rfl ?_
  refine x_put (fs' := [.ref hr, .int (nI (n + 1)), .ref hc, .ref ht, .ref hk, .ref hn, .ref hm]) (ws' := [(h0, .inr (1, [.ref hr, .int (nI (n + 1)), .ref hc, .ref ht, .ref hk, .ref hn, .ref hm])), (hr, .inl (cI, 24, .inl rows)), (hm, .inl (cI, 1224, .inl cr))]) (v := .int (nI (n + 1))) (ty := .int) (C := RX1) (T := TX1) (N := 7) (ci := 1) hx hb hts kX1_close_X1 tyX1 tyX1_ok nmX1 hown hK hP hD hS 0 rfl rfl 1 (by decide) (hts _ kX1_close_f15) (fun _ h9 => h9) rfl (by decide +kernel) rfl rfl (Nat.le_of_ble_eq_true rfl) rfl rfl dX1_close_7 (fun H locs hP hD hS => ?_)
  refine lv_aload_n hx hb dX1_close_10 rfl (lv_at hl 0 rfl) ?_
  refine va_get (D := D) (ci := 1) (v := .ref hr) (C := RX1) (T := TX1) (N := 7) hx hb hts kX1_close_X1 hown hK hP 0 rfl rfl 0 (by decide) (hts _ kX1_close_f9) (fun _ h9 => h9) rfl dX1_close_11 ?_
  refine lv_iconst (v := nI 0) hx hb dX1_close_14 (by decide) ?_
  refine lv_aload_n hx hb dX1_close_15 rfl (lv_at hl 0 rfl) ?_
  refine va_get (D := D) (ci := 1) (v := .ref hm) (C := RX1) (T := TX1) (N := 7) hx hb hts kX1_close_X1 hown hK hP 0 rfl rfl 6 (by decide) (hts _ kX1_close_f31) (fun _ h9 => h9) rfl dX1_close_16 ?_
  refine lv_aload_n hx hb dX1_close_19 rfl (lv_at hl 0 rfl) ?_
  refine va_get (D := D) (ci := 1) (v := .int (nI (n + 1))) (C := RX1) (T := TX1) (N := 7) hx hb hts kX1_close_X1 hown hK hP 0 rfl rfl 1 (by decide) (hts _ kX1_close_f15) (fun _ h9 => h9) rfl dX1_close_20 ?_
  refine lv_bipush (v := nI 24) hx hb dX1_close_23 (by decide) ?_
  refine x_mul (k := (n + 1) * 24) hx hb dX1_close_25 rfl ?_
  refine lv_bipush (v := nI 24) hx hb dX1_close_26 (by decide) ?_
  refine x_cpy (g := va_cpy rows cr 0 ((n + 1) * 24) 24) (ws' := [(h0, .inr (1, [.ref hr, .int (nI (n + 1)), .ref hc, .ref ht, .ref hk, .ref hn, .ref hm])), (hr, .inl (cI, 24, .inl rows)), (hm, .inl (cI, 1224, .inl (va_cpy rows cr 0 ((n + 1) * 24) 24)))]) hx hb (hml.trans hl.1.symm) hown (hts _ kX1_close_a1) (hts _ kX1_close_a2) (hts _ kX1_close_a3) (hts _ kX1_close_a4) hK hP hD hS 1 2 0 0 rfl rfl rfl rfl (by omega) (by omega) (by omega) (by omega) (by omega) (rfl) rfl (by decide) (by decide) dX1_close_28 (fun H locs hP hD hS => ?_)
  exact x_ret_v hx hb hrt hlk hP hD hS dX1_close_31 ⟨by decide, by decide⟩ () trivial rfl

set_option maxRecDepth 20000 in
theorem kX1_undo_f19 : Cond.fieldLink RX1 19 "RowReplicator$Publisher" "changeCounts" "[I" ∈ wsX1_undo := by decide +kernel
set_option maxRecDepth 20000 in
theorem kX1_undo_X1 : ∀ w ∈ wsX10, w ∈ wsX1_undo := by decide +kernel
set_option maxRecDepth 20000 in
theorem kX1_undo_f15 : Cond.fieldLink RX1 15 "RowReplicator$Publisher" "commitCount" "I" ∈ wsX1_undo := by decide +kernel
set_option maxRecDepth 20000 in
theorem kX1_undo_f31 : Cond.fieldLink RX1 31 "RowReplicator$Publisher" "committedRows" "[I" ∈ wsX1_undo := by decide +kernel
set_option maxRecDepth 20000 in
theorem kX1_undo_f9 : Cond.fieldLink RX1 9 "RowReplicator$Publisher" "rows" "[I" ∈ wsX1_undo := by decide +kernel
set_option maxRecDepth 20000 in
theorem kX1_undo_a1 : Cond.methodLink RX1 38 arraycopyName ∈ wsX1_undo := by decide +kernel
set_option maxRecDepth 20000 in
theorem kX1_undo_a2 : Cond.native arraycopyName ∈ wsX1_undo := by decide +kernel
set_option maxRecDepth 20000 in
theorem kX1_undo_a3 : Cond.static arraycopyName ∈ wsX1_undo := by decide +kernel
set_option maxRecDepth 20000 in
theorem kX1_undo_a4 : Cond.initialized "java/lang/System" ∈ wsX1_undo := by decide +kernel
set_option maxHeartbeats 4000000 in
set_option maxRecDepth 100000 in
theorem zX1_undo (l : Launch) (D : va_G) (cI cP cS cL : ClassId) (h0 hr hc ht hk hn hm : Nat) (n : Nat) (rows cc cr : Nat → Int32) (hn9 : n ≤ 50) : xMv l yX1_undo wsX1_undo (rmD 2 0 0) D [(cI, .int), (cP, .object RX0), (cS, .object RX2), (cL, .long)] [.ref h0] [(h0, .inr (1, [.ref hr, .int (nI n), .ref hc, .ref ht, .ref hk, .ref hn, .ref hm])), (hr, .inl (cI, 24, .inl rows)), (hc, .inl (cI, 51, .inl cc)), (hm, .inl (cI, 1224, .inl cr))] (fun (u : Unit) => True) (fun (u : Unit) => [(h0, .inr (1, [.ref hr, .int (nI n), .ref hc, .ref ht, .ref hk, .ref hn, .ref hm])), (hr, .inl (cI, 24, .inl (va_cpy cr rows (n * 24) 0 24))), (hc, .inl (cI, 51, .inl (upd cc n (nI 0)))), (hm, .inl (cI, 1224, .inl cr))]) 0 0 := by
  refine xe_v (cc := cX1_undo) (maxL := 1) (ret := none) (by decide) rfl (Nat.le_of_ble_eq_true rfl) ?_
  intro zp ze s zm below meth zc A ls B
  obtain ⟨hx, hb, hml, hrt, hts, hown, hnm, hlk, hK, hP, hD, hA, hS, hN, hl⟩ := B
  have hown : s.vm.findClass RX1 = some zm.cls := hown
  have hl : lv_has ls 1 [(0, .ref h0)] := hl
  have hA : ∀ q, s.heap.size ≤ q → A q := hA
  refine lv_aload_n hx hb dX1_undo_0 rfl (lv_at hl 0 rfl) ?_
  refine va_get (D := D) (ci := 1) (v := .ref hc) (C := RX1) (T := TX1) (N := 7) hx hb hts kX1_undo_X1 hown hK hP 0 rfl rfl 2 (by decide) (hts _ kX1_undo_f19) (fun _ h9 => h9) rfl dX1_undo_1 ?_
  refine lv_aload_n hx hb dX1_undo_4 rfl (lv_at hl 0 rfl) ?_
  refine va_get (D := D) (ci := 1) (v := .int (nI n)) (C := RX1) (T := TX1) (N := 7) hx hb hts kX1_undo_X1 hown hK hP 0 rfl rfl 1 (by decide) (hts _ kX1_undo_f15) (fun _ h9 => h9) rfl dX1_undo_5 ?_
  refine lv_iconst (v := nI 0) hx hb dX1_undo_8 (by decide) ?_
  refine x_ast (g := upd cc n (nI 0)) (ws' := [(h0, .inr (1, [.ref hr, .int (nI n), .ref hc, .ref ht, .ref hk, .ref hn, .ref hm])), (hr, .inl (cI, 24, .inl rows)), (hc, .inl (cI, 51, .inl (upd cc n (nI 0)))), (hm, .inl (cI, 1224, .inl cr))]) hx hb hK hP hD hS 2 0 rfl rfl (by omega) (by omega) (rfl) rfl dX1_undo_9 (fun H locs hP hD hS => ?_)
  refine lv_aload_n hx hb dX1_undo_10 rfl (lv_at hl 0 rfl) ?_
  refine va_get (D := D) (ci := 1) (v := .ref hm) (C := RX1) (T := TX1) (N := 7) hx hb hts kX1_undo_X1 hown hK hP 0 rfl rfl 6 (by decide) (hts _ kX1_undo_f31) (fun _ h9 => h9) rfl dX1_undo_11 ?_
  refine lv_aload_n hx hb dX1_undo_14 rfl (lv_at hl 0 rfl) ?_
  refine va_get (D := D) (ci := 1) (v := .int (nI n)) (C := RX1) (T := TX1) (N := 7) hx hb hts kX1_undo_X1 hown hK hP 0 rfl rfl 1 (by decide) (hts _ kX1_undo_f15) (fun _ h9 => h9) rfl dX1_undo_15 ?_
  refine lv_bipush (v := nI 24) hx hb dX1_undo_18 (by decide) ?_
  refine x_mul (k := n * 24) hx hb dX1_undo_20 rfl ?_
  refine lv_aload_n hx hb dX1_undo_21 rfl (lv_at hl 0 rfl) ?_
  refine va_get (D := D) (ci := 1) (v := .ref hr) (C := RX1) (T := TX1) (N := 7) hx hb hts kX1_undo_X1 hown hK hP 0 rfl rfl 0 (by decide) (hts _ kX1_undo_f9) (fun _ h9 => h9) rfl dX1_undo_22 ?_
  refine lv_iconst (v := nI 0) hx hb dX1_undo_25 (by decide) ?_
  refine lv_bipush (v := nI 24) hx hb dX1_undo_26 (by decide) ?_
  refine x_cpy (g := va_cpy cr rows (n * 24) 0 24) (ws' := [(h0, .inr (1, [.ref hr, .int (nI n), .ref hc, .ref ht, .ref hk, .ref hn, .ref hm])), (hr, .inl (cI, 24, .inl (va_cpy cr rows (n * 24) 0 24))), (hc, .inl (cI, 51, .inl (upd cc n (nI 0)))), (hm, .inl (cI, 1224, .inl cr))]) hx hb (hml.trans hl.1.symm) hown (hts _ kX1_undo_a1) (hts _ kX1_undo_a2) (hts _ kX1_undo_a3) (hts _ kX1_undo_a4) hK hP hD hS 3 1 0 0 rfl rfl rfl rfl (by omega) (by omega) (by omega) (by omega) (by omega) (rfl) rfl (by decide) (by decide) dX1_undo_28 (fun H locs hP hD hS => ?_)
  exact x_ret_v hx hb hrt hlk hP hD hS dX1_undo_31 ⟨by decide, by decide⟩ () trivial rfl

set_option maxRecDepth 20000 in
theorem kX1_change_f15 : Cond.fieldLink RX1 15 "RowReplicator$Publisher" "commitCount" "I" ∈ wsX1_change := by decide +kernel
set_option maxRecDepth 20000 in
theorem kX1_change_X1 : ∀ w ∈ wsX10, w ∈ wsX1_change := by decide +kernel
set_option maxRecDepth 20000 in
theorem kX1_change_f19 : Cond.fieldLink RX1 19 "RowReplicator$Publisher" "changeCounts" "[I" ∈ wsX1_change := by decide +kernel
set_option maxRecDepth 20000 in
theorem kX1_change_f22 : Cond.fieldLink RX1 22 "RowReplicator$Publisher" "changedTables" "[I" ∈ wsX1_change := by decide +kernel
set_option maxRecDepth 20000 in
theorem kX1_change_f25 : Cond.fieldLink RX1 25 "RowReplicator$Publisher" "changedKeys" "[I" ∈ wsX1_change := by decide +kernel
set_option maxRecDepth 20000 in
theorem kX1_change_f28 : Cond.fieldLink RX1 28 "RowReplicator$Publisher" "newRows" "[I" ∈ wsX1_change := by decide +kernel
set_option maxRecDepth 20000 in
theorem kX1_change_f9 : Cond.fieldLink RX1 9 "RowReplicator$Publisher" "rows" "[I" ∈ wsX1_change := by decide +kernel
set_option maxRecDepth 20000 in
theorem kX1_change_s_X4_placeOf : Cond.static yX4_placeOf ∈ wsX1_change := by decide +kernel
set_option maxRecDepth 20000 in
theorem kX1_change_i_X4 : Cond.initialized RX4 ∈ wsX1_change := by decide +kernel
set_option maxHeartbeats 4000000 in
set_option maxRecDepth 100000 in
theorem zX1_change (l : Launch) (D : va_G) (cI cP cS cL : ClassId) (h0 hr hc ht hk hn hm : Nat) (n c t : Nat) (v : Int32) (rows cc ct ck nr : Nat → Int32) (k : Nat) (hn9 : n ≤ 50) (hcc : cc n = nI c) (hc9 : c < 12) (ht9 : t < 2) (hk9 : k < 12) : xMv l yX1_change wsX1_change (rmD 1 0 0) D [(cI, .int), (cP, .object RX0), (cS, .object RX2), (cL, .long)] [.ref h0, .int (nI t), .int (nI k), .int v] [(h0, .inr (1, [.ref hr, .int (nI n), .ref hc, .ref ht, .ref hk, .ref hn, .ref hm])), (hr, .inl (cI, 24, .inl rows)), (hc, .inl (cI, 51, .inl cc)), (ht, .inl (cI, 612, .inl ct)), (hk, .inl (cI, 612, .inl ck)), (hn, .inl (cI, 612, .inl nr))] (fun (u : Unit) => True) (fun (u : Unit) => [(h0, .inr (1, [.ref hr, .int (nI n), .ref hc, .ref ht, .ref hk, .ref hn, .ref hm])), (hr, .inl (cI, 24, .inl (upd rows (t * 12 + k) v))), (hc, .inl (cI, 51, .inl (upd cc n (nI (c + 1))))), (ht, .inl (cI, 612, .inl (upd ct (n * 12 + c) (nI t)))), (hk, .inl (cI, 612, .inl (upd ck (n * 12 + c) (nI k)))), (hn, .inl (cI, 612, .inl (upd nr (n * 12 + c) v)))]) 0 0 := by
  refine xe_v (cc := cX1_change) (maxL := 8) (ret := none) (by decide) rfl (Nat.le_of_ble_eq_true rfl) ?_
  intro zp ze s zm below meth zc A ls B
  obtain ⟨hx, hb, hml, hrt, hts, hown, hnm, hlk, hK, hP, hD, hA, hS, hN, hl⟩ := B
  have hown : s.vm.findClass RX1 = some zm.cls := hown
  have hl : lv_has ls 8 [(0, .ref h0), (1, .int (nI t)), (2, .int (nI k)), (3, .int v)] := hl
  have hA : ∀ q, s.heap.size ≤ q → A q := hA
  refine lv_aload_n hx hb dX1_change_0 rfl (lv_at hl 0 rfl) ?_
  refine va_get (D := D) (ci := 1) (v := .int (nI n)) (C := RX1) (T := TX1) (N := 7) hx hb hts kX1_change_X1 hown hK hP 0 rfl rfl 1 (by decide) (hts _ kX1_change_f15) (fun _ h9 => h9) rfl dX1_change_1 ?_
  refine lv_bipush (v := nI 12) hx hb dX1_change_4 (by decide) ?_
  refine x_mul (k := n * 12) hx hb dX1_change_6 rfl ?_
  refine lv_aload_n hx hb dX1_change_7 rfl (lv_at hl 0 rfl) ?_
  refine va_get (D := D) (ci := 1) (v := .ref hc) (C := RX1) (T := TX1) (N := 7) hx hb hts kX1_change_X1 hown hK hP 0 rfl rfl 2 (by decide) (hts _ kX1_change_f19) (fun _ h9 => h9) rfl dX1_change_8 ?_
  refine lv_aload_n hx hb dX1_change_11 rfl (lv_at hl 0 rfl) ?_
  refine va_get (D := D) (ci := 1) (v := .int (nI n)) (C := RX1) (T := TX1) (N := 7) hx hb hts kX1_change_X1 hown hK hP 0 rfl rfl 1 (by decide) (hts _ kX1_change_f15) (fun _ h9 => h9) rfl dX1_change_12 ?_
  refine x_ald (v := nI c) hx hb hK hP 2 0 rfl rfl (by omega) (by omega) hcc dX1_change_15 ?_
  refine x_add (k := (n * 12) + c) hx hb dX1_change_16 rfl ?_
  refine lv_istore (lv' := [(4, .int (nI ((n * 12) + c))), (0, .ref h0), (1, .int (nI t)), (2, .int (nI k)), (3, .int v)]) hx hb dX1_change_17 hl (by decide) rfl (fun ls hl => ?_)
  refine lv_aload_n hx hb dX1_change_19 rfl (lv_at hl 1 rfl) ?_
  refine va_get (D := D) (ci := 1) (v := .ref ht) (C := RX1) (T := TX1) (N := 7) hx hb hts kX1_change_X1 hown hK hP 0 rfl rfl 3 (by decide) (hts _ kX1_change_f22) (fun _ h9 => h9) rfl dX1_change_20 ?_
  refine lv_iload hx hb dX1_change_23 (lv_at hl 0 rfl) ?_
  refine lv_iload_n hx hb dX1_change_25 rfl (lv_at hl 2 rfl) ?_
  refine x_ast (g := upd ct ((n * 12) + c) (nI t)) (ws' := [(h0, .inr (1, [.ref hr, .int (nI n), .ref hc, .ref ht, .ref hk, .ref hn, .ref hm])), (hr, .inl (cI, 24, .inl rows)), (hc, .inl (cI, 51, .inl cc)), (ht, .inl (cI, 612, .inl (upd ct ((n * 12) + c) (nI t)))), (hk, .inl (cI, 612, .inl ck)), (hn, .inl (cI, 612, .inl nr))]) hx hb hK hP hD hS 3 0 rfl rfl (by omega) (by omega) (rfl) rfl dX1_change_26 (fun H locs hP hD hS => ?_)
  refine lv_aload_n hx hb dX1_change_27 rfl (lv_at hl 1 rfl) ?_
  refine va_get (D := D) (ci := 1) (v := .ref hk) (C := RX1) (T := TX1) (N := 7) hx hb hts kX1_change_X1 hown hK hP 0 rfl rfl 4 (by decide) (hts _ kX1_change_f25) (fun _ h9 => h9) rfl dX1_change_28 ?_
  refine lv_iload hx hb dX1_change_31 (lv_at hl 0 rfl) ?_
  refine lv_iload_n hx hb dX1_change_33 rfl (lv_at hl 3 rfl) ?_
  refine x_ast (g := upd ck ((n * 12) + c) (nI k)) (ws' := [(h0, .inr (1, [.ref hr, .int (nI n), .ref hc, .ref ht, .ref hk, .ref hn, .ref hm])), (hr, .inl (cI, 24, .inl rows)), (hc, .inl (cI, 51, .inl cc)), (ht, .inl (cI, 612, .inl (upd ct ((n * 12) + c) (nI t)))), (hk, .inl (cI, 612, .inl (upd ck ((n * 12) + c) (nI k)))), (hn, .inl (cI, 612, .inl nr))]) hx hb hK hP hD hS 4 0 rfl rfl (by omega) (by omega) (rfl) rfl dX1_change_34 (fun H locs hP hD hS => ?_)
  refine lv_aload_n hx hb dX1_change_35 rfl (lv_at hl 1 rfl) ?_
  refine va_get (D := D) (ci := 1) (v := .ref hn) (C := RX1) (T := TX1) (N := 7) hx hb hts kX1_change_X1 hown hK hP 0 rfl rfl 5 (by decide) (hts _ kX1_change_f28) (fun _ h9 => h9) rfl dX1_change_36 ?_
  refine lv_iload hx hb dX1_change_39 (lv_at hl 0 rfl) ?_
  refine lv_iload_n hx hb dX1_change_41 rfl (lv_at hl 4 rfl) ?_
  refine x_ast (g := upd nr ((n * 12) + c) v) (ws' := [(h0, .inr (1, [.ref hr, .int (nI n), .ref hc, .ref ht, .ref hk, .ref hn, .ref hm])), (hr, .inl (cI, 24, .inl rows)), (hc, .inl (cI, 51, .inl cc)), (ht, .inl (cI, 612, .inl (upd ct ((n * 12) + c) (nI t)))), (hk, .inl (cI, 612, .inl (upd ck ((n * 12) + c) (nI k)))), (hn, .inl (cI, 612, .inl (upd nr ((n * 12) + c) v)))]) hx hb hK hP hD hS 5 0 rfl rfl (by omega) (by omega) (rfl) rfl dX1_change_42 (fun H locs hP hD hS => ?_)
  refine lv_aload_n hx hb dX1_change_43 rfl (lv_at hl 1 rfl) ?_
  refine va_get (D := D) (ci := 1) (v := .ref hc) (C := RX1) (T := TX1) (N := 7) hx hb hts kX1_change_X1 hown hK hP 0 rfl rfl 2 (by decide) (hts _ kX1_change_f19) (fun _ h9 => h9) rfl dX1_change_44 ?_
  refine lv_aload_n hx hb dX1_change_47 rfl (lv_at hl 1 rfl) ?_
  refine va_get (D := D) (ci := 1) (v := .int (nI n)) (C := RX1) (T := TX1) (N := 7) hx hb hts kX1_change_X1 hown hK hP 0 rfl rfl 1 (by decide) (hts _ kX1_change_f15) (fun _ h9 => h9) rfl dX1_change_48 ?_
  refine lv_dup2_11 hx hb dX1_change_51 rfl rfl ?_
  refine x_ald (v := nI c) hx hb hK hP 2 0 rfl rfl (by omega) (by omega) hcc dX1_change_52 ?_
  refine lv_iconst (v := nI 1) hx hb dX1_change_53 (by decide) ?_
  refine x_add (k := c + 1) hx hb dX1_change_54 rfl ?_
  refine x_ast (g := upd cc n (nI (c + 1))) (ws' := [(h0, .inr (1, [.ref hr, .int (nI n), .ref hc, .ref ht, .ref hk, .ref hn, .ref hm])), (hr, .inl (cI, 24, .inl rows)), (hc, .inl (cI, 51, .inl (upd cc n (nI (c + 1))))), (ht, .inl (cI, 612, .inl (upd ct ((n * 12) + c) (nI t)))), (hk, .inl (cI, 612, .inl (upd ck ((n * 12) + c) (nI k)))), (hn, .inl (cI, 612, .inl (upd nr ((n * 12) + c) v)))]) hx hb hK hP hD hS 2 0 rfl rfl (by omega) (by omega) (rfl) rfl dX1_change_55 (fun H locs hP hD hS => ?_)
  refine lv_iload_n hx hb dX1_change_56 rfl (lv_at hl 3 rfl) ?_
  refine lv_iconst (v := -1) hx hb dX1_change_57 (by decide) ?_
  refine x_cmp_ne (tgt := 65) hx hb (nI_m1 (k := k) (by omega)) dX1_change_58 (by decide) (fun c58 => ?_) (fun c58 => ?_)
  · refine lv_iload_n hx hb dX1_change_65 rfl (lv_at hl 3 rfl) ?_
    refine lv_istore (lv' := [(5, .int (nI k)), (4, .int (nI ((n * 12) + c))), (0, .ref h0), (1, .int (nI t)), (2, .int (nI k)), (3, .int v)]) hx hb dX1_change_66 hl (by decide) rfl (fun ls hl => ?_)
    refine lv_iload_n hx hb dX1_change_68 rfl (lv_at hl 4 rfl) ?_
    refine lv_iconst (v := -1) hx hb dX1_change_69 (by decide) ?_
    refine x_cmp_ne (tgt := 78) hx hb (nI_m1 (k := k) (by omega)) dX1_change_70 (by decide) (fun c70 => ?_) (fun c70 => ?_)
    · refine lv_iload_n hx hb dX1_change_78 rfl (lv_at hl 4 rfl) ?_
      refine lv_iconst (v := nI 1) hx hb dX1_change_79 (by decide) ?_
      refine x_add (k := k + 1) hx hb dX1_change_80 rfl ?_
      refine lv_istore (lv' := [(6, .int (nI (k + 1))), (5, .int (nI k)), (4, .int (nI ((n * 12) + c))), (0, .ref h0), (1, .int (nI t)), (2, .int (nI k)), (3, .int v)]) hx hb dX1_change_81 hl (by decide) rfl (fun ls hl => ?_)
      refine lv_iload hx hb dX1_change_83 (lv_at hl 1 rfl) ?_
      refine lv_istore (lv' := [(7, .int (nI k)), (6, .int (nI (k + 1))), (5, .int (nI k)), (4, .int (nI ((n * 12) + c))), (0, .ref h0), (1, .int (nI t)), (2, .int (nI k)), (3, .int v)]) hx hb dX1_change_85 hl (by decide) rfl (fun ls hl => ?_)
      refine lv_iload hx hb dX1_change_87 (lv_at hl 0 rfl) ?_
      refine lv_iload hx hb dX1_change_89 (lv_at hl 1 rfl) ?_
      refine x_cmp_ge (tgt := 112) hx hb (nI_leI (a := (k + 1)) (b := k) (by omega) (by omega)) dX1_change_91 (by decide) (fun c91 => ?_) (fun c91 => ?_)
      · exfalso; omega
      · refine lv_aload_n hx hb dX1_change_94 rfl (lv_at hl 4 rfl) ?_
        refine va_get (D := D) (ci := 1) (v := .ref hr) (C := RX1) (T := TX1) (N := 7) hx hb hts kX1_change_X1 hown hK hP 0 rfl rfl 0 (by decide) (hts _ kX1_change_f9) (fun _ h9 => h9) rfl dX1_change_95 ?_
        refine lv_iload_n hx hb dX1_change_98 rfl (lv_at hl 5 rfl) ?_
        refine lv_iload hx hb dX1_change_99 (lv_at hl 0 rfl) ?_
        refine x_calli (w2 := fun (u : Unit) => [(h0, .inr (1, [.ref hr, .int (nI n), .ref hc, .ref ht, .ref hk, .ref hn, .ref hm])), (hr, .inl (cI, 24, .inl rows)), (hc, .inl (cI, 51, .inl (upd cc n (nI (c + 1))))), (ht, .inl (cI, 612, .inl (upd ct ((n * 12) + c) (nI t)))), (hk, .inl (cI, 612, .inl (upd ck ((n * 12) + c) (nI k)))), (hn, .inl (cI, 612, .inl (upd nr ((n * 12) + c) v)))]) (wr := [(h0, .inr (1, [.ref hr, .int (nI n), .ref hc, .ref ht, .ref hk, .ref hn, .ref hm])), (hr, .inl (cI, 24, .inl rows)), (hc, .inl (cI, 51, .inl (upd cc n (nI (c + 1))))), (ht, .inl (cI, 612, .inl (upd ct ((n * 12) + c) (nI t)))), (hk, .inl (cI, 612, .inl (upd ck ((n * 12) + c) (nI k)))), (hn, .inl (cI, 612, .inl (upd nr ((n * 12) + c) v)))]) (x_runSN (n := 2) ⟨hx, hb, hml, hown, hts⟩ (zX4_placeOf l D cI cP cS cL t k) gX1_change_X4_placeOf_n34 rfl rfl rfl (by decide +kernel) kX1_change_s_X4_placeOf kX1_change_i_X4 (by decide +kernel) ⟨by decide, by decide⟩ hN hK hP hD [] rfl rfl rfl hl.1 (rest := [.ref hr]) (As := [.int (nI t), .int (nI k)]) rfl (Nat.le_of_ble_eq_true rfl) dX1_change_101 ⟨by decide, by decide⟩) hP hD hS hA [] [0, 1, 2, 3, 4, 5] [0, 1, 2, 3, 4, 5] rfl rfl rfl (by decide) rfl (fun _ => rfl) (fun r101 u H locs hw hP hD hS => ?_)
        subst hw
        refine lv_iload_n hx hb dX1_change_104 rfl (lv_at hl 7 rfl) ?_
        refine x_ast (g := upd rows (t * 12 + k) v) (ws' := [(h0, .inr (1, [.ref hr, .int (nI n), .ref hc, .ref ht, .ref hk, .ref hn, .ref hm])), (hr, .inl (cI, 24, .inl (upd rows (t * 12 + k) v))), (hc, .inl (cI, 51, .inl (upd cc n (nI (c + 1))))), (ht, .inl (cI, 612, .inl (upd ct ((n * 12) + c) (nI t)))), (hk, .inl (cI, 612, .inl (upd ck ((n * 12) + c) (nI k)))), (hn, .inl (cI, 612, .inl (upd nr ((n * 12) + c) v)))]) hx hb hK hP hD hS 1 0 rfl rfl (by omega) (by omega) (rfl) rfl dX1_change_105 (fun H locs hP hD hS => ?_)
        refine x_iinc (k := 0) (o := 1) (v := k + 1) (lv' := [(7, .int (nI (k + 1))), (6, .int (nI (k + 1))), (5, .int (nI k)), (4, .int (nI ((n * 12) + c))), (0, .ref h0), (1, .int (nI t)), (2, .int (nI k)), (3, .int v)]) hx hb dX1_change_106 hl rfl rfl rfl (by decide) rfl (fun ls hl => ?_)
        refine lv_goto (tgt := 87) hx hb dX1_change_109 (by decide) ?_
        refine lv_iload hx hb dX1_change_87 (lv_at hl 0 rfl) ?_
        refine lv_iload hx hb dX1_change_89 (lv_at hl 1 rfl) ?_
        refine x_cmp_ge (tgt := 112) hx hb (nI_leI (a := (k + 1)) (b := (k + 1)) (by omega) (by omega)) dX1_change_91 (by decide) (fun c91 => ?_) (fun c91 => ?_)
        · exact x_ret_v hx hb hrt hlk hP hD hS dX1_change_112 ⟨by decide, by decide⟩ () trivial rfl
        · exfalso; omega
    · exact c70.elim
  · exact c58.elim

set_option maxHeartbeats 4000000 in
set_option maxRecDepth 100000 in
theorem zX1_changeAll (l : Launch) (D : va_G) (cI cP cS cL : ClassId) (h0 hr hc ht hk hn hm : Nat) (n c t : Nat) (v : Int32) (rows cc ct ck nr : Nat → Int32) (hn9 : n ≤ 50) (hcc : cc n = nI c) (hc9 : c < 12) (ht9 : t < 2) : xMv l yX1_change wsX1_change (rmD 1 0 0) D [(cI, .int), (cP, .object RX0), (cS, .object RX2), (cL, .long)] [.ref h0, .int (nI t), .int (-1), .int v] [(h0, .inr (1, [.ref hr, .int (nI n), .ref hc, .ref ht, .ref hk, .ref hn, .ref hm])), (hr, .inl (cI, 24, .inl rows)), (hc, .inl (cI, 51, .inl cc)), (ht, .inl (cI, 612, .inl ct)), (hk, .inl (cI, 612, .inl ck)), (hn, .inl (cI, 612, .inl nr))] (fun (u : Unit) => True) (fun (u : Unit) => [(h0, .inr (1, [.ref hr, .int (nI n), .ref hc, .ref ht, .ref hk, .ref hn, .ref hm])), (hr, .inl (cI, 24, .inl (qFill rows (t * 12) 12 v))), (hc, .inl (cI, 51, .inl (upd cc n (nI (c + 1))))), (ht, .inl (cI, 612, .inl (upd ct (n * 12 + c) (nI t)))), (hk, .inl (cI, 612, .inl (upd ck (n * 12 + c) (-1)))), (hn, .inl (cI, 612, .inl (upd nr (n * 12 + c) v)))]) 0 0 := by
  refine xe_v (cc := cX1_change) (maxL := 8) (ret := none) (by decide) rfl (Nat.le_of_ble_eq_true rfl) ?_
  intro zp ze s zm below meth zc A ls B
  obtain ⟨hx, hb, hml, hrt, hts, hown, hnm, hlk, hK, hP, hD, hA, hS, hN, hl⟩ := B
  have hown : s.vm.findClass RX1 = some zm.cls := hown
  have hl : lv_has ls 8 [(0, .ref h0), (1, .int (nI t)), (2, .int (-1)), (3, .int v)] := hl
  have hA : ∀ q, s.heap.size ≤ q → A q := hA
  refine lv_aload_n hx hb dX1_change_0 rfl (lv_at hl 0 rfl) ?_
  refine va_get (D := D) (ci := 1) (v := .int (nI n)) (C := RX1) (T := TX1) (N := 7) hx hb hts kX1_change_X1 hown hK hP 0 rfl rfl 1 (by decide) (hts _ kX1_change_f15) (fun _ h9 => h9) rfl dX1_change_1 ?_
  refine lv_bipush (v := nI 12) hx hb dX1_change_4 (by decide) ?_
  refine x_mul (k := n * 12) hx hb dX1_change_6 rfl ?_
  refine lv_aload_n hx hb dX1_change_7 rfl (lv_at hl 0 rfl) ?_
  refine va_get (D := D) (ci := 1) (v := .ref hc) (C := RX1) (T := TX1) (N := 7) hx hb hts kX1_change_X1 hown hK hP 0 rfl rfl 2 (by decide) (hts _ kX1_change_f19) (fun _ h9 => h9) rfl dX1_change_8 ?_
  refine lv_aload_n hx hb dX1_change_11 rfl (lv_at hl 0 rfl) ?_
  refine va_get (D := D) (ci := 1) (v := .int (nI n)) (C := RX1) (T := TX1) (N := 7) hx hb hts kX1_change_X1 hown hK hP 0 rfl rfl 1 (by decide) (hts _ kX1_change_f15) (fun _ h9 => h9) rfl dX1_change_12 ?_
  refine x_ald (v := nI c) hx hb hK hP 2 0 rfl rfl (by omega) (by omega) hcc dX1_change_15 ?_
  refine x_add (k := (n * 12) + c) hx hb dX1_change_16 rfl ?_
  refine lv_istore (lv' := [(4, .int (nI ((n * 12) + c))), (0, .ref h0), (1, .int (nI t)), (2, .int (-1)), (3, .int v)]) hx hb dX1_change_17 hl (by decide) rfl (fun ls hl => ?_)
  refine lv_aload_n hx hb dX1_change_19 rfl (lv_at hl 1 rfl) ?_
  refine va_get (D := D) (ci := 1) (v := .ref ht) (C := RX1) (T := TX1) (N := 7) hx hb hts kX1_change_X1 hown hK hP 0 rfl rfl 3 (by decide) (hts _ kX1_change_f22) (fun _ h9 => h9) rfl dX1_change_20 ?_
  refine lv_iload hx hb dX1_change_23 (lv_at hl 0 rfl) ?_
  refine lv_iload_n hx hb dX1_change_25 rfl (lv_at hl 2 rfl) ?_
  refine x_ast (g := upd ct ((n * 12) + c) (nI t)) (ws' := [(h0, .inr (1, [.ref hr, .int (nI n), .ref hc, .ref ht, .ref hk, .ref hn, .ref hm])), (hr, .inl (cI, 24, .inl rows)), (hc, .inl (cI, 51, .inl cc)), (ht, .inl (cI, 612, .inl (upd ct ((n * 12) + c) (nI t)))), (hk, .inl (cI, 612, .inl ck)), (hn, .inl (cI, 612, .inl nr))]) hx hb hK hP hD hS 3 0 rfl rfl (by omega) (by omega) (rfl) rfl dX1_change_26 (fun H locs hP hD hS => ?_)
  refine lv_aload_n hx hb dX1_change_27 rfl (lv_at hl 1 rfl) ?_
  refine va_get (D := D) (ci := 1) (v := .ref hk) (C := RX1) (T := TX1) (N := 7) hx hb hts kX1_change_X1 hown hK hP 0 rfl rfl 4 (by decide) (hts _ kX1_change_f25) (fun _ h9 => h9) rfl dX1_change_28 ?_
  refine lv_iload hx hb dX1_change_31 (lv_at hl 0 rfl) ?_
  refine lv_iload_n hx hb dX1_change_33 rfl (lv_at hl 3 rfl) ?_
  refine x_ast (g := upd ck ((n * 12) + c) (-1)) (ws' := [(h0, .inr (1, [.ref hr, .int (nI n), .ref hc, .ref ht, .ref hk, .ref hn, .ref hm])), (hr, .inl (cI, 24, .inl rows)), (hc, .inl (cI, 51, .inl cc)), (ht, .inl (cI, 612, .inl (upd ct ((n * 12) + c) (nI t)))), (hk, .inl (cI, 612, .inl (upd ck ((n * 12) + c) (-1)))), (hn, .inl (cI, 612, .inl nr))]) hx hb hK hP hD hS 4 0 rfl rfl (by omega) (by omega) (rfl) rfl dX1_change_34 (fun H locs hP hD hS => ?_)
  refine lv_aload_n hx hb dX1_change_35 rfl (lv_at hl 1 rfl) ?_
  refine va_get (D := D) (ci := 1) (v := .ref hn) (C := RX1) (T := TX1) (N := 7) hx hb hts kX1_change_X1 hown hK hP 0 rfl rfl 5 (by decide) (hts _ kX1_change_f28) (fun _ h9 => h9) rfl dX1_change_36 ?_
  refine lv_iload hx hb dX1_change_39 (lv_at hl 0 rfl) ?_
  refine lv_iload_n hx hb dX1_change_41 rfl (lv_at hl 4 rfl) ?_
  refine x_ast (g := upd nr ((n * 12) + c) v) (ws' := [(h0, .inr (1, [.ref hr, .int (nI n), .ref hc, .ref ht, .ref hk, .ref hn, .ref hm])), (hr, .inl (cI, 24, .inl rows)), (hc, .inl (cI, 51, .inl cc)), (ht, .inl (cI, 612, .inl (upd ct ((n * 12) + c) (nI t)))), (hk, .inl (cI, 612, .inl (upd ck ((n * 12) + c) (-1)))), (hn, .inl (cI, 612, .inl (upd nr ((n * 12) + c) v)))]) hx hb hK hP hD hS 5 0 rfl rfl (by omega) (by omega) (rfl) rfl dX1_change_42 (fun H locs hP hD hS => ?_)
  refine lv_aload_n hx hb dX1_change_43 rfl (lv_at hl 1 rfl) ?_
  refine va_get (D := D) (ci := 1) (v := .ref hc) (C := RX1) (T := TX1) (N := 7) hx hb hts kX1_change_X1 hown hK hP 0 rfl rfl 2 (by decide) (hts _ kX1_change_f19) (fun _ h9 => h9) rfl dX1_change_44 ?_
  refine lv_aload_n hx hb dX1_change_47 rfl (lv_at hl 1 rfl) ?_
  refine va_get (D := D) (ci := 1) (v := .int (nI n)) (C := RX1) (T := TX1) (N := 7) hx hb hts kX1_change_X1 hown hK hP 0 rfl rfl 1 (by decide) (hts _ kX1_change_f15) (fun _ h9 => h9) rfl dX1_change_48 ?_
  refine lv_dup2_11 hx hb dX1_change_51 rfl rfl ?_
  refine x_ald (v := nI c) hx hb hK hP 2 0 rfl rfl (by omega) (by omega) hcc dX1_change_52 ?_
  refine lv_iconst (v := nI 1) hx hb dX1_change_53 (by decide) ?_
  refine x_add (k := c + 1) hx hb dX1_change_54 rfl ?_
  refine x_ast (g := upd cc n (nI (c + 1))) (ws' := [(h0, .inr (1, [.ref hr, .int (nI n), .ref hc, .ref ht, .ref hk, .ref hn, .ref hm])), (hr, .inl (cI, 24, .inl rows)), (hc, .inl (cI, 51, .inl (upd cc n (nI (c + 1))))), (ht, .inl (cI, 612, .inl (upd ct ((n * 12) + c) (nI t)))), (hk, .inl (cI, 612, .inl (upd ck ((n * 12) + c) (-1)))), (hn, .inl (cI, 612, .inl (upd nr ((n * 12) + c) v)))]) hx hb hK hP hD hS 2 0 rfl rfl (by omega) (by omega) (rfl) rfl dX1_change_55 (fun H locs hP hD hS => ?_)
  refine lv_iload_n hx hb dX1_change_56 rfl (lv_at hl 3 rfl) ?_
  refine lv_iconst (v := -1) hx hb dX1_change_57 (by decide) ?_
  refine x_cmp_ne (tgt := 65) hx hb (Iff.rfl) dX1_change_58 (by decide) (fun c58 => ?_) (fun c58 => ?_)
  · exact absurd rfl c58
  · refine lv_iconst (v := nI 0) hx hb dX1_change_61 (by decide) ?_
    refine lv_goto (tgt := 66) hx hb dX1_change_62 (by decide) ?_
    refine lv_istore (lv' := [(5, .int (nI 0)), (4, .int (nI ((n * 12) + c))), (0, .ref h0), (1, .int (nI t)), (2, .int (-1)), (3, .int v)]) hx hb dX1_change_66 hl (by decide) rfl (fun ls hl => ?_)
    refine lv_iload_n hx hb dX1_change_68 rfl (lv_at hl 4 rfl) ?_
    refine lv_iconst (v := -1) hx hb dX1_change_69 (by decide) ?_
    refine x_cmp_ne (tgt := 78) hx hb (Iff.rfl) dX1_change_70 (by decide) (fun c70 => ?_) (fun c70 => ?_)
    · exact absurd rfl c70
    · refine lv_bipush (v := nI 12) hx hb dX1_change_73 (by decide) ?_
      refine lv_goto (tgt := 81) hx hb dX1_change_75 (by decide) ?_
      refine lv_istore (lv' := [(6, .int (nI 12)), (5, .int (nI 0)), (4, .int (nI ((n * 12) + c))), (0, .ref h0), (1, .int (nI t)), (2, .int (-1)), (3, .int v)]) hx hb dX1_change_81 hl (by decide) rfl (fun ls hl => ?_)
      refine lv_iload hx hb dX1_change_83 (lv_at hl 1 rfl) ?_
      refine lv_istore (lv' := [(7, .int (nI 0)), (6, .int (nI 12)), (5, .int (nI 0)), (4, .int (nI ((n * 12) + c))), (0, .ref h0), (1, .int (nI t)), (2, .int (-1)), (3, .int v)]) hx hb dX1_change_85 hl (by decide) rfl (fun ls hl => ?_)
      refine x_loop (nL := 8) (fun (x : Nat × (Nat → Int32)) => match x with | (j, f) => j ≤ 12 ∧ f = qFill rows (t * 12) j v) (fun (x : Nat × (Nat → Int32)) => match x with | (j, f) => 12 - j) (fun (x : Nat × (Nat → Int32)) => match x with | (j, f) => [(h0, .inr (1, [.ref hr, .int (nI n), .ref hc, .ref ht, .ref hk, .ref hn, .ref hm])), (hr, .inl (cI, 24, .inl f)), (hc, .inl (cI, 51, .inl (upd cc n (nI (c + 1))))), (ht, .inl (cI, 612, .inl (upd ct ((n * 12) + c) (nI t)))), (hk, .inl (cI, 612, .inl (upd ck ((n * 12) + c) (-1)))), (hn, .inl (cI, 612, .inl (upd nr ((n * 12) + c) v)))]) (fun (x : Nat × (Nat → Int32)) => match x with | (j, f) => [(0, .ref h0), (1, .int (nI t)), (3, .int v), (6, .int (nI 12)), (7, .int (nI j))]) (fun (x : Nat × (Nat → Int32)) => match x with | (j, f) => []) ?_ (0, rows) ⟨by omega, (qFill_0 _ _ _).symm⟩ hP hD hS (lv_sub hl [4, 5, 7, 1, 0] rfl)
      intro x9 hI87 ih87 H locs ls hP hD hS hl
      obtain ⟨j, f⟩ := x9
      have hP : va_P D vwCl [(h0, .inr (1, [.ref hr, .int (nI n), .ref hc, .ref ht, .ref hk, .ref hn, .ref hm])), (hr, .inl (cI, 24, .inl f)), (hc, .inl (cI, 51, .inl (upd cc n (nI (c + 1))))), (ht, .inl (cI, 612, .inl (upd ct ((n * 12) + c) (nI t)))), (hk, .inl (cI, 612, .inl (upd ck ((n * 12) + c) (-1)))), (hn, .inl (cI, 612, .inl (upd nr ((n * 12) + c) v)))] H := hP
      have hD : va_D A [(h0, .inr (1, [.ref hr, .int (nI n), .ref hc, .ref ht, .ref hk, .ref hn, .ref hm])), (hr, .inl (cI, 24, .inl f)), (hc, .inl (cI, 51, .inl (upd cc n (nI (c + 1))))), (ht, .inl (cI, 612, .inl (upd ct ((n * 12) + c) (nI t)))), (hk, .inl (cI, 612, .inl (upd ck ((n * 12) + c) (-1)))), (hn, .inl (cI, 612, .inl (upd nr ((n * 12) + c) v)))] := hD
      have hl : lv_has ls 8 [(0, .ref h0), (1, .int (nI t)), (3, .int v), (6, .int (nI 12)), (7, .int (nI j))] := hl
      obtain ⟨hj, hf⟩ := hI87
      refine lv_iload hx hb dX1_change_87 (lv_at hl 4 rfl) ?_
      refine lv_iload hx hb dX1_change_89 (lv_at hl 3 rfl) ?_
      refine x_cmp_ge (tgt := 112) hx hb (nI_leI (a := 12) (b := j) (by omega) (by omega)) dX1_change_91 (by decide) (fun c91 => ?_) (fun c91 => ?_)
      · obtain rfl : j = 12 := by omega
        subst hf
        exact x_ret_v hx hb hrt hlk hP hD hS dX1_change_112 ⟨by decide, by decide⟩ () trivial rfl
      · refine lv_aload_n hx hb dX1_change_94 rfl (lv_at hl 0 rfl) ?_
        refine va_get (D := D) (ci := 1) (v := .ref hr) (C := RX1) (T := TX1) (N := 7) hx hb hts kX1_change_X1 hown hK hP 0 rfl rfl 0 (by decide) (hts _ kX1_change_f9) (fun _ h9 => h9) rfl dX1_change_95 ?_
        refine lv_iload_n hx hb dX1_change_98 rfl (lv_at hl 1 rfl) ?_
        refine lv_iload hx hb dX1_change_99 (lv_at hl 4 rfl) ?_
        refine x_calli (w2 := fun (u : Unit) => [(h0, .inr (1, [.ref hr, .int (nI n), .ref hc, .ref ht, .ref hk, .ref hn, .ref hm])), (hr, .inl (cI, 24, .inl f)), (hc, .inl (cI, 51, .inl (upd cc n (nI (c + 1))))), (ht, .inl (cI, 612, .inl (upd ct ((n * 12) + c) (nI t)))), (hk, .inl (cI, 612, .inl (upd ck ((n * 12) + c) (-1)))), (hn, .inl (cI, 612, .inl (upd nr ((n * 12) + c) v)))]) (wr := [(h0, .inr (1, [.ref hr, .int (nI n), .ref hc, .ref ht, .ref hk, .ref hn, .ref hm])), (hr, .inl (cI, 24, .inl f)), (hc, .inl (cI, 51, .inl (upd cc n (nI (c + 1))))), (ht, .inl (cI, 612, .inl (upd ct ((n * 12) + c) (nI t)))), (hk, .inl (cI, 612, .inl (upd ck ((n * 12) + c) (-1)))), (hn, .inl (cI, 612, .inl (upd nr ((n * 12) + c) v)))]) (x_runSN (n := 2) ⟨hx, hb, hml, hown, hts⟩ (zX4_placeOf l D cI cP cS cL t j) gX1_change_X4_placeOf_n34 rfl rfl rfl (by decide +kernel) kX1_change_s_X4_placeOf kX1_change_i_X4 (by decide +kernel) ⟨by decide, by decide⟩ hN hK hP hD [] rfl rfl rfl hl.1 (rest := [.ref hr]) (As := [.int (nI t), .int (nI j)]) rfl (Nat.le_of_ble_eq_true rfl) dX1_change_101 ⟨by decide, by decide⟩) hP hD hS hA [] [0, 1, 2, 3, 4, 5] [0, 1, 2, 3, 4, 5] rfl rfl rfl (by decide) rfl (fun _ => rfl) (fun r101 u H locs hw hP hD hS => ?_)
        subst hw
        refine lv_iload_n hx hb dX1_change_104 rfl (lv_at hl 2 rfl) ?_
        refine x_ast (g := upd f (t * 12 + j) v) (ws' := [(h0, .inr (1, [.ref hr, .int (nI n), .ref hc, .ref ht, .ref hk, .ref hn, .ref hm])), (hr, .inl (cI, 24, .inl (upd f (t * 12 + j) v))), (hc, .inl (cI, 51, .inl (upd cc n (nI (c + 1))))), (ht, .inl (cI, 612, .inl (upd ct ((n * 12) + c) (nI t)))), (hk, .inl (cI, 612, .inl (upd ck ((n * 12) + c) (-1)))), (hn, .inl (cI, 612, .inl (upd nr ((n * 12) + c) v)))]) hx hb hK hP hD hS 1 0 rfl rfl (by omega) (by omega) (rfl) rfl dX1_change_105 (fun H locs hP hD hS => ?_)
        refine x_iinc (k := 4) (o := 1) (v := j + 1) (lv' := [(7, .int (nI (j + 1))), (0, .ref h0), (1, .int (nI t)), (3, .int v), (6, .int (nI 12))]) hx hb dX1_change_106 hl rfl rfl rfl (by decide) rfl (fun ls hl => ?_)
        refine lv_goto (tgt := 87) hx hb dX1_change_109 (by decide) ?_
        exact ih87 (j + 1, upd f (t * 12 + j) v) ⟨by omega, (by rw [hf]; exact qFill_s _ _ _ _)⟩ (by show 12 - (j + 1) < 12 - j; omega) _ _ _ hP hD hS (lv_sub hl [1, 2, 3, 4, 0] rfl)

set_option maxRecDepth 20000 in
theorem kX2_forgetTables_f15 : Cond.fieldLink RX2 15 "RowReplicator$Subscriber" "copies" "[I" ∈ wsX2_forgetTables := by decide +kernel
set_option maxRecDepth 20000 in
theorem kX2_forgetTables_X2 : ∀ w ∈ wsX20, w ∈ wsX2_forgetTables := by decide +kernel
set_option maxHeartbeats 4000000 in
set_option maxRecDepth 100000 in
theorem zX2_forgetTables (l : Launch) (D : va_G) (cI cP cS cL : ClassId) (h0 hr hc : Nat) (pu : Option Nat) (st sl : Nat) (co : Nat → Int32)  : xMv l yX2_forgetTables wsX2_forgetTables (rmD 0 0 0) D [(cI, .int), (cP, .object RX0), (cS, .object RX2), (cL, .long)] [.ref h0] [(h0, .inr (2, [.ref hr, .ref hc, va_rf pu, .int (nI st), .int (nI sl)])), (hc, .inl (cI, 2, .inl co))] (fun (u : Unit) => True) (fun (u : Unit) => [(h0, .inr (2, [.ref hr, .ref hc, va_rf pu, .int (nI st), .int (nI sl)])), (hc, .inl (cI, 2, .inl (upd (upd co 0 (-1)) 1 (-1))))]) 0 0 := by
  refine xe_v (cc := cX2_forgetTables) (maxL := 2) (ret := none) (by decide) rfl (Nat.le_of_ble_eq_true rfl) ?_
  intro zp ze s zm below meth zc A ls B
  obtain ⟨hx, hb, hml, hrt, hts, hown, hnm, hlk, hK, hP, hD, hA, hS, hN, hl⟩ := B
  have hown : s.vm.findClass RX2 = some zm.cls := hown
  have hl : lv_has ls 2 [(0, .ref h0)] := hl
  have hA : ∀ q, s.heap.size ≤ q → A q := hA
  refine lv_iconst (v := nI 0) hx hb dX2_forgetTables_0 (by decide) ?_
  refine lv_istore_n (lv' := [(1, .int (nI 0)), (0, .ref h0)]) hx hb dX2_forgetTables_1 rfl hl (by decide) rfl (fun ls hl => ?_)
  refine lv_iload_n hx hb dX2_forgetTables_2 rfl (lv_at hl 0 rfl) ?_
  refine lv_iconst (v := nI 2) hx hb dX2_forgetTables_3 (by decide) ?_
  refine x_cmp_ge (tgt := 20) hx hb (nI_leI (a := 2) (b := 0) (by omega) (by omega)) dX2_forgetTables_4 (by decide) (fun c4 => ?_) (fun c4 => ?_)
  · exfalso; omega
  · refine lv_aload_n hx hb dX2_forgetTables_7 rfl (lv_at hl 1 rfl) ?_
    refine va_get (D := D) (ci := 2) (v := .ref hc) (C := RX2) (T := TX2) (N := 5) hx hb hts kX2_forgetTables_X2 hown hK hP 0 rfl rfl 1 (by decide) (hts _ kX2_forgetTables_f15) (fun _ h9 => h9) rfl dX2_forgetTables_8 ?_
    refine lv_iload_n hx hb dX2_forgetTables_11 rfl (lv_at hl 0 rfl) ?_
    refine lv_iconst (v := -1) hx hb dX2_forgetTables_12 (by decide) ?_
    refine x_ast (g := upd co 0 (-1)) (ws' := [(h0, .inr (2, [.ref hr, .ref hc, va_rf pu, .int (nI st), .int (nI sl)])), (hc, .inl (cI, 2, .inl (upd co 0 (-1))))]) hx hb hK hP hD hS 1 0 rfl rfl (by omega) (by omega) (rfl) rfl dX2_forgetTables_13 (fun H locs hP hD hS => ?_)
    refine x_iinc (k := 0) (o := 1) (v := 1) (lv' := [(1, .int (nI 1)), (0, .ref h0)]) hx hb dX2_forgetTables_14 hl rfl rfl rfl (by decide) rfl (fun ls hl => ?_)
    refine lv_goto (tgt := 2) hx hb dX2_forgetTables_17 (by decide) ?_
    refine lv_iload_n hx hb dX2_forgetTables_2 rfl (lv_at hl 0 rfl) ?_
    refine lv_iconst (v := nI 2) hx hb dX2_forgetTables_3 (by decide) ?_
    refine x_cmp_ge (tgt := 20) hx hb (nI_leI (a := 2) (b := 1) (by omega) (by omega)) dX2_forgetTables_4 (by decide) (fun c4 => ?_) (fun c4 => ?_)
    · exfalso; omega
    · refine lv_aload_n hx hb dX2_forgetTables_7 rfl (lv_at hl 1 rfl) ?_
      refine va_get (D := D) (ci := 2) (v := .ref hc) (C := RX2) (T := TX2) (N := 5) hx hb hts kX2_forgetTables_X2 hown hK hP 0 rfl rfl 1 (by decide) (hts _ kX2_forgetTables_f15) (fun _ h9 => h9) rfl dX2_forgetTables_8 ?_
      refine lv_iload_n hx hb dX2_forgetTables_11 rfl (lv_at hl 0 rfl) ?_
      refine lv_iconst (v := -1) hx hb dX2_forgetTables_12 (by decide) ?_
      refine x_ast (g := upd (upd co 0 (-1)) 1 (-1)) (ws' := [(h0, .inr (2, [.ref hr, .ref hc, va_rf pu, .int (nI st), .int (nI sl)])), (hc, .inl (cI, 2, .inl (upd (upd co 0 (-1)) 1 (-1))))]) hx hb hK hP hD hS 1 0 rfl rfl (by omega) (by omega) (rfl) rfl dX2_forgetTables_13 (fun H locs hP hD hS => ?_)
      refine x_iinc (k := 0) (o := 1) (v := 2) (lv' := [(1, .int (nI 2)), (0, .ref h0)]) hx hb dX2_forgetTables_14 hl rfl rfl rfl (by decide) rfl (fun ls hl => ?_)
      refine lv_goto (tgt := 2) hx hb dX2_forgetTables_17 (by decide) ?_
      refine lv_iload_n hx hb dX2_forgetTables_2 rfl (lv_at hl 0 rfl) ?_
      refine lv_iconst (v := nI 2) hx hb dX2_forgetTables_3 (by decide) ?_
      refine x_cmp_ge (tgt := 20) hx hb (nI_leI (a := 2) (b := 2) (by omega) (by omega)) dX2_forgetTables_4 (by decide) (fun c4 => ?_) (fun c4 => ?_)
      · exact x_ret_v hx hb hrt hlk hP hD hS dX2_forgetTables_20 ⟨by decide, by decide⟩ () trivial rfl
      · exfalso; omega

set_option maxRecDepth 20000 in
theorem kX2_follow_f18 : Cond.fieldLink RX2 18 "RowReplicator$Subscriber" "publication" "LRowReplicator$Publication;" ∈ wsX2_follow := by decide +kernel
set_option maxRecDepth 20000 in
theorem kX2_follow_X2 : ∀ w ∈ wsX20, w ∈ wsX2_follow := by decide +kernel
set_option maxRecDepth 20000 in
theorem kX2_follow_f22 : Cond.fieldLink RX2 22 "RowReplicator$Subscriber" "state" "I" ∈ wsX2_follow := by decide +kernel
set_option maxRecDepth 20000 in
theorem kX2_follow_f26 : Cond.fieldLink RX2 26 "RowReplicator$Subscriber" "slot" "I" ∈ wsX2_follow := by decide +kernel
set_option maxHeartbeats 4000000 in
set_option maxRecDepth 100000 in
theorem zX2_follow (l : Launch) (D : va_G) (cI cP cS cL : ClassId) (h0 hr hc : Nat) (pu : Option Nat) (st sl : Nat) (co : Nat → Int32) (hp n : Nat)  : xMv l yX2_follow wsX2_follow (rmD 1 0 0) D [(cI, .int), (cP, .object RX0), (cS, .object RX2), (cL, .long)] [.ref h0, .ref hp, .int (nI n)] [(h0, .inr (2, [.ref hr, .ref hc, va_rf pu, .int (nI st), .int (nI sl)])), (hc, .inl (cI, 2, .inl co))] (fun (u : Unit) => True) (fun (u : Unit) => [(h0, .inr (2, [.ref hr, .ref hc, va_rf (some hp), .int (nI 1), .int (nI n)])), (hc, .inl (cI, 2, .inl (upd (upd co 0 (-1)) 1 (-1))))]) 0 0 := by
  refine xe_v (cc := cX2_follow) (maxL := 3) (ret := none) (by decide) rfl (Nat.le_of_ble_eq_true rfl) ?_
  intro zp ze s zm below meth zc A ls B
  obtain ⟨hx, hb, hml, hrt, hts, hown, hnm, hlk, hK, hP, hD, hA, hS, hN, hl⟩ := B
  have hown : s.vm.findClass RX2 = some zm.cls := hown
  have hl : lv_has ls 3 [(0, .ref h0), (1, .ref hp), (2, .int (nI n))] := hl
  have hA : ∀ q, s.heap.size ≤ q → A q := hA
  refine lv_aload_n hx hb dX2_follow_0 rfl (lv_at hl 0 rfl) ?_
  refine lv_aload_n hx hb dX2_follow_1 rfl (lv_at hl 1 rfl) ?_
  refine x_put (fs' := [.ref hr, .ref hc, .ref hp, .int (nI st), .int (nI sl)]) (ws' := [(h0, .inr (2, [.ref hr, .ref hc, .ref hp, .int (nI st), .int (nI sl)])), (hc, .inl (cI, 2, .inl co))]) (v := .ref hp) (ty := .object "RowReplicator$Publication") (C := RX2) (T := TX2) (N := 5) (ci := 2) hx hb hts kX2_follow_X2 tyX2 tyX2_ok nmX2 hown hK hP hD hS 0 rfl rfl 2 (by decide) (hts _ kX2_follow_f18) (fun _ h9 => h9) rfl (by decide +kernel) rfl rfl (Nat.le_of_ble_eq_true rfl) rfl rfl dX2_follow_2 (fun H locs hP hD hS => ?_)
  refine lv_aload_n hx hb dX2_follow_5 rfl (lv_at hl 0 rfl) ?_
  refine lv_iconst (v := nI 1) hx hb dX2_follow_6 (by decide) ?_
  refine x_put (fs' := [.ref hr, .ref hc, .ref hp, .int (nI 1), .int (nI sl)]) (ws' := [(h0, .inr (2, [.ref hr, .ref hc, .ref hp, .int (nI 1), .int (nI sl)])), (hc, .inl (cI, 2, .inl co))]) (v := .int (nI 1)) (ty := .int) (C := RX2) (T := TX2) (N := 5) (ci := 2) hx hb hts kX2_follow_X2 tyX2 tyX2_ok nmX2 hown hK hP hD hS 0 rfl rfl 3 (by decide) (hts _ kX2_follow_f22) (fun _ h9 => h9) rfl (by decide +kernel) rfl rfl (Nat.le_of_ble_eq_true rfl) rfl rfl dX2_follow_7 (fun H locs hP hD hS => ?_)
  refine lv_aload_n hx hb dX2_follow_10 rfl (lv_at hl 0 rfl) ?_
  refine lv_iload_n hx hb dX2_follow_11 rfl (lv_at hl 2 rfl) ?_
  refine x_put (fs' := [.ref hr, .ref hc, .ref hp, .int (nI 1), .int (nI n)]) (ws' := [(h0, .inr (2, [.ref hr, .ref hc, .ref hp, .int (nI 1), .int (nI n)])), (hc, .inl (cI, 2, .inl co))]) (v := .int (nI n)) (ty := .int) (C := RX2) (T := TX2) (N := 5) (ci := 2) hx hb hts kX2_follow_X2 tyX2 tyX2_ok nmX2 hown hK hP hD hS 0 rfl rfl 4 (by decide) (hts _ kX2_follow_f26) (fun _ h9 => h9) rfl (by decide +kernel) rfl rfl (Nat.le_of_ble_eq_true rfl) rfl rfl dX2_follow_12 (fun H locs hP hD hS => ?_)
  refine lv_aload_n hx hb dX2_follow_15 rfl (lv_at hl 0 rfl) ?_
  refine x_callv (w2 := fun (u : Unit) => [(h0, .inr (2, [.ref hr, .ref hc, va_rf (some hp), .int (nI 1), .int (nI n)])), (hc, .inl (cI, 2, .inl (upd (upd co 0 (-1)) 1 (-1))))]) (wr := []) (x_runV (n := 0) ⟨hx, hb, hml, hown, hts⟩ (zX2_forgetTables l D cI cP cS cL h0 hr hc (some hp) 1 n co) gX2_follow_X2_forgetTables rfl rfl rfl (by decide +kernel) ⟨by decide, by decide⟩ hN hK hP hD [0, 1] rfl rfl (ci := 2) (q0 := 0) rfl rfl rfl rfl hl.1 (rest := []) (As := []) rfl (Nat.le_of_ble_eq_true rfl) dX2_follow_16 ⟨by decide, by decide⟩) hP hD hS hA [0, 1] [] [0, 1] rfl rfl rfl (by decide) rfl (fun _ => rfl) (fun u H locs hw hP hD hS => ?_)
  exact x_ret_v hx hb hrt hlk hP hD hS dX2_follow_19 ⟨by decide, by decide⟩ () trivial rfl

set_option maxRecDepth 20000 in
theorem kX2_leave_f18 : Cond.fieldLink RX2 18 "RowReplicator$Subscriber" "publication" "LRowReplicator$Publication;" ∈ wsX2_leave := by decide +kernel
set_option maxRecDepth 20000 in
theorem kX2_leave_X2 : ∀ w ∈ wsX20, w ∈ wsX2_leave := by decide +kernel
set_option maxRecDepth 20000 in
theorem kX2_leave_f22 : Cond.fieldLink RX2 22 "RowReplicator$Subscriber" "state" "I" ∈ wsX2_leave := by decide +kernel
set_option maxHeartbeats 4000000 in
set_option maxRecDepth 100000 in
theorem zX2_leave (l : Launch) (D : va_G) (cI cP cS cL : ClassId) (h0 hr hc : Nat) (pu : Option Nat) (st sl : Nat) (co : Nat → Int32)  : xMv l yX2_leave wsX2_leave (rmD 1 0 0) D [(cI, .int), (cP, .object RX0), (cS, .object RX2), (cL, .long)] [.ref h0] [(h0, .inr (2, [.ref hr, .ref hc, va_rf pu, .int (nI st), .int (nI sl)])), (hc, .inl (cI, 2, .inl co))] (fun (u : Unit) => True) (fun (u : Unit) => [(h0, .inr (2, [.ref hr, .ref hc, va_rf none, .int (nI 0), .int (nI sl)])), (hc, .inl (cI, 2, .inl (upd (upd co 0 (-1)) 1 (-1))))]) 0 0 := by
  refine xe_v (cc := cX2_leave) (maxL := 1) (ret := none) (by decide) rfl (Nat.le_of_ble_eq_true rfl) ?_
  intro zp ze s zm below meth zc A ls B
  obtain ⟨hx, hb, hml, hrt, hts, hown, hnm, hlk, hK, hP, hD, hA, hS, hN, hl⟩ := B
  have hown : s.vm.findClass RX2 = some zm.cls := hown
  have hl : lv_has ls 1 [(0, .ref h0)] := hl
  have hA : ∀ q, s.heap.size ≤ q → A q := hA
  refine lv_aload_n hx hb dX2_leave_0 rfl (lv_at hl 0 rfl) ?_
  refine lv_null hx hb dX2_leave_1 ?_
  refine x_put (fs' := [.ref hr, .ref hc, .null, .int (nI st), .int (nI sl)]) (ws' := [(h0, .inr (2, [.ref hr, .ref hc, .null, .int (nI st), .int (nI sl)])), (hc, .inl (cI, 2, .inl co))]) (v := .null) (ty := .object "RowReplicator$Publication") (C := RX2) (T := TX2) (N := 5) (ci := 2) hx hb hts kX2_leave_X2 tyX2 tyX2_ok nmX2 hown hK hP hD hS 0 rfl rfl 2 (by decide) (hts _ kX2_leave_f18) (fun _ h9 => h9) rfl (by decide +kernel) rfl rfl (Nat.le_of_ble_eq_true rfl) rfl rfl dX2_leave_2 (fun H locs hP hD hS => ?_)
  refine lv_aload_n hx hb dX2_leave_5 rfl (lv_at hl 0 rfl) ?_
  refine lv_iconst (v := nI 0) hx hb dX2_leave_6 (by decide) ?_
  refine x_put (fs' := [.ref hr, .ref hc, .null, .int (nI 0), .int (nI sl)]) (ws' := [(h0, .inr (2, [.ref hr, .ref hc, .null, .int (nI 0), .int (nI sl)])), (hc, .inl (cI, 2, .inl co))]) (v := .int (nI 0)) (ty := .int) (C := RX2) (T := TX2) (N := 5) (ci := 2) hx hb hts kX2_leave_X2 tyX2 tyX2_ok nmX2 hown hK hP hD hS 0 rfl rfl 3 (by decide) (hts _ kX2_leave_f22) (fun _ h9 => h9) rfl (by decide +kernel) rfl rfl (Nat.le_of_ble_eq_true rfl) rfl rfl dX2_leave_7 (fun H locs hP hD hS => ?_)
  refine lv_aload_n hx hb dX2_leave_10 rfl (lv_at hl 0 rfl) ?_
  refine x_callv (w2 := fun (u : Unit) => [(h0, .inr (2, [.ref hr, .ref hc, va_rf none, .int (nI 0), .int (nI sl)])), (hc, .inl (cI, 2, .inl (upd (upd co 0 (-1)) 1 (-1))))]) (wr := []) (x_runV (n := 0) ⟨hx, hb, hml, hown, hts⟩ (zX2_forgetTables l D cI cP cS cL h0 hr hc none 0 sl co) gX2_leave_X2_forgetTables rfl rfl rfl (by decide +kernel) ⟨by decide, by decide⟩ hN hK hP hD [0, 1] rfl rfl (ci := 2) (q0 := 0) rfl rfl rfl rfl hl.1 (rest := []) (As := []) rfl (Nat.le_of_ble_eq_true rfl) dX2_leave_11 ⟨by decide, by decide⟩) hP hD hS hA [0, 1] [] [0, 1] rfl rfl rfl (by decide) rfl (fun _ => rfl) (fun u H locs hw hP hD hS => ?_)
  exact x_ret_v hx hb hrt hlk hP hD hS dX2_leave_14 ⟨by decide, by decide⟩ () trivial rfl

set_option maxRecDepth 20000 in
theorem kX2_holdsLog_f22 : Cond.fieldLink RX2 22 "RowReplicator$Subscriber" "state" "I" ∈ wsX2_holdsLog := by decide +kernel
set_option maxRecDepth 20000 in
theorem kX2_holdsLog_X2 : ∀ w ∈ wsX20, w ∈ wsX2_holdsLog := by decide +kernel
set_option maxHeartbeats 4000000 in
set_option maxRecDepth 100000 in
theorem zX2_holdsLog (l : Launch) (D : va_G) (cI cP cS cL : ClassId) (h0 hr hc : Nat) (pu : Option Nat) (st sl : Nat) (hst : st ≤ 3) : xMi l yX2_holdsLog wsX2_holdsLog (rmD 0 0 0) D [(cI, .int), (cP, .object RX0), (cS, .object RX2), (cL, .long)] [.ref h0] [(h0, .inr (2, [.ref hr, .ref hc, va_rf pu, .int (nI st), .int (nI sl)]))] (fun (r : Int32) (u : Unit) => r = bI (decide (st = 1 ∨ st = 2))) (fun (u : Unit) => [(h0, .inr (2, [.ref hr, .ref hc, va_rf pu, .int (nI st), .int (nI sl)]))]) 0 0 := by
  refine xe_i (cc := cX2_holdsLog) (maxL := 1) (ret := (some .boolean)) (by decide) rfl (Nat.le_of_ble_eq_true rfl) ?_
  intro zp ze s zm below meth zc A ls B
  obtain ⟨hx, hb, hml, hrt, hts, hown, hnm, hlk, hK, hP, hD, hA, hS, hN, hl⟩ := B
  have hown : s.vm.findClass RX2 = some zm.cls := hown
  have hl : lv_has ls 1 [(0, .ref h0)] := hl
  have hA : ∀ q, s.heap.size ≤ q → A q := hA
  refine lv_aload_n hx hb dX2_holdsLog_0 rfl (lv_at hl 0 rfl) ?_
  refine va_get (D := D) (ci := 2) (v := .int (nI st)) (C := RX2) (T := TX2) (N := 5) hx hb hts kX2_holdsLog_X2 hown hK hP 0 rfl rfl 3 (by decide) (hts _ kX2_holdsLog_f22) (fun _ h9 => h9) rfl dX2_holdsLog_1 ?_
  refine lv_iconst (v := nI 1) hx hb dX2_holdsLog_4 (by decide) ?_
  refine x_cmp_eq (tgt := 16) hx hb (nI_eq (a := st) (b := 1) (by omega) (by omega)) dX2_holdsLog_5 (by decide) (fun c5 => ?_) (fun c5 => ?_)
  · refine lv_iconst (v := nI 1) hx hb dX2_holdsLog_16 (by decide) ?_
    refine lv_goto (tgt := 21) hx hb dX2_holdsLog_17 (by decide) ?_
    exact x_ret_z hx hb hrt (by first | exact Or.inl rfl | exact Or.inr rfl) hlk hP hD hS dX2_holdsLog_21 ⟨by decide, by decide⟩ () (bI_d (by omega)).symm rfl
  · refine lv_aload_n hx hb dX2_holdsLog_8 rfl (lv_at hl 0 rfl) ?_
    refine va_get (D := D) (ci := 2) (v := .int (nI st)) (C := RX2) (T := TX2) (N := 5) hx hb hts kX2_holdsLog_X2 hown hK hP 0 rfl rfl 3 (by decide) (hts _ kX2_holdsLog_f22) (fun _ h9 => h9) rfl dX2_holdsLog_9 ?_
    refine lv_iconst (v := nI 2) hx hb dX2_holdsLog_12 (by decide) ?_
    refine x_cmp_ne (tgt := 20) hx hb (nI_eq (a := st) (b := 2) (by omega) (by omega)) dX2_holdsLog_13 (by decide) (fun c13 => ?_) (fun c13 => ?_)
    · refine lv_iconst (v := nI 0) hx hb dX2_holdsLog_20 (by decide) ?_
      exact x_ret_z hx hb hrt (by first | exact Or.inl rfl | exact Or.inr rfl) hlk hP hD hS dX2_holdsLog_21 ⟨by decide, by decide⟩ () (bI_n (by omega)).symm rfl
    · refine lv_iconst (v := nI 1) hx hb dX2_holdsLog_16 (by decide) ?_
      refine lv_goto (tgt := 21) hx hb dX2_holdsLog_17 (by decide) ?_
      exact x_ret_z hx hb hrt (by first | exact Or.inl rfl | exact Or.inr rfl) hlk hP hD hS dX2_holdsLog_21 ⟨by decide, by decide⟩ () (bI_d (by omega)).symm rfl

set_option maxRecDepth 20000 in
theorem kX2_commitsBehind_f26 : Cond.fieldLink RX2 26 "RowReplicator$Subscriber" "slot" "I" ∈ wsX2_commitsBehind := by decide +kernel
set_option maxRecDepth 20000 in
theorem kX2_commitsBehind_X2 : ∀ w ∈ wsX20, w ∈ wsX2_commitsBehind := by decide +kernel
set_option maxHeartbeats 4000000 in
set_option maxRecDepth 100000 in
theorem zX2_commitsBehind (l : Launch) (D : va_G) (cI cP cS cL : ClassId) (h0 hr hc : Nat) (pu : Option Nat) (st sl : Nat) (n : Nat) (hst : st ≤ 3) (hsl : sl ≤ n) (hn9 : n ≤ 50) : xMi l yX2_commitsBehind wsX2_commitsBehind (rmD 1 0 0) D [(cI, .int), (cP, .object RX0), (cS, .object RX2), (cL, .long)] [.ref h0, .int (nI n)] [(h0, .inr (2, [.ref hr, .ref hc, va_rf pu, .int (nI st), .int (nI sl)]))] (fun (r : Int32) (u : Unit) => r = nI (if st = 1 ∨ st = 2 then n - sl else 0)) (fun (u : Unit) => [(h0, .inr (2, [.ref hr, .ref hc, va_rf pu, .int (nI st), .int (nI sl)]))]) 0 0 := by
  refine xe_i (cc := cX2_commitsBehind) (maxL := 2) (ret := (some .int)) (by decide) rfl (Nat.le_of_ble_eq_true rfl) ?_
  intro zp ze s zm below meth zc A ls B
  obtain ⟨hx, hb, hml, hrt, hts, hown, hnm, hlk, hK, hP, hD, hA, hS, hN, hl⟩ := B
  have hown : s.vm.findClass RX2 = some zm.cls := hown
  have hl : lv_has ls 2 [(0, .ref h0), (1, .int (nI n))] := hl
  have hA : ∀ q, s.heap.size ≤ q → A q := hA
  refine lv_aload_n hx hb dX2_commitsBehind_0 rfl (lv_at hl 0 rfl) ?_
  refine x_calli (w2 := fun (u : Unit) => [(h0, .inr (2, [.ref hr, .ref hc, va_rf pu, .int (nI st), .int (nI sl)]))]) (wr := []) (x_runV (n := 0) ⟨hx, hb, hml, hown, hts⟩ (zX2_holdsLog l D cI cP cS cL h0 hr hc pu st sl hst) gX2_commitsBehind_X2_holdsLog rfl rfl rfl (by decide +kernel) ⟨by decide, by decide⟩ hN hK hP hD [0] rfl rfl (ci := 2) (q0 := 0) rfl rfl rfl rfl hl.1 (rest := []) (As := []) rfl (Nat.le_of_ble_eq_true rfl) dX2_commitsBehind_1 ⟨by decide, by decide⟩) hP hD hS hA [0] [] [0] rfl rfl rfl (by decide) rfl (fun _ => rfl) (fun r1 u H locs hw hP hD hS => ?_)
  subst hw
  refine x_if_eq (tgt := 16) hx hb (bI_0 _) dX2_commitsBehind_4 (by decide) (fun c4 => ?_) (fun c4 => ?_)
  · refine lv_iconst (v := nI 0) hx hb dX2_commitsBehind_16 (by decide) ?_
    exact x_ret_i hx hb hrt hlk hP hD hS dX2_commitsBehind_17 ⟨by decide, by decide⟩ () (by rw [if_neg (of_decide_eq_false c4)]) rfl
  · refine lv_iload_n hx hb dX2_commitsBehind_7 rfl (lv_at hl 1 rfl) ?_
    refine lv_aload_n hx hb dX2_commitsBehind_8 rfl (lv_at hl 0 rfl) ?_
    refine va_get (D := D) (ci := 2) (v := .int (nI sl)) (C := RX2) (T := TX2) (N := 5) hx hb hts kX2_commitsBehind_X2 hown hK hP 0 rfl rfl 4 (by decide) (hts _ kX2_commitsBehind_f26) (fun _ h9 => h9) rfl dX2_commitsBehind_9 ?_
    refine x_sub (k := n - sl) hx hb dX2_commitsBehind_12 (by omega) rfl ?_
    refine lv_goto (tgt := 17) hx hb dX2_commitsBehind_13 (by decide) ?_
    exact x_ret_i hx hb hrt hlk hP hD hS dX2_commitsBehind_17 ⟨by decide, by decide⟩ () (by rw [if_pos (by cases h : decide (st = 1 ∨ st = 2) with | true => exact of_decide_eq_true h | false => exact absurd h c4)]) rfl

set_option maxRecDepth 20000 in
theorem kX2_takesChangesOf_f15 : Cond.fieldLink RX2 15 "RowReplicator$Subscriber" "copies" "[I" ∈ wsX2_takesChangesOf := by decide +kernel
set_option maxRecDepth 20000 in
theorem kX2_takesChangesOf_X2 : ∀ w ∈ wsX20, w ∈ wsX2_takesChangesOf := by decide +kernel
set_option maxHeartbeats 4000000 in
set_option maxRecDepth 100000 in
theorem zX2_takesChangesOf (l : Launch) (D : va_G) (cI cP cS cL : ClassId) (h0 hr hc : Nat) (pu : Option Nat) (st sl : Nat) (co : Nat → Int32) (t : Nat) (y : Int32) (ht : t < 2) : xMi l yX2_takesChangesOf wsX2_takesChangesOf (rmD 0 0 0) D [(cI, .int), (cP, .object RX0), (cS, .object RX2), (cL, .long)] [.ref h0, .int (nI t), .int y] [(h0, .inr (2, [.ref hr, .ref hc, va_rf pu, .int (nI st), .int (nI sl)])), (hc, .inl (cI, 2, .inl co))] (fun (r : Int32) (u : Unit) => r = bI (qTk (co t) y)) (fun (u : Unit) => [(h0, .inr (2, [.ref hr, .ref hc, va_rf pu, .int (nI st), .int (nI sl)])), (hc, .inl (cI, 2, .inl co))]) 0 0 := by
  refine xe_i (cc := cX2_takesChangesOf) (maxL := 3) (ret := (some .boolean)) (by decide) rfl (Nat.le_of_ble_eq_true rfl) ?_
  intro zp ze s zm below meth zc A ls B
  obtain ⟨hx, hb, hml, hrt, hts, hown, hnm, hlk, hK, hP, hD, hA, hS, hN, hl⟩ := B
  have hown : s.vm.findClass RX2 = some zm.cls := hown
  have hl : lv_has ls 3 [(0, .ref h0), (1, .int (nI t)), (2, .int y)] := hl
  have hA : ∀ q, s.heap.size ≤ q → A q := hA
  refine lv_aload_n hx hb dX2_takesChangesOf_0 rfl (lv_at hl 0 rfl) ?_
  refine va_get (D := D) (ci := 2) (v := .ref hc) (C := RX2) (T := TX2) (N := 5) hx hb hts kX2_takesChangesOf_X2 hown hK hP 0 rfl rfl 1 (by decide) (hts _ kX2_takesChangesOf_f15) (fun _ h9 => h9) rfl dX2_takesChangesOf_1 ?_
  refine lv_iload_n hx hb dX2_takesChangesOf_4 rfl (lv_at hl 1 rfl) ?_
  refine x_ald (v := co t) hx hb hK hP 1 0 rfl rfl (by omega) (by omega) rfl dX2_takesChangesOf_5 ?_
  refine lv_iconst (v := -1) hx hb dX2_takesChangesOf_6 (by decide) ?_
  refine x_cmp_eq (tgt := 24) hx hb (Iff.rfl) dX2_takesChangesOf_7 (by decide) (fun c7 => ?_) (fun c7 => ?_)
  · refine lv_iconst (v := nI 0) hx hb dX2_takesChangesOf_24 (by decide) ?_
    exact x_ret_z hx hb hrt (by first | exact Or.inl rfl | exact Or.inr rfl) hlk hP hD hS dX2_takesChangesOf_25 ⟨by decide, by decide⟩ () (bI_n (fun q => by first | exact q.1 (by assumption) | exact absurd q.2 (Int32.not_lt.mpr (by assumption)))).symm rfl
  · refine lv_aload_n hx hb dX2_takesChangesOf_10 rfl (lv_at hl 0 rfl) ?_
    refine va_get (D := D) (ci := 2) (v := .ref hc) (C := RX2) (T := TX2) (N := 5) hx hb hts kX2_takesChangesOf_X2 hown hK hP 0 rfl rfl 1 (by decide) (hts _ kX2_takesChangesOf_f15) (fun _ h9 => h9) rfl dX2_takesChangesOf_11 ?_
    refine lv_iload_n hx hb dX2_takesChangesOf_14 rfl (lv_at hl 1 rfl) ?_
    refine x_ald (v := co t) hx hb hK hP 1 0 rfl rfl (by omega) (by omega) rfl dX2_takesChangesOf_15 ?_
    refine lv_iload_n hx hb dX2_takesChangesOf_16 rfl (lv_at hl 2 rfl) ?_
    refine x_cmp_ge (tgt := 24) hx hb (Iff.rfl) dX2_takesChangesOf_17 (by decide) (fun c17 => ?_) (fun c17 => ?_)
    · refine lv_iconst (v := nI 0) hx hb dX2_takesChangesOf_24 (by decide) ?_
      exact x_ret_z hx hb hrt (by first | exact Or.inl rfl | exact Or.inr rfl) hlk hP hD hS dX2_takesChangesOf_25 ⟨by decide, by decide⟩ () (bI_n (fun q => by first | exact q.1 (by assumption) | exact absurd q.2 (Int32.not_lt.mpr (by assumption)))).symm rfl
    · refine lv_iconst (v := nI 1) hx hb dX2_takesChangesOf_20 (by decide) ?_
      refine lv_goto (tgt := 25) hx hb dX2_takesChangesOf_21 (by decide) ?_
      exact x_ret_z hx hb hrt (by first | exact Or.inl rfl | exact Or.inr rfl) hlk hP hD hS dX2_takesChangesOf_25 ⟨by decide, by decide⟩ () (bI_d ⟨c7, Int32.not_le.mp c17⟩).symm rfl

set_option maxRecDepth 20000 in
theorem kX2_accept_f9 : Cond.fieldLink RX2 9 "RowReplicator$Subscriber" "rows" "[I" ∈ wsX2_accept := by decide +kernel
set_option maxRecDepth 20000 in
theorem kX2_accept_X2 : ∀ w ∈ wsX20, w ∈ wsX2_accept := by decide +kernel
set_option maxRecDepth 20000 in
theorem kX2_accept_a1 : Cond.methodLink RX2 36 arraycopyName ∈ wsX2_accept := by decide +kernel
set_option maxRecDepth 20000 in
theorem kX2_accept_a2 : Cond.native arraycopyName ∈ wsX2_accept := by decide +kernel
set_option maxRecDepth 20000 in
theorem kX2_accept_a3 : Cond.static arraycopyName ∈ wsX2_accept := by decide +kernel
set_option maxRecDepth 20000 in
theorem kX2_accept_a4 : Cond.initialized "java/lang/System" ∈ wsX2_accept := by decide +kernel
set_option maxRecDepth 20000 in
theorem kX2_accept_f26 : Cond.fieldLink RX2 26 "RowReplicator$Subscriber" "slot" "I" ∈ wsX2_accept := by decide +kernel
set_option maxHeartbeats 4000000 in
set_option maxRecDepth 100000 in
theorem zX2_accept (l : Launch) (D : va_G) (cI cP cS cL : ClassId) (h0 hr hc : Nat) (pu : Option Nat) (st sl : Nat) (rows g : Nat → Int32) (ha : Nat)  : xMv l yX2_accept wsX2_accept (rmD 2 0 0) D [(cI, .int), (cP, .object RX0), (cS, .object RX2), (cL, .long)] [.ref h0, .ref ha] [(h0, .inr (2, [.ref hr, .ref hc, va_rf pu, .int (nI st), .int (nI sl)])), (hr, .inl (cI, 24, .inl rows)), (ha, .inl (cI, 24, .inl g))] (fun (u : Unit) => True) (fun (u : Unit) => [(h0, .inr (2, [.ref hr, .ref hc, va_rf pu, .int (nI st), .int (nI (sl + 1))])), (hr, .inl (cI, 24, .inl (va_cpy g rows 0 0 24))), (ha, .inl (cI, 24, .inl g))]) 0 0 := by
  refine xe_v (cc := cX2_accept) (maxL := 2) (ret := none) (by decide) rfl (Nat.le_of_ble_eq_true rfl) ?_
  intro zp ze s zm below meth zc A ls B
  obtain ⟨hx, hb, hml, hrt, hts, hown, hnm, hlk, hK, hP, hD, hA, hS, hN, hl⟩ := B
  have hown : s.vm.findClass RX2 = some zm.cls := hown
  have hl : lv_has ls 2 [(0, .ref h0), (1, .ref ha)] := hl
  have hA : ∀ q, s.heap.size ≤ q → A q := hA
  refine lv_aload_n hx hb dX2_accept_0 rfl (lv_at hl 1 rfl) ?_
  refine lv_iconst (v := nI 0) hx hb dX2_accept_1 (by decide) ?_
  refine lv_aload_n hx hb dX2_accept_2 rfl (lv_at hl 0 rfl) ?_
  refine va_get (D := D) (ci := 2) (v := .ref hr) (C := RX2) (T := TX2) (N := 5) hx hb hts kX2_accept_X2 hown hK hP 0 rfl rfl 0 (by decide) (hts _ kX2_accept_f9) (fun _ h9 => h9) rfl dX2_accept_3 ?_
  refine lv_iconst (v := nI 0) hx hb dX2_accept_6 (by decide) ?_
  refine lv_bipush (v := nI 24) hx hb dX2_accept_7 (by decide) ?_
  refine x_cpy (g := va_cpy g rows 0 0 24) (ws' := [(h0, .inr (2, [.ref hr, .ref hc, va_rf pu, .int (nI st), .int (nI sl)])), (hr, .inl (cI, 24, .inl (va_cpy g rows 0 0 24))), (ha, .inl (cI, 24, .inl g))]) hx hb (hml.trans hl.1.symm) hown (hts _ kX2_accept_a1) (hts _ kX2_accept_a2) (hts _ kX2_accept_a3) (hts _ kX2_accept_a4) hK hP hD hS 2 1 0 0 rfl rfl rfl rfl (by omega) (by omega) (by omega) (by omega) (by omega) (rfl) rfl (by decide) (by decide) dX2_accept_9 (fun H locs hP hD hS => ?_)
  refine lv_aload_n hx hb dX2_accept_12 rfl (lv_at hl 0 rfl) ?_
  refine lv_dup hx hb dX2_accept_13 rfl ?_
  refine va_get (D := D) (ci := 2) (v := .int (nI sl)) (C := RX2) (T := TX2) (N := 5) hx hb hts kX2_accept_X2 hown hK hP 0 rfl rfl 4 (by decide) (hts _ kX2_accept_f26) (fun _ h9 => h9) rfl dX2_accept_14 ?_
  refine lv_iconst (v := nI 1) hx hb dX2_accept_17 (by decide) ?_
  refine x_add (k := sl + 1) hx hb dX2_accept_18 rfl ?_
  refine x_put (fs' := [.ref hr, .ref hc, va_rf pu, .int (nI st), .int (nI (sl + 1))]) (ws' := [(h0, .inr (2, [.ref hr, .ref hc, va_rf pu, .int (nI st), .int (nI (sl + 1))])), (hr, .inl (cI, 24, .inl (va_cpy g rows 0 0 24))), (ha, .inl (cI, 24, .inl g))]) (v := .int (nI (sl + 1))) (ty := .int) (C := RX2) (T := TX2) (N := 5) (ci := 2) hx hb hts kX2_accept_X2 tyX2 tyX2_ok nmX2 hown hK hP hD hS 0 rfl rfl 4 (by decide) (hts _ kX2_accept_f26) (fun _ h9 => h9) rfl (by decide +kernel) rfl rfl (Nat.le_of_ble_eq_true rfl) rfl rfl dX2_accept_19 (fun H locs hP hD hS => ?_)
  exact x_ret_v hx hb hrt hlk hP hD hS dX2_accept_22 ⟨by decide, by decide⟩ () trivial rfl
end
section
set_option maxRecDepth 20000 in
theorem kX3_follows_s_X4_placeOf : Cond.static yX4_placeOf ∈ wsX3_follows := by decide +kernel
set_option maxRecDepth 20000 in
theorem kX3_follows_i_X4 : Cond.initialized RX4 ∈ wsX3_follows := by decide +kernel
set_option maxRecDepth 20000 in
theorem kX3_follows_f9 : Cond.fieldLink RX3 9 "RowReplicator$Trial" "oldRows" "[I" ∈ wsX3_follows := by decide +kernel
set_option maxRecDepth 20000 in
theorem kX3_follows_X3 : ∀ w ∈ wsX30, w ∈ wsX3_follows := by decide +kernel
set_option maxRecDepth 20000 in
theorem kX3_follows_f15 : Cond.fieldLink RX3 15 "RowReplicator$Trial" "rows" "[I" ∈ wsX3_follows := by decide +kernel
set_option maxHeartbeats 4000000 in
set_option maxRecDepth 100000 in
theorem zX3_follows (l : Launch) (D : va_G) (cI cP cS cL : ClassId) (g0 g1 g2 p0 p1 p2 p3 p4 : Nat) (old rw co re nu ma : Nat → Int32) (t : Nat) (k : Nat) (v : Int32) (ht : t < 2) (hk9 : k < 12) : xMi l yX3_follows wsX3_follows (rmD 2 0 0) D [(cI, .int), (cP, .object RX0), (cS, .object RX2), (cL, .long)] [.ref g0, .ref p0, .int (nI t), .int (nI k), .int v] [(g0, .inr (3, [.ref g1, .ref g2])), (g1, .inl (cI, 24, .inl old)), (g2, .inl (cI, 24, .inl rw)), (p0, .inr (0, [.ref p1, .ref p2, .ref p3, .ref p4])), (p1, .inl (cI, 2, .inl co)), (p2, .inl (cI, 2, .inl re)), (p3, .inl (cI, 2, .inl nu)), (p4, .inl (cI, 2, .inl ma))] (fun (r : Int32) (u : (Nat → Int32) × (Nat → Int32)) => match u with | (o1, w1) => ((qCf (qCho (co t) (re t) (nu t) (ma t) (old (t * 12 + k))) (qCho (co t) (re t) (nu t) (ma t) (v)) (rw (t * 12 + k)) ∧ r = nI 0 ∧ o1 = old ∧ w1 = rw) ∨ (¬ qCf (qCho (co t) (re t) (nu t) (ma t) (old (t * 12 + k))) (qCho (co t) (re t) (nu t) (ma t) (v)) (rw (t * 12 + k)) ∧ r = nI 1 ∧ o1 = upd old (t * 12 + k) v ∧ w1 = if qCho (co t) (re t) (nu t) (ma t) (old (t * 12 + k)) = -1 ∧ qCho (co t) (re t) (nu t) (ma t) (v) = -1 then rw else upd rw (t * 12 + k) (qCho (co t) (re t) (nu t) (ma t) (v))))) (fun (u : (Nat → Int32) × (Nat → Int32)) => match u with | (o1, w1) => [(g0, .inr (3, [.ref g1, .ref g2])), (g1, .inl (cI, 24, .inl o1)), (g2, .inl (cI, 24, .inl w1)), (p0, .inr (0, [.ref p1, .ref p2, .ref p3, .ref p4])), (p1, .inl (cI, 2, .inl co)), (p2, .inl (cI, 2, .inl re)), (p3, .inl (cI, 2, .inl nu)), (p4, .inl (cI, 2, .inl ma))]) 0 0 := by
  refine xe_i (cc := cX3_follows) (maxL := 9) (ret := (some .boolean)) (by decide) rfl (Nat.le_of_ble_eq_true rfl) ?_
  intro zp ze s zm below meth zc A ls B
  obtain ⟨hx, hb, hml, hrt, hts, hown, hnm, hlk, hK, hP, hD, hA, hS, hN, hl⟩ := B
  have hown : s.vm.findClass RX3 = some zm.cls := hown
  have hl : lv_has ls 9 [(0, .ref g0), (1, .ref p0), (2, .int (nI t)), (3, .int (nI k)), (4, .int v)] := hl
  have hA : ∀ q, s.heap.size ≤ q → A q := hA
  refine lv_iload_n hx hb dX3_follows_0 rfl (lv_at hl 2 rfl) ?_
  refine lv_iload_n hx hb dX3_follows_1 rfl (lv_at hl 3 rfl) ?_
  refine x_calli (w2 := fun (u : Unit) => [(g0, .inr (3, [.ref g1, .ref g2])), (g1, .inl (cI, 24, .inl old)), (g2, .inl (cI, 24, .inl rw)), (p0, .inr (0, [.ref p1, .ref p2, .ref p3, .ref p4])), (p1, .inl (cI, 2, .inl co)), (p2, .inl (cI, 2, .inl re)), (p3, .inl (cI, 2, .inl nu)), (p4, .inl (cI, 2, .inl ma))]) (wr := [(g0, .inr (3, [.ref g1, .ref g2])), (g1, .inl (cI, 24, .inl old)), (g2, .inl (cI, 24, .inl rw)), (p0, .inr (0, [.ref p1, .ref p2, .ref p3, .ref p4])), (p1, .inl (cI, 2, .inl co)), (p2, .inl (cI, 2, .inl re)), (p3, .inl (cI, 2, .inl nu)), (p4, .inl (cI, 2, .inl ma))]) (x_runSN (n := 2) ⟨hx, hb, hml, hown, hts⟩ (zX4_placeOf l D cI cP cS cL t k) gX3_follows_X4_placeOf_n60 rfl rfl rfl (by decide +kernel) kX3_follows_s_X4_placeOf kX3_follows_i_X4 (by decide +kernel) ⟨by decide, by decide⟩ hN hK hP hD [] rfl rfl rfl hl.1 (rest := []) (As := [.int (nI t), .int (nI k)]) rfl (Nat.le_of_ble_eq_true rfl) dX3_follows_2 ⟨by decide, by decide⟩) hP hD hS hA [] [0, 1, 2, 3, 4, 5, 6, 7] [0, 1, 2, 3, 4, 5, 6, 7] rfl rfl rfl (by decide) rfl (fun _ => rfl) (fun r2 u H locs hw hP hD hS => ?_)
  subst hw
  refine lv_istore (lv' := [(5, .int (nI (t * 12 + k))), (0, .ref g0), (1, .ref p0), (2, .int (nI t)), (3, .int (nI k)), (4, .int v)]) hx hb dX3_follows_5 hl (by decide) rfl (fun ls hl => ?_)
  refine lv_aload_n hx hb dX3_follows_7 rfl (lv_at hl 2 rfl) ?_
  refine lv_iload_n hx hb dX3_follows_8 rfl (lv_at hl 3 rfl) ?_
  refine lv_aload_n hx hb dX3_follows_9 rfl (lv_at hl 1 rfl) ?_
  refine va_get (D := D) (ci := 3) (v := .ref g1) (C := RX3) (T := TX3) (N := 2) hx hb hts kX3_follows_X3 hown hK hP 0 rfl rfl 0 (by decide) (hts _ kX3_follows_f9) (fun _ h9 => h9) rfl dX3_follows_10 ?_
  refine lv_iload hx hb dX3_follows_13 (lv_at hl 0 rfl) ?_
  refine x_ald (v := old (t * 12 + k)) hx hb hK hP 1 0 rfl rfl (by omega) (by omega) rfl dX3_follows_15 ?_
  refine x_calli (w2 := fun (u : Unit) => [(g0, .inr (3, [.ref g1, .ref g2])), (g1, .inl (cI, 24, .inl old)), (g2, .inl (cI, 24, .inl rw)), (p0, .inr (0, [.ref p1, .ref p2, .ref p3, .ref p4])), (p1, .inl (cI, 2, .inl co)), (p2, .inl (cI, 2, .inl re)), (p3, .inl (cI, 2, .inl nu)), (p4, .inl (cI, 2, .inl ma))]) (wr := [(g0, .inr (3, [.ref g1, .ref g2])), (g1, .inl (cI, 24, .inl old)), (g2, .inl (cI, 24, .inl rw))]) (x_runV (n := 2) ⟨hx, hb, hml, hown, hts⟩ (zX0_choose l D cI cP cS cL p0 p1 p2 p3 p4 co re nu ma t (old (t * 12 + k)) ht) gX3_follows_X0_choose rfl rfl rfl (by decide +kernel) ⟨by decide, by decide⟩ hN hK hP hD [3, 4, 5, 6, 7] rfl rfl (ci := 0) (q0 := 3) rfl rfl rfl rfl hl.1 (rest := []) (As := [.int (nI t), .int (old (t * 12 + k))]) rfl (Nat.le_of_ble_eq_true rfl) dX3_follows_16 ⟨by decide, by decide⟩) hP hD hS hA [3, 4, 5, 6, 7] [0, 1, 2] [0, 1, 2, 3, 4, 5, 6, 7] rfl rfl rfl (by decide) rfl (fun _ => rfl) (fun r16 u H locs hw hP hD hS => ?_)
  subst hw
  refine lv_istore (lv' := [(6, .int (qCho (co t) (re t) (nu t) (ma t) (old (t * 12 + k)))), (5, .int (nI (t * 12 + k))), (0, .ref g0), (1, .ref p0), (2, .int (nI t)), (3, .int (nI k)), (4, .int v)]) hx hb dX3_follows_19 hl (by decide) rfl (fun ls hl => ?_)
  refine lv_aload_n hx hb dX3_follows_21 rfl (lv_at hl 3 rfl) ?_
  refine lv_iload_n hx hb dX3_follows_22 rfl (lv_at hl 4 rfl) ?_
  refine lv_iload hx hb dX3_follows_23 (lv_at hl 6 rfl) ?_
  refine x_calli (w2 := fun (u : Unit) => [(g0, .inr (3, [.ref g1, .ref g2])), (g1, .inl (cI, 24, .inl old)), (g2, .inl (cI, 24, .inl rw)), (p0, .inr (0, [.ref p1, .ref p2, .ref p3, .ref p4])), (p1, .inl (cI, 2, .inl co)), (p2, .inl (cI, 2, .inl re)), (p3, .inl (cI, 2, .inl nu)), (p4, .inl (cI, 2, .inl ma))]) (wr := [(g0, .inr (3, [.ref g1, .ref g2])), (g1, .inl (cI, 24, .inl old)), (g2, .inl (cI, 24, .inl rw))]) (x_runV (n := 2) ⟨hx, hb, hml, hown, hts⟩ (zX0_choose l D cI cP cS cL p0 p1 p2 p3 p4 co re nu ma t v ht) gX3_follows_X0_choose rfl rfl rfl (by decide +kernel) ⟨by decide, by decide⟩ hN hK hP hD [3, 4, 5, 6, 7] rfl rfl (ci := 0) (q0 := 3) rfl rfl rfl rfl hl.1 (rest := []) (As := [.int (nI t), .int v]) rfl (Nat.le_of_ble_eq_true rfl) dX3_follows_25 ⟨by decide, by decide⟩) hP hD hS hA [3, 4, 5, 6, 7] [0, 1, 2] [0, 1, 2, 3, 4, 5, 6, 7] rfl rfl rfl (by decide) rfl (fun _ => rfl) (fun r25 u H locs hw hP hD hS => ?_)
  subst hw
  refine lv_istore (lv' := [(7, .int (qCho (co t) (re t) (nu t) (ma t) (v))), (6, .int (qCho (co t) (re t) (nu t) (ma t) (old (t * 12 + k)))), (5, .int (nI (t * 12 + k))), (0, .ref g0), (1, .ref p0), (2, .int (nI t)), (3, .int (nI k)), (4, .int v)]) hx hb dX3_follows_28 hl (by decide) rfl (fun ls hl => ?_)
  refine lv_iload hx hb dX3_follows_30 (lv_at hl 1 rfl) ?_
  refine lv_iconst (v := -1) hx hb dX3_follows_32 (by decide) ?_
  refine x_cmp_ne (tgt := 46) hx hb (Iff.rfl) dX3_follows_33 (by decide) (fun c33 => ?_) (fun c33 => ?_)
  · refine lv_iconst (v := nI 0) hx hb dX3_follows_46 (by decide) ?_
    refine lv_istore (lv' := [(8, .int (nI 0)), (7, .int (qCho (co t) (re t) (nu t) (ma t) (v))), (6, .int (qCho (co t) (re t) (nu t) (ma t) (old (t * 12 + k)))), (5, .int (nI (t * 12 + k))), (0, .ref g0), (1, .ref p0), (2, .int (nI t)), (3, .int (nI k)), (4, .int v)]) hx hb dX3_follows_47 hl (by decide) rfl (fun ls hl => ?_)
    refine lv_iload hx hb dX3_follows_49 (lv_at hl 0 rfl) ?_
    refine x_if_eq (tgt := 67) hx hb (nI_z (by omega)) dX3_follows_51 (by decide) (fun c51 => ?_) (fun c51 => ?_)
    rotate_left
    · exact absurd c51 (by omega)
    refine lv_iload hx hb dX3_follows_67 (lv_at hl 0 rfl) ?_
    refine x_if_ne (tgt := 78) hx hb (nI_z (by omega)) dX3_follows_69 (by decide) (fun c69 => ?_) (fun c69 => ?_)
    · exact absurd c69 (by omega)
    refine lv_iload hx hb dX3_follows_72 (lv_at hl 2 rfl) ?_
    refine lv_iconst (v := -1) hx hb dX3_follows_74 (by decide) ?_
    refine x_cmp_eq (tgt := 87) hx hb (Iff.rfl) dX3_follows_75 (by decide) (fun c75 => ?_) (fun c75 => ?_)
    · exact absurd c75 c33
    · refine lv_aload_n hx hb dX3_follows_78 rfl (lv_at hl 4 rfl) ?_
      refine va_get (D := D) (ci := 3) (v := .ref g2) (C := RX3) (T := TX3) (N := 2) hx hb hts kX3_follows_X3 hown hK hP 0 rfl rfl 1 (by decide) (hts _ kX3_follows_f15) (fun _ h9 => h9) rfl dX3_follows_79 ?_
      refine lv_iload hx hb dX3_follows_82 (lv_at hl 3 rfl) ?_
      refine lv_iload hx hb dX3_follows_84 (lv_at hl 1 rfl) ?_
      refine x_ast (g := upd rw (t * 12 + k) (qCho (co t) (re t) (nu t) (ma t) (v))) (ws' := [(g0, .inr (3, [.ref g1, .ref g2])), (g1, .inl (cI, 24, .inl old)), (g2, .inl (cI, 24, .inl (upd rw (t * 12 + k) (qCho (co t) (re t) (nu t) (ma t) (v))))), (p0, .inr (0, [.ref p1, .ref p2, .ref p3, .ref p4])), (p1, .inl (cI, 2, .inl co)), (p2, .inl (cI, 2, .inl re)), (p3, .inl (cI, 2, .inl nu)), (p4, .inl (cI, 2, .inl ma))]) hx hb hK hP hD hS 2 0 rfl rfl (by omega) (by omega) (rfl) rfl dX3_follows_86 (fun H locs hP hD hS => ?_)
      refine lv_aload_n hx hb dX3_follows_87 rfl (lv_at hl 4 rfl) ?_
      refine va_get (D := D) (ci := 3) (v := .ref g1) (C := RX3) (T := TX3) (N := 2) hx hb hts kX3_follows_X3 hown hK hP 0 rfl rfl 0 (by decide) (hts _ kX3_follows_f9) (fun _ h9 => h9) rfl dX3_follows_88 ?_
      refine lv_iload hx hb dX3_follows_91 (lv_at hl 3 rfl) ?_
      refine lv_iload hx hb dX3_follows_93 (lv_at hl 8 rfl) ?_
      refine x_ast (g := upd old (t * 12 + k) v) (ws' := [(g0, .inr (3, [.ref g1, .ref g2])), (g1, .inl (cI, 24, .inl (upd old (t * 12 + k) v))), (g2, .inl (cI, 24, .inl (upd rw (t * 12 + k) (qCho (co t) (re t) (nu t) (ma t) (v))))), (p0, .inr (0, [.ref p1, .ref p2, .ref p3, .ref p4])), (p1, .inl (cI, 2, .inl co)), (p2, .inl (cI, 2, .inl re)), (p3, .inl (cI, 2, .inl nu)), (p4, .inl (cI, 2, .inl ma))]) hx hb hK hP hD hS 1 0 rfl rfl (by omega) (by omega) (rfl) rfl dX3_follows_95 (fun H locs hP hD hS => ?_)
      refine lv_iconst (v := nI 1) hx hb dX3_follows_96 (by decide) ?_
      exact x_ret_z hx hb hrt (by first | exact Or.inl rfl | exact Or.inr rfl) hlk hP hD hS dX3_follows_97 ⟨by decide, by decide⟩ (upd old (t * 12 + k) v, upd rw (t * 12 + k) (qCho (co t) (re t) (nu t) (ma t) (v))) (Or.inr ⟨(by exact fun q => c33 q.1), rfl, rfl, (by exact ite_n (fun q => c33 q.1))⟩) rfl
  · refine lv_iload hx hb dX3_follows_36 (lv_at hl 0 rfl) ?_
    refine lv_iconst (v := -1) hx hb dX3_follows_38 (by decide) ?_
    refine x_cmp_eq (tgt := 46) hx hb (Iff.rfl) dX3_follows_39 (by decide) (fun c39 => ?_) (fun c39 => ?_)
    · refine lv_iconst (v := nI 0) hx hb dX3_follows_46 (by decide) ?_
      refine lv_istore (lv' := [(8, .int (nI 0)), (7, .int (qCho (co t) (re t) (nu t) (ma t) (v))), (6, .int (qCho (co t) (re t) (nu t) (ma t) (old (t * 12 + k)))), (5, .int (nI (t * 12 + k))), (0, .ref g0), (1, .ref p0), (2, .int (nI t)), (3, .int (nI k)), (4, .int v)]) hx hb dX3_follows_47 hl (by decide) rfl (fun ls hl => ?_)
      refine lv_iload hx hb dX3_follows_49 (lv_at hl 0 rfl) ?_
      refine x_if_eq (tgt := 67) hx hb (nI_z (by omega)) dX3_follows_51 (by decide) (fun c51 => ?_) (fun c51 => ?_)
      rotate_left
      · exact absurd c51 (by omega)
      refine lv_iload hx hb dX3_follows_67 (lv_at hl 0 rfl) ?_
      refine x_if_ne (tgt := 78) hx hb (nI_z (by omega)) dX3_follows_69 (by decide) (fun c69 => ?_) (fun c69 => ?_)
      · exact absurd c69 (by omega)
      refine lv_iload hx hb dX3_follows_72 (lv_at hl 2 rfl) ?_
      refine lv_iconst (v := -1) hx hb dX3_follows_74 (by decide) ?_
      refine x_cmp_eq (tgt := 87) hx hb (Iff.rfl) dX3_follows_75 (by decide) (fun c75 => ?_) (fun c75 => ?_)
      · refine lv_aload_n hx hb dX3_follows_87 rfl (lv_at hl 4 rfl) ?_
        refine va_get (D := D) (ci := 3) (v := .ref g1) (C := RX3) (T := TX3) (N := 2) hx hb hts kX3_follows_X3 hown hK hP 0 rfl rfl 0 (by decide) (hts _ kX3_follows_f9) (fun _ h9 => h9) rfl dX3_follows_88 ?_
        refine lv_iload hx hb dX3_follows_91 (lv_at hl 3 rfl) ?_
        refine lv_iload hx hb dX3_follows_93 (lv_at hl 8 rfl) ?_
        refine x_ast (g := upd old (t * 12 + k) v) (ws' := [(g0, .inr (3, [.ref g1, .ref g2])), (g1, .inl (cI, 24, .inl (upd old (t * 12 + k) v))), (g2, .inl (cI, 24, .inl rw)), (p0, .inr (0, [.ref p1, .ref p2, .ref p3, .ref p4])), (p1, .inl (cI, 2, .inl co)), (p2, .inl (cI, 2, .inl re)), (p3, .inl (cI, 2, .inl nu)), (p4, .inl (cI, 2, .inl ma))]) hx hb hK hP hD hS 1 0 rfl rfl (by omega) (by omega) (rfl) rfl dX3_follows_95 (fun H locs hP hD hS => ?_)
        refine lv_iconst (v := nI 1) hx hb dX3_follows_96 (by decide) ?_
        exact x_ret_z hx hb hrt (by first | exact Or.inl rfl | exact Or.inr rfl) hlk hP hD hS dX3_follows_97 ⟨by decide, by decide⟩ (upd old (t * 12 + k) v, rw) (Or.inr ⟨(by exact fun q => q.2.1 c39), rfl, rfl, (by exact ite_y ⟨c33, c39⟩)⟩) rfl
      · exact absurd c33 c75
    · refine lv_iconst (v := nI 1) hx hb dX3_follows_42 (by decide) ?_
      refine lv_goto (tgt := 47) hx hb dX3_follows_43 (by decide) ?_
      refine lv_istore (lv' := [(8, .int (nI 1)), (7, .int (qCho (co t) (re t) (nu t) (ma t) (v))), (6, .int (qCho (co t) (re t) (nu t) (ma t) (old (t * 12 + k)))), (5, .int (nI (t * 12 + k))), (0, .ref g0), (1, .ref p0), (2, .int (nI t)), (3, .int (nI k)), (4, .int v)]) hx hb dX3_follows_47 hl (by decide) rfl (fun ls hl => ?_)
      refine lv_iload hx hb dX3_follows_49 (lv_at hl 0 rfl) ?_
      refine x_if_eq (tgt := 67) hx hb (nI_z (by omega)) dX3_follows_51 (by decide) (fun c51 => ?_) (fun c51 => ?_)
      · exact absurd c51 (by omega)
      refine lv_aload_n hx hb dX3_follows_54 rfl (lv_at hl 4 rfl) ?_
      refine va_get (D := D) (ci := 3) (v := .ref g2) (C := RX3) (T := TX3) (N := 2) hx hb hts kX3_follows_X3 hown hK hP 0 rfl rfl 1 (by decide) (hts _ kX3_follows_f15) (fun _ h9 => h9) rfl dX3_follows_55 ?_
      refine lv_iload hx hb dX3_follows_58 (lv_at hl 3 rfl) ?_
      refine x_ald (v := rw (t * 12 + k)) hx hb hK hP 2 0 rfl rfl (by omega) (by omega) rfl dX3_follows_60 ?_
      refine lv_iconst (v := -1) hx hb dX3_follows_61 (by decide) ?_
      refine x_cmp_eq (tgt := 67) hx hb (Iff.rfl) dX3_follows_62 (by decide) (fun c62 => ?_) (fun c62 => ?_)
      · refine lv_iload hx hb dX3_follows_67 (lv_at hl 0 rfl) ?_
        refine x_if_ne (tgt := 78) hx hb (nI_z (by omega)) dX3_follows_69 (by decide) (fun c69 => ?_) (fun c69 => ?_)
        rotate_left
        · exact absurd c69 (by omega)
        refine lv_aload_n hx hb dX3_follows_78 rfl (lv_at hl 4 rfl) ?_
        refine va_get (D := D) (ci := 3) (v := .ref g2) (C := RX3) (T := TX3) (N := 2) hx hb hts kX3_follows_X3 hown hK hP 0 rfl rfl 1 (by decide) (hts _ kX3_follows_f15) (fun _ h9 => h9) rfl dX3_follows_79 ?_
        refine lv_iload hx hb dX3_follows_82 (lv_at hl 3 rfl) ?_
        refine lv_iload hx hb dX3_follows_84 (lv_at hl 1 rfl) ?_
        refine x_ast (g := upd rw (t * 12 + k) (qCho (co t) (re t) (nu t) (ma t) (v))) (ws' := [(g0, .inr (3, [.ref g1, .ref g2])), (g1, .inl (cI, 24, .inl old)), (g2, .inl (cI, 24, .inl (upd rw (t * 12 + k) (qCho (co t) (re t) (nu t) (ma t) (v))))), (p0, .inr (0, [.ref p1, .ref p2, .ref p3, .ref p4])), (p1, .inl (cI, 2, .inl co)), (p2, .inl (cI, 2, .inl re)), (p3, .inl (cI, 2, .inl nu)), (p4, .inl (cI, 2, .inl ma))]) hx hb hK hP hD hS 2 0 rfl rfl (by omega) (by omega) (rfl) rfl dX3_follows_86 (fun H locs hP hD hS => ?_)
        refine lv_aload_n hx hb dX3_follows_87 rfl (lv_at hl 4 rfl) ?_
        refine va_get (D := D) (ci := 3) (v := .ref g1) (C := RX3) (T := TX3) (N := 2) hx hb hts kX3_follows_X3 hown hK hP 0 rfl rfl 0 (by decide) (hts _ kX3_follows_f9) (fun _ h9 => h9) rfl dX3_follows_88 ?_
        refine lv_iload hx hb dX3_follows_91 (lv_at hl 3 rfl) ?_
        refine lv_iload hx hb dX3_follows_93 (lv_at hl 8 rfl) ?_
        refine x_ast (g := upd old (t * 12 + k) v) (ws' := [(g0, .inr (3, [.ref g1, .ref g2])), (g1, .inl (cI, 24, .inl (upd old (t * 12 + k) v))), (g2, .inl (cI, 24, .inl (upd rw (t * 12 + k) (qCho (co t) (re t) (nu t) (ma t) (v))))), (p0, .inr (0, [.ref p1, .ref p2, .ref p3, .ref p4])), (p1, .inl (cI, 2, .inl co)), (p2, .inl (cI, 2, .inl re)), (p3, .inl (cI, 2, .inl nu)), (p4, .inl (cI, 2, .inl ma))]) hx hb hK hP hD hS 1 0 rfl rfl (by omega) (by omega) (rfl) rfl dX3_follows_95 (fun H locs hP hD hS => ?_)
        refine lv_iconst (v := nI 1) hx hb dX3_follows_96 (by decide) ?_
        exact x_ret_z hx hb hrt (by first | exact Or.inl rfl | exact Or.inr rfl) hlk hP hD hS dX3_follows_97 ⟨by decide, by decide⟩ (upd old (t * 12 + k) v, upd rw (t * 12 + k) (qCho (co t) (re t) (nu t) (ma t) (v))) (Or.inr ⟨(by exact fun q => q.2.2 c62), rfl, rfl, (by exact ite_n (fun q => c39 q.2))⟩) rfl
      · refine lv_iconst (v := nI 0) hx hb dX3_follows_65 (by decide) ?_
        exact x_ret_z hx hb hrt (by first | exact Or.inl rfl | exact Or.inr rfl) hlk hP hD hS dX3_follows_66 ⟨by decide, by decide⟩ (old, rw) (Or.inl ⟨⟨c33, c39, c62⟩, rfl, rfl, rfl⟩) rfl

set_option maxHeartbeats 4000000 in
set_option maxRecDepth 100000 in
theorem zX3_takeAll (l : Launch) (D : va_G) (cI cP cS cL : ClassId) (g0 g1 g2 p0 p1 p2 p3 p4 : Nat) (old rw co re nu ma : Nat → Int32) (t : Nat) (ht : t < 2) : xMv l yX3_takeAll wsX3_takeAll (rmD 3 0 0) D [(cI, .int), (cP, .object RX0), (cS, .object RX2), (cL, .long)] [.ref g0, .ref p0, .int (nI t)] [(g0, .inr (3, [.ref g1, .ref g2])), (g1, .inl (cI, 24, .inl old)), (g2, .inl (cI, 24, .inl rw)), (p0, .inr (0, [.ref p1, .ref p2, .ref p3, .ref p4])), (p1, .inl (cI, 2, .inl co)), (p2, .inl (cI, 2, .inl re)), (p3, .inl (cI, 2, .inl nu)), (p4, .inl (cI, 2, .inl ma))] (fun (u : Unit) => True) (fun (u : Unit) => [(g0, .inr (3, [.ref g1, .ref g2])), (g1, .inl (cI, 24, .inl (qFill old (t * 12) 12 (-1)))), (g2, .inl (cI, 24, .inl (qTaR old rw (co t) (re t) (nu t) (ma t) (t * 12) 12))), (p0, .inr (0, [.ref p1, .ref p2, .ref p3, .ref p4])), (p1, .inl (cI, 2, .inl co)), (p2, .inl (cI, 2, .inl re)), (p3, .inl (cI, 2, .inl nu)), (p4, .inl (cI, 2, .inl ma))]) 0 0 := by
  refine xe_v (cc := cX3_takeAll) (maxL := 4) (ret := none) (by decide) rfl (Nat.le_of_ble_eq_true rfl) ?_
  intro zp ze s zm below meth zc A ls B
  obtain ⟨hx, hb, hml, hrt, hts, hown, hnm, hlk, hK, hP, hD, hA, hS, hN, hl⟩ := B
  have hown : s.vm.findClass RX3 = some zm.cls := hown
  have hl : lv_has ls 4 [(0, .ref g0), (1, .ref p0), (2, .int (nI t))] := hl
  have hA : ∀ q, s.heap.size ≤ q → A q := hA
  refine lv_iconst (v := nI 0) hx hb dX3_takeAll_0 (by decide) ?_
  refine lv_istore_n (lv' := [(3, .int (nI 0)), (0, .ref g0), (1, .ref p0), (2, .int (nI t))]) hx hb dX3_takeAll_1 rfl hl (by decide) rfl (fun ls hl => ?_)
  refine x_loop (nL := 4) (fun (x : Nat × (Nat → Int32) × (Nat → Int32)) => match x with | (j, o, w) => j ≤ 12 ∧ o = qFill old (t * 12) j (-1) ∧ w = qTaR old rw (co t) (re t) (nu t) (ma t) (t * 12) j) (fun (x : Nat × (Nat → Int32) × (Nat → Int32)) => match x with | (j, o, w) => 12 - j) (fun (x : Nat × (Nat → Int32) × (Nat → Int32)) => match x with | (j, o, w) => [(g0, .inr (3, [.ref g1, .ref g2])), (g1, .inl (cI, 24, .inl o)), (g2, .inl (cI, 24, .inl w)), (p0, .inr (0, [.ref p1, .ref p2, .ref p3, .ref p4])), (p1, .inl (cI, 2, .inl co)), (p2, .inl (cI, 2, .inl re)), (p3, .inl (cI, 2, .inl nu)), (p4, .inl (cI, 2, .inl ma))]) (fun (x : Nat × (Nat → Int32) × (Nat → Int32)) => match x with | (j, o, w) => [(0, .ref g0), (1, .ref p0), (2, .int (nI t)), (3, .int (nI j))]) (fun (x : Nat × (Nat → Int32) × (Nat → Int32)) => match x with | (j, o, w) => []) ?_ (0, old, rw) ⟨by omega, (qFill_0 _ _ _).symm, (qTaR_0 _ _ _ _ _ _ _).symm⟩ hP hD hS (lv_sub hl [1, 2, 3, 0] rfl)
  intro x9 hI2 ih2 H locs ls hP hD hS hl
  obtain ⟨j, o, w⟩ := x9
  have hP : va_P D vwCl [(g0, .inr (3, [.ref g1, .ref g2])), (g1, .inl (cI, 24, .inl o)), (g2, .inl (cI, 24, .inl w)), (p0, .inr (0, [.ref p1, .ref p2, .ref p3, .ref p4])), (p1, .inl (cI, 2, .inl co)), (p2, .inl (cI, 2, .inl re)), (p3, .inl (cI, 2, .inl nu)), (p4, .inl (cI, 2, .inl ma))] H := hP
  have hD : va_D A [(g0, .inr (3, [.ref g1, .ref g2])), (g1, .inl (cI, 24, .inl o)), (g2, .inl (cI, 24, .inl w)), (p0, .inr (0, [.ref p1, .ref p2, .ref p3, .ref p4])), (p1, .inl (cI, 2, .inl co)), (p2, .inl (cI, 2, .inl re)), (p3, .inl (cI, 2, .inl nu)), (p4, .inl (cI, 2, .inl ma))] := hD
  have hl : lv_has ls 4 [(0, .ref g0), (1, .ref p0), (2, .int (nI t)), (3, .int (nI j))] := hl
  obtain ⟨hj, ho, hw0⟩ := hI2
  refine lv_iload_n hx hb dX3_takeAll_2 rfl (lv_at hl 3 rfl) ?_
  refine lv_bipush (v := nI 12) hx hb dX3_takeAll_3 (by decide) ?_
  refine x_cmp_ge (tgt := 23) hx hb (nI_leI (a := 12) (b := j) (by omega) (by omega)) dX3_takeAll_5 (by decide) (fun c5 => ?_) (fun c5 => ?_)
  · obtain rfl : j = 12 := by omega
    subst ho
    subst hw0
    exact x_ret_v hx hb hrt hlk hP hD hS dX3_takeAll_23 ⟨by decide, by decide⟩ () trivial rfl
  · refine lv_aload_n hx hb dX3_takeAll_8 rfl (lv_at hl 0 rfl) ?_
    refine lv_aload_n hx hb dX3_takeAll_9 rfl (lv_at hl 1 rfl) ?_
    refine lv_iload_n hx hb dX3_takeAll_10 rfl (lv_at hl 2 rfl) ?_
    refine lv_iload_n hx hb dX3_takeAll_11 rfl (lv_at hl 3 rfl) ?_
    refine lv_iconst (v := -1) hx hb dX3_takeAll_12 (by decide) ?_
    refine x_calli (w2 := fun (u : (Nat → Int32) × (Nat → Int32)) => match u with | (o1, w1) => [(g0, .inr (3, [.ref g1, .ref g2])), (g1, .inl (cI, 24, .inl o1)), (g2, .inl (cI, 24, .inl w1)), (p0, .inr (0, [.ref p1, .ref p2, .ref p3, .ref p4])), (p1, .inl (cI, 2, .inl co)), (p2, .inl (cI, 2, .inl re)), (p3, .inl (cI, 2, .inl nu)), (p4, .inl (cI, 2, .inl ma))]) (wr := []) (x_runV (n := 4) ⟨hx, hb, hml, hown, hts⟩ (zX3_follows l D cI cP cS cL g0 g1 g2 p0 p1 p2 p3 p4 o w co re nu ma t j ((-1)) ht (by omega)) gX3_takeAll_X3_follows rfl rfl rfl (by decide +kernel) ⟨by decide, by decide⟩ hN hK hP hD [0, 1, 2, 3, 4, 5, 6, 7] rfl rfl (ci := 3) (q0 := 0) rfl rfl rfl rfl hl.1 (rest := []) (As := [.ref p0, .int (nI t), .int (nI j), .int (-1)]) rfl (Nat.le_of_ble_eq_true rfl) dX3_takeAll_13 ⟨by decide, by decide⟩) hP hD hS hA [0, 1, 2, 3, 4, 5, 6, 7] [] [0, 1, 2, 3, 4, 5, 6, 7] rfl rfl rfl (by decide) rfl (fun _ => rfl) (fun r13 u H locs hw hP hD hS => ?_)
    obtain ⟨o1, w1⟩ := u
    have hP : va_P D vwCl [(g0, .inr (3, [.ref g1, .ref g2])), (g1, .inl (cI, 24, .inl o1)), (g2, .inl (cI, 24, .inl w1)), (p0, .inr (0, [.ref p1, .ref p2, .ref p3, .ref p4])), (p1, .inl (cI, 2, .inl co)), (p2, .inl (cI, 2, .inl re)), (p3, .inl (cI, 2, .inl nu)), (p4, .inl (cI, 2, .inl ma))] H := hP
    have hD : va_D A [(g0, .inr (3, [.ref g1, .ref g2])), (g1, .inl (cI, 24, .inl o1)), (g2, .inl (cI, 24, .inl w1)), (p0, .inr (0, [.ref p1, .ref p2, .ref p3, .ref p4])), (p1, .inl (cI, 2, .inl co)), (p2, .inl (cI, 2, .inl re)), (p3, .inl (cI, 2, .inl nu)), (p4, .inl (cI, 2, .inl ma))] := hD
    rcases hw with ⟨hc9, -, -, -⟩ | ⟨-, -, ho1, hw1⟩
    · exact absurd (qCho_m1 _ _ _ _) hc9.2.1
    refine lv_pop hx hb dX3_takeAll_16 rfl ?_
    refine x_iinc (k := 3) (o := 1) (v := j + 1) (lv' := [(3, .int (nI (j + 1))), (0, .ref g0), (1, .ref p0), (2, .int (nI t))]) hx hb dX3_takeAll_17 hl rfl rfl rfl (by decide) rfl (fun ls hl => ?_)
    refine lv_goto (tgt := 2) hx hb dX3_takeAll_20 (by decide) ?_
    exact ih2 (j + 1, o1, w1) ⟨by omega, (qTa_step ho hw0 ho1 hw1).1, (qTa_step ho hw0 ho1 hw1).2⟩ (by show 12 - (j + 1) < 12 - j; omega) _ _ _ hP hD hS (lv_sub hl [1, 2, 3, 0] rfl)

set_option maxRecDepth 20000 in
theorem kX3_applies_X2 : ∀ w ∈ wsX20, w ∈ wsX3_applies := by decide +kernel
set_option maxRecDepth 20000 in
theorem kX3_applies_X1 : ∀ w ∈ wsX10, w ∈ wsX3_applies := by decide +kernel
set_option maxRecDepth 20000 in
theorem kX3_applies_f9 : Cond.fieldLink RX3 9 "RowReplicator$Trial" "oldRows" "[I" ∈ wsX3_applies := by decide +kernel
set_option maxRecDepth 20000 in
theorem kX3_applies_X3 : ∀ w ∈ wsX30, w ∈ wsX3_applies := by decide +kernel
set_option maxRecDepth 20000 in
theorem kX3_applies_a1 : Cond.methodLink RX3 29 arraycopyName ∈ wsX3_applies := by decide +kernel
set_option maxRecDepth 20000 in
theorem kX3_applies_a2 : Cond.native arraycopyName ∈ wsX3_applies := by decide +kernel
set_option maxRecDepth 20000 in
theorem kX3_applies_a3 : Cond.static arraycopyName ∈ wsX3_applies := by decide +kernel
set_option maxRecDepth 20000 in
theorem kX3_applies_a4 : Cond.initialized "java/lang/System" ∈ wsX3_applies := by decide +kernel
set_option maxRecDepth 20000 in
theorem kX3_applies_f15 : Cond.fieldLink RX3 15 "RowReplicator$Trial" "rows" "[I" ∈ wsX3_applies := by decide +kernel
set_option maxHeartbeats 4000000 in
set_option maxRecDepth 100000 in
theorem zX3_applies (l : Launch) (D : va_G) (cI cP cS cL : ClassId) (g0 g1 g2 p0 p1 p2 p3 p4 h0 hr hc ht hk hn hm s0 s1 s2 n cn st sl : Nat) (old rw co re nu ma cc ct ck nr cr sr cp : Nat → Int32) (pu : Option Nat) (hsl : sl < 50) (hcc : cc sl = nI cn) (hcn : cn ≤ 12) (hct : ∀ i, i < cn → ∃ t, t < 2 ∧ ct (sl * 12 + i) = nI t) (hck : ∀ i, i < cn → ck (sl * 12 + i) = -1 ∨ ∃ k, k < 12 ∧ ck (sl * 12 + i) = nI k) : xMi l yX3_applies wsX3_applies (rmD 4 0 0) D [(cI, .int), (cP, .object RX0), (cS, .object RX2), (cL, .long)] [.ref g0, .ref h0, .ref p0, .ref s0] [(g0, .inr (3, [.ref g1, .ref g2])), (g1, .inl (cI, 24, .inl old)), (g2, .inl (cI, 24, .inl rw)), (h0, .inr (1, [.ref hr, .int (nI n), .ref hc, .ref ht, .ref hk, .ref hn, .ref hm])), (hc, .inl (cI, 51, .inl cc)), (ht, .inl (cI, 612, .inl ct)), (hk, .inl (cI, 612, .inl ck)), (hn, .inl (cI, 612, .inl nr)), (hm, .inl (cI, 1224, .inl cr)), (s0, .inr (2, [.ref s1, .ref s2, va_rf pu, .int (nI st), .int (nI sl)])), (s1, .inl (cI, 24, .inl sr)), (s2, .inl (cI, 2, .inl cp)), (p0, .inr (0, [.ref p1, .ref p2, .ref p3, .ref p4])), (p1, .inl (cI, 2, .inl co)), (p2, .inl (cI, 2, .inl re)), (p3, .inl (cI, 2, .inl nu)), (p4, .inl (cI, 2, .inl ma))] (fun (r : Int32) (u : (Nat → Int32) × (Nat → Int32)) => match u with | (o1, w1) => ((r = nI 1 ∧ qAp co re nu ma cp (nI (sl + 1)) ct ck nr (sl * 12) (va_cpy cr old (sl * 24) 0 24) (va_cpy sr rw 0 0 24) cn = some (o1, w1)) ∨ (r = nI 0 ∧ qAp co re nu ma cp (nI (sl + 1)) ct ck nr (sl * 12) (va_cpy cr old (sl * 24) 0 24) (va_cpy sr rw 0 0 24) cn = none))) (fun (u : (Nat → Int32) × (Nat → Int32)) => match u with | (o1, w1) => [(g0, .inr (3, [.ref g1, .ref g2])), (g1, .inl (cI, 24, .inl o1)), (g2, .inl (cI, 24, .inl w1)), (h0, .inr (1, [.ref hr, .int (nI n), .ref hc, .ref ht, .ref hk, .ref hn, .ref hm])), (hc, .inl (cI, 51, .inl cc)), (ht, .inl (cI, 612, .inl ct)), (hk, .inl (cI, 612, .inl ck)), (hn, .inl (cI, 612, .inl nr)), (hm, .inl (cI, 1224, .inl cr)), (s0, .inr (2, [.ref s1, .ref s2, va_rf pu, .int (nI st), .int (nI sl)])), (s1, .inl (cI, 24, .inl sr)), (s2, .inl (cI, 2, .inl cp)), (p0, .inr (0, [.ref p1, .ref p2, .ref p3, .ref p4])), (p1, .inl (cI, 2, .inl co)), (p2, .inl (cI, 2, .inl re)), (p3, .inl (cI, 2, .inl nu)), (p4, .inl (cI, 2, .inl ma))]) 0 0 := by
  refine xe_i (cc := cX3_applies) (maxL := 9) (ret := (some .boolean)) (by decide) rfl (Nat.le_of_ble_eq_true rfl) ?_
  intro zp ze s zm below meth zc A ls B
  obtain ⟨hx, hb, hml, hrt, hts, hown, hnm, hlk, hK, hP, hD, hA, hS, hN, hl⟩ := B
  have hown : s.vm.findClass RX3 = some zm.cls := hown
  have hl : lv_has ls 9 [(0, .ref g0), (1, .ref h0), (2, .ref p0), (3, .ref s0)] := hl
  have hA : ∀ q, s.heap.size ≤ q → A q := hA
  refine lv_aload_n hx hb dX3_applies_0 rfl (lv_at hl 3 rfl) ?_
  refine x_getN (D := D) (ci := 2) (v := .int (nI sl)) (C := RX2) (T := TX2) (N := 5) (ref := "RowReplicator$Subscriber") hx hb hts kX3_applies_X2 hown hN hK hP 9 rfl rfl 4 (by decide) (by decide +kernel) (fun _ h9 => h9) rfl dX3_applies_1 ?_
  refine lv_istore (lv' := [(4, .int (nI sl)), (0, .ref g0), (1, .ref h0), (2, .ref p0), (3, .ref s0)]) hx hb dX3_applies_4 hl (by decide) rfl (fun ls hl => ?_)
  refine lv_aload_n hx hb dX3_applies_6 rfl (lv_at hl 2 rfl) ?_
  refine x_getN (D := D) (ci := 1) (v := .ref hm) (C := RX1) (T := TX1) (N := 7) (ref := "RowReplicator$Publisher") hx hb hts kX3_applies_X1 hown hN hK hP 3 rfl rfl 6 (by decide) (by decide +kernel) (fun _ h9 => h9) rfl dX3_applies_7 ?_
  refine lv_iload hx hb dX3_applies_10 (lv_at hl 0 rfl) ?_
  refine lv_bipush (v := nI 24) hx hb dX3_applies_12 (by decide) ?_
  refine x_mul (k := sl * 24) hx hb dX3_applies_14 rfl ?_
  refine lv_aload_n hx hb dX3_applies_15 rfl (lv_at hl 1 rfl) ?_
  refine va_get (D := D) (ci := 3) (v := .ref g1) (C := RX3) (T := TX3) (N := 2) hx hb hts kX3_applies_X3 hown hK hP 0 rfl rfl 0 (by decide) (hts _ kX3_applies_f9) (fun _ h9 => h9) rfl dX3_applies_16 ?_
  refine lv_iconst (v := nI 0) hx hb dX3_applies_19 (by decide) ?_
  refine lv_bipush (v := nI 24) hx hb dX3_applies_20 (by decide) ?_
  refine x_cpy (g := va_cpy cr old (sl * 24) 0 24) (ws' := [(g0, .inr (3, [.ref g1, .ref g2])), (g1, .inl (cI, 24, .inl (va_cpy cr old (sl * 24) 0 24))), (g2, .inl (cI, 24, .inl rw)), (h0, .inr (1, [.ref hr, .int (nI n), .ref hc, .ref ht, .ref hk, .ref hn, .ref hm])), (hc, .inl (cI, 51, .inl cc)), (ht, .inl (cI, 612, .inl ct)), (hk, .inl (cI, 612, .inl ck)), (hn, .inl (cI, 612, .inl nr)), (hm, .inl (cI, 1224, .inl cr)), (s0, .inr (2, [.ref s1, .ref s2, va_rf pu, .int (nI st), .int (nI sl)])), (s1, .inl (cI, 24, .inl sr)), (s2, .inl (cI, 2, .inl cp)), (p0, .inr (0, [.ref p1, .ref p2, .ref p3, .ref p4])), (p1, .inl (cI, 2, .inl co)), (p2, .inl (cI, 2, .inl re)), (p3, .inl (cI, 2, .inl nu)), (p4, .inl (cI, 2, .inl ma))]) hx hb (hml.trans hl.1.symm) hown (hts _ kX3_applies_a1) (hts _ kX3_applies_a2) (hts _ kX3_applies_a3) (hts _ kX3_applies_a4) hK hP hD hS 8 1 0 0 rfl rfl rfl rfl (by omega) (by omega) (by omega) (by omega) (by omega) (rfl) rfl (by decide) (by decide) dX3_applies_22 (fun H locs hP hD hS => ?_)
  refine lv_aload_n hx hb dX3_applies_25 rfl (lv_at hl 4 rfl) ?_
  refine x_getN (D := D) (ci := 2) (v := .ref s1) (C := RX2) (T := TX2) (N := 5) (ref := "RowReplicator$Subscriber") hx hb hts kX3_applies_X2 hown hN hK hP 9 rfl rfl 0 (by decide) (by decide +kernel) (fun _ h9 => h9) rfl dX3_applies_26 ?_
  refine lv_iconst (v := nI 0) hx hb dX3_applies_29 (by decide) ?_
  refine lv_aload_n hx hb dX3_applies_30 rfl (lv_at hl 1 rfl) ?_
  refine va_get (D := D) (ci := 3) (v := .ref g2) (C := RX3) (T := TX3) (N := 2) hx hb hts kX3_applies_X3 hown hK hP 0 rfl rfl 1 (by decide) (hts _ kX3_applies_f15) (fun _ h9 => h9) rfl dX3_applies_31 ?_
  refine lv_iconst (v := nI 0) hx hb dX3_applies_34 (by decide) ?_
  refine lv_bipush (v := nI 24) hx hb dX3_applies_35 (by decide) ?_
  refine x_cpy (g := va_cpy sr rw 0 0 24) (ws' := [(g0, .inr (3, [.ref g1, .ref g2])), (g1, .inl (cI, 24, .inl (va_cpy cr old (sl * 24) 0 24))), (g2, .inl (cI, 24, .inl (va_cpy sr rw 0 0 24))), (h0, .inr (1, [.ref hr, .int (nI n), .ref hc, .ref ht, .ref hk, .ref hn, .ref hm])), (hc, .inl (cI, 51, .inl cc)), (ht, .inl (cI, 612, .inl ct)), (hk, .inl (cI, 612, .inl ck)), (hn, .inl (cI, 612, .inl nr)), (hm, .inl (cI, 1224, .inl cr)), (s0, .inr (2, [.ref s1, .ref s2, va_rf pu, .int (nI st), .int (nI sl)])), (s1, .inl (cI, 24, .inl sr)), (s2, .inl (cI, 2, .inl cp)), (p0, .inr (0, [.ref p1, .ref p2, .ref p3, .ref p4])), (p1, .inl (cI, 2, .inl co)), (p2, .inl (cI, 2, .inl re)), (p3, .inl (cI, 2, .inl nu)), (p4, .inl (cI, 2, .inl ma))]) hx hb (hml.trans hl.1.symm) hown (hts _ kX3_applies_a1) (hts _ kX3_applies_a2) (hts _ kX3_applies_a3) (hts _ kX3_applies_a4) hK hP hD hS 10 2 0 0 rfl rfl rfl rfl (by omega) (by omega) (by omega) (by omega) (by omega) (rfl) rfl (by decide) (by decide) dX3_applies_37 (fun H locs hP hD hS => ?_)
  refine lv_iconst (v := nI 0) hx hb dX3_applies_40 (by decide) ?_
  refine lv_istore (lv' := [(5, .int (nI 0)), (4, .int (nI sl)), (0, .ref g0), (1, .ref h0), (2, .ref p0), (3, .ref s0)]) hx hb dX3_applies_41 hl (by decide) rfl (fun ls hl => ?_)
  refine x_loop (nL := 9) (fun (x : Nat × (Nat → Int32) × (Nat → Int32)) => match x with | (i, o, w) => i ≤ cn ∧ qAp co re nu ma cp (nI (sl + 1)) ct ck nr (sl * 12) (va_cpy cr old (sl * 24) 0 24) (va_cpy sr rw 0 0 24) i = some (o, w)) (fun (x : Nat × (Nat → Int32) × (Nat → Int32)) => match x with | (i, o, w) => cn - i) (fun (x : Nat × (Nat → Int32) × (Nat → Int32)) => match x with | (i, o, w) => [(g0, .inr (3, [.ref g1, .ref g2])), (g1, .inl (cI, 24, .inl o)), (g2, .inl (cI, 24, .inl w)), (h0, .inr (1, [.ref hr, .int (nI n), .ref hc, .ref ht, .ref hk, .ref hn, .ref hm])), (hc, .inl (cI, 51, .inl cc)), (ht, .inl (cI, 612, .inl ct)), (hk, .inl (cI, 612, .inl ck)), (hn, .inl (cI, 612, .inl nr)), (hm, .inl (cI, 1224, .inl cr)), (s0, .inr (2, [.ref s1, .ref s2, va_rf pu, .int (nI st), .int (nI sl)])), (s1, .inl (cI, 24, .inl sr)), (s2, .inl (cI, 2, .inl cp)), (p0, .inr (0, [.ref p1, .ref p2, .ref p3, .ref p4])), (p1, .inl (cI, 2, .inl co)), (p2, .inl (cI, 2, .inl re)), (p3, .inl (cI, 2, .inl nu)), (p4, .inl (cI, 2, .inl ma))]) (fun (x : Nat × (Nat → Int32) × (Nat → Int32)) => match x with | (i, o, w) => [(0, .ref g0), (1, .ref h0), (2, .ref p0), (3, .ref s0), (4, .int (nI sl)), (5, .int (nI i))]) (fun (x : Nat × (Nat → Int32) × (Nat → Int32)) => match x with | (i, o, w) => []) ?_ (0, va_cpy cr old (sl * 24) 0 24, va_cpy sr rw 0 0 24) ⟨by omega, rfl⟩ hP hD hS (lv_sub hl [2, 3, 4, 5, 1, 0] rfl)
  intro x9 hI43 ih43 H locs ls hP hD hS hl
  obtain ⟨i, o, w⟩ := x9
  have hP : va_P D vwCl [(g0, .inr (3, [.ref g1, .ref g2])), (g1, .inl (cI, 24, .inl o)), (g2, .inl (cI, 24, .inl w)), (h0, .inr (1, [.ref hr, .int (nI n), .ref hc, .ref ht, .ref hk, .ref hn, .ref hm])), (hc, .inl (cI, 51, .inl cc)), (ht, .inl (cI, 612, .inl ct)), (hk, .inl (cI, 612, .inl ck)), (hn, .inl (cI, 612, .inl nr)), (hm, .inl (cI, 1224, .inl cr)), (s0, .inr (2, [.ref s1, .ref s2, va_rf pu, .int (nI st), .int (nI sl)])), (s1, .inl (cI, 24, .inl sr)), (s2, .inl (cI, 2, .inl cp)), (p0, .inr (0, [.ref p1, .ref p2, .ref p3, .ref p4])), (p1, .inl (cI, 2, .inl co)), (p2, .inl (cI, 2, .inl re)), (p3, .inl (cI, 2, .inl nu)), (p4, .inl (cI, 2, .inl ma))] H := hP
  have hD : va_D A [(g0, .inr (3, [.ref g1, .ref g2])), (g1, .inl (cI, 24, .inl o)), (g2, .inl (cI, 24, .inl w)), (h0, .inr (1, [.ref hr, .int (nI n), .ref hc, .ref ht, .ref hk, .ref hn, .ref hm])), (hc, .inl (cI, 51, .inl cc)), (ht, .inl (cI, 612, .inl ct)), (hk, .inl (cI, 612, .inl ck)), (hn, .inl (cI, 612, .inl nr)), (hm, .inl (cI, 1224, .inl cr)), (s0, .inr (2, [.ref s1, .ref s2, va_rf pu, .int (nI st), .int (nI sl)])), (s1, .inl (cI, 24, .inl sr)), (s2, .inl (cI, 2, .inl cp)), (p0, .inr (0, [.ref p1, .ref p2, .ref p3, .ref p4])), (p1, .inl (cI, 2, .inl co)), (p2, .inl (cI, 2, .inl re)), (p3, .inl (cI, 2, .inl nu)), (p4, .inl (cI, 2, .inl ma))] := hD
  have hl : lv_has ls 9 [(0, .ref g0), (1, .ref h0), (2, .ref p0), (3, .ref s0), (4, .int (nI sl)), (5, .int (nI i))] := hl
  obtain ⟨hi, hq⟩ := hI43
  refine lv_iload hx hb dX3_applies_43 (lv_at hl 5 rfl) ?_
  refine lv_aload_n hx hb dX3_applies_45 rfl (lv_at hl 1 rfl) ?_
  refine x_getN (D := D) (ci := 1) (v := .ref hc) (C := RX1) (T := TX1) (N := 7) (ref := "RowReplicator$Publisher") hx hb hts kX3_applies_X1 hown hN hK hP 3 rfl rfl 2 (by decide) (by decide +kernel) (fun _ h9 => h9) rfl dX3_applies_46 ?_
  refine lv_iload hx hb dX3_applies_49 (lv_at hl 4 rfl) ?_
  refine x_ald (v := nI cn) hx hb hK hP 4 0 rfl rfl (by omega) (by omega) hcc dX3_applies_51 ?_
  refine x_cmp_ge (tgt := 142) hx hb (nI_leI (a := cn) (b := i) (by omega) (by omega)) dX3_applies_52 (by decide) (fun c52 => ?_) (fun c52 => ?_)
  · refine lv_iconst (v := nI 1) hx hb dX3_applies_142 (by decide) ?_
    exact x_ret_z hx hb hrt (by first | exact Or.inl rfl | exact Or.inr rfl) hlk hP hD hS dX3_applies_143 ⟨by decide, by decide⟩ (o, w) (Or.inl ⟨rfl, (by rw [show cn = i by omega]; exact hq)⟩) rfl
  · obtain ⟨t, ht9, et⟩ := hct i (by omega)
    refine lv_iload hx hb dX3_applies_55 (lv_at hl 4 rfl) ?_
    refine lv_bipush (v := nI 12) hx hb dX3_applies_57 (by decide) ?_
    refine x_mul (k := sl * 12) hx hb dX3_applies_59 rfl ?_
    refine lv_iload hx hb dX3_applies_60 (lv_at hl 5 rfl) ?_
    refine x_add (k := (sl * 12) + i) hx hb dX3_applies_62 rfl ?_
    refine lv_istore (lv' := [(6, .int (nI ((sl * 12) + i))), (0, .ref g0), (1, .ref h0), (2, .ref p0), (3, .ref s0), (4, .int (nI sl)), (5, .int (nI i))]) hx hb dX3_applies_63 hl (by decide) rfl (fun ls hl => ?_)
    refine lv_aload_n hx hb dX3_applies_65 rfl (lv_at hl 2 rfl) ?_
    refine x_getN (D := D) (ci := 1) (v := .ref ht) (C := RX1) (T := TX1) (N := 7) (ref := "RowReplicator$Publisher") hx hb hts kX3_applies_X1 hown hN hK hP 3 rfl rfl 3 (by decide) (by decide +kernel) (fun _ h9 => h9) rfl dX3_applies_66 ?_
    refine lv_iload hx hb dX3_applies_69 (lv_at hl 0 rfl) ?_
    refine x_ald (v := nI t) hx hb hK hP 5 0 rfl rfl (by omega) (by omega) et dX3_applies_71 ?_
    refine lv_istore (lv' := [(7, .int (nI t)), (6, .int (nI ((sl * 12) + i))), (0, .ref g0), (1, .ref h0), (2, .ref p0), (3, .ref s0), (4, .int (nI sl)), (5, .int (nI i))]) hx hb dX3_applies_72 hl (by decide) rfl (fun ls hl => ?_)
    refine lv_aload_n hx hb dX3_applies_74 rfl (lv_at hl 3 rfl) ?_
    refine x_getN (D := D) (ci := 1) (v := .ref hk) (C := RX1) (T := TX1) (N := 7) (ref := "RowReplicator$Publisher") hx hb hts kX3_applies_X1 hown hN hK hP 3 rfl rfl 4 (by decide) (by decide +kernel) (fun _ h9 => h9) rfl dX3_applies_75 ?_
    refine lv_iload hx hb dX3_applies_78 (lv_at hl 1 rfl) ?_
    refine x_ald (v := ck ((sl * 12) + i)) hx hb hK hP 6 0 rfl rfl (by omega) (by omega) rfl dX3_applies_80 ?_
    refine lv_istore (lv' := [(8, .int (ck ((sl * 12) + i))), (7, .int (nI t)), (6, .int (nI ((sl * 12) + i))), (0, .ref g0), (1, .ref h0), (2, .ref p0), (3, .ref s0), (4, .int (nI sl)), (5, .int (nI i))]) hx hb dX3_applies_81 hl (by decide) rfl (fun ls hl => ?_)
    refine lv_aload_n hx hb dX3_applies_83 rfl (lv_at hl 6 rfl) ?_
    refine lv_iload hx hb dX3_applies_84 (lv_at hl 1 rfl) ?_
    refine lv_iload hx hb dX3_applies_86 (lv_at hl 7 rfl) ?_
    refine lv_iconst (v := nI 1) hx hb dX3_applies_88 (by decide) ?_
    refine x_add (k := sl + 1) hx hb dX3_applies_89 rfl ?_
    refine x_calli (w2 := fun (u : Unit) => [(g0, .inr (3, [.ref g1, .ref g2])), (g1, .inl (cI, 24, .inl o)), (g2, .inl (cI, 24, .inl w)), (h0, .inr (1, [.ref hr, .int (nI n), .ref hc, .ref ht, .ref hk, .ref hn, .ref hm])), (hc, .inl (cI, 51, .inl cc)), (ht, .inl (cI, 612, .inl ct)), (hk, .inl (cI, 612, .inl ck)), (hn, .inl (cI, 612, .inl nr)), (hm, .inl (cI, 1224, .inl cr)), (s0, .inr (2, [.ref s1, .ref s2, va_rf pu, .int (nI st), .int (nI sl)])), (s1, .inl (cI, 24, .inl sr)), (s2, .inl (cI, 2, .inl cp)), (p0, .inr (0, [.ref p1, .ref p2, .ref p3, .ref p4])), (p1, .inl (cI, 2, .inl co)), (p2, .inl (cI, 2, .inl re)), (p3, .inl (cI, 2, .inl nu)), (p4, .inl (cI, 2, .inl ma))]) (wr := [(g0, .inr (3, [.ref g1, .ref g2])), (g1, .inl (cI, 24, .inl o)), (g2, .inl (cI, 24, .inl w)), (h0, .inr (1, [.ref hr, .int (nI n), .ref hc, .ref ht, .ref hk, .ref hn, .ref hm])), (hc, .inl (cI, 51, .inl cc)), (ht, .inl (cI, 612, .inl ct)), (hk, .inl (cI, 612, .inl ck)), (hn, .inl (cI, 612, .inl nr)), (hm, .inl (cI, 1224, .inl cr)), (s1, .inl (cI, 24, .inl sr)), (p0, .inr (0, [.ref p1, .ref p2, .ref p3, .ref p4])), (p1, .inl (cI, 2, .inl co)), (p2, .inl (cI, 2, .inl re)), (p3, .inl (cI, 2, .inl nu)), (p4, .inl (cI, 2, .inl ma))]) (x_runV (n := 2) ⟨hx, hb, hml, hown, hts⟩ (zX2_takesChangesOf l D cI cP cS cL s0 s1 s2 pu st sl cp t (nI (sl + 1)) ht9) gX3_applies_X2_takesChangesOf rfl rfl rfl (by decide +kernel) ⟨by decide, by decide⟩ hN hK hP hD [9, 11] rfl rfl (ci := 2) (q0 := 9) rfl rfl rfl rfl hl.1 (rest := []) (As := [.int (nI t), .int (nI (sl + 1))]) rfl (Nat.le_of_ble_eq_true rfl) dX3_applies_90 ⟨by decide, by decide⟩) hP hD hS hA [9, 11] [0, 1, 2, 3, 4, 5, 6, 7, 8, 10, 12, 13, 14, 15, 16] [0, 1, 2, 3, 4, 5, 6, 7, 8, 15, 9, 16, 10, 11, 12, 13, 14] rfl rfl rfl (by decide) rfl (fun _ => rfl) (fun r90 u H locs hw hP hD hS => ?_)
    subst hw
    refine x_if_ne (tgt := 99) hx hb (bI_0 _) dX3_applies_93 (by decide) (fun c93 => ?_) (fun c93 => ?_)
    · refine lv_iload hx hb dX3_applies_99 (lv_at hl 0 rfl) ?_
      refine lv_iconst (v := -1) hx hb dX3_applies_101 (by decide) ?_
      refine x_cmp_ne (tgt := 115) hx hb (Iff.rfl) dX3_applies_102 (by decide) (fun c102 => ?_) (fun c102 => ?_)
      · obtain ⟨k, hk9, ek⟩ := (hck i (by omega)).resolve_left c102
        rw [ek] at hl
        refine lv_aload_n hx hb dX3_applies_115 rfl (lv_at hl 3 rfl) ?_
        refine lv_aload_n hx hb dX3_applies_116 rfl (lv_at hl 5 rfl) ?_
        refine lv_iload hx hb dX3_applies_117 (lv_at hl 1 rfl) ?_
        refine lv_iload hx hb dX3_applies_119 (lv_at hl 0 rfl) ?_
        refine lv_aload_n hx hb dX3_applies_121 rfl (lv_at hl 4 rfl) ?_
        refine x_getN (D := D) (ci := 1) (v := .ref hn) (C := RX1) (T := TX1) (N := 7) (ref := "RowReplicator$Publisher") hx hb hts kX3_applies_X1 hown hN hK hP 3 rfl rfl 5 (by decide) (by decide +kernel) (fun _ h9 => h9) rfl dX3_applies_122 ?_
        refine lv_iload hx hb dX3_applies_125 (lv_at hl 2 rfl) ?_
        refine x_ald (v := nr ((sl * 12) + i)) hx hb hK hP 7 0 rfl rfl (by omega) (by omega) rfl dX3_applies_127 ?_
        refine x_calli (w2 := fun (u : (Nat → Int32) × (Nat → Int32)) => match u with | (o1, w1) => [(g0, .inr (3, [.ref g1, .ref g2])), (g1, .inl (cI, 24, .inl o1)), (g2, .inl (cI, 24, .inl w1)), (h0, .inr (1, [.ref hr, .int (nI n), .ref hc, .ref ht, .ref hk, .ref hn, .ref hm])), (hc, .inl (cI, 51, .inl cc)), (ht, .inl (cI, 612, .inl ct)), (hk, .inl (cI, 612, .inl ck)), (hn, .inl (cI, 612, .inl nr)), (hm, .inl (cI, 1224, .inl cr)), (s0, .inr (2, [.ref s1, .ref s2, va_rf pu, .int (nI st), .int (nI sl)])), (s1, .inl (cI, 24, .inl sr)), (s2, .inl (cI, 2, .inl cp)), (p0, .inr (0, [.ref p1, .ref p2, .ref p3, .ref p4])), (p1, .inl (cI, 2, .inl co)), (p2, .inl (cI, 2, .inl re)), (p3, .inl (cI, 2, .inl nu)), (p4, .inl (cI, 2, .inl ma))]) (wr := [(h0, .inr (1, [.ref hr, .int (nI n), .ref hc, .ref ht, .ref hk, .ref hn, .ref hm])), (hc, .inl (cI, 51, .inl cc)), (ht, .inl (cI, 612, .inl ct)), (hk, .inl (cI, 612, .inl ck)), (hn, .inl (cI, 612, .inl nr)), (hm, .inl (cI, 1224, .inl cr)), (s0, .inr (2, [.ref s1, .ref s2, va_rf pu, .int (nI st), .int (nI sl)])), (s1, .inl (cI, 24, .inl sr)), (s2, .inl (cI, 2, .inl cp))]) (x_runV (n := 4) ⟨hx, hb, hml, hown, hts⟩ (zX3_follows l D cI cP cS cL g0 g1 g2 p0 p1 p2 p3 p4 o w co re nu ma t k ((nr (sl * 12 + i))) ht9 hk9) gX3_applies_X3_follows rfl rfl rfl (by decide +kernel) ⟨by decide, by decide⟩ hN hK hP hD [0, 1, 2, 12, 13, 14, 15, 16] rfl rfl (ci := 3) (q0 := 0) rfl rfl rfl rfl hl.1 (rest := []) (As := [.ref p0, .int (nI t), .int (nI k), .int (nr ((sl * 12) + i))]) rfl (Nat.le_of_ble_eq_true rfl) dX3_applies_128 ⟨by decide, by decide⟩) hP hD hS hA [0, 1, 2, 12, 13, 14, 15, 16] [3, 4, 5, 6, 7, 8, 9, 10, 11] [9, 10, 11, 0, 1, 2, 3, 4, 5, 6, 7, 8, 12, 13, 14, 15, 16] rfl rfl rfl (by decide) rfl (fun _ => rfl) (fun r128 u H locs hw hP hD hS => ?_)
        obtain ⟨o1, w1⟩ := u
        have hP : va_P D vwCl [(g0, .inr (3, [.ref g1, .ref g2])), (g1, .inl (cI, 24, .inl o1)), (g2, .inl (cI, 24, .inl w1)), (h0, .inr (1, [.ref hr, .int (nI n), .ref hc, .ref ht, .ref hk, .ref hn, .ref hm])), (hc, .inl (cI, 51, .inl cc)), (ht, .inl (cI, 612, .inl ct)), (hk, .inl (cI, 612, .inl ck)), (hn, .inl (cI, 612, .inl nr)), (hm, .inl (cI, 1224, .inl cr)), (s0, .inr (2, [.ref s1, .ref s2, va_rf pu, .int (nI st), .int (nI sl)])), (s1, .inl (cI, 24, .inl sr)), (s2, .inl (cI, 2, .inl cp)), (p0, .inr (0, [.ref p1, .ref p2, .ref p3, .ref p4])), (p1, .inl (cI, 2, .inl co)), (p2, .inl (cI, 2, .inl re)), (p3, .inl (cI, 2, .inl nu)), (p4, .inl (cI, 2, .inl ma))] H := hP
        have hD : va_D A [(g0, .inr (3, [.ref g1, .ref g2])), (g1, .inl (cI, 24, .inl o1)), (g2, .inl (cI, 24, .inl w1)), (h0, .inr (1, [.ref hr, .int (nI n), .ref hc, .ref ht, .ref hk, .ref hn, .ref hm])), (hc, .inl (cI, 51, .inl cc)), (ht, .inl (cI, 612, .inl ct)), (hk, .inl (cI, 612, .inl ck)), (hn, .inl (cI, 612, .inl nr)), (hm, .inl (cI, 1224, .inl cr)), (s0, .inr (2, [.ref s1, .ref s2, va_rf pu, .int (nI st), .int (nI sl)])), (s1, .inl (cI, 24, .inl sr)), (s2, .inl (cI, 2, .inl cp)), (p0, .inr (0, [.ref p1, .ref p2, .ref p3, .ref p4])), (p1, .inl (cI, 2, .inl co)), (p2, .inl (cI, 2, .inl re)), (p3, .inl (cI, 2, .inl nu)), (p4, .inl (cI, 2, .inl ma))] := hD
        have e9 := qAp_s hq ht9 et
        rw [qAp1_k c93 hk9 ek] at e9
        refine x_if_ne (tgt := 136) hx hb (Iff.rfl) dX3_applies_131 (by decide) (fun c131 => ?_) (fun c131 => ?_)
        · rcases hw with ⟨-, z9, -, -⟩ | ⟨hc9, -, ho1, hw1⟩
          · exact absurd z9 (by assumption)
          rw [if_neg hc9, ← ho1, ← hw1] at e9
          refine x_iinc (k := 8) (o := 1) (v := i + 1) (lv' := [(5, .int (nI (i + 1))), (8, .int (nI k)), (7, .int (nI t)), (6, .int (nI ((sl * 12) + i))), (0, .ref g0), (1, .ref h0), (2, .ref p0), (3, .ref s0), (4, .int (nI sl))]) hx hb dX3_applies_136 hl rfl rfl rfl (by decide) rfl (fun ls hl => ?_)
          refine lv_goto (tgt := 43) hx hb dX3_applies_139 (by decide) ?_
          exact ih43 (i + 1, o1, w1) ⟨by omega, (by first | exact (qAp_s hq ht9 et).trans (qAp1_n c93) | exact (qAp_s hq ht9 et).trans (qAp1_a c93 c102) | exact e9)⟩ (by show cn - (i + 1) < cn - i; omega) _ _ _ hP hD hS (lv_sub hl [4, 5, 6, 7, 8, 0] rfl)
        · rcases hw with ⟨hc9, -, -, -⟩ | ⟨-, z9, -, -⟩
          rotate_left
          · rw [z9] at c131; exact absurd c131 (by decide)
          rw [if_pos hc9] at e9
          refine lv_iconst (v := nI 0) hx hb dX3_applies_134 (by decide) ?_
          exact x_ret_z hx hb hrt (by first | exact Or.inl rfl | exact Or.inr rfl) hlk hP hD hS dX3_applies_135 ⟨by decide, by decide⟩ (o1, w1) (Or.inr ⟨rfl, (by have h9 := qAp_none e9 (cn - (i + 1)); rw [show i + 1 + (cn - (i + 1)) = cn by omega] at h9; exact h9)⟩) rfl
      · refine lv_aload_n hx hb dX3_applies_105 rfl (lv_at hl 3 rfl) ?_
        refine lv_aload_n hx hb dX3_applies_106 rfl (lv_at hl 5 rfl) ?_
        refine lv_iload hx hb dX3_applies_107 (lv_at hl 1 rfl) ?_
        refine x_callv (w2 := fun (u : Unit) => [(g0, .inr (3, [.ref g1, .ref g2])), (g1, .inl (cI, 24, .inl (qFill o (t * 12) 12 (-1)))), (g2, .inl (cI, 24, .inl (qTaR o w (co t) (re t) (nu t) (ma t) (t * 12) 12))), (h0, .inr (1, [.ref hr, .int (nI n), .ref hc, .ref ht, .ref hk, .ref hn, .ref hm])), (hc, .inl (cI, 51, .inl cc)), (ht, .inl (cI, 612, .inl ct)), (hk, .inl (cI, 612, .inl ck)), (hn, .inl (cI, 612, .inl nr)), (hm, .inl (cI, 1224, .inl cr)), (s0, .inr (2, [.ref s1, .ref s2, va_rf pu, .int (nI st), .int (nI sl)])), (s1, .inl (cI, 24, .inl sr)), (s2, .inl (cI, 2, .inl cp)), (p0, .inr (0, [.ref p1, .ref p2, .ref p3, .ref p4])), (p1, .inl (cI, 2, .inl co)), (p2, .inl (cI, 2, .inl re)), (p3, .inl (cI, 2, .inl nu)), (p4, .inl (cI, 2, .inl ma))]) (wr := [(h0, .inr (1, [.ref hr, .int (nI n), .ref hc, .ref ht, .ref hk, .ref hn, .ref hm])), (hc, .inl (cI, 51, .inl cc)), (ht, .inl (cI, 612, .inl ct)), (hk, .inl (cI, 612, .inl ck)), (hn, .inl (cI, 612, .inl nr)), (hm, .inl (cI, 1224, .inl cr)), (s0, .inr (2, [.ref s1, .ref s2, va_rf pu, .int (nI st), .int (nI sl)])), (s1, .inl (cI, 24, .inl sr)), (s2, .inl (cI, 2, .inl cp))]) (x_runV (n := 2) ⟨hx, hb, hml, hown, hts⟩ (zX3_takeAll l D cI cP cS cL g0 g1 g2 p0 p1 p2 p3 p4 o w co re nu ma t ht9) gX3_applies_X3_takeAll rfl rfl rfl (by decide +kernel) ⟨by decide, by decide⟩ hN hK hP hD [0, 1, 2, 12, 13, 14, 15, 16] rfl rfl (ci := 3) (q0 := 0) rfl rfl rfl rfl hl.1 (rest := []) (As := [.ref p0, .int (nI t)]) rfl (Nat.le_of_ble_eq_true rfl) dX3_applies_109 ⟨by decide, by decide⟩) hP hD hS hA [0, 1, 2, 12, 13, 14, 15, 16] [3, 4, 5, 6, 7, 8, 9, 10, 11] [9, 10, 11, 0, 1, 2, 3, 4, 5, 6, 7, 8, 12, 13, 14, 15, 16] rfl rfl rfl (by decide) rfl (fun _ => rfl) (fun u H locs hw hP hD hS => ?_)
        refine lv_goto (tgt := 136) hx hb dX3_applies_112 (by decide) ?_
        refine x_iinc (k := 8) (o := 1) (v := i + 1) (lv' := [(5, .int (nI (i + 1))), (8, .int (ck ((sl * 12) + i))), (7, .int (nI t)), (6, .int (nI ((sl * 12) + i))), (0, .ref g0), (1, .ref h0), (2, .ref p0), (3, .ref s0), (4, .int (nI sl))]) hx hb dX3_applies_136 hl rfl rfl rfl (by decide) rfl (fun ls hl => ?_)
        refine lv_goto (tgt := 43) hx hb dX3_applies_139 (by decide) ?_
        exact ih43 (i + 1, qFill o (t * 12) 12 (-1), qTaR o w (co t) (re t) (nu t) (ma t) (t * 12) 12) ⟨by omega, (by first | exact (qAp_s hq ht9 et).trans (qAp1_n c93) | exact (qAp_s hq ht9 et).trans (qAp1_a c93 c102) | exact e9)⟩ (by show cn - (i + 1) < cn - i; omega) _ _ _ hP hD hS (lv_sub hl [4, 5, 6, 7, 8, 0] rfl)
    · refine lv_goto (tgt := 136) hx hb dX3_applies_96 (by decide) ?_
      refine x_iinc (k := 8) (o := 1) (v := i + 1) (lv' := [(5, .int (nI (i + 1))), (8, .int (ck ((sl * 12) + i))), (7, .int (nI t)), (6, .int (nI ((sl * 12) + i))), (0, .ref g0), (1, .ref h0), (2, .ref p0), (3, .ref s0), (4, .int (nI sl))]) hx hb dX3_applies_136 hl rfl rfl rfl (by decide) rfl (fun ls hl => ?_)
      refine lv_goto (tgt := 43) hx hb dX3_applies_139 (by decide) ?_
      exact ih43 (i + 1, o, w) ⟨by omega, (by first | exact (qAp_s hq ht9 et).trans (qAp1_n c93) | exact (qAp_s hq ht9 et).trans (qAp1_a c93 c102) | exact e9)⟩ (by show cn - (i + 1) < cn - i; omega) _ _ _ hP hD hS (lv_sub hl [4, 5, 6, 7, 8, 0] rfl)
end
