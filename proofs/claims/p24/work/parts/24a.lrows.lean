/-! The law's own methods: no handlers, no throw that leaves them; calls of class methods that don't throw there; loops whose room grows. -/
theorem x_noX {l : Launch} {y : MethodName} {wy : List Cond} {rm : Room} {D : va_G} {tys : List (ClassId × FieldType)} {av : List Value} {w0 : va_W} {S : Type} {post : Int32 → S → Prop} {w1 : S → va_W} {EX : String → Prop} {mc ms : Nat} (h : xXi l y wy rm D tys av w0 post w1 EX mc ms) (hE : ∀ E, ¬ EX E) : xWi l y wy rm D tys av w0 post w1 mc ms := fun sz =>
  MetFree.mono (h sz) (fun _ _ h => h) (fun _ _ _ _ _ h => h) (fun _ _ _ _ _ h => h.elim id (fun h => by obtain ⟨q, -, E, ce, L, ⟨u, -, ⟨h9, -⟩, -⟩, -⟩ := h; exact (hE E h9).elim))
/-- a contract without throws, in a world where throws may happen -/
theorem x_asW {l : Launch} {y : MethodName} {wy : List Cond} {rm : Room} {D : va_G} {tys : List (ClassId × FieldType)} {av : List Value} {w0 : va_W} {S : Type} {post : Int32 → S → Prop} {w1 : S → va_W} {mc ms : Nat} (h : xMi l y wy rm D tys av w0 post w1 mc ms) : xWi l y wy rm D tys av w0 post w1 mc ms := fun sz =>
  MetFree.mono (h sz) (fun _ _ h => ⟨h.1, h.2.1⟩) (fun _ _ _ _ _ h => h) (fun _ _ _ _ _ h => h)
section NENTRY
variable {l : Launch} {y : MethodName} {wy ws' : List Cond} {rm : Room} {D : va_G} {tys : List (ClassId × FieldType)} {av : List Value} {w0 : va_W} {mc ms : Nat} {cc : ByteArray} {maxL : Nat} {ret : Option FieldType}
theorem xe_N {S : Type} {post : Int32 → S → Prop} {w1 : S → va_W} (hy : plainName y.cls = true) (hw : wy = Cond.code y cc maxL ret :: ws') (hav : (lg_sl av).length ≤ maxL)
    (body : ∀ (p : Program) (e : Env) (s : State) (m : MethodId) (below : List Frame) (meth : Method) (c : Code) (A : Nat → Prop) (ls : Array Slot), xIn p s m meth c A y cc maxL ret wy D tys av w0 ls → XE A s s.heap → W p l e rm s m av.toArray below meth c s.heap [] 0 0 (MQ below (va_Qi post (fun u t => xB D A (w1 u) t) A) av.toArray s mc ms A) (F0 m 0 ls [])) : xWi l y wy rm D tys av w0 post w1 mc ms := by
  intro sz
  refine Met.ofW (cc := cc) (maxL := maxL) (ret := ret) hy hw ?_
  intro p e s m args below meth c s₁ B hml hv
  obtain ⟨rfl, hv, hE⟩ := hv
  have h := body p e s m below meth c _ _ (xe_in B hml hav rfl hv rfl) hE
  rw [lg_entry_eq]
  exact h
end NENTRY
section LRUN
variable {p : Program} {l : Launch} {e : Env} {R : Room} {s : State} {m : MethodId} {args : Array Value} {below : List Frame} {meth : Method} {c : Code} {H : Heap} {locs : List Loc} {cells slots : Nat} {Q : State → Prop}
variable {cc : ByteArray} {pc : Nat} {ls : Array Slot} {rest st0 : List Value} {D : va_G} {tys : List (ClassId × FieldType)} {ws : va_W} {A : Nat → Prop} {H0 : Heap} {mc ms : Nat} {wc : va_W} {Ts : List Cond}
variable {y : MethodName} {wy ws' : List Cond} {rm : Room} {bytes : ByteArray} {maxL nL n index : Nat} {ret : Option FieldType} {own C : String} {b : Addr} {As : List Value}
theorem x_runL {hh : List (Nat × Nat × Nat × Nat)} {S : Type} {post : Int32 → S → Prop} {w1 : S → va_W} (Sx : CallFix p m c cc nL s args Ts own) (hM : xWi l y wy rm D tys As wc post w1 mc ms) (hG : GoodIn Ts (va_wsS own index y wy)) (hw : wy = Cond.codeWith y bytes maxL ret hh :: ws') (hrc : rm.cells = mc) (hrs : rm.slots = ms)
    (hd : y.cls ≠ "java/lang/invoke/MethodHandle" ∧ y.cls ≠ "java/lang/invoke/VarHandle" ∧ (parseMethodDescriptor y.desc).map (fun d => d.parameters.length) = some n) (hR : rm.frames + 1 ≤ R.frames ∧ 8 + (maxL + 11) + rm.locals ≤ R.locals)
    (hN : xN s) (hK : va_K D vwCl tys s) (hP : va_P D vwCl ws H) (hD : va_D A ws) (hS : va_S A H0 H locs) (hA : ∀ q, H0.size ≤ q → A q) (hE : XE A s H0) (isC : List Nat) (hnC : va_nd isC = true) (hC : isC.map (fun i => ws[i]?) = wc.map some)
    (hn : As.length = n) (hsz : ls.size = nL) (hst : st0 = As.reverse ++ rest) (hcat : (rest.map fun v => v.category).sum ≤ 8) (hdg : decode cc pc = .ok (.invokestatic index, 3)) (hf : cells + mc ≤ R.cells ∧ slots + ms ≤ R.slots) :
    va_Run p l e R s m args below meth c H locs cells slots mc ms (F0 m pc ls st0) rest (va_Qi post (fun u t => xB D (va_A wc H.size) (w1 u) t) (va_A wc H.size) As.toArray) (va_A wc H.size) :=
  vx_runSW Sx (hM H.size) (vx_cwSW n Sx.2.2.2.2 hG hw hrc hrs hd hR) ⟨xPE_blind, fun U hU hW => ⟨rfl, xPEof hN hK hP hD hS hA hE isC hnC hC hU hW⟩⟩ rfl hn hsz hst (lv_room hcat) hdg hf
theorem x_runSE {S : Type} {post : Int32 → S → Prop} {w1 : S → va_W} (Sx : CallFix p m c cc nL s args Ts own) (hM : xWi l y wy rm D tys As wc post w1 mc ms) (hG : GoodIn Ts (va_wsS own index y wy)) (hw : wy = Cond.code y bytes maxL ret :: ws') (hrc : rm.cells = mc) (hrs : rm.slots = ms)
    (hd : y.cls ≠ "java/lang/invoke/MethodHandle" ∧ y.cls ≠ "java/lang/invoke/VarHandle" ∧ (parseMethodDescriptor y.desc).map (fun d => d.parameters.length) = some n) (hR : rm.frames + 1 ≤ R.frames ∧ 8 + (maxL + 11) + rm.locals ≤ R.locals)
    (hN : xN s) (hK : va_K D vwCl tys s) (hP : va_P D vwCl ws H) (hD : va_D A ws) (hS : va_S A H0 H locs) (hA : ∀ q, H0.size ≤ q → A q) (hE : XE A s H0) (isC : List Nat) (hnC : va_nd isC = true) (hC : isC.map (fun i => ws[i]?) = wc.map some)
    (hn : As.length = n) (hsz : ls.size = nL) (hst : st0 = As.reverse ++ rest) (hcat : (rest.map fun v => v.category).sum ≤ 8) (hdg : decode cc pc = .ok (.invokestatic index, 3)) (hf : cells + mc ≤ R.cells ∧ slots + ms ≤ R.slots) :
    va_Run p l e R s m args below meth c H locs cells slots mc ms (F0 m pc ls st0) rest (va_Qi post (fun u t => xB D (va_A wc H.size) (w1 u) t) (va_A wc H.size) As.toArray) (va_A wc H.size) :=
  va_runS Sx (hM H.size) (va_cwS n Sx.2.2.2.2 hG hw hrc hrs hd hR) ⟨xPE_blind, fun U hU hW => ⟨rfl, xPEof hN hK hP hD hS hA hE isC hnC hC hU hW⟩⟩ rfl hn hsz hst (lv_room hcat) hdg hf
theorem x_runVE {S : Type} {post : Int32 → S → Prop} {w1 : S → va_W} (Sx : CallFix p m c cc nL s args Ts own) (hM : xWi l y wy rm D tys (.ref b :: As) wc post w1 mc ms) (hG : GoodIn Ts (wsV own index C y wy)) (hw : wy = Cond.code y bytes maxL ret :: ws') (hrc : rm.cells = mc) (hrs : rm.slots = ms)
    (hd : y.cls = C ∧ y.cls ≠ "java/lang/invoke/MethodHandle" ∧ y.cls ≠ "java/lang/invoke/VarHandle" ∧ (parseMethodDescriptor y.desc).map (fun d => d.parameters.length) = some n) (hR : rm.frames + 1 ≤ R.frames ∧ 8 + (maxL + 11) + rm.locals ≤ R.locals)
    (hN : xN s) (hK : va_K D vwCl tys s) (hP : va_P D vwCl ws H) (hD : va_D A ws) (hS : va_S A H0 H locs) (hA : ∀ q, H0.size ≤ q → A q) (hE : XE A s H0) (isC : List Nat) (hnC : va_nd isC = true) (hC : isC.map (fun i => ws[i]?) = wc.map some) {ci q0 : Nat} {q : vw_C} {fs : List Value} (hc : vwCl[ci]? = some q) (hq : q.1 = C) (he : ws[q0]? = some (b, .inr (ci, fs)))
    (hn : As.length = n) (hsz : ls.size = nL) (hst : st0 = As.reverse ++ .ref b :: rest) (hcat : (rest.map fun v => v.category).sum ≤ 8) (hdg : decode cc pc = .ok (.invokevirtual index, 3)) (hf : cells + mc ≤ R.cells ∧ slots + ms ≤ R.slots) :
    va_Run p l e R s m args below meth c H locs cells slots mc ms (F0 m pc ls st0) rest (va_Qi post (fun u t => xB D (va_A wc H.size) (w1 u) t) (va_A wc H.size) (Value.ref b :: As).toArray) (va_A wc H.size) :=
  va_runV Sx (hM H.size) (cwV n Sx.2.2.2.2 hG hw hrc hrs hd hR) ⟨xPE_blind, by have h := va_recv hK hP hc he; rw [hq] at h; exact h, fun U hU hW => ⟨rfl, xPEof hN hK hP hD hS hA hE isC hnC hC hU hW⟩⟩ rfl hn hsz hst (lv_room hcat) hdg hf
end LRUN
section CLOOPS
variable {p : Program} {l : Launch} {e : Env} {R : Room} {s : State} {m : MethodId} {args : Array Value} {below : List Frame} {meth : Method} {c : Code} {H : Heap} {locs : List Loc} {cells slots : Nat} {Q : State → Prop} {pc : Nat} {ls : Array Slot} {D : va_G} {A : Nat → Prop} {H0 : Heap} {nL : Nat}
/-- a loop whose room grows with its numbers -/
theorem x_loopc {σ : Type} (inv : σ → Prop) (μ : σ → Nat) (cs ss : σ → Nat) (w : σ → va_W) (lv : σ → List (Nat × Value)) (st : σ → List Value)
    (body : ∀ x : σ, inv x → (∀ x' : σ, inv x' → μ x' < μ x → ∀ (H : Heap) (locs : List Loc) (ls : Array Slot), va_P D vwCl (w x') H → va_D A (w x') → va_S A H0 H locs → lv_has ls nL (lv x') → W p l e R s m args below meth c H locs (cs x') (ss x') Q (F0 m pc ls (st x'))) →
      ∀ (H : Heap) (locs : List Loc) (ls : Array Slot), va_P D vwCl (w x) H → va_D A (w x) → va_S A H0 H locs → lv_has ls nL (lv x) → W p l e R s m args below meth c H locs (cs x) (ss x) Q (F0 m pc ls (st x)))
    (x0 : σ) (h0 : inv x0) (hc0 : cells ≤ cs x0) (hs0 : slots ≤ ss x0) (hP : va_P D vwCl (w x0) H) (hD : va_D A (w x0)) (hS : va_S A H0 H locs) (hl : lv_has ls nL (lv x0)) : W p l e R s m args below meth c H locs cells slots Q (F0 m pc ls (st x0)) := by
  have key : ∀ (d : Nat) (x : σ), inv x → μ x < d → ∀ (H : Heap) (locs : List Loc) (ls : Array Slot), va_P D vwCl (w x) H → va_D A (w x) → va_S A H0 H locs → lv_has ls nL (lv x) → W p l e R s m args below meth c H locs (cs x) (ss x) Q (F0 m pc ls (st x)) := by
    intro d
    induction d with
    | zero => intro x _ hd; exact absurd hd (Nat.not_lt_zero _)
    | succ d ih => intro x hi hd; exact body x hi (fun x' hi' hm => ih x' hi' (by omega))
  exact W.widen hc0 hs0 (key (μ x0 + 1) x0 h0 (by omega) H locs ls hP hD hS hl)
end CLOOPS
