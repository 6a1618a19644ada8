/-! Methods that read the law's script: it lies where nobody writes. -/
def xSC (sb L : Nat) (xs : Nat → Int32) (w0 : va_W) (sz : Nat) (U : State) : Prop := va_X sb L xs U U.heap ∧ sb < U.heap.size ∧ ¬ va_A w0 sz sb
def xPR (D : va_G) (tys : List (ClassId × FieldType)) (ws : va_W) (sz sb L : Nat) (xs : Nat → Int32) (U : State) : Prop := xPE D tys ws sz U ∧ xSC sb L xs ws sz U
def xRi (l : Launch) (y : MethodName) (wy : List Cond) (rm : Room) (D : va_G) (tys : List (ClassId × FieldType)) (sb L : Nat) (xs : Nat → Int32) (av : List Value) (w0 : va_W) {S : Type} (post : Int32 → S → Prop) (w1 : S → va_W) (mc ms : Nat) : Prop :=
  ∀ sz, Met l y wy rm (va_Pc av (xPR D tys w0 sz sb L xs)) (va_Qi post (fun u t => xB D (va_A w0 sz) (w1 u) t) (va_A w0 sz)) mc ms (va_A w0 sz)
theorem xPR_blind {av : List Value} {D : va_G} {tys : List (ClassId × FieldType)} {ws : va_W} {sz sb L : Nat} {xs : Nat → Int32} : FrameBlind (va_Pc av (xPR D tys ws sz sb L xs)) := fun a U g mk q => by
  obtain ⟨q1, q2, q3, q4, q5⟩ := q
  exact ⟨(xPE_blind (av := av) a U g mk ⟨q1, q2⟩).1, (xPE_blind (av := av) a U g mk ⟨q1, q2⟩).2, va_X.moved (u := U) (U := U.calling g mk a) (Vm.Alike.refl U.vm) q3, q4, q5⟩
section RENTRY
variable {l : Launch} {y : MethodName} {wy ws' : List Cond} {rm : Room} {D : va_G} {tys : List (ClassId × FieldType)} {sb L : Nat} {xs : Nat → Int32} {av : List Value} {w0 : va_W} {mc ms : Nat} {cc : ByteArray} {maxL : Nat} {ret : Option FieldType}
theorem xe_R {S : Type} {post : Int32 → S → Prop} {w1 : S → va_W} (hy : plainName y.cls = true) (hw : wy = Cond.code y cc maxL ret :: ws') (hav : (lg_sl av).length ≤ maxL)
    (body : ∀ (p : Program) (e : Env) (s : State) (m : MethodId) (below : List Frame) (meth : Method) (c : Code) (A : Nat → Prop) (ls : Array Slot), xIn p s m meth c A y cc maxL ret wy D tys av w0 ls → XE A s s.heap → va_X sb L xs s s.heap → sb < s.heap.size → ¬ A sb → W p l e rm s m av.toArray below meth c s.heap [] 0 0 (MQ below (va_Qi post (fun u t => xB D A (w1 u) t) A) av.toArray s mc ms A) (F0 m 0 ls [])) : xRi l y wy rm D tys sb L xs av w0 post w1 mc ms := by
  intro sz
  refine Met.ofW (cc := cc) (maxL := maxL) (ret := ret) hy hw ?_
  intro p e s m args below meth c s₁ B hml hv
  obtain ⟨rfl, ⟨hv, hE⟩, hX, hbl, hbA⟩ := hv
  have h := body p e s m below meth c _ _ (xe_in B hml hav rfl hv rfl) hE hX hbl hbA
  rw [lg_entry_eq]
  exact h
end RENTRY
section RRUN
variable {p : Program} {l : Launch} {e : Env} {R : Room} {s : State} {m : MethodId} {args : Array Value} {below : List Frame} {meth : Method} {c : Code} {H : Heap} {locs : List Loc} {cells slots : Nat} {Q : State → Prop}
variable {cc : ByteArray} {pc : Nat} {ls : Array Slot} {rest st0 : List Value} {D : va_G} {tys : List (ClassId × FieldType)} {ws : va_W} {A : Nat → Prop} {H0 : Heap} {mc ms : Nat} {wc : va_W} {Ts : List Cond}
variable {y : MethodName} {wy ws' : List Cond} {rm : Room} {bytes : ByteArray} {maxL nL n index : Nat} {ret : Option FieldType} {own C : String} {b : Addr} {As : List Value} {sb L : Nat} {xs : Nat → Int32}
theorem x_runR {S : Type} {post : Int32 → S → Prop} {w1 : S → va_W} (Sx : CallFix p m c cc nL s args Ts own) (hM : xRi l y wy rm D tys sb L xs As wc post w1 mc ms) (hG : GoodIn Ts (va_wsS own index y wy)) (hw : wy = Cond.code y bytes maxL ret :: ws') (hrc : rm.cells = mc) (hrs : rm.slots = ms)
    (hd : y.cls ≠ "java/lang/invoke/MethodHandle" ∧ y.cls ≠ "java/lang/invoke/VarHandle" ∧ (parseMethodDescriptor y.desc).map (fun d => d.parameters.length) = some n) (hR : rm.frames + 1 ≤ R.frames ∧ 8 + (maxL + 11) + rm.locals ≤ R.locals)
    (hN : xN s) (hK : va_K D vwCl tys s) (hP : va_P D vwCl ws H) (hD : va_D A ws) (hS : va_S A H0 H locs) (hA : ∀ q, H0.size ≤ q → A q) (hE : XE A s H0) (isC : List Nat) (hnC : va_nd isC = true) (hC : isC.map (fun i => ws[i]?) = wc.map some) (hX : va_X sb L xs s H0) (hbl : sb < H0.size) (hbA : ¬ A sb)
    (hn : As.length = n) (hsz : ls.size = nL) (hst : st0 = As.reverse ++ rest) (hcat : (rest.map fun v => v.category).sum ≤ 8) (hdg : decode cc pc = .ok (.invokestatic index, 3)) (hf : cells + mc ≤ R.cells ∧ slots + ms ≤ R.slots) :
    va_Run p l e R s m args below meth c H locs cells slots mc ms (F0 m pc ls st0) rest (va_Qi post (fun u t => xB D (va_A wc H.size) (w1 u) t) (va_A wc H.size) As.toArray) (va_A wc H.size) :=
  va_runS Sx (hM H.size) (va_cwS n Sx.2.2.2.2 hG hw hrc hrs hd hR) ⟨xPR_blind, fun U hU hW => ⟨rfl, xPEof hN hK hP hD hS hA hE isC hnC hC hU hW, by rw [hU]; exact (hX.kept (hS.2.1 sb hbl hbA)).moved hW.alike, by rw [hU]; exact Nat.lt_of_lt_of_le hbl hS.1, fun h => hbA (va_free hD hS hA isC hC sb h)⟩⟩ rfl hn hsz hst (lv_room hcat) hdg hf
theorem x_sld (hx : p.tables.exec = Jvm.exec) (hb : c.code = cc) {b L k : Nat} {xs : Nat → Int32} (hX : va_X b L xs s H0) (hbl : b < H0.size) (hbA : ¬ A b) (hS : va_S A H0 H locs) (hk : k < L) (hL : L ≤ 260) (hdg : decode cc pc = .ok (.iaload, 1)) (kk : W p l e R s m args below meth c H locs cells slots Q (F0 m (pc + 1) ls (.int (xs k) :: rest))) : W p l e R s m args below meth c H locs cells slots Q (F0 m pc ls (.int (nI k) :: .ref b :: rest)) :=
  va_sld hx hb hX hbl hbA hS (vp_in_nI hk (by omega)) hdg (by rw [nI_clamp (by omega)]; exact kk)
end RRUN
