/-! What the walk of the law stands on. -/
def iX (x : Int32) : Nat := x.toNatClampNeg % 3
theorem iX_lt (x : Int32) : iX x < 3 := Nat.mod_lt _ (by decide)
theorem iX_sx (x : Int32) : ∀ j, j < 3 → x = nI j → j = iX x := fun j hj e => by
  unfold iX; rw [e, nI_clamp (by omega)]; omega
section OFR
variable {ad bk : Nat → Nat} {lim n : Nat} {rows cc ct ck nr cr : qF} {co re nu ma sr cp : Nat → qF} {pu : Nat → Option Nat} {st sl : Nat → Nat} {row kept chg tab key frs col rel num lis boo sta slo cop see : qF}
theorem RR_st3 (h : RR ad bk lim n rows cc ct ck nr cr co re nu ma sr cp pu st sl row kept chg tab key frs col rel num lis boo sta slo cop see) : ∀ i, i < 3 → st i ≤ 3 := fun i hi => (h.2.2.2.2 i hi).1
theorem RR_sta (h : RR ad bk lim n rows cc ct ck nr cr co re nu ma sr cp pu st sl row kept chg tab key frs col rel num lis boo sta slo cop see) : ∀ i, i < 3 → sta i = nI (st i) := fun i hi => (h.2.2.2.2 i hi).2.1
theorem RR_sl (h : RR ad bk lim n rows cc ct ck nr cr co re nu ma sr cp pu st sl row kept chg tab key frs col rel num lis boo sta slo cop see) : ∀ i, i < 3 → sl i ≤ n := fun i hi => (h.2.2.2.2 i hi).2.2.1
theorem RR_s2 (h : RR ad bk lim n rows cc ct ck nr cr co re nu ma sr cp pu st sl row kept chg tab key frs col rel num lis boo sta slo cop see) : ∀ i, i < 3 → st i = 2 → sl i < n := fun i hi => (h.2.2.2.2 i hi).2.2.2.2.2.2.1
theorem RR_slo (h : RR ad bk lim n rows cc ct ck nr cr co re nu ma sr cp pu st sl row kept chg tab key frs col rel num lis boo sta slo cop see) : ∀ i, i < 3 → slo i = nI (sl i) := fun i hi => (h.2.2.2.2 i hi).2.2.2.1
theorem RR_bk (h : RR ad bk lim n rows cc ct ck nr cr co re nu ma sr cp pu st sl row kept chg tab key frs col rel num lis boo sta slo cop see) : ∀ i, i < 3 → bk i < 3 := fun i hi => (h.2.2.2.2 i hi).2.2.2.2.1
theorem RR_boo (h : RR ad bk lim n rows cc ct ck nr cr co re nu ma sr cp pu st sl row kept chg tab key frs col rel num lis boo sta slo cop see) : ∀ i, i < 3 → boo i = nI (bk i) := fun i hi => (h.2.2.2.2 i hi).2.2.2.2.2.1
theorem RR_pu (h : RR ad bk lim n rows cc ct ck nr cr co re nu ma sr cp pu st sl row kept chg tab key frs col rel num lis boo sta slo cop see) : ∀ i, i < 3 → ((st i = 0 ∧ pu i = none) ∨ (0 < st i ∧ pu i = some (ad (13 + 5 * bk i)))) := fun i hi => (h.2.2.2.2 i hi).2.2.2.2.2.2.2.1
theorem RR_cp (h : RR ad bk lim n rows cc ct ck nr cr co re nu ma sr cp pu st sl row kept chg tab key frs col rel num lis boo sta slo cop see) : ∀ i, i < 3 → ∀ t, t < 2 → cp i t = -1 ∨ ∃ c, c ≤ 50 ∧ cp i t = nI c := fun i hi t ht => ((h.2.2.2.2 i hi).2.2.2.2.2.2.2.2.1 t ht).2.elim Or.inl (fun ⟨c, hc, e⟩ => Or.inr ⟨c, Nat.le_trans hc h.2.1, e⟩)
theorem RR_cop (h : RR ad bk lim n rows cc ct ck nr cr co re nu ma sr cp pu st sl row kept chg tab key frs col rel num lis boo sta slo cop see) : ∀ i, i < 6 → cop i = -1 ∨ ∃ c, c ≤ 50 ∧ cop i = nI c := fun i hi => by
  have e := ((h.2.2.2.2 (i / 2) (by omega)).2.2.2.2.2.2.2.2.1 (i % 2) (by omega)).1
  have q := RR_cp h (i / 2) (by omega) (i % 2) (by omega)
  rw [e, show 2 * (i / 2) + i % 2 = i by omega] at q
  exact q
theorem RR_clog (h : RR ad bk lim n rows cc ct ck nr cr co re nu ma sr cp pu st sl row kept chg tab key frs col rel num lis boo sta slo cop see) : ∀ c, c < n → ∃ m, m ≤ 12 ∧ cc c = nI m ∧ (∀ i, i < m → ∃ t, t < 2 ∧ ct (c * 12 + i) = nI t) ∧ (∀ i, i < m → ck (c * 12 + i) = -1 ∨ ∃ k, k < 12 ∧ ck (c * 12 + i) = nI k) := fun c hc => by
  obtain ⟨m, hm, e1, e2, e3⟩ := h.2.2.1.2.2.1 c (by omega)
  exact ⟨m, hm, e1, fun i hi => (e3 i hi).1.elim (fun t k => ⟨t, k.1, k.2.1⟩), fun i hi => (e3 i hi).2.elim (fun k => Or.inl k.1) (fun k => k.1.elim (fun u v => Or.inr ⟨u, v.1, v.2.1⟩))⟩
theorem RR_mlog (h : RR ad bk lim n rows cc ct ck nr cr co re nu ma sr cp pu st sl row kept chg tab key frs col rel num lis boo sta slo cop see) : ∀ c, c < n → ∃ m, m ≤ 12 ∧ chg (c + 1) = nI m ∧ (∀ i, i < m → ∃ t, t < 2 ∧ tab (12 * (c + 1) + i) = nI t) ∧ (∀ i, i < m → key (12 * (c + 1) + i) = -1 ∨ ∃ k, k < 12 ∧ key (12 * (c + 1) + i) = nI k) := fun c hc => by
  obtain ⟨m, hm, e1, e2, e3⟩ := h.2.2.1.2.2.1 c (by omega)
  exact ⟨m, hm, e2, fun i hi => (e3 i hi).1.elim (fun t k => ⟨t, k.1, k.2.2⟩), fun i hi => (e3 i hi).2.elim (fun k => Or.inl k.2.1) (fun k => k.1.elim (fun u v => Or.inr ⟨u, v.1, v.2.2⟩))⟩
theorem RR_cn (h : RR ad bk lim n rows cc ct ck nr cr co re nu ma sr cp pu st sl row kept chg tab key frs col rel num lis boo sta slo cop see) : ∃ cn, cn ≤ 12 ∧ cc n = nI cn ∧ chg (n + 1) = nI cn := by
  obtain ⟨m, hm, e1, e2, -⟩ := h.2.2.1.2.2.1 n (Nat.le_refl n)
  exact ⟨m, hm, e1, e2⟩
end OFR
section LRUN
variable {p : Program} {l : Launch} {e : Env} {R : Room} {s : State} {m : MethodId} {args : Array Value} {below : List Frame} {meth : Method} {c : Code} {H : Heap} {locs : List Loc} {cells slots : Nat} {Q : State → Prop}
variable {cc : ByteArray} {pc : Nat} {ls : Array Slot} {rest st0 : List Value} {D : va_G} {tys : List (ClassId × FieldType)} {ws : va_W} {A : Nat → Prop} {H0 : Heap} {mc ms : Nat} {wc : va_W} {Ts : List Cond}
variable {y : MethodName} {wy ws' : List Cond} {rm : Room} {bytes : ByteArray} {maxL nL n index : Nat} {ret : Option FieldType} {own : String} {As : List Value}
theorem x_runL {hh : List (Nat × Nat × Nat × Nat)} {S : Type} {post : Int32 → S → Prop} {w1 : S → va_W} (Sx : CallFix p m c cc nL s args Ts own) (hM : xWi l y wy rm D tys As wc post w1 mc ms) (hG : GoodIn Ts (va_wsS own index y wy)) (hw : wy = Cond.codeWith y bytes maxL ret hh :: ws') (hrc : rm.cells = mc) (hrs : rm.slots = ms)
    (hd : y.cls ≠ "java/lang/invoke/MethodHandle" ∧ y.cls ≠ "java/lang/invoke/VarHandle" ∧ (parseMethodDescriptor y.desc).map (fun d => d.parameters.length) = some n) (hR : rm.frames + 1 ≤ R.frames ∧ 8 + (maxL + 11) + rm.locals ≤ R.locals)
    (hN : xN s) (hK : va_K D vwCl tys s) (hP : va_P D vwCl ws H) (hD : va_D A ws) (hS : va_S A H0 H locs) (hA : ∀ q, H0.size ≤ q → A q) (hE : XE A s H0) (isC : List Nat) (hnC : va_nd isC = true) (hC : isC.map (fun i => ws[i]?) = wc.map some)
    (hn : As.length = n) (hsz : ls.size = nL) (hst : st0 = As.reverse ++ rest) (hcat : (rest.map fun v => v.category).sum ≤ 8) (hdg : decode cc pc = .ok (.invokestatic index, 3)) (hf : cells + mc ≤ R.cells ∧ slots + ms ≤ R.slots) :
    va_Run p l e R s m args below meth c H locs cells slots mc ms (F0 m pc ls st0) rest (va_Qi post (fun u t => xB D (va_A wc H.size) (w1 u) t) (va_A wc H.size) As.toArray) (va_A wc H.size) :=
  vx_runSW Sx (hM H.size) (vx_cwSW n Sx.2.2.2.2 hG hw hrc hrs hd hR) ⟨xPE_blind, fun U hU hW => ⟨rfl, xPEof hN hK hP hD hS hA hE isC hnC hC hU hW⟩⟩ rfl hn hsz hst (lv_room hcat) hdg hf
theorem x_sld (hx : p.tables.exec = Jvm.exec) (hb : c.code = cc) {b L k : Nat} {xs : Nat → Int32} (hX : va_X b L xs s H0) (hbl : b < H0.size) (hbA : ¬ A b) (hS : va_S A H0 H locs) (hk : k < L) (hL : L ≤ 3072) (hdg : decode cc pc = .ok (.iaload, 1)) (kk : W p l e R s m args below meth c H locs cells slots Q (F0 m (pc + 1) ls (.int (xs k) :: rest))) : W p l e R s m args below meth c H locs cells slots Q (F0 m pc ls (.int (nI k) :: .ref b :: rest)) :=
  va_sld hx hb hX hbl hbA hS (vp_in_nI hk (by omega)) hdg (by rw [nI_clamp (by omega)]; exact kk)
theorem x_lcmp0 (hx : p.tables.exec = Jvm.exec) (hb : c.code = cc) {x y : Int64} (h : x = y) (hdg : decode cc pc = .ok (.lcmp, 1)) (kk : W p l e R s m args below meth c H locs cells slots Q (F0 m (pc + 1) ls (.int (nI 0) :: rest))) : W p l e R s m args below meth c H locs cells slots Q (F0 m pc ls (.long y :: .long x :: rest)) :=
  W.lcmp hx hb hdg (by rw [show lg_cmp x y = nI 0 by subst h; simp [lg_cmp, nI_0]]; exact kk)
end LRUN
def LWd (cI cP cS cL : ClassId) (ad bd : Nat → Nat) (ho : Nat) (s4 : S4) (out : Nat → Int64) (s5 : S5) : va_W := W4 cI cP cS ad s4 ++ (WO cL ho out ++ W5 cI bd s5)
def iLa : List Nat := [0, 1, 2, 3, 4, 5, 6, 7, 8, 9, 10, 11, 12, 13, 14, 15, 16, 17, 18, 19, 20, 21, 22, 23, 24, 25, 26, 27, 28, 29, 30, 31, 32, 33, 34, 35, 36]
def iLb : List Nat := [0, 1, 2, 3, 4, 5, 6, 7, 8, 9, 10, 11, 12, 13, 14, 15, 16, 17, 18, 19, 20, 21, 22, 23, 24, 25, 26, 27, 28, 29, 30, 31, 32, 33, 34, 35, 36, 37]
def iLm : List Nat := [38, 39, 40, 41, 42, 43, 44, 45, 46, 47, 48, 49, 50, 51, 52, 53, 54, 55]
def iLo : List Nat := [37, 38, 39, 40, 41, 42, 43, 44, 45, 46, 47, 48, 49, 50, 51, 52, 53, 54, 55]
/-- the order behind a wrapper's call, behind a plain one of the class, behind one of the model -/
def iL2b : List Nat := [18, 19, 20, 21, 22, 23, 24, 25, 26, 27, 28, 29, 30, 31, 32, 33, 34, 35, 36, 37, 38, 39, 40, 41, 42, 43, 44, 45, 46, 47, 48, 49, 50, 51, 52, 53, 54, 55, 0, 1, 2, 3, 4, 5, 6, 7, 8, 9, 10, 11, 12, 13, 14, 15, 16, 17]
def iL2a : List Nat := [19, 20, 21, 22, 23, 24, 25, 26, 27, 28, 29, 30, 31, 32, 33, 34, 35, 36, 37, 38, 39, 40, 41, 42, 43, 44, 45, 46, 47, 48, 49, 50, 51, 52, 53, 54, 55, 0, 1, 2, 3, 4, 5, 6, 7, 8, 9, 10, 11, 12, 13, 14, 15, 16, 17, 18]
def iL2m : List Nat := [0, 1, 2, 3, 4, 5, 6, 7, 8, 9, 10, 11, 12, 13, 14, 15, 16, 17, 18, 19, 20, 21, 22, 23, 24, 25, 26, 27, 28, 29, 30, 31, 32, 33, 34, 35, 36, 37, 38, 39, 40, 41, 42, 43, 44, 45, 46, 47, 48, 49, 50, 51, 52, 53, 54, 55]
