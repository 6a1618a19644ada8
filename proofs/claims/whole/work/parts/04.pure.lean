/-! what the leaves answer, in plain words over Int32 -/
def qNum (row col : Int32) : Int32 := if row = -1 then -1 else (row >>> ((col * nI 7) &&& 31)) &&& nI 127
def qRow (x y z : Int32) : Int32 := (x ||| (y <<< (nI 7 &&& 31))) ||| (z <<< (nI 14 &&& 31))
def qMaskN (cs : Int32) : Nat → Int32
  | 0 => nI 0
  | k + 1 => if (cs >>> (nI k &&& 31)) &&& nI 1 = nI 1 then qMaskN cs k ||| (nI 127 <<< (nI (k * 7) &&& 31)) else qMaskN cs k
def qLets (re nu v : Int32) : Prop := if re = nI 1 then v < nu else if re = nI 2 then nu ≤ v else True
noncomputable def qLetB (re nu v : Int32) : Bool := @decide (qLets re nu v) (Classical.propDecidable _)
theorem qLetB_t {re nu v : Int32} (h : qLets re nu v) : qLetB re nu v = true := by unfold qLetB; exact @decide_eq_true _ (Classical.propDecidable _) h
theorem qLetB_f {re nu v : Int32} (h : ¬ qLets re nu v) : qLetB re nu v = false := by unfold qLetB; exact @decide_eq_false _ (Classical.propDecidable _) h
noncomputable def qCho (co re nu ma row : Int32) : Int32 := if row = -1 then -1 else if qLetB re nu (qNum row co) = true then row &&& ma else -1
theorem look_1 {x : Int32} {d o1 o2 : Int} (h : x = nI 1) : Op.lookupswitch.offset [(1, o1), (2, o2)] d x.toInt = o1 := by subst h; rfl
theorem look_2 {x : Int32} {d o1 o2 : Int} (h : x = nI 2) : Op.lookupswitch.offset [(1, o1), (2, o2)] d x.toInt = o2 := by subst h; rfl
theorem look_0 {x : Int32} {d o1 o2 : Int} (h1 : ¬ x = nI 1) (h2 : ¬ x = nI 2) : Op.lookupswitch.offset [(1, o1), (2, o2)] d x.toInt = d := by
  have e1 : ¬ x.toInt = 1 := fun q => h1 (by rw [← Int32.toInt_inj, q]; decide)
  have e2 : ¬ x.toInt = 2 := fun q => h2 (by rw [← Int32.toInt_inj, q]; decide)
  simp [Op.lookupswitch.offset, List.find?, Ne.symm e1, Ne.symm e2, e1, e2]
theorem nI_m1 {k : Nat} (h : k < 2 ^ 31) : nI k = -1 ↔ False := ⟨fun q => by
  have h1 := congrArg Int32.toInt q
  rw [nI_toInt h] at h1
  have : (-1 : Int32).toInt = -1 := by decide
  omega, fun q => q.elim⟩
def qFill (f : Nat → Int32) (a j : Nat) (v : Int32) : Nat → Int32 := fun i => if a ≤ i ∧ i < a + j then v else f i
theorem qFill_0 (f : Nat → Int32) (a : Nat) (v : Int32) : qFill f a 0 v = f := by
  funext i; unfold qFill; rw [if_neg (by omega)]
theorem qFill_s (f : Nat → Int32) (a j : Nat) (v : Int32) : upd (qFill f a j v) (a + j) v = qFill f a (j + 1) v := by
  funext i; unfold qFill upd
  by_cases h : i = a + j
  · rw [if_pos h, if_pos (by omega)]
  · rw [if_neg h]; dsimp only
    by_cases h2 : a ≤ i ∧ i < a + j
    · rw [if_pos h2, if_pos (by omega)]
    · rw [if_neg h2, if_neg (by omega)]
def qTk (x y : Int32) : Bool := decide (¬ x = -1 ∧ x < y)
noncomputable def qTaR (f g : Nat → Int32) (co re nu ma : Int32) (a j : Nat) : Nat → Int32 := fun i => if a ≤ i ∧ i < a + j ∧ ¬ qCho co re nu ma (f i) = -1 then -1 else g i
theorem qTaR_0 (f g : Nat → Int32) (co re nu ma : Int32) (a : Nat) : qTaR f g co re nu ma a 0 = g := by
  funext i; unfold qTaR; rw [if_neg (by omega)]
theorem qTaR_y (f g : Nat → Int32) (co re nu ma : Int32) (a j : Nat) (h : ¬ qCho co re nu ma (f (a + j)) = -1) : upd (qTaR f g co re nu ma a j) (a + j) (-1) = qTaR f g co re nu ma a (j + 1) := by
  funext i; unfold qTaR upd
  by_cases e : i = a + j
  · subst e; rw [if_pos rfl, if_pos ⟨by omega, by omega, h⟩]
  · rw [if_neg e]; dsimp only
    by_cases h2 : a ≤ i ∧ i < a + j ∧ ¬ qCho co re nu ma (f i) = -1
    · rw [if_pos h2, if_pos ⟨h2.1, by omega, h2.2.2⟩]
    · rw [if_neg h2, if_neg (fun q => h2 ⟨q.1, by omega, q.2.2⟩)]
theorem qTaR_n (f g : Nat → Int32) (co re nu ma : Int32) (a j : Nat) (h : qCho co re nu ma (f (a + j)) = -1) : qTaR f g co re nu ma a j = qTaR f g co re nu ma a (j + 1) := by
  funext i; unfold qTaR
  by_cases e : i = a + j
  · subst e; rw [if_neg (by omega), if_neg (fun q => q.2.2 h)]
  · by_cases h2 : a ≤ i ∧ i < a + j ∧ ¬ qCho co re nu ma (f i) = -1
    · rw [if_pos h2, if_pos ⟨h2.1, by omega, h2.2.2⟩]
    · rw [if_neg h2, if_neg (fun q => h2 ⟨q.1, by omega, q.2.2⟩)]
theorem qFill_in {f : Nat → Int32} {a j i : Nat} {v : Int32} (h : ¬ (a ≤ i ∧ i < a + j)) : qFill f a j v i = f i := by unfold qFill; rw [if_neg h]
theorem qCho_m1 (co re nu ma : Int32) : qCho co re nu ma (-1) = -1 := by unfold qCho; rw [if_pos rfl]
/-- one change tried: the row chosen of the old one and of the new one, what stands at the subscriber -/
def qCf (co cn rw : Int32) : Prop := co = -1 ∧ ¬ cn = -1 ∧ ¬ rw = -1
