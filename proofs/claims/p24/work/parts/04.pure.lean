/-! what the leaves answer, in plain words over Int32 -/
def qNum (row col : Int32) : Int32 := if row = -1 then -1 else (row >>> ((col * nI 7) &&& 31)) &&& nI 127
def qRow (x y z : Int32) : Int32 := (x ||| (y <<< (nI 7 &&& 31))) ||| (z <<< (nI 14 &&& 31))
def qMaskN (cs : Int32) : Nat → Int32
  | 0 => nI 0
  | k + 1 => if (cs >>> (nI k &&& 31)) &&& nI 1 = nI 1 then qMaskN cs k ||| (nI 127 <<< (nI (k * 7) &&& 31)) else qMaskN cs k
def qLets (re nu v : Int32) : Prop := if re = nI 1 then v < nu else if re = nI 2 then nu ≤ v else True
noncomputable def qLetB (re nu v : Int32) : Bool := @decide (qLets re nu v) (Classical.propDecidable _)
theorem qLetB_t {re nu v : Int32} (h : qLets re nu v) : qLetB re nu v = true := by unfold qLetB; exact @decide_eq_true _ (Classical.propDecidable _) h
theorem qLetB_f {re nu v : Int32} (h : ¬ qLets re nu v) : qLetB re nu v = false := by unfold qLetB; exact @decide_eq_false _ (Classical.propDecidable _) h
noncomputable def qCho (co re nu ma row : Int32) : Int32 := if row = -1 then -1 else if qLetB re nu (qNum row co) = true then row &&& ma else -1
theorem look_1 {x : Int32} {d o1 o2 : Int} (h : x = nI 1) : Op.lookupswitch.offset [(1, o1), (2, o2)] d x.toInt = o1 := by subst h; rfl
theorem look_2 {x : Int32} {d o1 o2 : Int} (h : x = nI 2) : Op.lookupswitch.offset [(1, o1), (2, o2)] d x.toInt = o2 := by subst h; rfl
theorem look_0 {x : Int32} {d o1 o2 : Int} (h1 : ¬ x = nI 1) (h2 : ¬ x = nI 2) : Op.lookupswitch.offset [(1, o1), (2, o2)] d x.toInt = d := by
  have e1 : ¬ x.toInt = 1 := fun q => h1 (by rw [← Int32.toInt_inj, q]; decide)
  have e2 : ¬ x.toInt = 2 := fun q => h2 (by rw [← Int32.toInt_inj, q]; decide)
  simp [Op.lookupswitch.offset, List.find?, Ne.symm e1, Ne.symm e2, e1, e2]
theorem nI_m1 {k : Nat} (h : k < 2 ^ 31) : nI k = -1 ↔ False := ⟨fun q => by
  have h1 := congrArg Int32.toInt q
  rw [nI_toInt h] at h1
  have : (-1 : Int32).toInt = -1 := by decide
  omega, fun q => q.elim⟩
def qFill (f : Nat → Int32) (a j : Nat) (v : Int32) : Nat → Int32 := fun i => if a ≤ i ∧ i < a + j then v else f i
theorem qFill_0 (f : Nat → Int32) (a : Nat) (v : Int32) : qFill f a 0 v = f := by
  funext i; unfold qFill; rw [if_neg (by omega)]
theorem qFill_s (f : Nat → Int32) (a j : Nat) (v : Int32) : upd (qFill f a j v) (a + j) v = qFill f a (j + 1) v := by
  funext i; unfold qFill upd
  by_cases h : i = a + j
  · rw [if_pos h, if_pos (by omega)]
  · rw [if_neg h]; dsimp only
    by_cases h2 : a ≤ i ∧ i < a + j
    · rw [if_pos h2, if_pos (by omega)]
    · rw [if_neg h2, if_neg (by omega)]
def qTk (x y : Int32) : Bool := decide (¬ x = -1 ∧ x < y)
noncomputable def qTaR (f g : Nat → Int32) (co re nu ma : Int32) (a j : Nat) : Nat → Int32 := fun i => if a ≤ i ∧ i < a + j ∧ ¬ qCho co re nu ma (f i) = -1 then -1 else g i
theorem qTaR_0 (f g : Nat → Int32) (co re nu ma : Int32) (a : Nat) : qTaR f g co re nu ma a 0 = g := by
  funext i; unfold qTaR; rw [if_neg (by omega)]
theorem qTaR_y (f g : Nat → Int32) (co re nu ma : Int32) (a j : Nat) (h : ¬ qCho co re nu ma (f (a + j)) = -1) : upd (qTaR f g co re nu ma a j) (a + j) (-1) = qTaR f g co re nu ma a (j + 1) := by
  funext i; unfold qTaR upd
  by_cases e : i = a + j
  · subst e; rw [if_pos rfl, if_pos ⟨by omega, by omega, h⟩]
  · rw [if_neg e]; dsimp only
    by_cases h2 : a ≤ i ∧ i < a + j ∧ ¬ qCho co re nu ma (f i) = -1
    · rw [if_pos h2, if_pos ⟨h2.1, by omega, h2.2.2⟩]
    · rw [if_neg h2, if_neg (fun q => h2 ⟨q.1, by omega, q.2.2⟩)]
theorem qTaR_n (f g : Nat → Int32) (co re nu ma : Int32) (a j : Nat) (h : qCho co re nu ma (f (a + j)) = -1) : qTaR f g co re nu ma a j = qTaR f g co re nu ma a (j + 1) := by
  funext i; unfold qTaR
  by_cases e : i = a + j
  · subst e; rw [if_neg (by omega), if_neg (fun q => q.2.2 h)]
  · by_cases h2 : a ≤ i ∧ i < a + j ∧ ¬ qCho co re nu ma (f i) = -1
    · rw [if_pos h2, if_pos ⟨h2.1, by omega, h2.2.2⟩]
    · rw [if_neg h2, if_neg (fun q => h2 ⟨q.1, by omega, q.2.2⟩)]
theorem qFill_in {f : Nat → Int32} {a j i : Nat} {v : Int32} (h : ¬ (a ≤ i ∧ i < a + j)) : qFill f a j v i = f i := by unfold qFill; rw [if_neg h]
theorem qCho_m1 (co re nu ma : Int32) : qCho co re nu ma (-1) = -1 := by unfold qCho; rw [if_pos rfl]
/-- one change tried: the row chosen of the old one and of the new one, what stands at the subscriber -/
abbrev qCf (co cn rw : Int32) : Prop := co = -1 ∧ ¬ cn = -1 ∧ ¬ rw = -1
abbrev qF : Type := Nat → Int32
theorem qTa_step {old rw o w o1 w1 : qF} {co re nu ma : Int32} {a j : Nat} (ho : o = qFill old a j (-1)) (hw : w = qTaR old rw co re nu ma a j) (ho1 : o1 = upd o (a + j) (-1))
    (hw1 : w1 = if qCho co re nu ma (o (a + j)) = -1 ∧ qCho co re nu ma (-1) = -1 then w else upd w (a + j) (qCho co re nu ma (-1))) : o1 = qFill old a (j + 1) (-1) ∧ w1 = qTaR old rw co re nu ma a (j + 1) := by
  subst ho; subst hw
  rw [qFill_in (by omega), qCho_m1] at hw1
  refine ⟨by rw [ho1]; exact qFill_s _ _ _ _, ?_⟩
  by_cases h : qCho co re nu ma (old (a + j)) = -1
  · rw [hw1, if_pos ⟨h, rfl⟩]; exact qTaR_n _ _ _ _ _ _ _ _ h
  · rw [hw1, if_neg (fun q => h q.1)]; exact qTaR_y _ _ _ _ _ _ _ _ h
/-- one change tried on a subscriber's rows -/
noncomputable def qAp1 (co re nu ma : qF) (tk : Bool) (t : Nat) (K v : Int32) (o w : qF) : Option (qF × qF) :=
  if tk = false then some (o, w) else if K = -1 then some (qFill o (t * 12) 12 (-1), qTaR o w (co t) (re t) (nu t) (ma t) (t * 12) 12)
  else if qCf (qCho (co t) (re t) (nu t) (ma t) (o (t * 12 + K.toNatClampNeg))) (qCho (co t) (re t) (nu t) (ma t) v) (w (t * 12 + K.toNatClampNeg)) then none
  else some (upd o (t * 12 + K.toNatClampNeg) v, if qCho (co t) (re t) (nu t) (ma t) (o (t * 12 + K.toNatClampNeg)) = -1 ∧ qCho (co t) (re t) (nu t) (ma t) v = -1 then w else upd w (t * 12 + K.toNatClampNeg) (qCho (co t) (re t) (nu t) (ma t) v))
/-- a commit's changes, the first i of them -/
noncomputable def qAp (co re nu ma cp : qF) (y : Int32) (ct ck nr : qF) (b : Nat) (o w : qF) : Nat → Option (qF × qF)
  | 0 => some (o, w)
  | i + 1 => (qAp co re nu ma cp y ct ck nr b o w i).bind (fun q => qAp1 co re nu ma (qTk (cp (ct (b + i)).toNatClampNeg) y) (ct (b + i)).toNatClampNeg (ck (b + i)) (nr (b + i)) q.1 q.2)
theorem qAp_s {co re nu ma cp : qF} {y : Int32} {ct ck nr : qF} {b : Nat} {o w o1 w1 : qF} {i t : Nat} (h : qAp co re nu ma cp y ct ck nr b o w i = some (o1, w1)) (ht : t < 2) (et : ct (b + i) = nI t) : qAp co re nu ma cp y ct ck nr b o w (i + 1) = qAp1 co re nu ma (qTk (cp t) y) t (ck (b + i)) (nr (b + i)) o1 w1 := by
  show (qAp co re nu ma cp y ct ck nr b o w i).bind _ = _
  rw [h, et, nI_clamp (by omega)]; rfl
theorem qAp_none {co re nu ma cp : qF} {y : Int32} {ct ck nr : qF} {b : Nat} {o w : qF} {i : Nat} (h : qAp co re nu ma cp y ct ck nr b o w i = none) : ∀ j, qAp co re nu ma cp y ct ck nr b o w (i + j) = none
  | 0 => h
  | j + 1 => by
    show (qAp co re nu ma cp y ct ck nr b o w (i + j)).bind _ = _
    rw [qAp_none h j]; rfl
theorem qAp1_n {co re nu ma : qF} {tk : Bool} {t : Nat} {K v : Int32} {o w : qF} (h : tk = false) : qAp1 co re nu ma tk t K v o w = some (o, w) := by unfold qAp1; rw [if_pos h]
theorem qAp1_a {co re nu ma : qF} {tk : Bool} {t : Nat} {K v : Int32} {o w : qF} (h : ¬ tk = false) (hK : K = -1) : qAp1 co re nu ma tk t K v o w = some (qFill o (t * 12) 12 (-1), qTaR o w (co t) (re t) (nu t) (ma t) (t * 12) 12) := by unfold qAp1; rw [if_neg h, if_pos hK]
theorem qAp1_k {co re nu ma : qF} {tk : Bool} {t k : Nat} {K v : Int32} {o w : qF} (h : ¬ tk = false) (hk : k < 12) (hK : K = nI k) : qAp1 co re nu ma tk t K v o w = if qCf (qCho (co t) (re t) (nu t) (ma t) (o (t * 12 + k))) (qCho (co t) (re t) (nu t) (ma t) v) (w (t * 12 + k)) then none else some (upd o (t * 12 + k) v, if qCho (co t) (re t) (nu t) (ma t) (o (t * 12 + k)) = -1 ∧ qCho (co t) (re t) (nu t) (ma t) v = -1 then w else upd w (t * 12 + k) (qCho (co t) (re t) (nu t) (ma t) v)) := by
  unfold qAp1
  rw [if_neg h, hK, if_neg (fun q => (nI_m1 (by omega)).mp q), nI_clamp (by omega)]
theorem ite_y {α : Type} {q : Prop} [Decidable q] {a b : α} (h : q) : a = if q then a else b := (if_pos h).symm
theorem ite_n {α : Type} {q : Prop} [Decidable q] {a b : α} (h : ¬ q) : b = if q then a else b := (if_neg h).symm
def qCnt (f : qF) (a : Nat) : Nat → Nat
  | 0 => 0
  | j + 1 => qCnt f a j + if f (a + j) = -1 then 0 else 1
theorem qCnt_le (f : qF) (a : Nat) : ∀ j, qCnt f a j ≤ j
  | 0 => Nat.le_refl _
  | j + 1 => by
    have h := qCnt_le f a j
    show qCnt f a j + (if f (a + j) = -1 then 0 else 1) ≤ j + 1
    by_cases q : f (a + j) = -1
    · rw [if_pos q]; omega
    · rw [if_neg q]; omega
theorem qCnt_y {f : qF} {a j : Nat} (h : f (a + j) = -1) : qCnt f a (j + 1) = qCnt f a j := by show qCnt f a j + _ = _; rw [if_pos h]; rfl
theorem qCnt_n {f : qF} {a j : Nat} (h : ¬ f (a + j) = -1) : qCnt f a (j + 1) = qCnt f a j + 1 := by show qCnt f a j + _ = _; rw [if_neg h]
def qLag (st sl n : Nat) : Nat := if st = 1 ∨ st = 2 then n - sl else 0
def qCut (lim st sl n : Nat) : Nat := if lim < qLag st sl n then 3 else st
def qCutN (lim st sl n : Nat) : Nat := if lim < qLag st sl n then 1 else 0
def qFg (b : Bool) (cp : qF) (t : Nat) : qF := if b = true then upd cp t (-1) else cp
def qFgN (b : Bool) (cp : qF) (t : Nat) : Nat := if b = true ∧ ¬ cp t = -1 then 1 else 0
theorem upd_id {f : qF} {i : Nat} {v : Int32} (h : f i = v) : upd f i v = f := by
  funext j; unfold upd
  by_cases q : j = i
  · rw [if_pos q, q, h]
  · rw [if_neg q]
theorem qFg_n {b : Bool} {cp : qF} {t : Nat} (h : ¬ b = true) : cp = qFg b cp t := by unfold qFg; rw [if_neg h]
theorem qFg_s {b : Bool} {cp : qF} {t : Nat} (h : b = true) (h2 : cp t = -1) : cp = qFg b cp t := by unfold qFg; rw [if_pos h, upd_id h2]
theorem qFg_y {b : Bool} {cp : qF} {t : Nat} (h : b = true) : upd cp t (-1) = qFg b cp t := by unfold qFg; rw [if_pos h]
def qMap (h : Int32 → Int32) (f g : qF) (a j : Nat) : qF := fun i => if a ≤ i ∧ i < a + j then h (f i) else g i
theorem qMap_0 (h : Int32 → Int32) (f g : qF) (a : Nat) : qMap h f g a 0 = g := by
  funext i; unfold qMap; rw [if_neg (by omega)]
theorem qMap_s (h : Int32 → Int32) (f g : qF) (a j : Nat) : upd (qMap h f g a j) (a + j) (h (f (a + j))) = qMap h f g a (j + 1) := by
  funext i; unfold qMap upd
  by_cases e : i = a + j
  · rw [if_pos e, if_pos (by omega), e]
  · rw [if_neg e]; dsimp only
    by_cases h2 : a ≤ i ∧ i < a + j
    · rw [if_pos h2, if_pos (by omega)]
    · rw [if_neg h2, if_neg (by omega)]
theorem qLag_le (st sl n : Nat) : qLag st sl n ≤ n := by
  unfold qLag
  by_cases h : st = 1 ∨ st = 2
  · rw [if_pos h]; omega
  · rw [if_neg h]; omega
theorem qCutN_y {lim st sl n : Nat} (h : ¬ qLag st sl n ≤ lim) : qCutN lim st sl n = 1 := by unfold qCutN; rw [if_pos (Nat.lt_of_not_le h)]
theorem qCutN_n {lim st sl n : Nat} (h : qLag st sl n ≤ lim) : qCutN lim st sl n = 0 := by unfold qCutN; rw [if_neg (Nat.not_lt.mpr h)]
theorem qCut_y {lim st sl n : Nat} (h : ¬ qLag st sl n ≤ lim) : qCut lim st sl n = 3 := by unfold qCut; rw [if_pos (Nat.lt_of_not_le h)]
theorem qCut_n {lim st sl n : Nat} (h : qLag st sl n ≤ lim) : qCut lim st sl n = st := by unfold qCut; rw [if_neg (Nat.not_lt.mpr h)]
theorem qFgN_n {b : Bool} {cp : qF} {t : Nat} (h : ¬ b = true) : qFgN b cp t = 0 := by unfold qFgN; rw [if_neg (fun q => h q.1)]
theorem qFgN_s {b : Bool} {cp : qF} {t : Nat} (h2 : cp t = -1) : qFgN b cp t = 0 := by unfold qFgN; rw [if_neg (fun q => q.2 h2)]
theorem qFgN_y {b : Bool} {cp : qF} {t : Nat} (h : b = true) (h2 : ¬ cp t = -1) : qFgN b cp t = 1 := by unfold qFgN; rw [if_pos ⟨h, h2⟩]
theorem qMax {a c : Nat} {x : Int32} (e : x = nI c) (ha : a < 2 ^ 31) (hc : c < 2 ^ 31) : (if nI a < x then x else nI a) = nI (if a < c then c else a) := by
  subst e
  by_cases h : a < c
  · rw [if_pos h, if_pos ((nI_ltI ha hc).mpr h)]
  · rw [if_neg h, if_neg (fun q => h ((nI_ltI ha hc).mp q))]
/-- k commits taken, one behind the other: what the subscriber's rows are then -/
noncomputable def qRel (co re nu ma cp cc ct ck nr cr : qF) (sl : Nat) (sr : qF) : Nat → qF → Prop
  | 0, f => f = sr
  | k + 1, f => ∃ (f0 o w o1 w1 : qF) (m : Nat), qRel co re nu ma cp cc ct ck nr cr sl sr k f0 ∧ cc (sl + k) = nI m ∧ m ≤ 12 ∧ qAp co re nu ma cp (nI (sl + k + 1)) ct ck nr ((sl + k) * 12) (va_cpy cr o ((sl + k) * 24) 0 24) (va_cpy f0 w 0 0 24) m = some (o1, w1) ∧ f = va_cpy w1 f0 0 0 24
def qStop (co re nu ma cp cc ct ck nr cr : qF) (c : Nat) (f : qF) : Prop := ∃ (o w : qF) (m : Nat), cc c = nI m ∧ m ≤ 12 ∧ qAp co re nu ma cp (nI (c + 1)) ct ck nr (c * 12) (va_cpy cr o (c * 24) 0 24) (va_cpy f w 0 0 24) m = none
