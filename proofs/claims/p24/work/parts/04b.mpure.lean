/-! the model's words -/
noncomputable def qIn (x : Int32) (N : Nat) : Bool := @decide (vp_in x N) (Classical.propDecidable _)
theorem qIn_t {x : Int32} {N : Nat} (h : vp_in x N) : qIn x N = true := by unfold qIn; exact @decide_eq_true _ (Classical.propDecidable _) h
theorem qIn_f {x : Int32} {N : Nat} (h : ¬ vp_in x N) : qIn x N = false := by unfold qIn; exact @decide_eq_false _ (Classical.propDecidable _) h
theorem qIn_y {x : Int32} {N : Nat} (h : ¬ qIn x N = false) : vp_in x N := by
  apply Classical.byContradiction
  intro q
  exact h (qIn_f q)
theorem qIn_n {x : Int32} {N : Nat} (h : qIn x N = false) : ¬ vp_in x N := fun q => by rw [qIn_t q] at h; cases h
theorem qIn_and {x : Int32} {n : Nat} (hn : n < 2 ^ 31) : decide (nI 0 ≤ x ∧ x ≤ nI n) = qIn x (n + 1) := by
  by_cases h : vp_in x (n + 1)
  · rw [qIn_t h]; exact decide_eq_true ((in_and hn).mpr h)
  · rw [qIn_f h]; exact decide_eq_false (fun q => h ((in_and hn).mp q))
theorem b_and {a b : Bool} : (a && b) = false ↔ (a = false ∨ b = false) := by cases a <;> cases b <;> simp
theorem qI2_n {x y : Int32} {M N : Nat} (h : (qIn x M && qIn y N) = false) : ¬ (vp_in x M ∧ vp_in y N) := fun q => by rw [qIn_t q.1, qIn_t q.2] at h; cases h
theorem qI2_y {x y : Int32} {M N : Nat} (h : ¬ (qIn x M && qIn y N) = false) : vp_in x M ∧ vp_in y N := ⟨qIn_y (fun q => h (by rw [q]; rfl)), qIn_y (fun q => h (by rw [q]; cases qIn x M <;> rfl))⟩
def mRow (x y z : Int32) : Int32 := (x + nI 100 * y) + nI 10000 * z
def mNum (v q : Int32) : Int32 := if v = -1 then -1 else if q = 0 then v - v / nI 100 * nI 100 else if q = nI 1 then v / nI 100 - v / nI 100 / nI 100 * nI 100 else v / nI 10000
/-- whether a side counts -/
def mCou (co re nu side : Int32) : Prop := ¬ side = -1 ∧ (re = 0 ∨ (re = nI 1 ↔ mNum side co < nu))
noncomputable def mCouB (co re nu side : Int32) : Bool := @decide (mCou co re nu side) (Classical.propDecidable _)
theorem mCouB_t {co re nu side : Int32} (h : mCou co re nu side) : mCouB co re nu side = true := by unfold mCouB; exact @decide_eq_true _ (Classical.propDecidable _) h
theorem mCouB_f {co re nu side : Int32} (h : ¬ mCou co re nu side) : mCouB co re nu side = false := by unfold mCouB; exact @decide_eq_false _ (Classical.propDecidable _) h
def mChoN (li side : Int32) : Nat → Int32
  | 0 => nI 0
  | k + 1 => mChoN li side k + if (li >>> (nI k &&& 31)) &&& nI 1 = nI 1 then nI (100 ^ k) * mNum side (nI k) else nI 0
noncomputable def mSel (co re nu li side : Int32) : Int32 := if mCouB co re nu side = true then mChoN li side 3 else -1
def mCut (f : qF) (lim : Nat) (st sl : Nat → Nat) (n k : Nat) : qF := fun i => if i < k then nI (qCut lim (st i) (sl i) n) else f i
def mCutS (lim : Nat) (st sl : Nat → Nat) (n : Nat) : Nat → Nat
  | 0 => 0
  | k + 1 => mCutS lim st sl n k + qCutN lim (st k) (sl k) n
theorem mCut_0 (f : qF) (lim : Nat) (st sl : Nat → Nat) (n : Nat) : mCut f lim st sl n 0 = f := by funext i; unfold mCut; rw [if_neg (Nat.not_lt_zero i)]
theorem mCut_y {f : qF} {lim : Nat} {st sl : Nat → Nat} {n k : Nat} (h : ¬ qLag (st k) (sl k) n ≤ lim) : upd (mCut f lim st sl n k) k (nI 3) = mCut f lim st sl n (k + 1) := by
  funext i; unfold mCut upd
  by_cases e : i = k
  · subst e; rw [if_pos rfl, if_pos (by omega), qCut_y h]
  · rw [if_neg e]; dsimp only
    by_cases h2 : i < k
    · rw [if_pos h2, if_pos (by omega)]
    · rw [if_neg h2, if_neg (by omega)]
theorem mCut_n {f : qF} {lim : Nat} {st sl : Nat → Nat} {n k : Nat} (h : qLag (st k) (sl k) n ≤ lim) (hk : f k = nI (st k)) : mCut f lim st sl n k = mCut f lim st sl n (k + 1) := by
  funext i; unfold mCut
  by_cases e : i = k
  · subst e; rw [if_neg (by omega), if_pos (by omega), qCut_n h, hk]
  · by_cases h2 : i < k
    · rw [if_pos h2, if_pos (by omega)]
    · rw [if_neg h2, if_neg (by omega)]
theorem mCut_at {f : qF} {lim : Nat} {st sl : Nat → Nat} {n k : Nat} (hk : f k = nI (st k)) : mCut f lim st sl n k k = nI (st k) := by unfold mCut; rw [if_neg (by omega)]; exact hk
theorem mCutS_le (lim : Nat) (st sl : Nat → Nat) (n : Nat) : ∀ k, mCutS lim st sl n k ≤ k
  | 0 => Nat.le_refl _
  | k + 1 => by
    have h := mCutS_le lim st sl n k
    show mCutS lim st sl n k + qCutN lim (st k) (sl k) n ≤ k + 1
    have : qCutN lim (st k) (sl k) n ≤ 1 := by unfold qCutN; split <;> omega
    omega
/-- the copies that are forgotten: pairs, by halves -/
def mFg (f : qF) (st bk : Nat → Nat) (p t k : Nat) : qF := fun i => if (i / 2 < k ∧ i % 2 = t) ∧ 0 < st (i / 2) ∧ bk (i / 2) = p then -1 else f i
def mFgN (f : qF) (st bk : Nat → Nat) (p t : Nat) : Nat → Nat
  | 0 => 0
  | k + 1 => mFgN f st bk p t k + if (0 < st k ∧ bk k = p) ∧ ¬ f (2 * k + t) = -1 then 1 else 0
theorem mFg_0 (f : qF) (st bk : Nat → Nat) (p t : Nat) : mFg f st bk p t 0 = f := by funext i; unfold mFg; rw [if_neg (fun q => Nat.not_lt_zero _ q.1.1)]
theorem mFg_y {f : qF} {st bk : Nat → Nat} {p t k : Nat} (ht : t < 2) (h : 0 < st k ∧ bk k = p) : upd (mFg f st bk p t k) (2 * k + t) (-1) = mFg f st bk p t (k + 1) := by
  funext i; unfold mFg upd
  by_cases e : i = 2 * k + t
  · subst e
    rw [if_pos rfl, if_pos ⟨⟨by omega, by omega⟩, by rw [show (2 * k + t) / 2 = k by omega]; exact h⟩]
  · rw [if_neg e]; dsimp only
    by_cases h2 : (i / 2 < k ∧ i % 2 = t) ∧ 0 < st (i / 2) ∧ bk (i / 2) = p
    · rw [if_pos h2, if_pos ⟨⟨by omega, h2.1.2⟩, h2.2⟩]
    · rw [if_neg h2, if_neg (fun q => h2 ⟨⟨by omega, q.1.2⟩, q.2⟩)]
theorem mFg_n {f : qF} {st bk : Nat → Nat} {p t k : Nat} (ht : t < 2) (h : ¬ (0 < st k ∧ bk k = p)) : mFg f st bk p t k = mFg f st bk p t (k + 1) := by
  funext i; unfold mFg
  by_cases h2 : (i / 2 < k ∧ i % 2 = t) ∧ 0 < st (i / 2) ∧ bk (i / 2) = p
  · rw [if_pos h2, if_pos ⟨⟨by omega, h2.1.2⟩, h2.2⟩]
  · by_cases h3 : (i / 2 < k + 1 ∧ i % 2 = t) ∧ 0 < st (i / 2) ∧ bk (i / 2) = p
    · have e : i / 2 = k := by
        apply Classical.byContradiction
        intro q
        exact h2 ⟨⟨by omega, h3.1.2⟩, h3.2⟩
      exact absurd (by rw [← e]; exact h3.2) h
    · rw [if_neg h2, if_neg h3]
theorem mFg_at {f : qF} {st bk : Nat → Nat} {p t k : Nat} (ht : t < 2) : mFg f st bk p t k (2 * k + t) = f (2 * k + t) := by unfold mFg; rw [if_neg (fun q => by have := q.1.1; omega)]
theorem mFgN_le (f : qF) (st bk : Nat → Nat) (p t : Nat) : ∀ k, mFgN f st bk p t k ≤ k
  | 0 => Nat.le_refl _
  | k + 1 => by
    have h := mFgN_le f st bk p t k
    show mFgN f st bk p t k + (if (0 < st k ∧ bk k = p) ∧ ¬ f (2 * k + t) = -1 then 1 else 0) ≤ k + 1
    split <;> omega
theorem mFgN_y {f : qF} {st bk : Nat → Nat} {p t k : Nat} (h : (0 < st k ∧ bk k = p) ∧ ¬ f (2 * k + t) = -1) : mFgN f st bk p t (k + 1) = mFgN f st bk p t k + 1 := by show mFgN f st bk p t k + _ = _; rw [if_pos h]
theorem mFgN_n {f : qF} {st bk : Nat → Nat} {p t k : Nat} (h : ¬ ((0 < st k ∧ bk k = p) ∧ ¬ f (2 * k + t) = -1)) : mFgN f st bk p t (k + 1) = mFgN f st bk p t k := by show mFgN f st bk p t k + _ = _; rw [if_neg h]; rfl
theorem cpy_0 (f g : qF) (a b : Nat) : va_cpy f g a b 0 = g := by funext i; unfold va_cpy; rw [if_neg (by omega)]
theorem cpy_s (f g : qF) (a b j : Nat) : upd (va_cpy f g a b j) (b + j) (f (a + j)) = va_cpy f g a b (j + 1) := by
  funext i; unfold va_cpy upd
  by_cases e : i = b + j
  · subst e; rw [if_pos rfl, if_pos (by omega), show a + (b + j - b) = a + j by omega]
  · rw [if_neg e]; dsimp only
    by_cases h2 : b ≤ i ∧ i < b + j
    · rw [if_pos h2, if_pos (by omega)]
    · rw [if_neg h2, if_neg (by omega)]
theorem cpy_s0 (f g : qF) (a j : Nat) : upd (va_cpy f g a 0 j) j (f (a + j)) = va_cpy f g a 0 (j + 1) := by have h := cpy_s f g a 0 j; rw [Nat.zero_add] at h; exact h
theorem cpy_t0 (f g : qF) (b j : Nat) : upd (va_cpy f g 0 b j) (b + j) (f j) = va_cpy f g 0 b (j + 1) := by have h := cpy_s f g 0 b j; rw [Nat.zero_add] at h; exact h
theorem m1_n {k : Nat} (h : k < 2 ^ 31) : (-1 : Int32) = nI k ↔ False := ⟨fun q => (nI_m1 h).mp q.symm, fun q => q.elim⟩
theorem goes_k {α : Type} {w j : Nat} {x y : α} (h : ¬ w = j) : (if w < j then x else y) = if w < j + 1 then x else y := by
  by_cases q : w < j
  · rw [if_pos q, if_pos (by omega)]
  · rw [if_neg q, if_neg (by omega)]
theorem m12 {a : Nat} (h : a < 2 ^ 31) : decide (nI 1 ≤ nI a ∧ nI a ≤ nI 2) = decide (a = 1 ∨ a = 2) := by
  have e : (nI 1 ≤ nI a ∧ nI a ≤ nI 2) ↔ (a = 1 ∨ a = 2) := by rw [nI_leI (by decide) h, nI_leI h (by decide)]; omega
  by_cases q : a = 1 ∨ a = 2
  · rw [decide_eq_true q]; exact decide_eq_true (e.mpr q)
  · rw [decide_eq_false q]; exact decide_eq_false (fun z => q (e.mp z))
theorem in_m1 {x : Int32} : ((-1 : Int32) ≤ x ∧ x ≤ nI 99) ↔ (x = -1 ∨ vp_in x 100) := by
  rw [vp_in_iff, Int32.le_iff_toInt_le, Int32.le_iff_toInt_le, nI_toInt (by decide), ← Int32.toInt_inj]
  have : (-1 : Int32).toInt = -1 := by decide
  omega
theorem qLag_o {st sl n : Nat} (h : ¬ (st = 1 ∨ st = 2)) : qLag st sl n = 0 := by unfold qLag; rw [if_neg h]
theorem qLag_i {st sl n : Nat} (h : st = 1 ∨ st = 2) : qLag st sl n = n - sl := by unfold qLag; rw [if_pos h]
theorem dec_y {P : Prop} [Decidable P] (h : ¬ decide P = false) : P := by
  apply Classical.byContradiction
  intro q
  exact h (decide_eq_false q)
def mCnt (g : qF) : Nat → Nat
  | 0 => 0
  | j + 1 => mCnt g j + if g j = -1 then 0 else 1
theorem mCnt_y {g : qF} {j : Nat} (h : g j = -1) : mCnt g (j + 1) = mCnt g j := by show mCnt g j + _ = _; rw [if_pos h]; rfl
theorem mCnt_n {g : qF} {j : Nat} (h : ¬ g j = -1) : mCnt g (j + 1) = mCnt g j + 1 := by show mCnt g j + _ = _; rw [if_neg h]
theorem mCnt_le (g : qF) : ∀ j, mCnt g j ≤ j
  | 0 => Nat.le_refl _
  | j + 1 => by
    have h := mCnt_le g j
    show mCnt g j + (if g j = -1 then 0 else 1) ≤ j + 1
    split <;> omega
/-- a row of places written one after the other -/
def mPut (h g : qF) (a j : Nat) : qF := fun i => if a ≤ i ∧ i < a + j then h (i - a) else g i
theorem mPut_0 (h g : qF) (a : Nat) : mPut h g a 0 = g := by funext i; unfold mPut; rw [if_neg (by omega)]
theorem mPut_s {h g : qF} {a j : Nat} {x : Int32} (e : x = h j) : upd (mPut h g a j) (a + j) x = mPut h g a (j + 1) := by
  funext i; unfold mPut upd
  by_cases q : i = a + j
  · subst q; rw [if_pos rfl, if_pos (by omega), show a + j - a = j by omega, e]
  · rw [if_neg q]; dsimp only
    by_cases h2 : a ≤ i ∧ i < a + j
    · rw [if_pos h2, if_pos (by omega)]
    · rw [if_neg h2, if_neg (by omega)]
noncomputable def mHas (col rel num : qF) (x : Nat) (v : Int32) : Bool := mCouB (col x) (rel x) (num x) v
noncomputable def mOne (col rel num lis : qF) (x : Nat) (old v : Int32) (f : qF) (a : Nat) : qF := if mHas col rel num x v = true then upd f a (mChoN (lis x) v 3) else if mHas col rel num x old = true then upd f a (-1) else f
noncomputable def mOk (col rel num : qF) (x : Nat) (old v : Int32) (f : qF) (a : Nat) : Bool := decide (¬ (mHas col rel num x v = true ∧ mHas col rel num x old = false ∧ ¬ f a = -1))
noncomputable def mJ (col rel num lis : qF) (x t : Nat) (K v : Int32) (isC : Bool) (th he : qF) : Nat → Option qF
  | 0 => some he
  | j + 1 => (mJ col rel num lis x t K v isC th he j).bind (fun f => if isC = true ∧ (K = nI j ∨ K = -1) then (if mOk col rel num x (th (12 * t + j)) v f (12 * t + j) = true then some (mOne col rel num lis x (th (12 * t + j)) v f (12 * t + j)) else none) else some f)
theorem mJ_n {col rel num lis : qF} {x t : Nat} {K v : Int32} {isC : Bool} {th he : qF} {j : Nat} (h : mJ col rel num lis x t K v isC th he j = none) : ∀ i, mJ col rel num lis x t K v isC th he (j + i) = none
  | 0 => h
  | i + 1 => by
    show (mJ col rel num lis x t K v isC th he (j + i)).bind _ = none
    rw [mJ_n h i]; rfl
theorem mJ_skip {col rel num lis : qF} {x t : Nat} {K v : Int32} {isC : Bool} {th he f : qF} {j : Nat} (h : mJ col rel num lis x t K v isC th he j = some f) (hs : ¬ (isC = true ∧ (K = nI j ∨ K = -1))) : mJ col rel num lis x t K v isC th he (j + 1) = some f := by
  show (mJ col rel num lis x t K v isC th he j).bind _ = _
  rw [h]; show (if _ then _ else _) = _; rw [if_neg hs]
theorem mJ_do {col rel num lis : qF} {x t : Nat} {K v : Int32} {isC : Bool} {th he f : qF} {j : Nat} (h : mJ col rel num lis x t K v isC th he j = some f) (hs : isC = true ∧ (K = nI j ∨ K = -1)) (hk : mOk col rel num x (th (12 * t + j)) v f (12 * t + j) = true) : mJ col rel num lis x t K v isC th he (j + 1) = some (mOne col rel num lis x (th (12 * t + j)) v f (12 * t + j)) := by
  show (mJ col rel num lis x t K v isC th he j).bind _ = _
  rw [h]; show (if _ then _ else _) = _; rw [if_pos hs, if_pos hk]
theorem mJ_no {col rel num lis : qF} {x t : Nat} {K v : Int32} {isC : Bool} {th he f : qF} {j : Nat} (h : mJ col rel num lis x t K v isC th he j = some f) (hs : isC = true ∧ (K = nI j ∨ K = -1)) (hk : mOk col rel num x (th (12 * t + j)) v f (12 * t + j) = false) : mJ col rel num lis x t K v isC th he (j + 1) = none := by
  show (mJ col rel num lis x t K v isC th he j).bind _ = _
  rw [h]; show (if _ then _ else _) = _; rw [if_pos hs, hk]; rfl
def mGo (th : qF) (t : Nat) (K v : Int32) : qF := if K = -1 then qFill th (12 * t) 12 v else upd th (12 * t + K.toNatClampNeg) v
/-- a commit's changes, the first i of them -/
noncomputable def mAp (col rel num lis cop tab key frs : qF) (p si c : Nat) (th he : qF) : Nat → Option (qF × qF)
  | 0 => some (th, he)
  | i + 1 => (mAp col rel num lis cop tab key frs p si c th he i).bind (fun q => (mJ col rel num lis (2 * p + (tab (12 * c + i)).toNatClampNeg) (tab (12 * c + i)).toNatClampNeg (key (12 * c + i)) (frs (12 * c + i)) (decide (nI 0 ≤ cop (2 * si + (tab (12 * c + i)).toNatClampNeg) ∧ cop (2 * si + (tab (12 * c + i)).toNatClampNeg) ≤ nI (c - 1))) q.1 q.2 12).map (fun f => (mGo q.1 (tab (12 * c + i)).toNatClampNeg (key (12 * c + i)) (frs (12 * c + i)), f)))
theorem mAp_n {col rel num lis cop tab key frs : qF} {p si c : Nat} {th he : qF} {i : Nat} (h : mAp col rel num lis cop tab key frs p si c th he i = none) : ∀ j, mAp col rel num lis cop tab key frs p si c th he (i + j) = none
  | 0 => h
  | j + 1 => by
    show (mAp col rel num lis cop tab key frs p si c th he (i + j)).bind _ = none
    rw [mAp_n h j]; rfl
theorem mAp_s {col rel num lis cop tab key frs : qF} {p si c : Nat} {th he th1 he1 : qF} {i t : Nat} (h : mAp col rel num lis cop tab key frs p si c th he i = some (th1, he1)) (ht : t < 2) (et : tab (12 * c + i) = nI t) : mAp col rel num lis cop tab key frs p si c th he (i + 1) = (mJ col rel num lis (2 * p + t) t (key (12 * c + i)) (frs (12 * c + i)) (decide (nI 0 ≤ cop (2 * si + t) ∧ cop (2 * si + t) ≤ nI (c - 1))) th1 he1 12).map (fun f => (mGo th1 t (key (12 * c + i)) (frs (12 * c + i)), f)) := by
  show (mAp col rel num lis cop tab key frs p si c th he i).bind _ = _
  rw [h, et, nI_clamp (by omega)]; rfl
theorem mOk_f {col rel num : qF} {x : Nat} {old v : Int32} {f : qF} {a : Nat} (h : mHas col rel num x v = true ∧ mHas col rel num x old = false ∧ ¬ f a = -1) : mOk col rel num x old v f a = false := by
  unfold mOk; simp [h]
theorem mOk_t {col rel num : qF} {x : Nat} {old v : Int32} {f : qF} {a : Nat} (h : ¬ (mHas col rel num x v = true ∧ mHas col rel num x old = false ∧ ¬ f a = -1)) : mOk col rel num x old v f a = true := by
  unfold mOk; simp only [h]; simp
theorem b_y {q : Bool} (h : ¬ q = false) : q = true := by cases q with | true => rfl | false => exact absurd rfl h
theorem mGo_m {th : qF} {t : Nat} {K v : Int32} (h : K = -1) : mGo th t K v = qFill th (12 * t) 12 v := by unfold mGo; rw [if_pos h]
theorem mGo_k {th : qF} {t k : Nat} {K v : Int32} (hk : k < 12) (h : K = nI k) : mGo th t K v = upd th (12 * t + k) v := by unfold mGo; rw [h, if_neg (fun q => (nI_m1 (by omega)).mp q), nI_clamp (by omega)]
noncomputable def mRel (col rel num lis cop tab key frs chg kept : qF) (p si s0 : Nat) (see : qF) : Nat → qF → Prop
  | 0, f => f = see
  | k + 1, f => ∃ (f0 a b a1 b1 : qF) (m : Nat), mRel col rel num lis cop tab key frs chg kept p si s0 see k f0 ∧ chg (s0 + k + 1) = nI m ∧ m ≤ 12 ∧ mAp col rel num lis cop tab key frs p si (s0 + k + 1) (va_cpy kept a (24 * (s0 + k)) 0 24) (va_cpy f0 b (24 * si) 0 24) m = some (a1, b1) ∧ f = va_cpy b1 f0 0 (24 * si) 24
def mStop (col rel num lis cop tab key frs chg kept : qF) (p si s0 : Nat) (f : qF) : Prop := ∃ (a b : qF) (m : Nat), chg (s0 + 1) = nI m ∧ m ≤ 12 ∧ mAp col rel num lis cop tab key frs p si (s0 + 1) (va_cpy kept a (24 * s0) 0 24) (va_cpy f b (24 * si) 0 24) m = none
theorem upd_uu (f : qF) (i : Nat) (x y : Int32) : upd (upd f i x) i y = upd f i y := by
  funext j; unfold upd
  by_cases q : j = i
  · rw [if_pos q, if_pos q]
  · rw [if_neg q, if_neg q, if_neg q]
