/-! The law's loops over its own arrays, in plain words. -/
/-- the cut of the first i subscribers -/
def bCut (f : qF) (lim : Nat) (st sl : Nat → Nat) (n i : Nat) : qF := fun x => if x % 7 = 1 ∧ x / 7 < i then nI (qCut lim (st (x / 7)) (sl (x / 7)) n) else f x
theorem bCut_0 (f : qF) (lim : Nat) (st sl : Nat → Nat) (n : Nat) : bCut f lim st sl n 0 = f := by funext x; unfold bCut; rw [if_neg (by omega)]
theorem bCut_at {f : qF} {lim : Nat} {st sl : Nat → Nat} {n i j : Nat} (hj : j < 7) : bCut f lim st sl n i (7 * i + j) = f (7 * i + j) := by unfold bCut; rw [if_neg (by omega)]
theorem bCut_y {f : qF} {lim : Nat} {st sl : Nat → Nat} {n i : Nat} (h : ¬ qLag (st i) (sl i) n ≤ lim) : upd (bCut f lim st sl n i) (7 * i + 1) (nI 3) = bCut f lim st sl n (i + 1) := by
  funext x; unfold bCut upd
  by_cases e : x = 7 * i + 1
  · rw [if_pos e, if_pos (by omega), show x / 7 = i by omega, qCut_y h]
  · rw [if_neg e]; dsimp only
    by_cases q : x % 7 = 1 ∧ x / 7 < i
    · rw [if_pos q, if_pos (by omega)]
    · rw [if_neg q, if_neg (by omega)]
theorem bCut_n {f : qF} {lim : Nat} {st sl : Nat → Nat} {n i : Nat} (h : qLag (st i) (sl i) n ≤ lim) (e1 : f (7 * i + 1) = nI (st i)) : bCut f lim st sl n i = bCut f lim st sl n (i + 1) := by
  funext x; unfold bCut
  by_cases e : x = 7 * i + 1
  · rw [if_neg (by omega), if_pos (by omega), show x / 7 = i by omega, qCut_n h, e, e1]
  · by_cases q : x % 7 = 1 ∧ x / 7 < i
    · rw [if_pos q, if_pos (by omega)]
    · rw [if_neg q, if_neg (by omega)]
theorem bCut_end {f : qF} {lim : Nat} {st sl : Nat → Nat} {n : Nat} : ∀ i, i < 3 → ∀ j, j < 7 → bCut f lim st sl n 3 (7 * i + j) = if j = 1 then nI (qCut lim (st i) (sl i) n) else f (7 * i + j) := fun i hi j hj => by
  unfold bCut
  by_cases q : j = 1
  · rw [if_pos (by omega), if_pos q, show (7 * i + j) / 7 = i by omega]
  · rw [if_neg (by omega), if_neg q]
theorem mCutS_y {lim : Nat} {st sl : Nat → Nat} {n i : Nat} (h : ¬ qLag (st i) (sl i) n ≤ lim) : mCutS lim st sl n (i + 1) = mCutS lim st sl n i + 1 := by show mCutS lim st sl n i + _ = _; rw [qCutN_y h]
theorem mCutS_n {lim : Nat} {st sl : Nat → Nat} {n i : Nat} (h : qLag (st i) (sl i) n ≤ lim) : mCutS lim st sl n (i + 1) = mCutS lim st sl n i := by show mCutS lim st sl n i + _ = _; rw [qCutN_n h]; rfl
/-- the copies that the first i subscribers forget -/
def bFg (f : qF) (st bk : Nat → Nat) (p t i : Nat) : qF := fun x => if (x % 7 = 3 + t ∧ x / 7 < i) ∧ 0 < st (x / 7) ∧ bk (x / 7) = p then -1 else f x
theorem bFg_0 (f : qF) (st bk : Nat → Nat) (p t : Nat) : bFg f st bk p t 0 = f := by funext x; unfold bFg; rw [if_neg (by omega)]
theorem bFg_at {f : qF} {st bk : Nat → Nat} {p t i j : Nat} (hj : j < 7) : bFg f st bk p t i (7 * i + j) = f (7 * i + j) := by unfold bFg; rw [if_neg (by omega)]
theorem bFg_y {f : qF} {st bk : Nat → Nat} {p t i : Nat} (ht : t < 2) (h : 0 < st i ∧ bk i = p) : upd (bFg f st bk p t i) (7 * i + 3 + t) (-1) = bFg f st bk p t (i + 1) := by
  funext x; unfold bFg upd
  by_cases e : x = 7 * i + 3 + t
  · rw [if_pos e, if_pos ⟨by omega, by rw [show x / 7 = i by omega]; exact h⟩]
  · rw [if_neg e]; dsimp only
    by_cases q : (x % 7 = 3 + t ∧ x / 7 < i) ∧ 0 < st (x / 7) ∧ bk (x / 7) = p
    · rw [if_pos q, if_pos ⟨by omega, q.2⟩]
    · rw [if_neg q, if_neg (fun z => q ⟨by omega, z.2⟩)]
theorem bFg_n {f : qF} {st bk : Nat → Nat} {kc : Nat → Nat → Nat} {p t i : Nat} (ht : t < 2) (e3 : f (7 * i + 3 + t) = eX (kc i t)) (h : ¬ ((0 < st i ∧ bk i = p) ∧ 0 < kc i t)) : upd (bFg f st bk p t i) (7 * i + 3 + t) (eX (kc i t)) = bFg f st bk p t (i + 1) := by
  funext x; unfold bFg upd
  by_cases e : x = 7 * i + 3 + t
  · rw [if_pos e]
    by_cases q : 0 < st i ∧ bk i = p
    · rw [if_pos ⟨by omega, by rw [show x / 7 = i by omega]; exact q⟩, show kc i t = 0 from Nat.eq_zero_of_not_pos (fun z => h ⟨q, z⟩), eX_0]
    · rw [if_neg (fun z => q (by have := z.2; rw [show x / 7 = i by omega] at this; exact this)), e, e3]
  · rw [if_neg e]; dsimp only
    by_cases q : (x % 7 = 3 + t ∧ x / 7 < i) ∧ 0 < st (x / 7) ∧ bk (x / 7) = p
    · rw [if_pos q, if_pos ⟨by omega, q.2⟩]
    · rw [if_neg q, if_neg (fun z => q ⟨by omega, z.2⟩)]
theorem bFg_end {f : qF} {st bk : Nat → Nat} {p t : Nat} (ht : t < 2) : ∀ i, i < 3 → ∀ j, j < 7 → bFg f st bk p t 3 (7 * i + j) = if (0 < st i ∧ bk i = p) ∧ j = 3 + t then -1 else f (7 * i + j) := fun i hi j hj => by
  unfold bFg
  by_cases q : (0 < st i ∧ bk i = p) ∧ j = 3 + t
  · rw [if_pos q, if_pos ⟨by omega, by rw [show (7 * i + j) / 7 = i by omega]; exact q.1⟩]
  · rw [if_neg q, if_neg (fun z => q (by have := z.2; rw [show (7 * i + j) / 7 = i by omega] at this; exact ⟨this, by omega⟩))]
theorem bN_y {st bk : Nat → Nat} {kc : Nat → Nat → Nat} {p t k : Nat} (h : (0 < st k ∧ bk k = p) ∧ 0 < kc k t) : bN st bk kc p t (k + 1) = bN st bk kc p t k + 1 := by show bN st bk kc p t k + _ = _; rw [if_pos h]
theorem bN_n {st bk : Nat → Nat} {kc : Nat → Nat → Nat} {p t k : Nat} (h : ¬ ((0 < st k ∧ bk k = p) ∧ 0 < kc k t)) : bN st bk kc p t (k + 1) = bN st bk kc p t k := by show bN st bk kc p t k + _ = _; rw [if_neg h]; rfl
/-- the first j places copied -/
def oC (f g : qF) (j : Nat) : qF := fun i => if i < j then f i else g i
theorem oC_0 (f g : qF) : oC f g 0 = g := by funext i; unfold oC; rw [if_neg (by omega)]
theorem oC_s (f g : qF) (j : Nat) : upd (oC f g j) j (f j) = oC f g (j + 1) := by
  funext i; unfold oC upd
  by_cases e : i = j
  · rw [if_pos e, if_pos (by omega), e]
  · rw [if_neg e]; dsimp only
    by_cases q : i < j
    · rw [if_pos q, if_pos (by omega)]
    · rw [if_neg q, if_neg (by omega)]
theorem oC_in {f g : qF} {j i : Nat} (h : i < j) : oC f g j i = f i := by unfold oC; rw [if_pos h]
theorem qCnt_rE {rows lp : qF} (h : ∀ i, i < 24 → rE (rows i) (lp i)) {t : Nat} (ht : t < 2) : qCnt rows (t * 12) 12 = qCnt lp (12 * t) 12 := by
  have key : ∀ j, j ≤ 12 → qCnt rows (t * 12) j = qCnt lp (12 * t) j := by
    intro j
    induction j with
    | zero => intro _; rfl
    | succ j ih =>
      intro hj
      show qCnt _ _ j + _ = qCnt _ _ j + _
      have e := h (t * 12 + j) (by omega)
      rw [ih (by omega), show 12 * t + j = t * 12 + j by omega]
      by_cases q : rows (t * 12 + j) = -1
      · rw [if_pos q, if_pos ((rE_m1 e).mp q)]
      · rw [if_neg q, if_neg (fun z => q ((rE_m1 e).mpr z))]
  exact key 12 (Nat.le_refl 12)
/-- a subscriber's number, 0 where there is none -/
def cl (s : Nat) : Nat := if s < 3 then s else 0
theorem cl_lt (s : Nat) : cl s < 3 := by unfold cl; split <;> omega
theorem cl_of {s : Nat} (h : s < 3) : cl s = s := if_pos h
theorem hsx_cl {s : Nat} (hs : s ≤ 3) : ∀ j, j < 3 → nI s = nI j → j = cl s := fun j hj e => by
  have := nI_j e (by omega) (by omega)
  subst this
  exact (cl_of hj).symm
theorem bit_v {w k : Nat} (hw : w < 8) (hk : k < 3) : (nI w >>> (nI k &&& 31)) &&& nI 1 = nI (w / 2 ^ k % 2) := by
  rcases (show k = 0 ∨ k = 1 ∨ k = 2 by omega) with rfl | rfl | rfl
  · rw [pk_shrN (by omega) (nI 0 &&& 31) 0 (by decide), pk_andN (by omega) 1 (by decide)]
  · rw [pk_shrN (by omega) (nI 1 &&& 31) 1 (by decide), pk_andN (by omega) 1 (by decide)]
  · rw [pk_shrN (by omega) (nI 2 &&& 31) 2 (by decide), pk_andN (by omega) 1 (by decide)]
theorem bo_y {w k a : Nat} (h : w / 2 ^ k % 2 = 1) : bo w k a = a := if_pos h
theorem bo_n {w k a : Nat} (h : ¬ w / 2 ^ k % 2 = 1) : bo w k a = 0 := if_neg h
theorem dig_bo {w k a b c : Nat} (hk : k < 3) : dig k (bo w 0 a) (bo w 1 b) (bo w 2 c) = bo w k (dig k a b c) := by
  rcases (show k = 0 ∨ k = 1 ∨ k = 2 by omega) with rfl | rfl | rfl <;> rfl
/-- a number of the script, made out where it ends -/
def pt (L : Nat) (xs : Nat → Int32) (k n : Nat) : Int32 := ((if k < L then xs k else nI 389 * nI k + (nI 257 * nI k) * nI k) &&& (2147483647 : Int32))
theorem pt_and (x : Int32) : ∃ j : Nat, j < 2 ^ 31 ∧ x &&& (2147483647 : Int32) = nI j := pk_andE x 31 (by decide)
