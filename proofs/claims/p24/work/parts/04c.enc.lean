/-! One row, told twice: the class packs by 128, the model by 100. -/
theorem e_and (a b : Nat) : nI a &&& nI b = nI (a &&& b) := by
  apply Int32.toBitVec_inj.1
  show BitVec.ofNat 32 a &&& BitVec.ofNat 32 b = BitVec.ofNat 32 (a &&& b)
  apply BitVec.eq_of_getLsbD_eq
  intro i hi
  simp [hi]
theorem e_or (a b : Nat) : nI a ||| nI b = nI (a ||| b) := by
  apply Int32.toBitVec_inj.1
  show BitVec.ofNat 32 a ||| BitVec.ofNat 32 b = BitVec.ofNat 32 (a ||| b)
  apply BitVec.eq_of_getLsbD_eq
  intro i hi
  simp [hi]
def k3 (a b c : Nat) : Nat := a + 128 * b + 16384 * c
def d3 (a b c : Nat) : Nat := a + 100 * b + 10000 * c
def rE (x y : Int32) : Prop := (x = -1 ∧ y = -1) ∨ ∃ a b c : Nat, a < 100 ∧ b < 100 ∧ c < 100 ∧ x = nI (k3 a b c) ∧ y = nI (d3 a b c)
theorem or_k {a b i : Nat} (h : a < 2 ^ i) : a ||| b * 2 ^ i = a + 2 ^ i * b := by
  rw [Nat.or_comm, Nat.mul_comm b, ← Nat.two_pow_add_eq_or_of_lt h, Nat.add_comm]
theorem qRow_e {a b c : Nat} (ha : a < 100) (hb : b < 100) (hc : c < 100) : qRow (nI a) (nI b) (nI c) = nI (k3 a b c) := by
  unfold qRow
  rw [pk_shlN (nI 7 &&& 31) 7 (by decide) (by omega), pk_shlN (nI 14 &&& 31) 14 (by decide) (by omega), e_or, e_or, or_k (a := a) (b := b) (i := 7) (by omega), or_k (i := 14) (by omega)]
  rfl
theorem mRow_e {a b c : Nat} : mRow (nI a) (nI b) (nI c) = nI (d3 a b c) := by
  unfold mRow
  rw [pk_mul, pk_mul, nI_add, nI_add]
  rfl
def dig (j a b c : Nat) : Nat := if j = 0 then a else if j = 1 then b else c
theorem k3_lt {a b c : Nat} (ha : a < 100) (hb : b < 100) (hc : c < 100) : k3 a b c < 2 ^ 21 := by unfold k3; omega
theorem d3_lt {a b c : Nat} (ha : a < 100) (hb : b < 100) (hc : c < 100) : d3 a b c < 1000000 := by unfold d3; omega
theorem qNum_e {a b c j : Nat} (ha : a < 100) (hb : b < 100) (hc : c < 100) (hj : j < 3) : qNum (nI (k3 a b c)) (nI j) = nI (dig j a b c) := by
  have h := k3_lt ha hb hc
  unfold qNum
  rw [if_neg (fun q => (nI_m1 (by omega)).mp q)]
  rcases (show j = 0 ∨ j = 1 ∨ j = 2 by omega) with rfl | rfl | rfl
  · rw [pk_shrN (by omega) (nI 0 * nI 7 &&& 31) 0 (by decide), pk_andN (by omega) 7 (by decide)]
    congr 1; unfold k3 dig; simp; omega
  · rw [pk_shrN (by omega) (nI 1 * nI 7 &&& 31) 7 (by decide), pk_andN (by unfold k3; omega) 7 (by decide)]
    congr 1; unfold k3 dig; simp; omega
  · rw [pk_shrN (by omega) (nI 2 * nI 7 &&& 31) 14 (by decide), pk_andN (by unfold k3; omega) 7 (by decide)]
    congr 1; unfold k3 dig; simp; omega
theorem mNum_e {a b c j : Nat} (ha : a < 100) (hb : b < 100) (hc : c < 100) (hj : j < 3) : mNum (nI (d3 a b c)) (nI j) = nI (dig j a b c) := by
  have h := d3_lt ha hb hc
  unfold mNum
  rw [if_neg (fun q => (nI_m1 (by omega)).mp q)]
  rcases (show j = 0 ∨ j = 1 ∨ j = 2 by omega) with rfl | rfl | rfl
  · rw [if_pos (by decide), pk_rem (by omega) (by omega) (by omega)]
    congr 1; unfold d3 dig; simp; omega
  · rw [if_neg (by decide), if_pos rfl, pk_div (by omega) (by omega) (by omega), pk_rem (by unfold d3; omega) (by omega) (by omega)]
    congr 1; unfold d3 dig; simp; omega
  · rw [if_neg (by decide), if_neg (by decide), pk_div (by omega) (by omega) (by omega)]
    congr 1; unfold d3 dig; simp; omega
theorem dig_lt {a b c j : Nat} (ha : a < 100) (hb : b < 100) (hc : c < 100) : dig j a b c < 100 := by unfold dig; split; exact ha; split; exact hb; exact hc
theorem rE_m1 {x y : Int32} (h : rE x y) : x = -1 ↔ y = -1 := by
  rcases h with ⟨rfl, rfl⟩ | ⟨a, b, c, ha, hb, hc, rfl, rfl⟩
  · exact ⟨fun _ => rfl, fun _ => rfl⟩
  · have h1 := k3_lt ha hb hc
    have h2 := d3_lt ha hb hc
    exact ⟨fun q => ((nI_m1 (by omega)).mp q).elim, fun q => ((nI_m1 (by omega)).mp q).elim⟩
theorem rE_num {x y : Int32} {j : Nat} (h : rE x y) (hj : j < 3) : qNum x (nI j) = mNum y (nI j) := by
  rcases h with ⟨rfl, rfl⟩ | ⟨a, b, c, ha, hb, hc, rfl, rfl⟩
  · unfold qNum mNum; rw [if_pos rfl, if_pos rfl]
  · rw [qNum_e ha hb hc hj, mNum_e ha hb hc hj]
theorem rE_row {x y z : Int32} (hx : vp_in x 100) (hy : vp_in y 100) (hz : vp_in z 100) : rE (qRow x y z) (mRow x y z) := by
  obtain ⟨a, ha, rfl⟩ := vp_in_of hx (by decide)
  obtain ⟨b, hb, rfl⟩ := vp_in_of hy (by decide)
  obtain ⟨c, hc, rfl⟩ := vp_in_of hz (by decide)
  exact Or.inr ⟨a, b, c, ha, hb, hc, qRow_e ha hb hc, mRow_e⟩
theorem rE_own {x : Int32} (hx : vp_in x 100) : rE (qRow x x x) (nI 10101 * x) := by
  obtain ⟨a, ha, rfl⟩ := vp_in_of hx (by decide)
  refine Or.inr ⟨a, a, a, ha, ha, ha, qRow_e ha ha ha, ?_⟩
  rw [pk_mul]; congr 1; unfold d3; omega
theorem rE_no : rE (-1) (-1) := Or.inl ⟨rfl, rfl⟩
theorem and_s {a m x y : Nat} (ha : a < 128) (hm : m < 128) : (a + 128 * x) &&& (m + 128 * y) = (a &&& m) + 128 * (x &&& y) := by
  apply Nat.eq_of_testBit_eq
  intro i
  have e : ∀ u v : Nat, u < 128 → (u + 128 * v).testBit i = if i < 7 then u.testBit i else v.testBit (i - 7) := fun u v hu => by
    rw [Nat.add_comm]; exact Nat.testBit_two_pow_mul_add v (i := 7) hu i
  rw [Nat.testBit_and, e a x ha, e m y hm, e _ _ (Nat.lt_of_le_of_lt Nat.and_le_left ha)]
  by_cases q : i < 7
  · rw [if_pos q, if_pos q, if_pos q, Nat.testBit_and]
  · rw [if_neg q, if_neg q, if_neg q, Nat.testBit_and]
theorem and_k3 {a b c m0 m1 m2 : Nat} (ha : a < 128) (hb : b < 128) (h0 : m0 < 128) (h1 : m1 < 128) : k3 a b c &&& k3 m0 m1 m2 = k3 (a &&& m0) (b &&& m1) (c &&& m2) := by
  have e : ∀ u v w : Nat, k3 u v w = u + 128 * (v + 128 * w) := fun u v w => by unfold k3; omega
  rw [e, e, e, and_s ha h0, and_s hb h1]
theorem and_127 {a : Nat} (h : a < 100) : a &&& 127 = a := by
  have e := Nat.and_two_pow_sub_one_eq_mod a 7
  rw [show (127 : Nat) = 2 ^ 7 - 1 from rfl, e]; omega
def bo (w k a : Nat) : Nat := if w / 2 ^ k % 2 = 1 then a else 0
theorem bo_lt {w k a : Nat} (h : a < 100) : bo w k a < 100 := by unfold bo; split <;> omega
theorem mask_c : ∀ w, w < 8 → qMaskN (nI w) 3 = nI (k3 (bo w 0 127) (bo w 1 127) (bo w 2 127)) := by decide
theorem and_bo {w k a : Nat} (h : a < 100) : a &&& bo w k 127 = bo w k a := by
  unfold bo; split
  · exact and_127 h
  · exact Nat.and_zero a
theorem mask_e {w a b c : Nat} (hw : w < 8) (ha : a < 100) (hb : b < 100) (hc : c < 100) : nI (k3 a b c) &&& qMaskN (nI w) 3 = nI (k3 (bo w 0 a) (bo w 1 b) (bo w 2 c)) := by
  have h : ∀ k, bo w k 127 < 128 := fun k => by unfold bo; split <;> omega
  rw [mask_c w hw, e_and, and_k3 (by omega) (by omega) (h 0) (h 1), and_bo ha, and_bo hb, and_bo hc]
theorem bit_e {w k : Nat} (hw : w < 8) (hk : k < 3) : ((nI w >>> (nI k &&& 31)) &&& nI 1 = nI 1) ↔ w / 2 ^ k % 2 = 1 := by
  have e : (nI w >>> (nI k &&& 31)) &&& nI 1 = nI (w / 2 ^ k % 2) := by
    rcases (show k = 0 ∨ k = 1 ∨ k = 2 by omega) with rfl | rfl | rfl
    · rw [pk_shrN (by omega) (nI 0 &&& 31) 0 (by decide), pk_andN (by omega) 1 (by decide)]
    · rw [pk_shrN (by omega) (nI 1 &&& 31) 1 (by decide), pk_andN (by omega) 1 (by decide)]
    · rw [pk_shrN (by omega) (nI 2 &&& 31) 2 (by decide), pk_andN (by omega) 1 (by decide)]
  rw [e]; exact nI_eq (by omega) (by omega)
theorem cho_e {w a b c : Nat} (hw : w < 8) (ha : a < 100) (hb : b < 100) (hc : c < 100) : mChoN (nI w) (nI (d3 a b c)) 3 = nI (d3 (bo w 0 a) (bo w 1 b) (bo w 2 c)) := by
  have t : ∀ k, k < 3 → (if (nI w >>> (nI k &&& 31)) &&& nI 1 = nI 1 then nI (100 ^ k) * mNum (nI (d3 a b c)) (nI k) else nI 0) = nI (100 ^ k * bo w k (dig k a b c)) := fun k hk => by
    unfold bo
    by_cases q : w / 2 ^ k % 2 = 1
    · rw [if_pos ((bit_e hw hk).mpr q), if_pos q, mNum_e ha hb hc hk, pk_mul]
    · rw [if_neg (fun z => q ((bit_e hw hk).mp z)), if_neg q]; rfl
  show ((nI 0 + _) + _) + _ = _
  rw [t 0 (by omega), t 1 (by omega), t 2 (by omega), nI_add, nI_add, nI_add]
  congr 1
  show 0 + 100 ^ 0 * bo w 0 a + 100 ^ 1 * bo w 1 b + 100 ^ 2 * bo w 2 c = d3 _ _ _
  unfold d3; omega
theorem let_e {x y : Int32} {c0 r0 v0 : Nat} (h : rE x y) (hx : ¬ x = -1) (hc : c0 < 3) (hr : r0 < 3) : qLetB (nI r0) (nI v0) (qNum x (nI c0)) = true ↔ mCouB (nI c0) (nI r0) (nI v0) y = true := by
  have hy : ¬ y = -1 := fun q => hx ((rE_m1 h).mpr q)
  have e : qLets (nI r0) (nI v0) (qNum x (nI c0)) ↔ mCou (nI c0) (nI r0) (nI v0) y := by
    rw [rE_num h hc]
    unfold qLets mCou
    rcases (show r0 = 0 ∨ r0 = 1 ∨ r0 = 2 by omega) with rfl | rfl | rfl
    · rw [if_neg (by decide), if_neg (by decide)]
      exact ⟨fun _ => ⟨hy, Or.inl rfl⟩, fun _ => trivial⟩
    · rw [if_pos rfl]
      exact ⟨fun q => ⟨hy, Or.inr ⟨fun _ => q, fun _ => rfl⟩⟩, fun q => q.2.elim (fun z => absurd z (by decide)) (fun z => z.mp rfl)⟩
    · rw [if_neg (by decide), if_pos rfl]
      exact ⟨fun q => ⟨hy, Or.inr ⟨fun z => absurd z (by decide), fun z => absurd q (Int32.not_le.mpr z)⟩⟩, fun q => q.2.elim (fun z => absurd z (by decide)) (fun z => Int32.not_lt.mp (fun u => absurd (z.mpr u) (by decide)))⟩
  by_cases q : qLets (nI r0) (nI v0) (qNum x (nI c0))
  · rw [qLetB_t q, mCouB_t (e.mp q)]
  · rw [qLetB_f q, mCouB_f (fun z => q (e.mpr z))]
theorem rE_cho {x y : Int32} {c0 r0 v0 w : Nat} (h : rE x y) (hc : c0 < 3) (hr : r0 < 3) (hw : w < 8) : rE (qCho (nI c0) (nI r0) (nI v0) (qMaskN (nI w) 3) x) (mSel (nI c0) (nI r0) (nI v0) (nI w) y) := by
  unfold qCho mSel
  by_cases hx : x = -1
  · have hy := (rE_m1 h).mp hx
    rw [if_pos hx, mCouB_f (fun q => q.1 hy)]
    exact Or.inl ⟨rfl, rfl⟩
  · rw [if_neg hx]
    by_cases q : qLetB (nI r0) (nI v0) (qNum x (nI c0)) = true
    · rw [if_pos q, if_pos ((let_e h hx hc hr).mp q)]
      rcases h with ⟨rfl, rfl⟩ | ⟨a, b, c, ha, hb, hc9, rfl, rfl⟩
      · exact absurd rfl hx
      · exact Or.inr ⟨bo w 0 a, bo w 1 b, bo w 2 c, bo_lt ha, bo_lt hb, bo_lt hc9, mask_e hw ha hb hc9, cho_e hw ha hb hc9⟩
    · rw [if_neg q, if_neg (fun z => q ((let_e h hx hc hr).mpr z))]
      exact Or.inl ⟨rfl, rfl⟩
