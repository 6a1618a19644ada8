/-! The class's state and the model's: what they have to do with each other. -/
def RC (c i : Nat) (ct ck nr tab key frs : qF) : Prop := (∃ t, t < 2 ∧ ct (c * 12 + i) = nI t ∧ tab (12 * (c + 1) + i) = nI t) ∧ ((ck (c * 12 + i) = -1 ∧ key (12 * (c + 1) + i) = -1 ∧ nr (c * 12 + i) = -1 ∧ frs (12 * (c + 1) + i) = -1) ∨ ((∃ k, k < 12 ∧ ck (c * 12 + i) = nI k ∧ key (12 * (c + 1) + i) = nI k) ∧ rE (nr (c * 12 + i)) (frs (12 * (c + 1) + i))))
def RG (c : Nat) (cc ct ck nr chg tab key frs : qF) : Prop := ∃ m, m ≤ 12 ∧ cc c = nI m ∧ chg (c + 1) = nI m ∧ ∀ i, i < m → RC c i ct ck nr tab key frs
def RT (n : Nat) (rows cc ct ck nr cr row kept chg tab key frs : qF) : Prop :=
  (∀ i, i < 24 → rE (rows i) (row i)) ∧ (∀ c, c ≤ n → ∀ i, i < 24 → rE (cr (c * 24 + i)) (kept (24 * c + i))) ∧ (∀ c, c ≤ n → RG c cc ct ck nr chg tab key frs) ∧ (∀ c, n < c → c ≤ 50 → cc c = nI 0) ∧ (cc n = nI 0 → ∀ i, i < 24 → rows i = cr (n * 24 + i))
def RP (co re nu ma : Nat → qF) (col rel num lis : qF) : Prop := ∀ p, p < 3 → ∀ t, t < 2 → ∃ c r v w, c < 3 ∧ r < 3 ∧ v < 100 ∧ w < 8 ∧ co p t = nI c ∧ col (2 * p + t) = nI c ∧ re p t = nI r ∧ rel (2 * p + t) = nI r ∧ nu p t = nI v ∧ num (2 * p + t) = nI v ∧ ma p t = qMaskN (nI w) 3 ∧ lis (2 * p + t) = nI w
def RS (ad : Nat → Nat) (bk : Nat → Nat) (n : Nat) (pu : Nat → Option Nat) (st sl : Nat → Nat) (sr cp : Nat → qF) (boo sta slo cop see : qF) (i : Nat) : Prop :=
  st i ≤ 3 ∧ sta i = nI (st i) ∧ sl i ≤ n ∧ slo i = nI (sl i) ∧ bk i < 3 ∧ boo i = nI (bk i) ∧ (st i = 2 → sl i < n) ∧ ((st i = 0 ∧ pu i = none) ∨ (0 < st i ∧ pu i = some (ad (13 + 5 * bk i)))) ∧ (∀ t, t < 2 → cp i t = cop (2 * i + t) ∧ (cp i t = -1 ∨ ∃ c, c ≤ n ∧ cp i t = nI c)) ∧ (∀ j, j < 24 → rE (sr i j) (see (24 * i + j)))
def RR (ad : Nat → Nat) (bk : Nat → Nat) (lim n : Nat) (rows cc ct ck nr cr : qF) (co re nu ma sr cp : Nat → qF) (pu : Nat → Option Nat) (st sl : Nat → Nat) (row kept chg tab key frs col rel num lis boo sta slo cop see : qF) : Prop :=
  lim ≤ 50 ∧ n ≤ 50 ∧ RT n rows cc ct ck nr cr row kept chg tab key frs ∧ RP co re nu ma col rel num lis ∧ ∀ i, i < 3 → RS ad bk n pu st sl sr cp boo sta slo cop see i
def RRt (ad : Nat → Nat) (bk : Nat → Nat) (s : S4) (m : S5) : Prop := match s, m with
  | (lim, n, rows, cc, ct, ck, nr, cr, _, _, co, re, nu, ma, sr, cp, pu, st, sl), (_, n2, lim2, row, kept, chg, tab, key, frs, col, rel, num, lis, boo, sta, slo, cop, see, _, _) => n2 = n ∧ lim2 = lim ∧ RR ad bk lim n rows cc ct ck nr cr co re nu ma sr cp pu st sl row kept chg tab key frs col rel num lis boo sta slo cop see
def SIMi (ad : Nat → Nat) (k b : Int32) (q : S4 × (Nat → Int64)) (q2 : S5) : Prop := q2.1 = k ∧ (k = nI 0 → q.2 0 = b.toInt64) ∧ ∃ bk, RRt ad bk q.1 q2
def SIMz (ad : Nat → Nat) (k b : Int32) (q : S4 × (Nat → Int64)) (q2 : S5) : Prop := q2.1 = k ∧ (k = nI 0 → q.2 0 = cB b) ∧ ∃ bk, RRt ad bk q.1 q2
def SIMv (ad : Nat → Nat) (k : Int32) (q : S4) (q2 : S5) : Prop := q2.1 = k ∧ ∃ bk, RRt ad bk q q2
theorem updL_0 (f : Nat → Int64) (x : Int64) : vp_updL f 0 x 0 = x := if_pos rfl
theorem upd_same (f : qF) (i : Nat) (x : Int32) : upd f i x i = x := by unfold upd; rw [if_pos rfl]
theorem upd_ne {f : qF} {i j : Nat} {x : Int32} (h : j ≠ i) : upd f i x j = f j := by unfold upd; rw [if_neg h]
theorem up_same {α : Type} (f : Nat → α) (i : Nat) (x : α) : va_up f i x i = x := by unfold va_up; rw [if_pos rfl]
theorem up_ne {α : Type} {f : Nat → α} {i j : Nat} {x : α} (h : j ≠ i) : va_up f i x j = f j := by unfold va_up; rw [if_neg h]
theorem nI_j {a b : Nat} (h : nI a = nI b) (ha : a < 2 ^ 31) (hb : b < 2 ^ 31) : a = b := (nI_eq ha hb).mp h
theorem n01 : ¬ nI 1 = nI 0 := by decide
theorem n02 : ¬ nI 2 = nI 0 := by decide
theorem n03 : ¬ nI 3 = nI 0 := by decide
theorem RG_other {c n cn : Nat} {cc ct ck nr chg tab key frs : qF} {x1 x2 x3 x4 x5 x6 x7 x8 : Int32} (h : RG c cc ct ck nr chg tab key frs) (hc : c < n) : RG c (upd cc n x1) (upd ct (n * 12 + cn) x2) (upd ck (n * 12 + cn) x3) (upd nr (n * 12 + cn) x4) (upd chg (n + 1) x5) (upd tab (12 * (n + 1) + cn) x6) (upd key (12 * (n + 1) + cn) x7) (upd frs (12 * (n + 1) + cn) x8) := by
  obtain ⟨m, hm, h1, h2, h3⟩ := h
  refine ⟨m, hm, by rw [upd_ne (by omega)]; exact h1, by rw [upd_ne (by omega)]; exact h2, fun i hi => ?_⟩
  unfold RC
  rw [upd_ne (by omega), upd_ne (by omega), upd_ne (by omega), upd_ne (by omega), upd_ne (by omega), upd_ne (by omega)]
  exact h3 i hi
/-- one change more of the open transaction -/
theorem RT_add {n cn t : Nat} {rows cc ct ck nr cr row kept chg tab key frs rows' row' : qF} {K K' v v' : Int32} (h : RT n rows cc ct ck nr cr row kept chg tab key frs) (hcc : cc n = nI cn) (hcn : cn < 12) (ht : t < 2) (hk : (K = -1 ∧ K' = -1 ∧ v = -1 ∧ v' = -1) ∨ ((∃ k, k < 12 ∧ K = nI k ∧ K' = nI k) ∧ rE v v')) (hr : ∀ i, i < 24 → rE (rows' i) (row' i)) :
    RT n rows' (upd cc n (nI (cn + 1))) (upd ct (n * 12 + cn) (nI t)) (upd ck (n * 12 + cn) K) (upd nr (n * 12 + cn) v) cr row' kept (upd chg (n + 1) (nI (cn + 1))) (upd tab (12 * (n + 1) + cn) (nI t)) (upd key (12 * (n + 1) + cn) K') (upd frs (12 * (n + 1) + cn) v') := by
  obtain ⟨-, h2, h3, h4, -⟩ := h
  refine ⟨hr, h2, fun c hc => ?_, fun c h5 h6 => by rw [upd_ne (by omega)]; exact h4 c h5 h6, fun q => ?_⟩
  · rcases Nat.lt_or_ge c n with q | q
    · exact RG_other (h3 c hc) q
    · obtain rfl : c = n := by omega
      obtain ⟨m, hm, e1, e2, e3⟩ := h3 c hc
      have em : m = cn := nI_j (e1.symm.trans hcc) (by omega) (by omega)
      subst em
      refine ⟨m + 1, by omega, upd_same _ _ _, upd_same _ _ _, fun i hi => ?_⟩
      rcases Nat.lt_or_ge i m with q2 | q2
      · unfold RC
        rw [upd_ne (by omega), upd_ne (by omega), upd_ne (by omega), upd_ne (by omega), upd_ne (by omega), upd_ne (by omega)]
        exact e3 i q2
      · obtain rfl : i = m := by omega
        unfold RC
        rw [upd_same, upd_same, upd_same, upd_same, upd_same, upd_same]
        exact ⟨⟨t, ht, rfl, rfl⟩, hk⟩
  · rw [upd_same] at q
    exact absurd (nI_j q (by omega) (by omega)) (by omega)
theorem RT_row {n t k : Nat} {rows row : qF} {v v' : Int32} (h : ∀ i, i < 24 → rE (rows i) (row i)) (hv : rE v v') : ∀ i, i < 24 → rE (upd rows (t * 12 + k) v i) (upd row (12 * t + k) v' i) := fun i hi => by
  by_cases q : i = t * 12 + k
  · rw [q, upd_same, show t * 12 + k = 12 * t + k by omega, upd_same]; exact hv
  · rw [upd_ne q, upd_ne (by omega)]; exact h i hi
section SIM
variable {ad bk : Nat → Nat} {lim n cn : Nat} {rows cc ct ck nr cr old rw : qF} {co re nu ma sr cp : Nat → qF} {pu : Nat → Option Nat} {st sl : Nat → Nat} {th : Int32} {row kept chg tab key frs col rel num lis boo sta slo cop see the her : qF} {out : Nat → Int64} {k r : Int32} {q : S4 × (Nat → Int64)} {q1 : S4} {q2 : S5}
theorem sM_put {tx kx a bb cx : Int32} (hR : RR ad bk lim n rows cc ct ck nr cr co re nu ma sr cp pu st sl row kept chg tab key frs col rel num lis boo sta slo cop see) (hcc : cc n = nI cn) (hcn : cn ≤ 12) (h1 : PL_put ad lim n rows cc ct ck nr cr old rw co re nu ma sr cp pu st sl cn tx kx a bb cx out k q) (h2 : PM_put th n lim row kept chg tab key frs col rel num lis boo sta slo cop see the her cn tx kx a bb cx r q2) : SIMz ad k r q q2 := by
  have hR9 := hR
  obtain ⟨hlim, hn, hT, hP, hS⟩ := hR
  obtain ⟨h, a1, a2, a3, a4, a5, hd, rfl⟩ := h2
  rcases h1 with ⟨tn, kn, r0, ⟨rfl, rfl, ht, rfl, hkn, hv, hc, er⟩, rfl⟩ | ⟨hx, rfl⟩
  · have hi : vp_in (nI tn) 2 ∧ vp_in (nI kn) 12 := ⟨vp_in_nI ht (by decide), vp_in_nI hkn (by decide)⟩
    rcases hd with ⟨z, -⟩ | ⟨-, z, -⟩ | ⟨-, -, z, -⟩ | ⟨tn', kn', e1, ht', e2, hk', -, -, rfl, rfl, rfl, rfl, rfl, rfl, rfl⟩
    · exact absurd hi z
    · exact absurd hv z
    · omega
    · obtain rfl := nI_j e1 (by omega) (by omega)
      obtain rfl := nI_j e2 (by omega) (by omega)
      have h0 := hT.1 (tn * 12 + kn) (by omega)
      rw [show 12 * tn + kn = tn * 12 + kn by omega]
      refine ⟨rfl, fun _ => (updL_0 out (cB r0)).trans ?_, bk, rfl, rfl, hlim, hn, ?_, hP, hS⟩
      · rw [er]; congr 2
        exact decide_eq_decide.mpr (rE_m1 h0)
      · refine RT_add hT hcc hc ht (Or.inr ⟨⟨kn, hkn, rfl, rfl⟩, rE_row hv.1 hv.2.1 hv.2.2⟩) ?_
        have h9 := RT_row (n := n) (t := tn) (k := kn) hT.1 (rE_row hv.1 hv.2.1 hv.2.2)
        rw [show 12 * tn + kn = tn * 12 + kn by omega] at h9
        exact h9
  · rcases hx with ⟨rfl, hx⟩ | ⟨rfl, hx⟩ | ⟨rfl, hx⟩
    · rcases hd with ⟨-, rfl, rfl, rfl, rfl, rfl, rfl⟩ | ⟨z, -⟩ | ⟨z, -⟩ | ⟨tn', kn', e1, ht', e2, hk', -⟩
      · exact ⟨rfl, fun z => absurd z n01, bk, rfl, rfl, hR9⟩
      · exact absurd z hx
      · exact absurd z hx
      · exact absurd ⟨by rw [e1]; exact vp_in_nI ht' (by decide), by rw [e2]; exact vp_in_nI hk' (by decide)⟩ hx
    · rcases hd with ⟨z, -⟩ | ⟨-, -, rfl, rfl, rfl, rfl, rfl, rfl⟩ | ⟨-, z, -⟩ | ⟨tn', kn', e1, ht', e2, hk', z, -⟩
      · exact absurd hx.1 z
      · exact ⟨rfl, fun z => absurd z n02, bk, rfl, rfl, hR9⟩
      · exact absurd z hx.2
      · exact absurd z hx.2
    · rcases hd with ⟨z, -⟩ | ⟨-, z, -⟩ | ⟨-, -, -, rfl, rfl, rfl, rfl, rfl, rfl⟩ | ⟨tn', kn', e1, ht', e2, hk', -, z, -⟩
      · exact absurd hx.1 z
      · exact absurd hx.2.1 z
      · exact ⟨rfl, fun z => absurd z n03, bk, rfl, rfl, hR9⟩
      · have := hx.2.2; omega
end SIM
