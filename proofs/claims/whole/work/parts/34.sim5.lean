/-! receive, over many commits. -/
theorem tk_e {n c : Nat} {x y : Int32} (h : x = y ∧ (x = -1 ∨ ∃ d, d ≤ n ∧ x = nI d)) (hc : c ≤ 50) (hn : n ≤ 50) : qTk x (nI (c + 1)) = decide (nI 0 ≤ y ∧ y ≤ nI (c + 1 - 1)) := by
  obtain ⟨rfl, h⟩ := h
  unfold qTk
  refine decide_eq_decide.mpr ?_
  rcases h with rfl | ⟨d, hd, rfl⟩
  · exact ⟨fun q => absurd rfl q.1, fun q => absurd q.1 (by decide)⟩
  · rw [nI_m1 (by omega), nI_ltI (by omega) (by omega), nI_leI (by omega) (by omega), nI_leI (by omega) (by omega)]
    constructor
    · intro q; omega
    · intro q; exact ⟨fun z => z, by omega⟩
/-- one commit, from rows that agree, whatever stands in the scratch rows -/
theorem one_e {co re nu ma : Nat → qF} {col rel num lis : qF} {p si c n m m' : Nat} {rows row cp cop cc ct ck nr cr kept chg tab key frs o w a b f g : qF} (hT : RT n rows cc ct ck nr cr row kept chg tab key frs) (hP : RP co re nu ma col rel num lis) (hp : p < 3) (hn : n ≤ 50) (hc : c < n) (hcp : ∀ t, t < 2 → cp t = cop (2 * si + t) ∧ (cp t = -1 ∨ ∃ d, d ≤ n ∧ cp t = nI d)) (hfg : ∀ j, j < 24 → rE (f j) (g (24 * si + j))) (em : cc c = nI m) (hm : m ≤ 12) (em' : chg (c + 1) = nI m') (hm' : m' ≤ 12) :
    (qAp (co p) (re p) (nu p) (ma p) cp (nI (c + 1)) ct ck nr (c * 12) (va_cpy cr o (c * 24) 0 24) (va_cpy f w 0 0 24) m = none ∧ mAp col rel num lis cop tab key frs p si (c + 1) (va_cpy kept a (24 * c) 0 24) (va_cpy g b (24 * si) 0 24) m' = none) ∨ ∃ o1 w1 th1 he1, qAp (co p) (re p) (nu p) (ma p) cp (nI (c + 1)) ct ck nr (c * 12) (va_cpy cr o (c * 24) 0 24) (va_cpy f w 0 0 24) m = some (o1, w1) ∧ mAp col rel num lis cop tab key frs p si (c + 1) (va_cpy kept a (24 * c) 0 24) (va_cpy g b (24 * si) 0 24) m' = some (th1, he1) ∧ ∀ j, j < 24 → rE (w1 j) (he1 j) := by
  obtain ⟨m9, hm9, e1, e2, hC⟩ := hT.2.2.1 c (by omega)
  obtain rfl := nI_j (em.symm.trans e1) (by omega) (by omega)
  obtain rfl := nI_j (em'.symm.trans e2) (by omega) (by omega)
  have hA : RA (fun t => qTk (cp t) (nI (c + 1))) (va_cpy cr o (c * 24) 0 24) (va_cpy f w 0 0 24) (va_cpy kept a (24 * c) 0 24) (va_cpy g b (24 * si) 0 24) := by
    refine ⟨fun j hj => ?_, fun t ht _ j hj => ?_⟩
    · rw [pk_cpy_in (by omega) (by omega), pk_cpy_in (by omega) (by omega), show 0 + (j - 0) = j by omega, show 24 * si + (j - 0) = 24 * si + j by omega]; exact hfg j hj
    · rw [pk_cpy_in (by omega) (by omega), pk_cpy_in (by omega) (by omega)]
      have h9 := hT.2.1 c (by omega) (t * 12 + j) (by omega)
      rw [show c * 24 + (t * 12 + j - 0) = c * 24 + (t * 12 + j) by omega, show 24 * c + (12 * t + j - 0) = 24 * c + (t * 12 + j) by omega]
      exact h9
  rcases ap_e (si := si) (cop := cop) hP hp hC (fun t ht => tk_e (hcp t ht) (by omega) hn) hA _ (Nat.le_refl _) with h | ⟨o1, w1, th1, he1, h1, h2, h3⟩
  · exact Or.inl h
  · exact Or.inr ⟨o1, w1, th1, he1, h1, h2, h3.1⟩
theorem rel_e {co re nu ma : Nat → qF} {col rel num lis : qF} {p si n sl : Nat} {rows row cp cop cc ct ck nr cr kept chg tab key frs sr see : qF} (hT : RT n rows cc ct ck nr cr row kept chg tab key frs) (hP : RP co re nu ma col rel num lis) (hp : p < 3) (hn : n ≤ 50) (hcp : ∀ t, t < 2 → cp t = cop (2 * si + t) ∧ (cp t = -1 ∨ ∃ d, d ≤ n ∧ cp t = nI d)) (h0 : ∀ j, j < 24 → rE (sr j) (see (24 * si + j))) :
    ∀ (k : Nat) (f g : qF), sl + k ≤ n → qRel (co p) (re p) (nu p) (ma p) cp cc ct ck nr cr sl sr k f → mRel col rel num lis cop tab key frs chg kept p si sl see k g → (∀ j, j < 24 → rE (f j) (g (24 * si + j))) ∧ ∀ i, ¬ (24 * si ≤ i ∧ i < 24 * si + 24) → g i = see i := by
  intro k
  induction k with
  | zero =>
    intro f g _ h1 h2
    have h1 : f = sr := h1
    have h2 : g = see := h2
    subst h1; subst h2
    exact ⟨h0, fun _ _ => rfl⟩
  | succ k ih =>
    intro f g hk h1 h2
    obtain ⟨f0, o, w, o1, w1, m, h1, em, hm, ap, rfl⟩ := h1
    obtain ⟨g0, a, b, a1, b1, m', h2, em', hm', ap', rfl⟩ := h2
    obtain ⟨i1, i2⟩ := ih f0 g0 (by omega) h1 h2
    have e9 := one_e (o := o) (w := w) (a := a) (b := b) hT hP hp hn (c := sl + k) (by omega) hcp i1 em hm em' hm'
    rw [ap, ap'] at e9
    rcases e9 with ⟨z, -⟩ | ⟨o2, w2, t2, x2, z1, z2, z3⟩
    · cases z
    · cases z1
      cases z2
      refine ⟨fun j hj => ?_, fun i hi => ?_⟩
      · rw [pk_cpy_in (by omega) (by omega), pk_cpy_in (by omega) (by omega), show 0 + (j - 0) = j by omega, show 0 + (24 * si + j - 24 * si) = j by omega]; exact z3 j hj
      · rw [pk_cpy_out (by omega)]; exact i2 i hi
theorem qRel_lt {co re nu ma cp cc ct ck nr cr sr : qF} {sl : Nat} : ∀ (k k0 : Nat) (f : qF), qRel co re nu ma cp cc ct ck nr cr sl sr k f → k0 < k → ∃ (f0 o w o1 w1 : qF) (m : Nat), qRel co re nu ma cp cc ct ck nr cr sl sr k0 f0 ∧ cc (sl + k0) = nI m ∧ m ≤ 12 ∧ qAp co re nu ma cp (nI (sl + k0 + 1)) ct ck nr ((sl + k0) * 12) (va_cpy cr o ((sl + k0) * 24) 0 24) (va_cpy f0 w 0 0 24) m = some (o1, w1) := by
  intro k
  induction k with
  | zero => intro k0 f _ h; exact absurd h (Nat.not_lt_zero _)
  | succ k ih =>
    intro k0 f h hk
    obtain ⟨f0, o, w, o1, w1, m, h1, em, hm, ap, -⟩ := h
    rcases Nat.lt_or_ge k0 k with q | q
    · exact ih k0 f0 h1 q
    · obtain rfl : k0 = k := by omega
      exact ⟨f0, o, w, o1, w1, m, h1, em, hm, ap⟩
theorem mRel_lt {col rel num lis cop tab key frs chg kept see : qF} {p si s0 : Nat} : ∀ (k k0 : Nat) (f : qF), mRel col rel num lis cop tab key frs chg kept p si s0 see k f → k0 < k → ∃ (f0 a b a1 b1 : qF) (m : Nat), mRel col rel num lis cop tab key frs chg kept p si s0 see k0 f0 ∧ chg (s0 + k0 + 1) = nI m ∧ m ≤ 12 ∧ mAp col rel num lis cop tab key frs p si (s0 + k0 + 1) (va_cpy kept a (24 * (s0 + k0)) 0 24) (va_cpy f0 b (24 * si) 0 24) m = some (a1, b1) := by
  intro k
  induction k with
  | zero => intro k0 f _ h; exact absurd h (Nat.not_lt_zero _)
  | succ k ih =>
    intro k0 f h hk
    obtain ⟨f0, a, b, a1, b1, m, h1, em, hm, ap, -⟩ := h
    rcases Nat.lt_or_ge k0 k with q | q
    · exact ih k0 f0 h1 q
    · obtain rfl : k0 = k := by omega
      exact ⟨f0, a, b, a1, b1, m, h1, em, hm, ap⟩
section SIM
variable {ad bk : Nat → Nat} {lim n cn si pi : Nat} {rows cc ct ck nr cr old rw : qF} {co re nu ma sr cp : Nat → qF} {pu : Nat → Option Nat} {st sl : Nat → Nat} {th : Int32} {row kept chg tab key frs col rel num lis boo sta slo cop see the her : qF} {out : Nat → Int64} {k r : Int32} {q : S4 × (Nat → Int64)} {q1 : S4} {q2 : S5}
theorem sM_receive {sx mx : Int32} (hsx : ∀ j, j < 3 → sx = nI j → j = si) (hR : RR ad bk lim n rows cc ct ck nr cr co re nu ma sr cp pu st sl row kept chg tab key frs col rel num lis boo sta slo cop see) (h1 : PL_receive ad lim n rows cc ct ck nr cr old rw co re nu ma sr cp pu st sl si (bk si) sx mx out k q) (h2 : PM_receive th n lim row kept chg tab key frs col rel num lis boo sta slo cop see the her st sl bk sx mx r q2) : SIMi ad k r q q2 := by
  have hR9 := hR
  obtain ⟨hlim, hn, hT, hP, hS⟩ := hR
  obtain ⟨h, a1, a2, a3, a4, a5, hd, rfl⟩ := h2
  rcases h1 with ⟨kc, f, sq, o, w, r0, ⟨rfl, ⟨rfl, hs⟩, hst, mn, rfl, hm1, hm51, er, hkm, hkn, hrel, hend⟩, rfl⟩ | ⟨hx, rfl⟩
  · have hin : nI 1 ≤ nI mn ∧ nI mn ≤ nI 50 := ⟨(nI_leI (by omega) (by omega)).mpr hm1, (nI_leI (by omega) (by omega)).mpr (by omega)⟩
    rcases hd with ⟨z, -⟩ | ⟨-, z, -⟩ | ⟨si', e1, hs', -, z, -⟩ | ⟨si', mn', km, sq', e1, hs', -, e2, hm1', hm51', rfl, er', hkm', hkn', hrel', hend', rfl, rfl⟩
    · exact absurd (vp_in_nI hs (by decide)) z
    · exact absurd hin z
    · obtain rfl := nI_j e1 (by omega) (by omega)
      exact absurd hst z
    · obtain rfl := nI_j e1 (by omega) (by omega)
      obtain rfl := nI_j e2 (by omega) (by omega)
      have hSi := hS si hs
      have hb := hSi.2.2.2.2.1
      have hcp := hSi.2.2.2.2.2.2.2.2.1
      have h0 := hSi.2.2.2.2.2.2.2.2.2
      have ek : kc = km := by
        rcases Nat.lt_trichotomy kc km with z | z | z
        · exfalso
          obtain ⟨g0, a, b, x1, y1, m, g1, g2, g3, g4⟩ := mRel_lt km kc a1 hrel' z
          rcases hend with ⟨-, y⟩ | ⟨-, -, -, o9, w9, m9, em9, hm9, ap9⟩
          · omega
          · have e9 := one_e (o := o9) (w := w9) (a := a) (b := b) hT hP hb hn (c := sl si + kc) (by omega) hcp (rel_e hT hP hb hn hcp h0 kc f g0 hkn hrel g1).1 em9 hm9 g2 g3
            rw [ap9, g4] at e9
            rcases e9 with ⟨-, y⟩ | ⟨_, _, _, _, y, -⟩ <;> cases y
        · exact z
        · exfalso
          obtain ⟨f0, a, b, x1, y1, m, g1, g2, g3, g4⟩ := qRel_lt kc km f hrel z
          rcases hend' with ⟨-, y⟩ | ⟨-, -, -, o9, w9, m9, em9, hm9, ap9⟩
          · omega
          · have e9 := one_e (o := a) (w := b) (a := o9) (b := w9) hT hP hb hn (c := sl si + km) (by omega) hcp (rel_e hT hP hb hn hcp h0 km f0 a1 hkn' g1 hrel').1 g2 g3 em9 hm9
            rw [g4, ap9] at e9
            rcases e9 with ⟨y, -⟩ | ⟨_, _, _, _, -, y, -⟩ <;> cases y
      subst ek
      have es : sq = sq' := by
        rcases hend with ⟨z, y⟩ | ⟨z, y, u, -⟩ <;> rcases hend' with ⟨z', y'⟩ | ⟨z', y', u', -⟩ <;> omega
      subst es
      obtain ⟨r1, r2⟩ := rel_e hT hP hb hn hcp h0 kc f a1 hkn hrel hrel'
      refine ⟨rfl, fun _ => (updL_0 out r0.toInt64).trans (by rw [er, er']), bk, rfl, rfl, hlim, hn, hT, hP, fun i hi => ?_⟩
      by_cases z : i = si
      · subst z
        obtain ⟨g1, g2, g3, g4, g5, g6, g7, g8, g9, g10⟩ := hSi
        unfold RS
        rw [up_same, up_same, up_same, upd_same, upd_same]
        have hq : (sq = 1 ∨ sq = 2) ∧ (sq = 2 → sl i + kc < n) := by
          rcases hend with ⟨z, y⟩ | ⟨z, y, u, -⟩
          · exact ⟨Or.inl z, fun u => by omega⟩
          · exact ⟨Or.inr z, fun _ => u⟩
        refine ⟨by omega, rfl, hkn, rfl, g5, g6, hq.2, Or.inr ⟨by omega, ?_⟩, g9, r1⟩
        rcases g8 with ⟨z, -⟩ | ⟨-, z⟩
        · omega
        · exact z
      · exact RS_of (hS i hi) rfl rfl (up_ne z) (up_ne z) (up_ne z) rfl rfl (upd_ne z) (upd_ne z) (fun _ _ => rfl) (fun j hj => r2 _ (by omega))
  · rcases hx with ⟨rfl, hx⟩ | ⟨rfl, hx⟩ | ⟨rfl, hx⟩
    · rcases hd with ⟨-, rfl, rfl, rfl, rfl⟩ | ⟨z, -⟩ | ⟨si', e1, hs', -⟩ | ⟨si', mn', km, sq', e1, hs', -⟩
      · exact ⟨rfl, fun z => absurd z n01, bk, rfl, rfl, hR9⟩
      · exact absurd z hx
      · exact absurd (in2 e1 hs' (by decide)) hx
      · exact absurd (in2 e1 hs' (by decide)) hx
    · rcases hd with ⟨z, -⟩ | ⟨-, -, rfl, rfl, rfl, rfl⟩ | ⟨si', e1, hs', z, -⟩ | ⟨si', mn', km, sq', e1, hs', -, e2, hm1', hm51', -⟩
      · exact absurd hx.1 z
      · exact ⟨rfl, fun z => absurd z n02, bk, rfl, rfl, hR9⟩
      · exact absurd z hx.2
      · exact absurd (by rw [e2]; exact ⟨(nI_leI (by omega) (by omega)).mpr hm1', (nI_leI (by omega) (by omega)).mpr (by omega)⟩) hx.2
    · rcases hd with ⟨z, -⟩ | ⟨-, z, -⟩ | ⟨si', e1, hs', -, -, rfl, rfl, rfl, rfl⟩ | ⟨si', mn', km, sq', e1, hs', z, -⟩
      · exact absurd hx.1 z
      · exact absurd hx.2.1 z
      · exact ⟨rfl, fun z => absurd z n03, bk, rfl, rfl, hR9⟩
      · obtain rfl := hsx si' hs' e1
        exact absurd z hx.2.2
end SIM
