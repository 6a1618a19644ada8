/-! The publisher's calls: class and model answer alike. -/
theorem qCnt_congr {f g : qF} {a b : Nat} : ∀ (m : Nat), (∀ j, j < m → (f (a + j) = -1 ↔ g (b + j) = -1)) → qCnt f a m = qCnt g b m
  | 0, _ => rfl
  | m + 1, h => by
    have h1 := qCnt_congr m (fun j hj => h j (by omega))
    show qCnt f a m + (if f (a + m) = -1 then 0 else 1) = qCnt g b m + (if g (b + m) = -1 then 0 else 1)
    rw [h1]
    by_cases q : f (a + m) = -1
    · rw [if_pos q, if_pos ((h m (by omega)).mp q)]
    · rw [if_neg q, if_neg (fun z => q ((h m (by omega)).mpr z))]
theorem RT_fill {t : Nat} {rows row : qF} (h : ∀ i, i < 24 → rE (rows i) (row i)) : ∀ i, i < 24 → rE (qFill rows (t * 12) 12 (-1) i) (qFill row (12 * t) 12 (-1) i) := fun i hi => by
  unfold qFill
  by_cases q : t * 12 ≤ i ∧ i < t * 12 + 12
  · rw [if_pos q, if_pos (by omega)]; exact rE_no
  · rw [if_neg q, if_neg (by omega)]; exact h i hi
theorem RG_m {n cn : Nat} {cc ct ck nr chg tab key frs : qF} (h : RG n cc ct ck nr chg tab key frs) (hcc : cc n = nI cn) (hcn : cn ≤ 12) : chg (n + 1) = nI cn := by
  obtain ⟨m, hm, h1, h2, -⟩ := h
  have e : m = cn := nI_j (h1.symm.trans hcc) (by omega) (by omega)
  rw [← e]; exact h2
theorem RT_commit {n : Nat} {rows cc ct ck nr cr row kept chg tab key frs : qF} (h : RT n rows cc ct ck nr cr row kept chg tab key frs) (hn : n < 50) : RT (n + 1) rows cc ct ck nr (va_cpy rows cr 0 ((n + 1) * 24) 24) row (va_cpy row kept 0 (24 * (n + 1)) 24) (upd chg (n + 2) (nI 0)) tab key frs := by
  obtain ⟨h1, h2, h3, h4, h5⟩ := h
  have h0 := h4 (n + 1) (by omega) (by omega)
  refine ⟨h1, fun c hc i hi => ?_, fun c hc => ?_, fun c hc hc2 => h4 c (by omega) hc2, fun _ i hi => ?_⟩
  · rcases Nat.lt_or_ge c (n + 1) with q | q
    · rw [pk_cpy_out (by omega), pk_cpy_out (by omega)]; exact h2 c (by omega) i hi
    · obtain rfl : c = n + 1 := by omega
      rw [pk_cpy_in (by omega) (by omega), pk_cpy_in (by omega) (by omega)]
      rw [show 0 + ((n + 1) * 24 + i - (n + 1) * 24) = i by omega, show 0 + (24 * (n + 1) + i - 24 * (n + 1)) = i by omega]
      exact h1 i hi
  · rcases Nat.lt_or_ge c (n + 1) with q | q
    · obtain ⟨m, hm, e1, e2, e3⟩ := h3 c (by omega)
      exact ⟨m, hm, e1, by rw [upd_ne (by omega)]; exact e2, e3⟩
    · obtain rfl : c = n + 1 := by omega
      exact ⟨0, by omega, h0, upd_same _ _ _, fun i hi => absurd hi (Nat.not_lt_zero i)⟩
  · rw [pk_cpy_in (by omega) (by omega)]
    congr 1; omega
theorem RT_back {n : Nat} {rows cc ct ck nr cr row kept chg tab key frs : qF} (h : RT n rows cc ct ck nr cr row kept chg tab key frs) : RT n (va_cpy cr rows (n * 24) 0 24) (upd cc n (nI 0)) ct ck nr cr (va_cpy kept row (24 * n) 0 24) kept (upd chg (n + 1) (nI 0)) tab key frs := by
  obtain ⟨h1, h2, h3, h4, h5⟩ := h
  refine ⟨fun i hi => ?_, h2, fun c hc => ?_, fun c hc hc2 => by rw [upd_ne (by omega)]; exact h4 c hc hc2, fun _ i hi => ?_⟩
  · rw [pk_cpy_in (by omega) (by omega), pk_cpy_in (by omega) (by omega)]; exact h2 n (Nat.le_refl n) i hi
  · rcases Nat.lt_or_ge c n with q | q
    · obtain ⟨m, hm, e1, e2, e3⟩ := h3 c hc
      exact ⟨m, hm, by rw [upd_ne (by omega)]; exact e1, by rw [upd_ne (by omega)]; exact e2, e3⟩
    · obtain rfl : c = n := by omega
      exact ⟨0, by omega, upd_same _ _ _, upd_same _ _ _, fun i hi => absurd hi (Nat.not_lt_zero i)⟩
  · rw [pk_cpy_in (by omega) (by omega)]; rfl
theorem qCut_i {lim st sl n : Nat} : (qCut lim st sl n = 3 ∧ (st = 1 ∨ st = 2)) ∨ qCut lim st sl n = st := by
  unfold qCut
  by_cases q : lim < qLag st sl n
  · rw [if_pos q]
    refine Or.inl ⟨rfl, ?_⟩
    apply Classical.byContradiction
    intro z
    rw [qLag_o z] at q
    omega
  · rw [if_neg q]; exact Or.inr rfl
theorem RS_cut {ad bk : Nat → Nat} {lim n n' i : Nat} {pu : Nat → Option Nat} {st sl : Nat → Nat} {sr cp : Nat → qF} {boo sta slo cop see : qF} (h : RS ad bk n pu st sl sr cp boo sta slo cop see i) (hn : n ≤ n') (hi : i < 3) : RS ad bk n' pu (fun i => qCut lim (st i) (sl i) n') sl sr cp boo (mCut sta lim st sl n' 3) slo cop see i := by
  obtain ⟨h1, h2, h3, h4, h5, h6, h7, h8, h9, h10⟩ := h
  have e : mCut sta lim st sl n' 3 i = nI (qCut lim (st i) (sl i) n') := by unfold mCut; rw [if_pos hi]
  refine ⟨?_, e, by omega, h4, h5, h6, ?_, ?_, fun t ht => ⟨(h9 t ht).1, (h9 t ht).2.elim Or.inl (fun ⟨c, hc, ec⟩ => Or.inr ⟨c, by omega, ec⟩)⟩, h10⟩
  · show qCut lim (st i) (sl i) n' ≤ 3
    rcases qCut_i (lim := lim) (st := st i) (sl := sl i) (n := n') with ⟨q, -⟩ | q <;> omega
  · show qCut lim (st i) (sl i) n' = 2 → sl i < n'
    intro z
    rcases qCut_i (lim := lim) (st := st i) (sl := sl i) (n := n') with ⟨q, -⟩ | q
    · omega
    · have := h7 (by omega); omega
  · show (qCut lim (st i) (sl i) n' = 0 ∧ _) ∨ (0 < qCut lim (st i) (sl i) n' ∧ _)
    rcases qCut_i (lim := lim) (st := st i) (sl := sl i) (n := n') with ⟨q, z⟩ | q
    · rcases h8 with ⟨a, -⟩ | ⟨-, b⟩
      · omega
      · exact Or.inr ⟨by omega, b⟩
    · rw [q]; exact h8
theorem in2 {x : Int32} {t N : Nat} (e : x = nI t) (h : t < N) (hN : N < 2 ^ 31) : vp_in x N := by rw [e]; exact vp_in_nI h hN
section SIM
variable {ad bk : Nat → Nat} {lim n cn : Nat} {rows cc ct ck nr cr old rw : qF} {co re nu ma sr cp : Nat → qF} {pu : Nat → Option Nat} {st sl : Nat → Nat} {th : Int32} {row kept chg tab key frs col rel num lis boo sta slo cop see the her : qF} {out : Nat → Int64} {k r : Int32} {q : S4 × (Nat → Int64)} {q1 : S4} {q2 : S5}
theorem sM_take {tx kx : Int32} (hR : RR ad bk lim n rows cc ct ck nr cr co re nu ma sr cp pu st sl row kept chg tab key frs col rel num lis boo sta slo cop see) (hcc : cc n = nI cn) (hcn : cn ≤ 12) (h1 : PL_take ad lim n rows cc ct ck nr cr old rw co re nu ma sr cp pu st sl cn tx kx k q1) (h2 : PM_take th n lim row kept chg tab key frs col rel num lis boo sta slo cop see the her cn tx kx q2) : SIMv ad k q1 q2 := by
  have hR9 := hR
  obtain ⟨hlim, hn, hT, hP, hS⟩ := hR
  obtain ⟨h, a1, a2, a3, a4, a5, hd, rfl⟩ := h2
  rcases h1 with ⟨tn, kn, ⟨rfl, rfl, ht, rfl, hkn, hc, hno⟩, rfl⟩ | ⟨hx, rfl⟩
  · have h0 := hT.1 (tn * 12 + kn) (by omega)
    rcases hd with ⟨z, -⟩ | ⟨tn', kn', e1, ht', e2, hk', z, -⟩ | ⟨tn', kn', e1, ht', e2, hk', -, -, rfl, rfl, rfl, rfl, rfl, rfl⟩
    · exact absurd ⟨vp_in_nI ht (by decide), vp_in_nI hkn (by decide)⟩ z
    · obtain rfl := nI_j e1 (by omega) (by omega)
      obtain rfl := nI_j e2 (by omega) (by omega)
      rcases z with z | z
      · omega
      · rw [show 12 * tn + kn = tn * 12 + kn by omega] at z
        exact absurd ((rE_m1 h0).mpr z) hno
    · obtain rfl := nI_j e1 (by omega) (by omega)
      obtain rfl := nI_j e2 (by omega) (by omega)
      exact ⟨rfl, bk, rfl, rfl, hlim, hn, RT_add hT hcc hc ht (Or.inr ⟨⟨kn, hkn, rfl, rfl⟩, rE_no⟩) (RT_row (n := n) hT.1 rE_no), hP, hS⟩
  · rcases hx with ⟨rfl, hx⟩ | ⟨rfl, tn, kn, rfl, ht, rfl, hkn, hx⟩
    · rcases hd with ⟨-, rfl, rfl, rfl, rfl, rfl, rfl⟩ | ⟨tn', kn', e1, ht', e2, hk', -⟩ | ⟨tn', kn', e1, ht', e2, hk', -⟩
      · exact ⟨rfl, bk, rfl, rfl, hR9⟩
      · exact absurd ⟨in2 e1 ht' (by decide), in2 e2 hk' (by decide)⟩ hx
      · exact absurd ⟨in2 e1 ht' (by decide), in2 e2 hk' (by decide)⟩ hx
    · have h0 := hT.1 (tn * 12 + kn) (by omega)
      rcases hd with ⟨z, -⟩ | ⟨tn', kn', e1, ht', e2, hk', z, rfl, rfl, rfl, rfl, rfl, rfl⟩ | ⟨tn', kn', e1, ht', e2, hk', hc, z, -⟩
      · exact absurd ⟨vp_in_nI ht (by decide), vp_in_nI hkn (by decide)⟩ z
      · exact ⟨rfl, bk, rfl, rfl, hR9⟩
      · obtain rfl := nI_j e1 (by omega) (by omega)
        obtain rfl := nI_j e2 (by omega) (by omega)
        rcases hx with hx | hx
        · omega
        · rw [show 12 * tn + kn = tn * 12 + kn by omega] at z
          exact absurd ((rE_m1 h0).mp hx) z
theorem sM_truncate {tx : Int32} (hR : RR ad bk lim n rows cc ct ck nr cr co re nu ma sr cp pu st sl row kept chg tab key frs col rel num lis boo sta slo cop see) (hcc : cc n = nI cn) (hcn : cn ≤ 12) (h1 : PL_truncate ad lim n rows cc ct ck nr cr old rw co re nu ma sr cp pu st sl cn tx out k q) (h2 : PM_truncate th n lim row kept chg tab key frs col rel num lis boo sta slo cop see the her cn tx r q2) : SIMi ad k r q q2 := by
  have hR9 := hR
  obtain ⟨hlim, hn, hT, hP, hS⟩ := hR
  obtain ⟨h, a1, a2, a3, a4, a5, hd, rfl⟩ := h2
  rcases h1 with ⟨tn, r0, ⟨rfl, rfl, ht, hc, er⟩, rfl⟩ | ⟨hx, rfl⟩
  · rcases hd with ⟨z, -⟩ | ⟨-, z, -⟩ | ⟨tn', e1, ht', hc', rfl, er', rfl, rfl, rfl, rfl, rfl⟩
    · exact absurd (vp_in_nI ht (by decide)) z
    · omega
    · obtain rfl := nI_j e1 (by omega) (by omega)
      refine ⟨rfl, fun _ => (updL_0 out r0.toInt64).trans ?_, bk, rfl, rfl, hlim, hn, RT_add hT hcc hc ht (Or.inl ⟨rfl, rfl, rfl, rfl⟩) (RT_fill hT.1), hP, hS⟩
      rw [er, er', qCnt_congr (f := rows) (g := row) (a := tn * 12) (b := 12 * tn) 12 (fun j hj => by rw [show 12 * tn + j = tn * 12 + j by omega]; exact rE_m1 (hT.1 _ (by omega)))]
  · rcases hx with ⟨rfl, hx⟩ | ⟨rfl, hx⟩
    · rcases hd with ⟨-, rfl, rfl, rfl, rfl, rfl, rfl⟩ | ⟨z, -⟩ | ⟨tn', e1, ht', -⟩
      · exact ⟨rfl, fun z => absurd z n01, bk, rfl, rfl, hR9⟩
      · exact absurd z hx
      · exact absurd (in2 e1 ht' (by decide)) hx
    · rcases hd with ⟨z, -⟩ | ⟨-, -, rfl, rfl, rfl, rfl, rfl, rfl⟩ | ⟨tn', e1, ht', z, -⟩
      · exact absurd hx.1 z
      · exact ⟨rfl, fun z => absurd z n02, bk, rfl, rfl, hR9⟩
      · have := hx.2; omega
theorem sM_commit (hR : RR ad bk lim n rows cc ct ck nr cr co re nu ma sr cp pu st sl row kept chg tab key frs col rel num lis boo sta slo cop see) (h1 : PL_commit ad lim n rows cc ct ck nr cr old rw co re nu ma sr cp pu st sl out k q) (h2 : PM_commit th n lim row kept chg tab key frs col rel num lis boo sta slo cop see the her st sl r q2) : SIMi ad k r q q2 := by
  have hR9 := hR
  obtain ⟨hlim, hn, hT, hP, hS⟩ := hR
  obtain ⟨h, nn, a1, a2, a3, hd, rfl⟩ := h2
  rcases h1 with ⟨r0, ⟨rfl, hn5, er⟩, rfl⟩ | ⟨⟨rfl, hx⟩, rfl⟩
  · rcases hd with ⟨z, -⟩ | ⟨-, rfl, er', rfl, rfl, rfl, rfl⟩
    · omega
    · exact ⟨rfl, fun _ => (updL_0 out r0.toInt64).trans (by rw [er, er']), bk, rfl, rfl, hlim, hn5, RT_commit hT hn5, hP, fun i hi => RS_cut (hS i hi) (Nat.le_succ n) hi⟩
  · rcases hd with ⟨-, rfl, rfl, rfl, rfl, rfl⟩ | ⟨z, -⟩
    · exact ⟨rfl, fun z => absurd z n01, bk, rfl, rfl, hR9⟩
    · omega
theorem sM_rollBack {r0 : Int32} (hR : RR ad bk lim n rows cc ct ck nr cr co re nu ma sr cp pu st sl row kept chg tab key frs col rel num lis boo sta slo cop see) (h1 : PL_rollBack ad lim n rows cc ct ck nr cr old rw co re nu ma sr cp pu st sl cn r0 q1) (h2 : PM_rollBack th n lim row kept chg tab key frs col rel num lis boo sta slo cop see the her cn r q2) : r0 = r ∧ ∃ bk, RRt ad bk q1 q2 := by
  obtain ⟨hlim, hn, hT, hP, hS⟩ := hR
  obtain ⟨e1, rfl⟩ := h1
  obtain ⟨e2, rfl⟩ := h2
  exact ⟨e1.trans e2.symm, bk, rfl, rfl, hlim, hn, RT_back hT, hP, hS⟩
theorem sM_commits {r0 : Int32} (hR : RR ad bk lim n rows cc ct ck nr cr co re nu ma sr cp pu st sl row kept chg tab key frs col rel num lis boo sta slo cop see) (h1 : PL_commits ad lim n rows cc ct ck nr cr old rw co re nu ma sr cp pu st sl r0 q1) (h2 : PM_commits th n lim row kept chg tab key frs col rel num lis boo sta slo cop see the her r q2) : r0 = r ∧ ∃ bk, RRt ad bk q1 q2 := by
  obtain ⟨e1, rfl⟩ := h1
  obtain ⟨e2, rfl⟩ := h2
  exact ⟨e1.trans e2.symm, bk, rfl, rfl, hR⟩
theorem sM_at {tx kx cx : Int32} (hR : RR ad bk lim n rows cc ct ck nr cr co re nu ma sr cp pu st sl row kept chg tab key frs col rel num lis boo sta slo cop see) (h1 : PL_at ad lim n rows cc ct ck nr cr old rw co re nu ma sr cp pu st sl tx kx cx out k q) (h2 : PM_at th n lim row kept chg tab key frs col rel num lis boo sta slo cop see the her tx kx cx r q2) : SIMi ad k r q q2 := by
  have hT := hR.2.2.1
  obtain ⟨h, hd, rfl⟩ := h2
  rcases h1 with ⟨tn, kn, r0, ⟨rfl, rfl, ht, rfl, hkn, hc, er⟩, rfl⟩ | ⟨⟨rfl, hx⟩, rfl⟩
  · rcases hd with ⟨z, -⟩ | ⟨tn', kn', e1, ht', e2, hk', -, rfl, er'⟩
    · exact absurd ⟨⟨vp_in_nI ht (by decide), vp_in_nI hkn (by decide)⟩, hc⟩ z
    · obtain rfl := nI_j e1 (by omega) (by omega)
      obtain rfl := nI_j e2 (by omega) (by omega)
      obtain ⟨j, hj, rfl⟩ := vp_in_of hc (by decide)
      refine ⟨rfl, fun _ => (updL_0 out r0.toInt64).trans ?_, bk, rfl, rfl, hR⟩
      rw [er, er', show 12 * tn + kn = tn * 12 + kn by omega, rE_num (hT.1 (tn * 12 + kn) (by omega)) hj]
  · rcases hd with ⟨-, rfl⟩ | ⟨tn', kn', e1, ht', e2, hk', z, -⟩
    · exact ⟨rfl, fun z => absurd z n01, bk, rfl, rfl, hR⟩
    · exact absurd ⟨in2 e1 ht' (by decide), in2 e2 hk' (by decide), z⟩ hx
theorem sM_setLimit {vx : Int32} (hR : RR ad bk lim n rows cc ct ck nr cr co re nu ma sr cp pu st sl row kept chg tab key frs col rel num lis boo sta slo cop see) (h1 : PL_setLimit ad lim n rows cc ct ck nr cr old rw co re nu ma sr cp pu st sl vx out k q) (h2 : PM_setLimit th n lim row kept chg tab key frs col rel num lis boo sta slo cop see the her st sl vx r q2) : SIMi ad k r q q2 := by
  have hR9 := hR
  obtain ⟨hlim, hn, hT, hP, hS⟩ := hR
  obtain ⟨h, lm, a3, hd, rfl⟩ := h2
  rcases h1 with ⟨vn, r0, ⟨rfl, rfl, hv, er⟩, rfl⟩ | ⟨⟨rfl, hx⟩, rfl⟩
  · rcases hd with ⟨z, -⟩ | ⟨vn', e1, hv', rfl, er', rfl, rfl⟩
    · exact absurd (vp_in_nI hv (by decide)) z
    · obtain rfl := nI_j e1 (by omega) (by omega)
      refine ⟨rfl, fun _ => (updL_0 out r0.toInt64).trans ?_, bk, rfl, rfl, (by omega), hn, hT, hP, fun i hi => RS_cut (hS i hi) (Nat.le_refl n) hi⟩
      rw [er, er']
      show _ = (nI (((0 + _) + _) + _)).toInt64
      rw [Nat.zero_add]
  · rcases hd with ⟨-, rfl, rfl, rfl⟩ | ⟨vn', e1, hv', -⟩
    · exact ⟨rfl, fun z => absurd z n01, bk, rfl, rfl, hR9⟩
    · exact absurd (in2 e1 hv' (by decide)) hx
end SIM
