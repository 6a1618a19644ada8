/-! .. what the calls on publications and subscribers do to it -/
section INV
variable {ad bk : Nat → Nat} {kc mi : Nat → Nat → Nat} {lim n cn : Nat} {rows cc ct ck nr cr old rw : qF} {co re nu ma sr cp : Nat → qF} {pu : Nat → Option Nat} {st sl : Nat → Nat} {lp lo lq lb lg : qF}
theorem VR_cho (hB : PB co re nu ma lq) {p t : Nat} (hp : p < 3) (ht : t < 2) {x : Int32} (h : VR x) : VR (qCho (co p t) (re p t) (nu p t) (ma p t) x) := by
  obtain ⟨c, r, v, w, hc, hr, hv, hw, e1, e2, e3, e4, -⟩ := hB p hp t ht
  obtain ⟨y, hy⟩ := h
  rw [e1, e2, e3, e4]
  exact ⟨_, rE_cho hy hc hr hw⟩
theorem T_book (hI : INt ad bk kc mi cn lim n rows cc ct ck nr cr co re nu ma sr cp pu st sl lp lo lq lb lg) (hinj : ∀ x y, x < 3 → y < 3 → ad (13 + 5 * x) = ad (13 + 5 * y) → x = y) {p t : Nat} (hp3 : p < 3) (ht2 : t < 2) {co' re' nu' ma' : Nat → qF} {lq' lb' : qF} (hne : ∀ b u, ¬ (b = p ∧ u = t) → co' b u = co b u ∧ re' b u = re b u ∧ nu' b u = nu b u ∧ ma' b u = ma b u) (hB' : PB co' re' nu' ma' lq') (eb : ∀ i, i < 3 → ∀ j, j < 7 → lb' (7 * i + j) = if (0 < st i ∧ bk i = p) ∧ j = 3 + t then -1 else lb (7 * i + j)) :
    INt ad bk (fun i u => if (0 < st i ∧ bk i = p) ∧ u = t then 0 else kc i u) mi cn lim n rows cc ct ck nr cr co' re' nu' ma' sr (fun i => qFg (decide (pu i = some (ad (13 + 5 * p)))) (cp i) t) pu st sl lp lo lq' lb' lg := by
  obtain ⟨hlim, hn, g0, g1, g2, hp, ho, hL, hO, hB, hS⟩ := hI
  refine ⟨hlim, hn, g0, g1, g2, hp, ho, hL, hO, hB', fun i hi => ?_⟩
  obtain ⟨h1, h2, h3, h4, h5, h6, h7, h8, h9, h10, h11⟩ := hS i hi
  have e := eb i hi
  have its : pu i = some (ad (13 + 5 * p)) ↔ 0 < st i ∧ bk i = p := by
    rcases h7 with ⟨z1, z2⟩ | ⟨z1, z2⟩
    · rw [z2]; exact ⟨fun q => (by cases q), fun q => by omega⟩
    · rw [z2]; exact ⟨fun q => ⟨z1, hinj _ _ h3 hp3 (Option.some.inj q)⟩, fun q => by rw [q.2]⟩
  have a0 := e 0 (by omega)
  have a1 := e 1 (by omega)
  have a2 := e 2 (by omega)
  rw [if_neg (by omega)] at a0 a1 a2
  refine ⟨h1, h2, h3, a0.trans h4, a1.trans h5, a2.trans h6, h7, h8, h9, h10, fun u hu => ?_⟩
  obtain ⟨z1, z2, z3, z4, z5, z6⟩ := h11 u hu
  have a3 := e (3 + u) (by omega)
  have a5 := e (5 + u) (by omega)
  rw [if_neg (by omega)] at a5
  by_cases q : (0 < st i ∧ bk i = p) ∧ u = t
  · rw [if_pos ⟨q.1, by omega⟩] at a3
    have k0 : (if (0 < st i ∧ bk i = p) ∧ u = t then 0 else kc i u) = 0 := if_pos q
    refine ⟨by show (if (0 < st i ∧ bk i = p) ∧ u = t then 0 else kc i u) ≤ n + 1; rw [k0]; omega, ?_, ?_, z4, a5.trans z5, fun _ _ c hc => ?_⟩
    · show qFg _ (cp i) t u = eX (if (0 < st i ∧ bk i = p) ∧ u = t then 0 else kc i u)
      rw [k0, decide_eq_true (its.mpr q.1), q.2]
      show (if true = true then upd (cp i) t (-1) else cp i) t = eX 0
      rw [if_pos rfl, upd_same, eX_0]
    · show lb' (7 * i + (3 + u)) = eX (if (0 < st i ∧ bk i = p) ∧ u = t then 0 else kc i u)
      rw [k0, a3, eX_0]
    · have hc : (if (0 < st i ∧ bk i = p) ∧ u = t then 0 else kc i u) = c + 1 := hc
      rw [k0] at hc; omega
  · rw [if_neg (fun z => q ⟨z.1, by omega⟩)] at a3
    have k0 : (if (0 < st i ∧ bk i = p) ∧ u = t then 0 else kc i u) = kc i u := if_neg q
    refine ⟨by show (if (0 < st i ∧ bk i = p) ∧ u = t then 0 else kc i u) ≤ n + 1; rw [k0]; exact z1, ?_, ?_, z4, a5.trans z5, fun w1 w2 c hc => ?_⟩
    · show qFg _ (cp i) t u = eX (if (0 < st i ∧ bk i = p) ∧ u = t then 0 else kc i u)
      rw [k0, ← z2]
      unfold qFg
      by_cases y : pu i = some (ad (13 + 5 * p))
      · rw [if_pos (decide_eq_true y), upd_ne (fun z => q ⟨its.mp y, z⟩)]
      · rw [if_neg (by rw [decide_eq_false y]; decide)]
    · show lb' (7 * i + (3 + u)) = eX (if (0 < st i ∧ bk i = p) ∧ u = t then 0 else kc i u)
      rw [k0, a3]; exact z3
    · have hc : (if (0 < st i ∧ bk i = p) ∧ u = t then 0 else kc i u) = c + 1 := hc
      rw [k0] at hc
      obtain ⟨b1, b2, b3, b4⟩ := hne (bk i) u (fun z => q ⟨⟨by omega, z.1⟩, z.2⟩)
      intro k hk
      rw [b1, b2, b3, b4]
      exact z6 w1 w2 c hc k hk
/-- one subscriber alone is changed -/
theorem T_one (hI : INt ad bk kc mi cn lim n rows cc ct ck nr cr co re nu ma sr cp pu st sl lp lo lq lb lg) {si : Nat} {sr1 cp1 : qF} {pu1 : Option Nat} {st1 sl1 bk1 : Nat} {kc1 mi1 : Nat → Nat} {lb' : qF} (hne : ∀ i, i < 3 → i ≠ si → ∀ j, j < 7 → lb' (7 * i + j) = lb (7 * i + j)) (h : si < 3 → SU ad lim n co re nu ma cr pu1 st1 sl1 sr1 cp1 bk1 kc1 mi1 (fun j => lb' (7 * si + j))) :
    INt ad (va_up bk si bk1) (va_up kc si kc1) (va_up mi si mi1) cn lim n rows cc ct ck nr cr co re nu ma (va_up sr si sr1) (va_up cp si cp1) (va_up pu si pu1) (va_up st si st1) (va_up sl si sl1) lp lo lq lb' lg := by
  obtain ⟨hlim, hn, g0, g1, g2, hp, ho, hL, hO, hB, hS⟩ := hI
  refine ⟨hlim, hn, g0, g1, g2, hp, ho, hL, hO, hB, fun i hi => ?_⟩
  by_cases q : i = si
  · rw [q, up_same, up_same, up_same, up_same, up_same, up_same, up_same, up_same]; exact h (by omega)
  · rw [up_ne q, up_ne q, up_ne q, up_ne q, up_ne q, up_ne q, up_ne q, up_ne q]
    exact SU_y (hS i hi) (hne i hi q)
theorem up_id {α : Type} {f : Nat → α} {i : Nat} : va_up f i (f i) = f := by
  funext j
  by_cases q : j = i
  · rw [q, up_same]
  · rw [up_ne q]
theorem T_sub (hI : INt ad bk kc mi cn lim n rows cc ct ck nr cr co re nu ma sr cp pu st sl lp lo lq lb lg) {si p : Nat} (hsi : si < 3) (hp3 : p < 3) {lb' : qF} (hne : ∀ i, i < 3 → i ≠ si → ∀ j, j < 7 → lb' (7 * i + j) = lb (7 * i + j)) (e0 : lb' (7 * si) = nI p) (e1 : lb' (7 * si + 1) = nI 1) (e2 : lb' (7 * si + 2) = nI n) (e3 : lb' (7 * si + 3) = -1) (e4 : lb' (7 * si + 4) = -1) (e5 : lb' (7 * si + 5) = lb (7 * si + 5)) (e6 : lb' (7 * si + 6) = lb (7 * si + 6)) :
    INt ad (va_up bk si p) (va_up kc si (fun _ => 0)) mi cn lim n rows cc ct ck nr cr co re nu ma sr (va_up cp si (upd (upd (cp si) 0 (-1)) 1 (-1))) (va_up pu si (some (ad (13 + 5 * p)))) (va_up st si 1) (va_up sl si n) lp lo lq lb' lg := by
  have h := T_one (sr1 := sr si) (mi1 := mi si) (cp1 := upd (upd (cp si) 0 (-1)) 1 (-1)) (pu1 := some (ad (13 + 5 * p))) (st1 := 1) (sl1 := n) (bk1 := p) (kc1 := fun _ => 0) hI hne (fun _ => ?_)
  · rw [up_id, up_id] at h; exact h
  · obtain ⟨h1, h2, h3, h4, h5, h6, h7, h8, h9, h10, h11⟩ := hI.2.2.2.2.2.2.2.2.2.2 si hsi
    refine ⟨by omega, Nat.le_refl n, hp3, e0, e1, e2, Or.inr ⟨by omega, rfl⟩, fun q => by omega, fun _ => by omega, h10, fun t ht => ?_⟩
    obtain ⟨z1, z2, z3, z4, z5, z6⟩ := h11 t ht
    refine ⟨Nat.zero_le _, ?_, ?_, z4, ?_, fun _ _ c hc => by have hc : 0 = c + 1 := hc; omega⟩
    · rw [eX_0]
      rcases (show t = 0 ∨ t = 1 by omega) with rfl | rfl
      · rw [upd_ne (by decide), upd_same]
      · rw [upd_same]
    · rw [eX_0]
      rcases (show t = 0 ∨ t = 1 by omega) with rfl | rfl
      · exact e3
      · exact e4
    · rcases (show t = 0 ∨ t = 1 by omega) with rfl | rfl
      · exact e5.trans z5
      · exact e6.trans z5
theorem T_drop (hI : INt ad bk kc mi cn lim n rows cc ct ck nr cr co re nu ma sr cp pu st sl lp lo lq lb lg) {si : Nat} (hsi : si < 3) {lb' : qF} (hne : ∀ i, i < 3 → i ≠ si → ∀ j, j < 7 → lb' (7 * i + j) = lb (7 * i + j)) (e0 : lb' (7 * si) = lb (7 * si)) (e1 : lb' (7 * si + 1) = nI 0) (e2 : lb' (7 * si + 2) = lb (7 * si + 2)) (e3 : lb' (7 * si + 3) = -1) (e4 : lb' (7 * si + 4) = -1) (e5 : lb' (7 * si + 5) = lb (7 * si + 5)) (e6 : lb' (7 * si + 6) = lb (7 * si + 6)) :
    INt ad bk (va_up kc si (fun _ => 0)) mi cn lim n rows cc ct ck nr cr co re nu ma sr (va_up cp si (upd (upd (cp si) 0 (-1)) 1 (-1))) (va_up pu si none) (va_up st si 0) sl lp lo lq lb' lg := by
  have h := T_one (sr1 := sr si) (mi1 := mi si) (cp1 := upd (upd (cp si) 0 (-1)) 1 (-1)) (pu1 := none) (st1 := 0) (sl1 := sl si) (bk1 := bk si) (kc1 := fun _ => 0) hI hne (fun _ => ?_)
  · rw [up_id, up_id, up_id, up_id] at h; exact h
  · obtain ⟨h1, h2, h3, h4, h5, h6, h7, h8, h9, h10, h11⟩ := hI.2.2.2.2.2.2.2.2.2.2 si hsi
    refine ⟨by omega, h2, h3, e0.trans h4, e1, e2.trans h6, Or.inl ⟨rfl, rfl⟩, fun q => by omega, fun q => by omega, h10, fun t ht => ?_⟩
    obtain ⟨z1, z2, z3, z4, z5, z6⟩ := h11 t ht
    refine ⟨Nat.zero_le _, ?_, ?_, z4, ?_, fun _ _ c hc => by have hc : 0 = c + 1 := hc; omega⟩
    · rw [eX_0]
      rcases (show t = 0 ∨ t = 1 by omega) with rfl | rfl
      · rw [upd_ne (by decide), upd_same]
      · rw [upd_same]
    · rw [eX_0]
      rcases (show t = 0 ∨ t = 1 by omega) with rfl | rfl
      · exact e3
      · exact e4
    · rcases (show t = 0 ∨ t = 1 by omega) with rfl | rfl
      · exact e5.trans z5
      · exact e6.trans z5
theorem T_own (hI : INt ad bk kc mi cn lim n rows cc ct ck nr cr co re nu ma sr cp pu st sl lp lo lq lb lg) {si t k : Nat} (hsi : si < 3) (ht2 : t < 2) (hk : k < 12) {v : Int32} (hv : VR v) {lb' : qF} (hne : ∀ i, i < 3 → ∀ j, j < 7 → ¬ (i = si ∧ j = 5 + t) → lb' (7 * i + j) = lb (7 * i + j)) (e5 : lb' (7 * si + (5 + t)) = nI 1) :
    INt ad bk kc (va_up mi si (fun u => if u = t then 1 else mi si u)) cn lim n rows cc ct ck nr cr co re nu ma (va_up sr si (upd (sr si) (t * 12 + k) v)) cp pu st sl lp lo lq lb' lg := by
  have h := T_one (sr1 := upd (sr si) (t * 12 + k) v) (mi1 := fun u => if u = t then 1 else mi si u) (cp1 := cp si) (pu1 := pu si) (st1 := st si) (sl1 := sl si) (bk1 := bk si) (kc1 := kc si) hI (fun i hi q j hj => hne i hi j hj (fun z => q z.1)) (fun _ => ?_)
  · rw [up_id, up_id, up_id, up_id, up_id, up_id] at h; exact h
  · obtain ⟨h1, h2, h3, h4, h5, h6, h7, h8, h9, h10, h11⟩ := hI.2.2.2.2.2.2.2.2.2.2 si hsi
    have e := hne si hsi
    refine ⟨h1, h2, h3, (e 0 (by omega) (by omega)).trans h4, (e 1 (by omega) (by omega)).trans h5, (e 2 (by omega) (by omega)).trans h6, h7, h8, h9, fun j hj => ?_, fun u hu => ?_⟩
    · by_cases q : j = t * 12 + k
      · rw [q, upd_same]; exact hv
      · rw [upd_ne q]; exact h10 j hj
    · obtain ⟨z1, z2, z3, z4, z5, z6⟩ := h11 u hu
      have a3 := (e (3 + u) (by omega) (by omega)).trans z3
      by_cases q : u = t
      · subst q
        refine ⟨z1, z2, a3, ?_, ?_, fun w => ?_⟩
        · show (if u = u then 1 else mi si u) ≤ 1
          rw [if_pos rfl]; omega
        · show lb' (7 * si + (5 + u)) = nI (if u = u then 1 else mi si u)
          rw [if_pos rfl]; exact e5
        · have w : (if u = u then 1 else mi si u) = 0 := w
          rw [if_pos rfl] at w; omega
      · have a5 := (e (5 + u) (by omega) (by omega)).trans z5
        have k0 : (if u = t then 1 else mi si u) = mi si u := if_neg q
        refine ⟨z1, z2, a3, ?_, ?_, fun w1 w2 c hc k9 hk9 => ?_⟩
        · show (if u = t then 1 else mi si u) ≤ 1
          rw [k0]; exact z4
        · show lb' (7 * si + (5 + u)) = nI (if u = t then 1 else mi si u)
          rw [k0]; exact a5
        · have w1 : (if u = t then 1 else mi si u) = 0 := w1
          rw [k0] at w1
          rw [upd_ne (by omega)]
          exact z6 w1 w2 c hc k9 hk9
theorem T_goOn (hI : INt ad bk kc mi cn lim n rows cc ct ck nr cr co re nu ma sr cp pu st sl lp lo lq lb lg) {si z : Nat} (hsi : si < 3) (h2s : st si = 2) (hz : z ≤ 1) {lb' : qF} (hne : ∀ i, i < 3 → i ≠ si → ∀ j, j < 7 → lb' (7 * i + j) = lb (7 * i + j)) (e0 : lb' (7 * si) = lb (7 * si)) (e1 : lb' (7 * si + 1) = nI 1) (e2 : lb' (7 * si + 2) = nI (sl si + z)) (e3 : lb' (7 * si + 3) = lb (7 * si + 3)) (e4 : lb' (7 * si + 4) = lb (7 * si + 4)) (e5 : lb' (7 * si + 5) = if z = 1 then nI 1 else lb (7 * si + 5)) (e6 : lb' (7 * si + 6) = if z = 1 then nI 1 else lb (7 * si + 6)) :
    INt ad bk kc (va_up mi si (fun u => if z = 1 then 1 else mi si u)) cn lim n rows cc ct ck nr cr co re nu ma sr cp pu (va_up st si 1) (va_up sl si (sl si + z)) lp lo lq lb' lg := by
  have h := T_one (sr1 := sr si) (mi1 := fun u => if z = 1 then 1 else mi si u) (cp1 := cp si) (pu1 := pu si) (st1 := 1) (sl1 := sl si + z) (bk1 := bk si) (kc1 := kc si) hI hne (fun _ => ?_)
  · rw [up_id, up_id, up_id, up_id, up_id] at h; exact h
  · obtain ⟨h1, h2, h3, h4, h5, h6, h7, h8, h9, h10, h11⟩ := hI.2.2.2.2.2.2.2.2.2.2 si hsi
    have h8 := h8 h2s
    have h9 := h9 (Or.inr h2s)
    refine ⟨by omega, by omega, h3, e0.trans h4, e1, e2, Or.inr ⟨by omega, (h7.resolve_left (fun q => by omega)).2⟩, fun q => by omega, fun _ => by omega, h10, fun u hu => ?_⟩
    obtain ⟨z1, z2, z3, z4, z5, z6⟩ := h11 u hu
    refine ⟨z1, z2, ?_, ?_, ?_, fun w1 w2 c hc => ?_⟩
    · rcases (show u = 0 ∨ u = 1 by omega) with rfl | rfl
      · exact e3.trans z3
      · exact e4.trans z3
    · show (if z = 1 then 1 else mi si u) ≤ 1
      split <;> omega
    · rcases (show u = 0 ∨ u = 1 by omega) with rfl | rfl
      · refine (show lb' (7 * si + (5 + 0)) = _ from e5).trans ?_
        show _ = nI (if z = 1 then 1 else mi si 0)
        by_cases q : z = 1
        · rw [if_pos q, if_pos q]
        · rw [if_neg q, if_neg q]; exact z5
      · refine (show lb' (7 * si + (5 + 1)) = _ from e6).trans ?_
        show _ = nI (if z = 1 then 1 else mi si 1)
        by_cases q : z = 1
        · rw [if_pos q, if_pos q]
        · rw [if_neg q, if_neg q]; exact z5
    · have w1 : (if z = 1 then 1 else mi si u) = 0 := w1
      by_cases q : z = 1
      · rw [if_pos q] at w1; omega
      · rw [if_neg q] at w1
        obtain rfl : z = 0 := by omega
        exact z6 w1 (Or.inr h2s) c hc
theorem T_copy (hI : INt ad bk kc mi cn lim n rows cc ct ck nr cr co re nu ma sr cp pu st sl lp lo lq lb lg) {si t : Nat} (hsi : si < 3) (ht2 : t < 2) (hst : st si = 1) (hcn : cn = 0) {lb' : qF} (hne : ∀ i, i < 3 → ∀ j, j < 7 → ¬ (i = si ∧ (j = 3 + t ∨ j = 5 + t)) → lb' (7 * i + j) = lb (7 * i + j)) (e3 : lb' (7 * si + (3 + t)) = nI n) (e5 : lb' (7 * si + (5 + t)) = nI 0) :
    INt ad bk (va_up kc si (fun u => if u = t then n + 1 else kc si u)) (va_up mi si (fun u => if u = t then 0 else mi si u)) cn lim n rows cc ct ck nr cr co re nu ma (va_up sr si (qMap (fun x => qCho (co (bk si) t) (re (bk si) t) (nu (bk si) t) (ma (bk si) t) x) rows (sr si) (t * 12) 12)) (va_up cp si (upd (cp si) t (nI n))) pu st sl lp lo lq lb' lg := by
  have h := T_one (sr1 := qMap (fun x => qCho (co (bk si) t) (re (bk si) t) (nu (bk si) t) (ma (bk si) t) x) rows (sr si) (t * 12) 12) (mi1 := fun u => if u = t then 0 else mi si u) (cp1 := upd (cp si) t (nI n)) (pu1 := pu si) (st1 := st si) (sl1 := sl si) (bk1 := bk si) (kc1 := fun u => if u = t then n + 1 else kc si u) hI (fun i hi q j hj => hne i hi j hj (fun z => q z.1)) (fun _ => ?_)
  · rw [up_id, up_id, up_id, up_id] at h; exact h
  · obtain ⟨hlim, hn, g0, g1, g2, hp, ho, hL, hO, hB, hS⟩ := hI
    obtain ⟨h1, h2, h3, h4, h5, h6, h7, h8, h9, h10, h11⟩ := hS si hsi
    have e := hne si hsi
    refine ⟨h1, h2, h3, (e 0 (by omega) (by omega)).trans h4, (e 1 (by omega) (by omega)).trans h5, (e 2 (by omega) (by omega)).trans h6, h7, h8, h9, fun j hj => ?_, fun u hu => ?_⟩
    · unfold qMap
      by_cases q : t * 12 ≤ j ∧ j < t * 12 + 12
      · rw [if_pos q]; exact VR_cho hB h3 ht2 ⟨_, hp j hj⟩
      · rw [if_neg q]; exact h10 j hj
    · obtain ⟨z1, z2, z3, z4, z5, z6⟩ := h11 u hu
      by_cases q : u = t
      · subst q
        have k0 : (if u = u then n + 1 else kc si u) = n + 1 := if_pos rfl
        refine ⟨?_, ?_, ?_, ?_, ?_, fun _ _ c hc k hk => ?_⟩
        · show (if u = u then n + 1 else kc si u) ≤ n + 1
          rw [k0]; omega
        · show _ = eX (if u = u then n + 1 else kc si u)
          rw [k0, upd_same, eX_s]
        · show lb' (7 * si + (3 + u)) = eX (if u = u then n + 1 else kc si u)
          rw [k0, eX_s]; exact e3
        · show (if u = u then 0 else mi si u) ≤ 1
          rw [if_pos rfl]; omega
        · show lb' (7 * si + (5 + u)) = nI (if u = u then 0 else mi si u)
          rw [if_pos rfl]; exact e5
        · have hc : (if u = u then n + 1 else kc si u) = c + 1 := hc
          rw [k0] at hc
          obtain rfl : n = c := by omega
          have em : mx2 (sl si) n = n := by unfold mx2; split <;> omega
          rw [em]
          have e1 := hO.2.2.2 (u * 12 + k) (by omega)
          rw [hcn] at e1
          show qMap _ rows (sr si) (u * 12) 12 (u * 12 + k) = _
          unfold qMap
          rw [if_pos (by omega), e1]
          rfl
      · have a3 := (e (3 + u) (by omega) (by omega)).trans z3
        have a5 := (e (5 + u) (by omega) (by omega)).trans z5
        have k0 : (if u = t then n + 1 else kc si u) = kc si u := if_neg q
        have k1 : (if u = t then 0 else mi si u) = mi si u := if_neg q
        refine ⟨?_, ?_, ?_, ?_, ?_, fun w1 w2 c hc k hk => ?_⟩
        · show (if u = t then n + 1 else kc si u) ≤ n + 1
          rw [k0]; exact z1
        · show _ = eX (if u = t then n + 1 else kc si u)
          rw [k0, upd_ne q]; exact z2
        · show lb' (7 * si + (3 + u)) = eX (if u = t then n + 1 else kc si u)
          rw [k0]; exact a3
        · show (if u = t then 0 else mi si u) ≤ 1
          rw [k1]; exact z4
        · show lb' (7 * si + (5 + u)) = nI (if u = t then 0 else mi si u)
          rw [k1]; exact a5
        · have hc : (if u = t then n + 1 else kc si u) = c + 1 := hc
          have w1 : (if u = t then 0 else mi si u) = 0 := w1
          rw [k0] at hc
          rw [k1] at w1
          show qMap _ rows (sr si) (t * 12) 12 (u * 12 + k) = _
          unfold qMap
          rw [if_neg (by omega)]
          exact z6 w1 w2 c hc k hk
end INV
