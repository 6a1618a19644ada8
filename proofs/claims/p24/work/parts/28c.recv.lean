/-! .. and what receiving does: a table without own rows or skipped commits stays what its publication chooses, and makes no conflict -/
section RECV
variable {ad bk : Nat → Nat} {kc mi : Nat → Nat → Nat} {lim n cn : Nat} {rows cc ct ck nr cr old rw : qF} {co re nu ma sr cp : Nat → qF} {pu : Nat → Option Nat} {st sl : Nat → Nat} {lp lo lq lb lg : qF}
/-- where one commit's trial stands behind i changes -/
def TRI (co re nu ma : qF) (tk cl : Nat → Prop) (ct ck nr : qF) (b : Nat) (o0 w0 o w : qF) (i : Nat) : Prop := (∀ j, j < 24 → VR (w j)) ∧ ∀ t, t < 2 → (tk t → ∀ k, k < 12 → o (t * 12 + k) = rp ct ck nr b o0 i (t * 12 + k) ∧ (cl t → w (t * 12 + k) = qCho (co t) (re t) (nu t) (ma t) (o (t * 12 + k)))) ∧ (¬ tk t → ∀ k, k < 12 → w (t * 12 + k) = w0 (t * 12 + k))
theorem rp_other {ct ck nr : qF} {b : Nat} {f : qF} {i t u k : Nat} (et : ct (b + i) = nI t) (ht : t < 2) (hu : u < 2) (h : u ≠ t) (hk : k < 12) : rp ct ck nr b f (i + 1) (u * 12 + k) = rp ct ck nr b f i (u * 12 + k) := by
  rw [rp_s, if_neg]
  rintro ⟨e, -⟩
  rw [et, show (u * 12 + k) / 12 = u by omega] at e
  exact h (nI_j e (by omega) (by omega)).symm
theorem rp_here {ct ck nr : qF} {b : Nat} {f : qF} {i t k : Nat} (et : ct (b + i) = nI t) (hk : k < 12) (h : ck (b + i) = -1 ∨ ck (b + i) = nI k) : rp ct ck nr b f (i + 1) (t * 12 + k) = nr (b + i) := by
  rw [rp_s, if_pos]
  rw [et, show (t * 12 + k) / 12 = t by omega, show (t * 12 + k) % 12 = k by omega]
  exact ⟨rfl, h⟩
theorem rp_there {ct ck nr : qF} {b : Nat} {f : qF} {i t k k1 : Nat} (et : ct (b + i) = nI t) (ek : ck (b + i) = nI k1) (hk : k < 12) (hk1 : k1 < 12) (h : k ≠ k1) : rp ct ck nr b f (i + 1) (t * 12 + k) = rp ct ck nr b f i (t * 12 + k) := by
  rw [rp_s, if_neg]
  rintro ⟨-, e⟩
  rw [ek, show (t * 12 + k) % 12 = k by omega] at e
  rcases e with e | e
  · exact (nI_m1 (by omega)).mp e
  · exact h (nI_j e (by omega) (by omega)).symm
theorem tri_step {co re nu ma cp : qF} {y : Int32} {cl : Nat → Prop} {b i : Nat} {o0 w0 o w : qF} (hV : ∀ t, t < 2 → ∀ x, VR x → VR (qCho (co t) (re t) (nu t) (ma t) x)) (hc : CH ct ck nr (b + i)) (h : TRI co re nu ma (fun t => qTk (cp t) y = true) cl ct ck nr b o0 w0 o w i) {t : Nat} (ht : t < 2) (et : ct (b + i) = nI t) :
    (∀ o1 w1, qAp1 co re nu ma (qTk (cp t) y) t (ck (b + i)) (nr (b + i)) o w = some (o1, w1) → TRI co re nu ma (fun t => qTk (cp t) y = true) cl ct ck nr b o0 w0 o1 w1 (i + 1)) ∧ (cl t → qAp1 co re nu ma (qTk (cp t) y) t (ck (b + i)) (nr (b + i)) o w ≠ none) := by
  obtain ⟨hw, hT⟩ := h
  obtain ⟨t', ht', et', hK⟩ := hc
  have e9 : t' = t := nI_j (et'.symm.trans et) (by omega) (by omega)
  subst e9
  by_cases tk : qTk (cp t') y = true
  · have tn : ¬ qTk (cp t') y = false := by rw [tk]; decide
    rcases hK with ⟨eK, ev⟩ | ⟨⟨k1, hk1, eK⟩, hv⟩
    · rw [qAp1_a tn eK]
      refine ⟨fun o1 w1 q => ?_, fun _ q => by cases q⟩
      cases q
      refine ⟨fun j hj => ?_, fun u hu => ⟨fun tu k hk => ?_, fun tu k hk => ?_⟩⟩
      · unfold qTaR
        split
        · exact VR_m1
        · exact hw j hj
      · by_cases q : u = t'
        · subst q
          rw [rp_here et hk (Or.inl eK), ev]
          refine ⟨by unfold qFill; rw [if_pos (by omega)], fun c => ?_⟩
          have e1 := ((hT u hu).1 tu k hk).2 c
          unfold qTaR qFill
          rw [if_pos (show u * 12 ≤ u * 12 + k ∧ u * 12 + k < u * 12 + 12 by omega), qCho_m1]
          by_cases z : qCho (co u) (re u) (nu u) (ma u) (o (u * 12 + k)) = -1
          · rw [if_neg (fun q => q.2.2 z), e1, z]
          · rw [if_pos ⟨by omega, by omega, z⟩]
        · rw [rp_other et ht hu q hk]
          have e1 := (hT u hu).1 tu k hk
          unfold qTaR qFill
          rw [if_neg (by omega), if_neg (by omega)]
          exact e1
      · have q : u ≠ t' := fun q => tu (by rw [q]; exact tk)
        unfold qTaR
        rw [if_neg (by omega)]
        exact (hT u hu).2 tu k hk
    · rw [qAp1_k tn hk1 eK]
      refine ⟨fun o1 w1 q => ?_, fun c q => ?_⟩
      · by_cases cf : qCf (qCho (co t') (re t') (nu t') (ma t') (o (t' * 12 + k1))) (qCho (co t') (re t') (nu t') (ma t') (nr (b + i))) (w (t' * 12 + k1))
        · rw [if_pos cf] at q; cases q
        · rw [if_neg cf] at q
          cases q
          have hcv := hV t' ht _ hv
          refine ⟨fun j hj => ?_, fun u hu => ⟨fun tu k hk => ?_, fun tu k hk => ?_⟩⟩
          · split
            · exact hw j hj
            · by_cases z : j = t' * 12 + k1
              · rw [z, upd_same]; exact hcv
              · rw [upd_ne z]; exact hw j hj
          · by_cases q : u = t'
            · subst q
              by_cases z : k = k1
              · subst z
                rw [rp_here et hk (Or.inr eK), upd_same]
                refine ⟨rfl, fun c => ?_⟩
                have e1 := ((hT u hu).1 tu k hk).2 c
                by_cases y9 : qCho (co u) (re u) (nu u) (ma u) (o (u * 12 + k)) = -1 ∧ qCho (co u) (re u) (nu u) (ma u) (nr (b + i)) = -1
                · rw [if_pos y9, e1, y9.1, y9.2]
                · rw [if_neg y9, upd_same]
              · rw [rp_there et eK hk hk1 z, upd_ne (by omega)]
                have e1 := (hT u hu).1 tu k hk
                split
                · exact e1
                · rw [upd_ne (by omega)]; exact e1
            · rw [rp_other et ht hu q hk, upd_ne (by omega)]
              have e1 := (hT u hu).1 tu k hk
              split
              · exact e1
              · rw [upd_ne (by omega)]; exact e1
          · have q : u ≠ t' := fun q => tu (by rw [q]; exact tk)
            have e1 := (hT u hu).2 tu k hk
            split
            · exact e1
            · rw [upd_ne (by omega)]; exact e1
      · by_cases cf : qCf (qCho (co t') (re t') (nu t') (ma t') (o (t' * 12 + k1))) (qCho (co t') (re t') (nu t') (ma t') (nr (b + i))) (w (t' * 12 + k1))
        · exact cf.2.2 ((((hT t' ht).1 tk k1 hk1).2 c).trans cf.1)
        · rw [if_neg cf] at q; cases q
  · have tf : qTk (cp t') y = false := by cases h : qTk (cp t') y with | true => exact absurd h tk | false => rfl
    rw [qAp1_n tf]
    refine ⟨fun o1 w1 q => ?_, fun _ q => by cases q⟩
    cases q
    refine ⟨hw, fun u hu => ⟨fun tu k hk => ?_, (hT u hu).2⟩⟩
    have q : u ≠ t' := fun q => tk (by rw [← q]; exact tu)
    rw [rp_other et ht hu q hk]
    exact (hT u hu).1 tu k hk
theorem tri_all {co re nu ma cp : qF} {y : Int32} {cl : Nat → Prop} {b : Nat} {o0 w0 : qF} (hV : ∀ t, t < 2 → ∀ x, VR x → VR (qCho (co t) (re t) (nu t) (ma t) x)) {m : Nat} (hc : ∀ i, i < m → CH ct ck nr (b + i)) (h0 : TRI co re nu ma (fun t => qTk (cp t) y = true) cl ct ck nr b o0 w0 o0 w0 0) : ∀ i, i ≤ m →
    (∀ o w, qAp co re nu ma cp y ct ck nr b o0 w0 i = some (o, w) → TRI co re nu ma (fun t => qTk (cp t) y = true) cl ct ck nr b o0 w0 o w i) ∧ ((∀ t, t < 2 → cl t) → qAp co re nu ma cp y ct ck nr b o0 w0 i ≠ none)
  | 0, _ => ⟨fun o w q => by cases q; exact h0, fun _ q => by cases q⟩
  | i + 1, hi => by
    obtain ⟨ih1, ih2⟩ := tri_all hV hc h0 i (by omega)
    have hCi := hc i (by omega)
    obtain ⟨t, ht, et, -⟩ := hCi
    cases e : qAp co re nu ma cp y ct ck nr b o0 w0 i with
    | none =>
      refine ⟨fun o w q => ?_, fun c => absurd e (ih2 c)⟩
      have := qAp_none e 1
      rw [this] at q; cases q
    | some p =>
      obtain ⟨o, w⟩ := p
      have s := tri_step hV (hc i (by omega)) (ih1 o w e) ht et
      rw [qAp_s e ht et]
      exact ⟨s.1, fun c => s.2 (c t ht)⟩
/-- what holds of a subscriber's rows at the slot a -/
def RCV (co re nu ma : Nat → qF) (cr : qF) (bk : Nat) (kc mi : Nat → Nat) (f : qF) (a : Nat) : Prop := (∀ j, j < 24 → VR (f j)) ∧ ∀ t, t < 2 → mi t = 0 → ∀ c, kc t = c + 1 → FT co re nu ma cr bk f t (mx2 a c)
theorem tk_iff {x : Int32} {k c : Nat} (e : x = eX k) (hk : k < 2 ^ 29) (hc : c < 2 ^ 29) : qTk x (nI c) = true ↔ ∃ z, k = z + 1 ∧ z < c := by
  unfold qTk
  rw [decide_eq_true_iff, e, eX_m1 (by omega), eX_lt_n (by omega) (by omega)]
  constructor
  · rintro ⟨a, b⟩; exact ⟨k - 1, by omega, by omega⟩
  · rintro ⟨z, a, b⟩; omega
theorem rcv_start {cp0 : qF} {bk0 : Nat} {kc0 mi0 : Nat → Nat} {f0 o w : qF} {c : Nat} (hc9 : c < 50) (hcp : ∀ t, t < 2 → cp0 t = eX (kc0 t) ∧ kc0 t ≤ 51) (h : RCV co re nu ma cr bk0 kc0 mi0 f0 c) : TRI (co bk0) (re bk0) (nu bk0) (ma bk0) (fun t => qTk (cp0 t) (nI (c + 1)) = true) (fun t => mi0 t = 0) ct ck nr (c * 12) (va_cpy cr o (c * 24) 0 24) (va_cpy f0 w 0 0 24) (va_cpy cr o (c * 24) 0 24) (va_cpy f0 w 0 0 24) 0 := by
  have ew : ∀ j, j < 24 → va_cpy f0 w 0 0 24 j = f0 j := fun j hj => by rw [cpy_in0 hj, Nat.zero_add]
  refine ⟨fun j hj => by rw [ew j hj]; exact h.1 j hj, fun t ht => ⟨fun tk k hk => ⟨rfl, fun cl => ?_⟩, fun _ _ _ => rfl⟩⟩
  obtain ⟨e, hk51⟩ := hcp t ht
  obtain ⟨z, ez, hz⟩ := (tk_iff e (by omega) (by omega)).mp tk
  have e1 := h.2 t ht cl z ez k hk
  have em : mx2 c z = c := by unfold mx2; rw [if_neg (by omega)]
  rw [ew _ (by omega), cpy_in0 (by omega), e1, em]
theorem rcv_next (hL : LG n cc ct ck nr cr) (hB : PB co re nu ma lq) {cp0 : qF} {bk0 : Nat} {kc0 mi0 : Nat → Nat} {f0 o w o1 w1 : qF} {c m : Nat} (hb : bk0 < 3) (hc : c < n) (hn : n ≤ 50) (hcp : ∀ t, t < 2 → cp0 t = eX (kc0 t) ∧ kc0 t ≤ 51) (em : cc c = nI m) (hm : m ≤ 12) (h : RCV co re nu ma cr bk0 kc0 mi0 f0 c)
    (ap : qAp (co bk0) (re bk0) (nu bk0) (ma bk0) cp0 (nI (c + 1)) ct ck nr (c * 12) (va_cpy cr o (c * 24) 0 24) (va_cpy f0 w 0 0 24) m = some (o1, w1)) : RCV co re nu ma cr bk0 kc0 mi0 (va_cpy w1 f0 0 0 24) (c + 1) := by
  obtain ⟨m', hm', em', hCH, hrp⟩ := hL.2.1 c hc
  obtain rfl : m' = m := nI_j (em'.symm.trans em) (by omega) (by omega)
  have h0 := rcv_start (ct := ct) (ck := ck) (nr := nr) (o := o) (w := w) (by omega) hcp h
  have s := (tri_all (fun t ht x hx => VR_cho hB hb ht hx) hCH h0 m' (Nat.le_refl m')).1 o1 w1 ap
  have ew : ∀ j, j < 24 → va_cpy w1 f0 0 0 24 j = w1 j := fun j hj => by rw [cpy_in0 hj, Nat.zero_add]
  refine ⟨fun j hj => by rw [ew j hj]; exact s.1 j hj, fun t ht hmi z hz k hk => ?_⟩
  obtain ⟨e, hk51⟩ := hcp t ht
  rw [ew _ (by omega)]
  by_cases tk : qTk (cp0 t) (nI (c + 1)) = true
  · obtain ⟨z', ez, hz'⟩ := (tk_iff e (by omega) (by omega)).mp tk
    obtain ⟨a1, a2⟩ := (s.2 t ht).1 tk k hk
    rw [a2 hmi, a1]
    have em2 : mx2 (c + 1) z = c + 1 := by unfold mx2; rw [if_neg (by omega)]
    rw [em2, hrp (t * 12 + k) (by omega)]
    congr 1
    exact rp_congr (cpy_in0 (by omega)) m' (fun i _ => ⟨rfl, rfl, rfl⟩)
  · have a1 := (s.2 t ht).2 tk k hk
    have hz' : c + 1 ≤ z := by
      rcases Nat.lt_or_ge z (c + 1) with q | q
      · exact absurd ((tk_iff e (by omega) (by omega)).mpr ⟨z, hz, q⟩) tk
      · exact q
    have m1 : mx2 c z = z := by unfold mx2; rw [if_pos (by omega)]
    have m2 : mx2 (c + 1) z = z := by unfold mx2; split <;> omega
    rw [a1, cpy_in0 (by omega), Nat.zero_add, h.2 t ht hmi z hz k hk, m1, m2]
theorem rcv_all (hL : LG n cc ct ck nr cr) (hB : PB co re nu ma lq) {cp0 : qF} {bk0 : Nat} {kc0 mi0 : Nat → Nat} {f0 : qF} {a : Nat} (hb : bk0 < 3) (hn : n ≤ 50) (hcp : ∀ t, t < 2 → cp0 t = eX (kc0 t) ∧ kc0 t ≤ 51) (h : RCV co re nu ma cr bk0 kc0 mi0 f0 a) : ∀ (k : Nat) (f : qF), a + k ≤ n → qRel (co bk0) (re bk0) (nu bk0) (ma bk0) cp0 cc ct ck nr cr a f0 k f → RCV co re nu ma cr bk0 kc0 mi0 f (a + k)
  | 0, f, _, q => by
    have q : f = f0 := q
    subst q; exact h
  | k + 1, f, hk, q => by
    obtain ⟨f1, o, w, o1, w1, m, h1, em, hm, ap, rfl⟩ := q
    exact rcv_next hL hB hb (show a + k < n by omega) hn hcp em hm (rcv_all hL hB hb hn hcp h k f1 (by omega) h1) ap
theorem rcv_stop (hL : LG n cc ct ck nr cr) (hB : PB co re nu ma lq) {cp0 : qF} {bk0 : Nat} {kc0 mi0 : Nat → Nat} {f : qF} {c : Nat} (hb : bk0 < 3) (hc : c < n) (hn : n ≤ 50) (hcp : ∀ t, t < 2 → cp0 t = eX (kc0 t) ∧ kc0 t ≤ 51) (h : RCV co re nu ma cr bk0 kc0 mi0 f c) (q : qStop (co bk0) (re bk0) (nu bk0) (ma bk0) cp0 cc ct ck nr cr c f) : ¬ (mi0 0 = 0 ∧ mi0 1 = 0) := by
  obtain ⟨o, w, m, em, hm, ap⟩ := q
  obtain ⟨m', hm', em', hCH, hrp⟩ := hL.2.1 c hc
  obtain rfl : m' = m := nI_j (em'.symm.trans em) (by omega) (by omega)
  have h0 := rcv_start (ct := ct) (ck := ck) (nr := nr) (o := o) (w := w) (by omega) hcp h
  rintro ⟨c0, c1⟩
  exact (tri_all (fun t ht x hx => VR_cho hB hb ht hx) hCH h0 m' (Nat.le_refl m')).2 (fun t ht => by rcases (show t = 0 ∨ t = 1 by omega) with rfl | rfl <;> assumption) ap
theorem T_recv (hI : INt ad bk kc mi cn lim n rows cc ct ck nr cr co re nu ma sr cp pu st sl lp lo lq lb lg) {si k sq : Nat} {f : qF} (hsi : si < 3) (hst : st si = 1) (hk : sl si + k ≤ n) (hq : qRel (co (bk si)) (re (bk si)) (nu (bk si)) (ma (bk si)) (cp si) cc ct ck nr cr (sl si) (sr si) k f) (hsq : sq = 1 ∨ (sq = 2 ∧ sl si + k < n)) {lb' : qF} (hne : ∀ i, i < 3 → ∀ j, j < 7 → ¬ (i = si ∧ (j = 1 ∨ j = 2)) → lb' (7 * i + j) = lb (7 * i + j)) (e1 : lb' (7 * si + 1) = nI sq) (e2 : lb' (7 * si + 2) = nI (sl si + k)) :
    INt ad bk kc mi cn lim n rows cc ct ck nr cr co re nu ma (va_up sr si f) cp pu (va_up st si sq) (va_up sl si (sl si + k)) lp lo lq lb' lg := by
  have h := T_one (sr1 := f) (mi1 := mi si) (cp1 := cp si) (pu1 := pu si) (st1 := sq) (sl1 := sl si + k) (bk1 := bk si) (kc1 := kc si) hI (fun i hi q j hj => hne i hi j hj (fun z => q z.1)) (fun _ => ?_)
  · rw [up_id, up_id, up_id, up_id, up_id] at h; exact h
  · obtain ⟨hlim, hn, g0, g1, g2, hp, ho, hL, hO, hB, hS⟩ := hI
    obtain ⟨h1, h2, h3, h4, h5, h6, h7, h8, h9, h10, h11⟩ := hS si hsi
    have e := hne si hsi
    have h9 := h9 (Or.inl hst)
    have R := rcv_all hL hB h3 hn (fun t ht => ⟨(h11 t ht).2.1, by have := (h11 t ht).1; omega⟩) (a := sl si) (f0 := sr si) ⟨h10, fun t ht hmi c hc => (h11 t ht).2.2.2.2.2 hmi (Or.inl hst) c hc⟩ k f hk hq
    refine ⟨by omega, hk, h3, (e 0 (by omega) (by omega)).trans h4, e1, e2, Or.inr ⟨by omega, (h7.resolve_left (fun q => by omega)).2⟩, fun q => by omega, fun _ => by omega, R.1, fun u hu => ?_⟩
    obtain ⟨z1, z2, z3, z4, z5, z6⟩ := h11 u hu
    exact ⟨z1, z2, (e (3 + u) (by omega) (by omega)).trans z3, z4, (e (5 + u) (by omega) (by omega)).trans z5, fun w1 _ c hc => R.2 u hu w1 c hc⟩
theorem T_stop (hI : INt ad bk kc mi cn lim n rows cc ct ck nr cr co re nu ma sr cp pu st sl lp lo lq lb lg) {si k : Nat} {f : qF} (hsi : si < 3) (hst : st si = 1) (hk : sl si + k < n) (hq : qRel (co (bk si)) (re (bk si)) (nu (bk si)) (ma (bk si)) (cp si) cc ct ck nr cr (sl si) (sr si) k f) (hs : qStop (co (bk si)) (re (bk si)) (nu (bk si)) (ma (bk si)) (cp si) cc ct ck nr cr (sl si + k) f) : ¬ (mi si 0 = 0 ∧ mi si 1 = 0) := by
  obtain ⟨hlim, hn, g0, g1, g2, hp, ho, hL, hO, hB, hS⟩ := hI
  obtain ⟨h1, h2, h3, h4, h5, h6, h7, h8, h9, h10, h11⟩ := hS si hsi
  have hcp : ∀ t, t < 2 → cp si t = eX (kc si t) ∧ kc si t ≤ 51 := fun t ht => ⟨(h11 t ht).2.1, by have := (h11 t ht).1; omega⟩
  have R := rcv_all hL hB h3 hn hcp (a := sl si) (f0 := sr si) ⟨h10, fun t ht hmi c hc => (h11 t ht).2.2.2.2.2 hmi (Or.inl hst) c hc⟩ k f (by omega) hq
  exact rcv_stop hL hB h3 hk hn hcp R hs
end RECV
