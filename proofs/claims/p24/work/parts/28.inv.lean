/-! The law's shadow of the class: what its five arrays have to do with the class's state. -/
theorem upd_same (f : qF) (i : Nat) (x : Int32) : upd f i x i = x := by unfold upd; rw [if_pos rfl]
theorem upd_ne {f : qF} {i j : Nat} {x : Int32} (h : j ≠ i) : upd f i x j = f j := by unfold upd; rw [if_neg h]
theorem up_same {α : Type} (f : Nat → α) (i : Nat) (x : α) : va_up f i x i = x := by unfold va_up; rw [if_pos rfl]
theorem up_ne {α : Type} {f : Nat → α} {i j : Nat} {x : α} (h : j ≠ i) : va_up f i x j = f j := by unfold va_up; rw [if_neg h]
theorem nI_j {a b : Nat} (h : nI a = nI b) (ha : a < 2 ^ 31) (hb : b < 2 ^ 31) : a = b := (nI_eq ha hb).mp h
def VR (x : Int32) : Prop := ∃ y, rE x y
theorem VR_m1 : VR (-1) := ⟨-1, rE_no⟩
def mx2 (a c : Nat) : Nat := if a < c then c else a
/-- a change of the log at the place e -/
def CH (ct ck nr : qF) (e : Nat) : Prop := ∃ t, t < 2 ∧ ct e = nI t ∧ ((ck e = -1 ∧ nr e = -1) ∨ ((∃ k, k < 12 ∧ ck e = nI k) ∧ VR (nr e)))
/-- the rows behind the first i changes of the log from b on -/
def rp (ct ck nr : qF) (b : Nat) (f : qF) : Nat → qF
  | 0 => f
  | i + 1 => fun j => if ct (b + i) = nI (j / 12) ∧ (ck (b + i) = -1 ∨ ck (b + i) = nI (j % 12)) then nr (b + i) else rp ct ck nr b f i j
theorem rp_s {ct ck nr : qF} {b : Nat} {f : qF} {i j : Nat} : rp ct ck nr b f (i + 1) j = if ct (b + i) = nI (j / 12) ∧ (ck (b + i) = -1 ∨ ck (b + i) = nI (j % 12)) then nr (b + i) else rp ct ck nr b f i j := rfl
theorem rp_congr {ct ck nr ct' ck' nr' : qF} {b : Nat} {f g : qF} {j : Nat} (hf : f j = g j) : ∀ (m : Nat), (∀ i, i < m → ct' (b + i) = ct (b + i) ∧ ck' (b + i) = ck (b + i) ∧ nr' (b + i) = nr (b + i)) → rp ct' ck' nr' b f m j = rp ct ck nr b g m j
  | 0, _ => hf
  | m + 1, h => by
    obtain ⟨e1, e2, e3⟩ := h m (Nat.lt_succ_self m)
    rw [rp_s, rp_s, e1, e2, e3, rp_congr hf m (fun i hi => h i (Nat.lt_succ_of_lt hi))]
theorem CH_congr {ct ck nr ct' ck' nr' : qF} {e : Nat} (h : CH ct ck nr e) (h1 : ct' e = ct e) (h2 : ck' e = ck e) (h3 : nr' e = nr e) : CH ct' ck' nr' e := by
  unfold CH; rw [h1, h2, h3]; exact h
def LG (n : Nat) (cc ct ck nr cr : qF) : Prop :=
  (∀ c, c ≤ n → ∀ i, i < 24 → VR (cr (c * 24 + i))) ∧
  (∀ c, c < n → ∃ m, m ≤ 12 ∧ cc c = nI m ∧ (∀ i, i < m → CH ct ck nr (c * 12 + i)) ∧ ∀ j, j < 24 → cr ((c + 1) * 24 + j) = rp ct ck nr (c * 12) (fun j => cr (c * 24 + j)) m j) ∧
  (∀ c, n < c → c ≤ 50 → cc c = nI 0)
def LO (n cn : Nat) (rows cc ct ck nr cr : qF) : Prop := cn ≤ 12 ∧ cc n = nI cn ∧ (∀ i, i < cn → CH ct ck nr (n * 12 + i)) ∧ ∀ j, j < 24 → rows j = rp ct ck nr (n * 12) (fun j => cr (n * 24 + j)) cn j
def PB (co re nu ma : Nat → qF) (lq : qF) : Prop := ∀ p, p < 3 → ∀ t, t < 2 → ∃ c r v w, c < 3 ∧ r < 3 ∧ v < 100 ∧ w < 8 ∧ co p t = nI c ∧ re p t = nI r ∧ nu p t = nI v ∧ ma p t = qMaskN (nI w) 3 ∧ lq (2 * p + t) = nI w
/-- a table is what its publication chooses of the rows as of a -/
def FT (co re nu ma : Nat → qF) (cr : qF) (bk : Nat) (sr : qF) (t a : Nat) : Prop := ∀ k, k < 12 → sr (t * 12 + k) = qCho (co bk t) (re bk t) (nu bk t) (ma bk t) (cr (a * 24 + (t * 12 + k)))
def ST (n : Nat) (co re nu ma : Nat → qF) (cr : qF) (st sl : Nat) (sr cp : qF) (bk : Nat) (kc mi : Nat → Nat) (y : qF) (t : Nat) : Prop :=
  kc t ≤ n + 1 ∧ cp t = eX (kc t) ∧ y (3 + t) = eX (kc t) ∧ mi t ≤ 1 ∧ y (5 + t) = nI (mi t) ∧ (mi t = 0 → (st = 1 ∨ st = 2) → ∀ c, kc t = c + 1 → FT co re nu ma cr bk sr t (mx2 sl c))
def SU (ad : Nat → Nat) (lim n : Nat) (co re nu ma : Nat → qF) (cr : qF) (pu : Option Nat) (st sl : Nat) (sr cp : qF) (bk : Nat) (kc mi : Nat → Nat) (y : qF) : Prop :=
  st ≤ 3 ∧ sl ≤ n ∧ bk < 3 ∧ y 0 = nI bk ∧ y 1 = nI st ∧ y 2 = nI sl ∧ ((st = 0 ∧ pu = none) ∨ (0 < st ∧ pu = some (ad (13 + 5 * bk)))) ∧ (st = 2 → sl < n) ∧ (st = 1 ∨ st = 2 → n - sl ≤ lim) ∧ (∀ j, j < 24 → VR (sr j)) ∧ ∀ t, t < 2 → ST n co re nu ma cr st sl sr cp bk kc mi y t
def IN (ad bk : Nat → Nat) (kc mi : Nat → Nat → Nat) (cn : Nat) (S : S4) (lp lo lq lb lg : qF) : Prop := match S with
  | (lim, n, rows, cc, ct, ck, nr, cr, _, _, co, re, nu, ma, sr, cp, pu, st, sl) => lim ≤ 50 ∧ n ≤ 50 ∧ lg 0 = nI n ∧ lg 1 = nI cn ∧ lg 2 = nI lim ∧ (∀ i, i < 24 → rE (rows i) (lp i)) ∧ (∀ i, i < 24 → rE (cr (n * 24 + i)) (lo i)) ∧ LG n cc ct ck nr cr ∧ LO n cn rows cc ct ck nr cr ∧ PB co re nu ma lq ∧ ∀ i, i < 3 → SU ad lim n co re nu ma cr (pu i) (st i) (sl i) (sr i) (cp i) (bk i) (kc i) (mi i) (fun j => lb (7 * i + j))
def INE (ad : Nat → Nat) (S : S4) (lp lo lq lb lg : qF) : Prop := ∃ bk kc mi cn, IN ad bk kc mi cn S lp lo lq lb lg
theorem ST_y {n : Nat} {co re nu ma : Nat → qF} {cr : qF} {st sl : Nat} {sr cp : qF} {bk : Nat} {kc mi : Nat → Nat} {y y' : qF} {t : Nat} (h : ST n co re nu ma cr st sl sr cp bk kc mi y t) (h3 : y' (3 + t) = y (3 + t)) (h5 : y' (5 + t) = y (5 + t)) : ST n co re nu ma cr st sl sr cp bk kc mi y' t := by
  unfold ST; rw [h3, h5]; exact h
theorem SU_y {ad : Nat → Nat} {lim n : Nat} {co re nu ma : Nat → qF} {cr : qF} {pu : Option Nat} {st sl : Nat} {sr cp : qF} {bk : Nat} {kc mi : Nat → Nat} {y y' : qF} (h : SU ad lim n co re nu ma cr pu st sl sr cp bk kc mi y) (e : ∀ j, j < 7 → y' j = y j) : SU ad lim n co re nu ma cr pu st sl sr cp bk kc mi y' := by
  obtain ⟨h1, h2, h3, h4, h5, h6, h7, h8, h9, h10, h11⟩ := h
  exact ⟨h1, h2, h3, (e 0 (by omega)).trans h4, (e 1 (by omega)).trans h5, (e 2 (by omega)).trans h6, h7, h8, h9, h10, fun t ht => ST_y (h11 t ht) (e _ (by omega)) (e _ (by omega))⟩
section INV
variable {ad bk : Nat → Nat} {kc mi : Nat → Nat → Nat} {lim n cn : Nat} {rows cc ct ck nr cr old rw : qF} {co re nu ma sr cp : Nat → qF} {pu : Nat → Option Nat} {st sl : Nat → Nat} {lp lo lq lb lg : qF}
abbrev INt (ad bk : Nat → Nat) (kc mi : Nat → Nat → Nat) (cn lim n : Nat) (rows cc ct ck nr cr : qF) (co re nu ma sr cp : Nat → qF) (pu : Nat → Option Nat) (st sl : Nat → Nat) (lp lo lq lb lg : qF) : Prop := lim ≤ 50 ∧ n ≤ 50 ∧ lg 0 = nI n ∧ lg 1 = nI cn ∧ lg 2 = nI lim ∧ (∀ i, i < 24 → rE (rows i) (lp i)) ∧ (∀ i, i < 24 → rE (cr (n * 24 + i)) (lo i)) ∧ LG n cc ct ck nr cr ∧ LO n cn rows cc ct ck nr cr ∧ PB co re nu ma lq ∧ ∀ i, i < 3 → SU ad lim n co re nu ma cr (pu i) (st i) (sl i) (sr i) (cp i) (bk i) (kc i) (mi i) (fun j => lb (7 * i + j))
/-- one change more of the open transaction -/
theorem T_change (hI : INt ad bk kc mi cn lim n rows cc ct ck nr cr co re nu ma sr cp pu st sl lp lo lq lb lg) (hcn : cn < 12) {t : Nat} (ht : t < 2) {K v : Int32} (hK : (K = -1 ∧ v = -1) ∨ ((∃ k, k < 12 ∧ K = nI k) ∧ VR v)) {rows' lp' : qF} (hr : ∀ j, j < 24 → rows' j = if nI t = nI (j / 12) ∧ (K = -1 ∨ K = nI (j % 12)) then v else rows j) (hp' : ∀ i, i < 24 → rE (rows' i) (lp' i)) :
    INt ad bk kc mi (cn + 1) lim n rows' (upd cc n (nI (cn + 1))) (upd ct (n * 12 + cn) (nI t)) (upd ck (n * 12 + cn) K) (upd nr (n * 12 + cn) v) cr co re nu ma sr cp pu st sl lp' lo lq lb (upd lg 1 (nI (cn + 1))) := by
  obtain ⟨hlim, hn, g0, g1, g2, hp, ho, hL, hO, hB, hS⟩ := hI
  refine ⟨hlim, hn, by rw [upd_ne (by decide)]; exact g0, upd_same _ _ _, by rw [upd_ne (by decide)]; exact g2, hp', ho, ⟨hL.1, fun c hc => ?_, fun c h1 h2 => by rw [upd_ne (by omega)]; exact hL.2.2 c h1 h2⟩, ⟨by omega, upd_same _ _ _, fun i hi => ?_, fun j hj => ?_⟩, hB, hS⟩
  · obtain ⟨m, hm, e1, e2, e3⟩ := hL.2.1 c hc
    refine ⟨m, hm, by rw [upd_ne (by omega)]; exact e1, fun i hi => CH_congr (e2 i hi) (upd_ne (by omega)) (upd_ne (by omega)) (upd_ne (by omega)), fun j hj => ?_⟩
    rw [e3 j hj]
    exact (rp_congr rfl m (fun i hi => ⟨upd_ne (by omega), upd_ne (by omega), upd_ne (by omega)⟩)).symm
  · by_cases q : i < cn
    · exact CH_congr (hO.2.2.1 i q) (upd_ne (by omega)) (upd_ne (by omega)) (upd_ne (by omega))
    · obtain rfl : i = cn := by omega
      refine ⟨t, ht, upd_same _ _ _, ?_⟩
      rw [upd_same, upd_same]
      exact hK
  · rw [rp_s, upd_same, upd_same, upd_same, hr j hj, rp_congr (g := fun j => cr (n * 24 + j)) rfl cn (fun i hi => ⟨upd_ne (by omega), upd_ne (by omega), upd_ne (by omega)⟩), hO.2.2.2 j hj]
theorem T_put (hI : INt ad bk kc mi cn lim n rows cc ct ck nr cr co re nu ma sr cp pu st sl lp lo lq lb lg) (hcn : cn < 12) {t k : Nat} (ht : t < 2) (hk : k < 12) {v y : Int32} (hv : rE v y) :
    INt ad bk kc mi (cn + 1) lim n (upd rows (t * 12 + k) v) (upd cc n (nI (cn + 1))) (upd ct (n * 12 + cn) (nI t)) (upd ck (n * 12 + cn) (nI k)) (upd nr (n * 12 + cn) v) cr co re nu ma sr cp pu st sl (upd lp (12 * t + k) y) lo lq lb (upd lg 1 (nI (cn + 1))) := by
  refine T_change hI hcn ht (Or.inr ⟨⟨k, hk, rfl⟩, y, hv⟩) (fun j hj => ?_) (fun i hi => ?_)
  · by_cases q : j = t * 12 + k
    · rw [q, upd_same, if_pos ⟨by rw [show (t * 12 + k) / 12 = t by omega], Or.inr (by rw [show (t * 12 + k) % 12 = k by omega])⟩]
    · rw [upd_ne q, if_neg]
      rintro ⟨e1, e2⟩
      have e1 := nI_j e1 (by omega) (by omega)
      rcases e2 with e2 | e2
      · exact (nI_m1 (by omega)).mp e2
      · have e2 := nI_j e2 (by omega) (by omega)
        omega
  · by_cases q : i = t * 12 + k
    · rw [q, upd_same, show t * 12 + k = 12 * t + k by omega, upd_same]; exact hv
    · rw [upd_ne q, upd_ne (by omega)]; exact hI.2.2.2.2.2.1 i hi
theorem T_trunc (hI : INt ad bk kc mi cn lim n rows cc ct ck nr cr co re nu ma sr cp pu st sl lp lo lq lb lg) (hcn : cn < 12) {t : Nat} (ht : t < 2) :
    INt ad bk kc mi (cn + 1) lim n (qFill rows (t * 12) 12 (-1)) (upd cc n (nI (cn + 1))) (upd ct (n * 12 + cn) (nI t)) (upd ck (n * 12 + cn) (-1)) (upd nr (n * 12 + cn) (-1)) cr co re nu ma sr cp pu st sl (qFill lp (12 * t) 12 (-1)) lo lq lb (upd lg 1 (nI (cn + 1))) := by
  refine T_change hI hcn ht (Or.inl ⟨rfl, rfl⟩) (fun j hj => ?_) (fun i hi => ?_)
  · unfold qFill
    by_cases q : t * 12 ≤ j ∧ j < t * 12 + 12
    · rw [if_pos q, if_pos ⟨by rw [show j / 12 = t by omega], Or.inl rfl⟩]
    · rw [if_neg q, if_neg]
      rintro ⟨e1, -⟩
      have e1 := nI_j e1 (by omega) (by omega)
      omega
  · unfold qFill
    by_cases q : t * 12 ≤ i ∧ i < t * 12 + 12
    · rw [if_pos q, if_pos (by omega)]; exact rE_no
    · rw [if_neg q, if_neg (by omega)]; exact hI.2.2.2.2.2.1 i hi
theorem cpy_in {f g : qF} {a b j i : Nat} (h : i < j) : va_cpy f g a b j (b + i) = f (a + i) := by unfold va_cpy; rw [if_pos (by omega), show a + (b + i - b) = a + i by omega]
theorem cpy_out {f g : qF} {a b j i : Nat} (h : i < b ∨ b + j ≤ i) : va_cpy f g a b j i = g i := by unfold va_cpy; rw [if_neg (by omega)]
theorem cpy_in0 {f g : qF} {a j i : Nat} (h : i < j) : va_cpy f g a 0 j i = f (a + i) := by have := cpy_in (f := f) (g := g) (a := a) (b := 0) h; rwa [Nat.zero_add] at this
theorem FT_cr {cr' : qF} {b : Nat} {s : qF} {t a : Nat} (h : FT co re nu ma cr b s t a) (e : ∀ j, j < 24 → cr' (a * 24 + j) = cr (a * 24 + j)) (ht : t < 2) : FT co re nu ma cr' b s t a := fun k hk => by rw [h k hk, e _ (by omega)]
theorem mx2_le {a c n : Nat} (h1 : a ≤ n) (h2 : c ≤ n) : mx2 a c ≤ n := by unfold mx2; split <;> assumption
/-- the cut of those too far behind, at n commits and the limit lim' -/
theorem SU_cut {lim' n' : Nat} {cr' : qF} {pu1 : Option Nat} {st1 sl1 : Nat} {sr1 cp1 : qF} {bk1 : Nat} {kc1 mi1 : Nat → Nat} {y y' : qF} (h : SU ad lim n co re nu ma cr pu1 st1 sl1 sr1 cp1 bk1 kc1 mi1 y) (hn : n ≤ n') (ecr : ∀ a, a ≤ n → ∀ j, j < 24 → cr' (a * 24 + j) = cr (a * 24 + j)) (hy : ∀ j, j < 7 → y' j = if j = 1 then nI (qCut lim' st1 sl1 n') else y j) : SU ad lim' n' co re nu ma cr' pu1 (qCut lim' st1 sl1 n') sl1 sr1 cp1 bk1 kc1 mi1 y' := by
  obtain ⟨h1, h2, h3, h4, h5, h6, h7, h8, h9, h10, h11⟩ := h
  have e0 := hy 0 (by omega)
  have e1 := hy 1 (by omega)
  have e2 := hy 2 (by omega)
  rw [if_neg (by decide)] at e0 e2
  rw [if_pos rfl] at e1
  have hon : qCut lim' st1 sl1 n' = 1 ∨ qCut lim' st1 sl1 n' = 2 → qCut lim' st1 sl1 n' = st1 ∧ ¬ lim' < qLag st1 sl1 n' := by
    unfold qCut; split <;> omega
  refine ⟨by unfold qCut; split <;> omega, by omega, h3, e0.trans h4, e1, e2.trans h6, ?_, ?_, ?_, h10, fun t ht => ?_⟩
  · rcases h7 with ⟨z1, z2⟩ | ⟨z1, z2⟩
    · refine Or.inl ⟨?_, z2⟩
      unfold qCut
      rw [qLag_o (by omega), if_neg (by omega)]; exact z1
    · refine Or.inr ⟨?_, z2⟩
      unfold qCut; split <;> omega
  · intro q
    have := (hon (Or.inr q)).1
    have := h8 (by omega)
    omega
  · intro q
    obtain ⟨q1, q2⟩ := hon q
    rw [qLag_i (by omega)] at q2
    omega
  · obtain ⟨z1, z2, z3, z4, z5, z6⟩ := h11 t ht
    have e3 := hy (3 + t) (by omega)
    have e5 := hy (5 + t) (by omega)
    rw [if_neg (by omega)] at e3 e5
    refine ⟨by omega, z2, e3.trans z3, z4, e5.trans z5, fun q1 q2 c hc => ?_⟩
    obtain ⟨w1, -⟩ := hon q2
    exact FT_cr (z6 q1 (by omega) c hc) (ecr _ (mx2_le h2 (by omega))) ht
theorem T_commit (hI : INt ad bk kc mi cn lim n rows cc ct ck nr cr co re nu ma sr cp pu st sl lp lo lq lb lg) (hn1 : n < 50) {lo' lb' lg' : qF} (eo : ∀ i, i < 24 → lo' i = lp i) (eb : ∀ i, i < 3 → ∀ j, j < 7 → lb' (7 * i + j) = if j = 1 then nI (qCut lim (st i) (sl i) (n + 1)) else lb (7 * i + j)) (e0 : lg' 0 = nI (n + 1)) (e1 : lg' 1 = nI 0) (e2 : lg' 2 = lg 2) :
    INt ad bk kc mi 0 lim (n + 1) rows cc ct ck nr (va_cpy rows cr 0 ((n + 1) * 24) 24) co re nu ma sr cp pu (fun i => qCut lim (st i) (sl i) (n + 1)) sl lp lo' lq lb' lg' := by
  obtain ⟨hlim, hn, g0, g1, g2, hp, ho, hL, hO, hB, hS⟩ := hI
  have new : ∀ j, j < 24 → va_cpy rows cr 0 ((n + 1) * 24) 24 ((n + 1) * 24 + j) = rows j := fun j hj => by rw [cpy_in hj, Nat.zero_add]
  have elder : ∀ a, a ≤ n → ∀ j, j < 24 → va_cpy rows cr 0 ((n + 1) * 24) 24 (a * 24 + j) = cr (a * 24 + j) := fun a ha j hj => cpy_out (Or.inl (by omega))
  refine ⟨hlim, by omega, e0, e1, e2.trans g2, hp, fun i hi => by rw [new i hi, eo i hi]; exact hp i hi, ⟨fun c hc i hi => ?_, fun c hc => ?_, fun c h1 h2 => hL.2.2 c (by omega) h2⟩, ⟨by omega, hL.2.2 (n + 1) (by omega) (by omega), fun i hi => absurd hi (Nat.not_lt_zero i), fun j hj => (new j hj).symm⟩, hB, fun i hi => SU_cut (hS i hi) (by omega) elder (fun j hj => eb i hi j hj)⟩
  · rcases Nat.lt_or_ge n c with q | q
    · obtain rfl : c = n + 1 := by omega
      rw [new i hi]; exact ⟨_, hp i hi⟩
    · rw [elder c q i hi]; exact hL.1 c q i hi
  · rcases Nat.lt_or_ge c n with q | q
    · obtain ⟨m, hm, a1, a2, a3⟩ := hL.2.1 c q
      refine ⟨m, hm, a1, a2, fun j hj => ?_⟩
      rw [elder (c + 1) (by omega) j hj, a3 j hj]
      exact (rp_congr (f := fun j => va_cpy rows cr 0 ((n + 1) * 24) 24 (c * 24 + j)) (g := fun j => cr (c * 24 + j)) (elder c (by omega) j hj) m (fun i _ => ⟨rfl, rfl, rfl⟩)).symm
    · obtain rfl : c = n := by omega
      refine ⟨cn, hO.1, hO.2.1, hO.2.2.1, fun j hj => ?_⟩
      rw [new j hj, hO.2.2.2 j hj]
      exact (rp_congr (f := fun j => va_cpy rows cr 0 ((c + 1) * 24) 24 (c * 24 + j)) (g := fun j => cr (c * 24 + j)) (elder c (by omega) j hj) cn (fun i _ => ⟨rfl, rfl, rfl⟩)).symm
theorem T_limit (hI : INt ad bk kc mi cn lim n rows cc ct ck nr cr co re nu ma sr cp pu st sl lp lo lq lb lg) {lim' : Nat} (hl1 : lim' ≤ 50) {lb' lg' : qF} (eb : ∀ i, i < 3 → ∀ j, j < 7 → lb' (7 * i + j) = if j = 1 then nI (qCut lim' (st i) (sl i) n) else lb (7 * i + j)) (e0 : lg' 0 = lg 0) (e1 : lg' 1 = lg 1) (e2 : lg' 2 = nI lim') :
    INt ad bk kc mi cn lim' n rows cc ct ck nr cr co re nu ma sr cp pu (fun i => qCut lim' (st i) (sl i) n) sl lp lo lq lb' lg' := by
  obtain ⟨hlim, hn, g0, g1, g2, hp, ho, hL, hO, hB, hS⟩ := hI
  exact ⟨hl1, hn, e0.trans g0, e1.trans g1, e2, hp, ho, hL, hO, hB, fun i hi => SU_cut (hS i hi) (Nat.le_refl n) (fun _ _ _ _ => rfl) (fun j hj => eb i hi j hj)⟩
theorem T_roll (hI : INt ad bk kc mi cn lim n rows cc ct ck nr cr co re nu ma sr cp pu st sl lp lo lq lb lg) {lp' lg' : qF} (ep : ∀ i, i < 24 → lp' i = lo i) (e0 : lg' 0 = lg 0) (e1 : lg' 1 = nI 0) (e2 : lg' 2 = lg 2) :
    INt ad bk kc mi 0 lim n (va_cpy cr rows (n * 24) 0 24) (upd cc n (nI 0)) ct ck nr cr co re nu ma sr cp pu st sl lp' lo lq lb lg' := by
  obtain ⟨hlim, hn, g0, g1, g2, hp, ho, hL, hO, hB, hS⟩ := hI
  refine ⟨hlim, hn, e0.trans g0, e1, e2.trans g2, fun i hi => by rw [cpy_in0 hi, ep i hi]; exact ho i hi, ho, ⟨hL.1, fun c hc => ?_, fun c h1 h2 => by rw [upd_ne (by omega)]; exact hL.2.2 c h1 h2⟩, ⟨by omega, upd_same _ _ _, fun i hi => absurd hi (Nat.not_lt_zero i), fun j hj => cpy_in0 hj⟩, hB, hS⟩
  obtain ⟨m, hm, a1, a2, a3⟩ := hL.2.1 c hc
  exact ⟨m, hm, by rw [upd_ne (by omega)]; exact a1, a2, a3⟩
end INV
