/-! What a call of the law's answers, and what it leaves of the shadow, case by case. -/
theorem vin {t N : Nat} (ht : t < 2 ^ 31) : vp_in (nI t) N ↔ t < N := by rw [vp_in_iff, nI_toInt ht]; omega
theorem IN_of {ad bk : Nat → Nat} {kc mi : Nat → Nat → Nat} {cn : Nat} {S : S4} {lp lo lq lb lg : qF} (h : IN ad bk kc mi cn S lp lo lq lb lg) : INt ad bk kc mi cn (s_lim S) (s_n S) (s_rows S) (s_cc S) (s_ct S) (s_ck S) (s_nr S) (s_cr S) (s_co S) (s_re S) (s_nu S) (s_ma S) (s_sr S) (s_cp S) (s_pu S) (s_st S) (s_sl S) lp lo lq lb lg := h
/-- how many copies a change of a publication makes forgotten -/
def bN (st bk : Nat → Nat) (kc : Nat → Nat → Nat) (p t : Nat) : Nat → Nat
  | 0 => 0
  | k + 1 => bN st bk kc p t k + if (0 < st k ∧ bk k = p) ∧ 0 < kc k t then 1 else 0
theorem bN_le (st bk : Nat → Nat) (kc : Nat → Nat → Nat) (p t : Nat) : ∀ k, bN st bk kc p t k ≤ k
  | 0 => Nat.le_refl _
  | k + 1 => by
    have h := bN_le st bk kc p t k
    show bN st bk kc p t k + (if (0 < st k ∧ bk k = p) ∧ 0 < kc k t then 1 else 0) ≤ k + 1
    split <;> omega
section OUTC
variable {ad bk : Nat → Nat} {kc mi : Nat → Nat → Nat} {lim n cn : Nat} {rows cc ct ck nr cr old rw : qF} {co re nu ma sr cp : Nat → qF} {pu : Nat → Option Nat} {st sl : Nat → Nat} {lp lo lq lb lg : qF} {r : Int32} {q : S4}
theorem bN_one (hI : INt ad bk kc mi cn lim n rows cc ct ck nr cr co re nu ma sr cp pu st sl lp lo lq lb lg) (hinj : ∀ x y, x < 3 → y < 3 → ad (13 + 5 * x) = ad (13 + 5 * y) → x = y) {p t : Nat} (hp : p < 3) (ht : t < 2) {i : Nat} (hi : i < 3) : qFgN (decide (pu i = some (ad (13 + 5 * p)))) (cp i) t = if (0 < st i ∧ bk i = p) ∧ 0 < kc i t then 1 else 0 := by
  obtain ⟨h1, h2, h3, h4, h5, h6, h7, h8, h9, h10, h11⟩ := hI.2.2.2.2.2.2.2.2.2.2 i hi
  obtain ⟨z1, z2, z3, z4, z5, z6⟩ := h11 t ht
  have hn := hI.2.1
  have its : pu i = some (ad (13 + 5 * p)) ↔ 0 < st i ∧ bk i = p := by
    rcases h7 with ⟨y1, y2⟩ | ⟨y1, y2⟩
    · rw [y2]; exact ⟨fun q => (by cases q), fun q => by omega⟩
    · rw [y2]; exact ⟨fun q => ⟨y1, hinj _ _ h3 hp (Option.some.inj q)⟩, fun q => by rw [q.2]⟩
  have k0 : cp i t = -1 ↔ kc i t = 0 := by rw [z2]; exact eX_m1 (by omega)
  unfold qFgN
  by_cases y : (0 < st i ∧ bk i = p) ∧ 0 < kc i t
  · rw [if_pos y, if_pos ⟨decide_eq_true (its.mpr y.1), fun z => by have := k0.mp z; omega⟩]
  · rw [if_neg y, if_neg]
    rintro ⟨a, b⟩
    exact y ⟨its.mp (of_decide_eq_true a), Nat.pos_of_ne_zero (fun z => b (k0.mpr z))⟩
theorem bN_three (hI : INt ad bk kc mi cn lim n rows cc ct ck nr cr co re nu ma sr cp pu st sl lp lo lq lb lg) (hinj : ∀ x y, x < 3 → y < 3 → ad (13 + 5 * x) = ad (13 + 5 * y) → x = y) {p t : Nat} (hp : p < 3) (ht : t < 2) : qFgN (decide (pu 0 = some (ad (13 + 5 * p)))) (cp 0) t + qFgN (decide (pu 1 = some (ad (13 + 5 * p)))) (cp 1) t + qFgN (decide (pu 2 = some (ad (13 + 5 * p)))) (cp 2) t = bN st bk kc p t 3 := by
  rw [bN_one hI hinj hp ht (i := 0) (by omega), bN_one hI hinj hp ht (i := 1) (by omega), bN_one hI hinj hp ht (i := 2) (by omega)]
  show _ = ((0 + _) + _) + _
  rw [Nat.zero_add]
theorem O_put (hI : INt ad bk kc mi cn lim n rows cc ct ck nr cr co re nu ma sr cp pu st sl lp lo lq lb lg) {t k a b c : Nat} (ht : t ≤ 2) (hk : k ≤ 12) (ha : a ≤ 100) (hb : b < 100) (hc : c < 100) (hw : PD_put ad lim n rows cc ct ck nr cr old rw co re nu ma sr cp pu st sl cn (nI t) (nI k) (nI a) (nI b) (nI c) r q) :
    (¬ (t < 2 ∧ k < 12) → r = -30 ∧ q = (lim, n, rows, cc, ct, ck, nr, cr, old, rw, co, re, nu, ma, sr, cp, pu, st, sl)) ∧ (t < 2 → k < 12 → ¬ a < 100 → r = -20 ∧ q = (lim, n, rows, cc, ct, ck, nr, cr, old, rw, co, re, nu, ma, sr, cp, pu, st, sl)) ∧ (t < 2 → k < 12 → a < 100 → cn = 12 → r = -10 ∧ q = (lim, n, rows, cc, ct, ck, nr, cr, old, rw, co, re, nu, ma, sr, cp, pu, st, sl)) ∧ (t < 2 → k < 12 → a < 100 → cn < 12 → r = bI (decide (rows (t * 12 + k) = -1)) ∧ IN ad bk kc mi (cn + 1) q (upd lp (12 * t + k) (nI (a + 100 * b + 10000 * c))) lo lq lb (upd lg 1 (nI (cn + 1)))) := by
  rcases hw with ⟨tn, kn, r0, ⟨er, et, ht2, ek, hk2, hv, hcn, e0⟩, eq⟩ | ⟨hx, eq⟩
  · have et := nI_j et (by omega) (by omega)
    have ek := nI_j ek (by omega) (by omega)
    subst et ek
    rw [vin (by omega), vin (by omega), vin (by omega)] at hv
    refine ⟨fun z => absurd ⟨ht2, hk2⟩ z, fun _ _ z => absurd hv.1 z, fun _ _ _ z => by omega, fun _ _ _ _ => ⟨by rw [er, e0, cZ_b], ?_⟩⟩
    subst eq
    exact T_put hI hcn ht2 hk2 (Or.inr ⟨a, b, c, hv.1, hb, hc, qRow_e hv.1 hb hc, rfl⟩)
  · rw [vin (by omega), vin (by omega), vin (by omega), vin (by omega), vin (by omega)] at hx
    rcases hx with ⟨er, hx⟩ | ⟨er, hx⟩ | ⟨er, hx⟩
    · exact ⟨fun _ => ⟨er, eq⟩, fun a b => absurd ⟨a, b⟩ hx, fun a b => absurd ⟨a, b⟩ hx, fun a b => absurd ⟨a, b⟩ hx⟩
    · exact ⟨fun z => absurd hx.1 z, fun _ _ _ => ⟨er, eq⟩, fun _ _ z => absurd ⟨z, hb, hc⟩ hx.2, fun _ _ z => absurd ⟨z, hb, hc⟩ hx.2⟩
    · exact ⟨fun z => absurd hx.1 z, fun _ _ z => absurd hx.2.1.1 z, fun _ _ _ _ => ⟨er, eq⟩, fun _ _ _ z => by omega⟩
theorem O_take (hI : INt ad bk kc mi cn lim n rows cc ct ck nr cr co re nu ma sr cp pu st sl lp lo lq lb lg) {t k : Nat} (ht : t ≤ 2) (hk : k ≤ 12) (hw : PD_take ad lim n rows cc ct ck nr cr old rw co re nu ma sr cp pu st sl cn (nI t) (nI k) r q) :
    (¬ (t < 2 ∧ k < 12) → r = -30 ∧ q = (lim, n, rows, cc, ct, ck, nr, cr, old, rw, co, re, nu, ma, sr, cp, pu, st, sl)) ∧ (t < 2 → k < 12 → (cn = 12 ∨ rows (t * 12 + k) = -1) → r = -10 ∧ q = (lim, n, rows, cc, ct, ck, nr, cr, old, rw, co, re, nu, ma, sr, cp, pu, st, sl)) ∧ (t < 2 → k < 12 → cn < 12 → ¬ rows (t * 12 + k) = -1 → r = nI 0 ∧ IN ad bk kc mi (cn + 1) q (upd lp (12 * t + k) (-1)) lo lq lb (upd lg 1 (nI (cn + 1)))) := by
  rcases hw with ⟨tn, kn, r0, ⟨er, e0, et, ht2, ek, hk2, hcn, hr⟩, eq⟩ | ⟨hx, eq⟩
  · have et := nI_j et (by omega) (by omega)
    have ek := nI_j ek (by omega) (by omega)
    subst et ek
    refine ⟨fun z => absurd ⟨ht2, hk2⟩ z, fun _ _ z => by rcases z with z | z; omega; exact absurd z hr, fun _ _ _ _ => ⟨er.trans e0, ?_⟩⟩
    subst eq
    exact T_put hI hcn ht2 hk2 rE_no
  · rcases hx with ⟨er, hx⟩ | ⟨er, tn, kn, et, ht2, ek, hk2, hx⟩
    · rw [vin (by omega), vin (by omega)] at hx
      exact ⟨fun _ => ⟨er, eq⟩, fun a b => absurd ⟨a, b⟩ hx, fun a b => absurd ⟨a, b⟩ hx⟩
    · have et := nI_j et (by omega) (by omega)
      have ek := nI_j ek (by omega) (by omega)
      subst et ek
      exact ⟨fun z => absurd ⟨ht2, hk2⟩ z, fun _ _ _ => ⟨er, eq⟩, fun _ _ z1 z2 => by rcases hx with y | y; omega; exact absurd y z2⟩
theorem O_truncate (hI : INt ad bk kc mi cn lim n rows cc ct ck nr cr co re nu ma sr cp pu st sl lp lo lq lb lg) {t : Nat} (ht : t ≤ 2) (hw : PD_truncate ad lim n rows cc ct ck nr cr old rw co re nu ma sr cp pu st sl cn (nI t) r q) :
    (¬ t < 2 → r = -30 ∧ q = (lim, n, rows, cc, ct, ck, nr, cr, old, rw, co, re, nu, ma, sr, cp, pu, st, sl)) ∧ (t < 2 → cn = 12 → r = -10 ∧ q = (lim, n, rows, cc, ct, ck, nr, cr, old, rw, co, re, nu, ma, sr, cp, pu, st, sl)) ∧ (t < 2 → cn < 12 → r = nI (qCnt rows (t * 12) 12) ∧ IN ad bk kc mi (cn + 1) q (qFill lp (12 * t) 12 (-1)) lo lq lb (upd lg 1 (nI (cn + 1)))) := by
  rcases hw with ⟨tn, r0, ⟨er, et, ht2, hcn, e0⟩, eq⟩ | ⟨hx, eq⟩
  · have et := nI_j et (by omega) (by omega)
    subst et
    refine ⟨fun z => absurd ht2 z, fun _ z => by omega, fun _ _ => ⟨er.trans e0, ?_⟩⟩
    subst eq
    exact T_trunc hI hcn ht2
  · rw [vin (by omega)] at hx
    rcases hx with ⟨er, hx⟩ | ⟨er, hx⟩
    · exact ⟨fun _ => ⟨er, eq⟩, fun a => absurd a hx, fun a => absurd a hx⟩
    · exact ⟨fun z => absurd hx.1 z, fun _ _ => ⟨er, eq⟩, fun _ z => by omega⟩
theorem O_commit (hI : INt ad bk kc mi cn lim n rows cc ct ck nr cr co re nu ma sr cp pu st sl lp lo lq lb lg) (hw : PD_commit ad lim n rows cc ct ck nr cr old rw co re nu ma sr cp pu st sl r q) :
    (n = 50 → r = -10 ∧ q = (lim, n, rows, cc, ct, ck, nr, cr, old, rw, co, re, nu, ma, sr, cp, pu, st, sl)) ∧ (n < 50 → r = nI (n + 1) ∧ ∀ lo' lb' lg' : qF, (∀ i, i < 24 → lo' i = lp i) → (∀ i, i < 3 → ∀ j, j < 7 → lb' (7 * i + j) = if j = 1 then nI (qCut lim (st i) (sl i) (n + 1)) else lb (7 * i + j)) → lg' 0 = nI (n + 1) → lg' 1 = nI 0 → lg' 2 = lg 2 → IN ad bk kc mi 0 q lp lo' lq lb' lg') := by
  rcases hw with ⟨r0, ⟨er, hn, e0⟩, eq⟩ | ⟨⟨er, hx⟩, eq⟩
  · refine ⟨fun z => by omega, fun _ => ⟨er.trans e0, fun lo' lb' lg' a1 a2 a3 a4 a5 => ?_⟩⟩
    subst eq
    exact T_commit hI hn a1 a2 a3 a4 a5
  · exact ⟨fun _ => ⟨er, eq⟩, fun z => by omega⟩
theorem O_setLimit (hI : INt ad bk kc mi cn lim n rows cc ct ck nr cr co re nu ma sr cp pu st sl lp lo lq lb lg) {v : Nat} (hv : v ≤ 51) (hw : PD_setLimit ad lim n rows cc ct ck nr cr old rw co re nu ma sr cp pu st sl (nI v) r q) :
    (¬ v < 51 → r = -20 ∧ q = (lim, n, rows, cc, ct, ck, nr, cr, old, rw, co, re, nu, ma, sr, cp, pu, st, sl)) ∧ (v < 51 → r = nI (mCutS v st sl n 3) ∧ ∀ lb' lg' : qF, (∀ i, i < 3 → ∀ j, j < 7 → lb' (7 * i + j) = if j = 1 then nI (qCut v (st i) (sl i) n) else lb (7 * i + j)) → lg' 0 = lg 0 → lg' 1 = lg 1 → lg' 2 = nI v → IN ad bk kc mi cn q lp lo lq lb' lg') := by
  rcases hw with ⟨vn, r0, ⟨er, ev, hv2, e0⟩, eq⟩ | ⟨⟨er, hx⟩, eq⟩
  · have ev := nI_j ev (by omega) (by omega)
    subst ev
    refine ⟨fun z => absurd hv2 z, fun _ => ⟨?_, fun lb' lg' a1 a2 a3 a4 => ?_⟩⟩
    · rw [er, e0]
      show _ = nI (((0 + _) + _) + _)
      rw [Nat.zero_add]
    · subst eq
      exact T_limit hI (by omega) a1 a2 a3 a4
  · rw [vin (by omega)] at hx
    exact ⟨fun _ => ⟨er, eq⟩, fun z => absurd z hx⟩
theorem PB_set (hB : PB co re nu ma lq) {p t : Nat} (hp : p < 3) (ht : t < 2) {c r v : Nat} (hc : c < 3) (hr : r < 3) (hv : v < 100) : PB (va_up co p (upd (co p) t (nI c))) (va_up re p (upd (re p) t (nI r))) (va_up nu p (upd (nu p) t (nI v))) ma lq := by
  intro b hb u hu
  obtain ⟨c0, r0, v0, w0, hc0, hr0, hv0, hw0, e1, e2, e3, e4, e5⟩ := hB b hb u hu
  by_cases y : b = p
  · subst y
    rw [up_same, up_same, up_same]
    by_cases z : u = t
    · subst z
      rw [upd_same, upd_same, upd_same]
      exact ⟨c, r, v, w0, hc, hr, hv, hw0, rfl, rfl, rfl, e4, e5⟩
    · rw [upd_ne z, upd_ne z, upd_ne z]
      exact ⟨c0, r0, v0, w0, hc0, hr0, hv0, hw0, e1, e2, e3, e4, e5⟩
  · rw [up_ne y, up_ne y, up_ne y]
    exact ⟨c0, r0, v0, w0, hc0, hr0, hv0, hw0, e1, e2, e3, e4, e5⟩
theorem PB_mask (hB : PB co re nu ma lq) {p t : Nat} (hp : p < 3) (ht : t < 2) {w : Nat} (hw : w < 8) : PB co re nu (va_up ma p (upd (ma p) t (qMaskN (nI w) 3))) (upd lq (2 * p + t) (nI w)) := by
  intro b hb u hu
  obtain ⟨c0, r0, v0, w0, hc0, hr0, hv0, hw0, e1, e2, e3, e4, e5⟩ := hB b hb u hu
  by_cases y : b = p
  · subst y
    rw [up_same]
    by_cases z : u = t
    · subst z
      rw [upd_same, upd_same]
      exact ⟨c0, r0, v0, w, hc0, hr0, hv0, hw, e1, e2, e3, rfl, rfl⟩
    · rw [upd_ne z, upd_ne (by omega)]
      exact ⟨c0, r0, v0, w0, hc0, hr0, hv0, hw0, e1, e2, e3, e4, e5⟩
  · rw [up_ne y, upd_ne (by omega)]
    exact ⟨c0, r0, v0, w0, hc0, hr0, hv0, hw0, e1, e2, e3, e4, e5⟩
theorem up2_ne {f : Nat → qF} {p t b u : Nat} {x : Int32} (h : ¬ (b = p ∧ u = t)) : va_up f p (upd (f p) t x) b u = f b u := by
  by_cases y : b = p
  · subst y; rw [up_same, upd_ne (fun z => h ⟨rfl, z⟩)]
  · rw [up_ne y]
theorem O_setCondition (hI : INt ad bk kc mi cn lim n rows cc ct ck nr cr co re nu ma sr cp pu st sl lp lo lq lb lg) (hinj : ∀ x y, x < 3 → y < 3 → ad (13 + 5 * x) = ad (13 + 5 * y) → x = y) {pi p t c rl nm : Nat} (hp : p ≤ 3) (ht : t ≤ 2) (hc : c < 3) (hrl : rl ≤ 3) (hnm : nm ≤ 100) (hw : PD_setCondition ad lim n rows cc ct ck nr cr old rw co re nu ma sr cp pu st sl pi (nI p) (nI t) (nI c) (nI rl) (nI nm) r q) :
    (¬ (p < 3 ∧ t < 2) → r = -30 ∧ q = (lim, n, rows, cc, ct, ck, nr, cr, old, rw, co, re, nu, ma, sr, cp, pu, st, sl)) ∧ (p < 3 → t < 2 → ¬ (rl < 3 ∧ nm < 100) → r = -20 ∧ q = (lim, n, rows, cc, ct, ck, nr, cr, old, rw, co, re, nu, ma, sr, cp, pu, st, sl)) ∧ (p < 3 → t < 2 → rl < 3 → nm < 100 → r = nI (bN st bk kc p t 3) ∧ ∀ lb' : qF, (∀ i, i < 3 → ∀ j, j < 7 → lb' (7 * i + j) = if (0 < st i ∧ bk i = p) ∧ j = 3 + t then -1 else lb (7 * i + j)) → IN ad bk (fun i u => if (0 < st i ∧ bk i = p) ∧ u = t then 0 else kc i u) mi cn q lp lo lq lb' lg) := by
  rcases hw with ⟨tn, r0, ⟨er, ⟨ep, hp3, et, ht2, -⟩, ⟨h3, h4⟩, e0⟩, eq⟩ | ⟨hx, eq⟩
  · have ep := nI_j ep (by omega) (by omega)
    have et := nI_j et (by omega) (by omega)
    subst ep et
    rw [vin (by omega)] at h3 h4
    refine ⟨fun z => absurd ⟨hp3, ht2⟩ z, fun _ _ z => absurd ⟨h3, h4⟩ z, fun _ _ _ _ => ⟨by rw [er, e0, bN_three hI hinj hp3 ht2], fun lb' a1 => ?_⟩⟩
    subst eq
    exact T_book hI hinj hp3 ht2 (fun b u z => ⟨up2_ne z, up2_ne z, up2_ne z, rfl⟩) (PB_set hI.2.2.2.2.2.2.2.2.2.1 hp3 ht2 hc h3 h4) a1
  · rw [vin (by omega), vin (by omega), vin (by omega), vin (by omega), vin (by omega)] at hx
    rcases hx with ⟨er, hx⟩ | ⟨er, hx⟩
    · exact ⟨fun _ => ⟨er, eq⟩, fun a b => absurd ⟨a, b, hc⟩ hx, fun a b => absurd ⟨a, b, hc⟩ hx⟩
    · exact ⟨fun z => absurd ⟨hx.1.1, hx.1.2.1⟩ z, fun _ _ _ => ⟨er, eq⟩, fun _ _ a b => absurd ⟨a, b⟩ hx.2⟩
theorem O_setColumns (hI : INt ad bk kc mi cn lim n rows cc ct ck nr cr co re nu ma sr cp pu st sl lp lo lq lb lg) (hinj : ∀ x y, x < 3 → y < 3 → ad (13 + 5 * x) = ad (13 + 5 * y) → x = y) {pi p t c : Nat} (hp : p ≤ 3) (ht : t ≤ 2) (hc : c ≤ 8) (hw : PD_setColumns ad lim n rows cc ct ck nr cr old rw co re nu ma sr cp pu st sl pi (nI p) (nI t) (nI c) r q) :
    (¬ (p < 3 ∧ t < 2) → r = -30 ∧ q = (lim, n, rows, cc, ct, ck, nr, cr, old, rw, co, re, nu, ma, sr, cp, pu, st, sl)) ∧ (p < 3 → t < 2 → ¬ c < 8 → r = -20 ∧ q = (lim, n, rows, cc, ct, ck, nr, cr, old, rw, co, re, nu, ma, sr, cp, pu, st, sl)) ∧ (p < 3 → t < 2 → c < 8 → r = nI (bN st bk kc p t 3) ∧ ∀ lb' : qF, (∀ i, i < 3 → ∀ j, j < 7 → lb' (7 * i + j) = if (0 < st i ∧ bk i = p) ∧ j = 3 + t then -1 else lb (7 * i + j)) → IN ad bk (fun i u => if (0 < st i ∧ bk i = p) ∧ u = t then 0 else kc i u) mi cn q lp lo (upd lq (2 * p + t) (nI c)) lb' lg) := by
  rcases hw with ⟨tn, r0, ⟨er, ⟨ep, hp3, et, ht2⟩, h3, e0⟩, eq⟩ | ⟨hx, eq⟩
  · have ep := nI_j ep (by omega) (by omega)
    have et := nI_j et (by omega) (by omega)
    subst ep et
    rw [vin (by omega)] at h3
    refine ⟨fun z => absurd ⟨hp3, ht2⟩ z, fun _ _ z => absurd h3 z, fun _ _ _ => ⟨by rw [er, e0, bN_three hI hinj hp3 ht2], fun lb' a1 => ?_⟩⟩
    subst eq
    exact T_book hI hinj hp3 ht2 (fun b u z => ⟨rfl, rfl, rfl, up2_ne z⟩) (PB_mask hI.2.2.2.2.2.2.2.2.2.1 hp3 ht2 h3) a1
  · rw [vin (by omega), vin (by omega), vin (by omega)] at hx
    rcases hx with ⟨er, hx⟩ | ⟨er, hx⟩
    · exact ⟨fun _ => ⟨er, eq⟩, fun a b => absurd ⟨a, b⟩ hx, fun a b => absurd ⟨a, b⟩ hx⟩
    · exact ⟨fun z => absurd hx.1 z, fun _ _ _ => ⟨er, eq⟩, fun _ _ a => absurd a hx.2⟩
theorem O_subscribe (hI : INt ad bk kc mi cn lim n rows cc ct ck nr cr co re nu ma sr cp pu st sl lp lo lq lb lg) {si s p : Nat} (hs : s ≤ 3) (hp : p ≤ 3) (hw : PD_subscribe ad lim n rows cc ct ck nr cr old rw co re nu ma sr cp pu st sl si (nI s) (nI p) r q) :
    (¬ (s < 3 ∧ p < 3) → r = -30 ∧ q = (lim, n, rows, cc, ct, ck, nr, cr, old, rw, co, re, nu, ma, sr, cp, pu, st, sl)) ∧ (s < 3 → p < 3 → r = nI (st s) ∧ ∀ lb' : qF, (∀ i, i < 3 → i ≠ s → ∀ j, j < 7 → lb' (7 * i + j) = lb (7 * i + j)) → lb' (7 * s) = nI p → lb' (7 * s + 1) = nI 1 → lb' (7 * s + 2) = nI n → lb' (7 * s + 3) = -1 → lb' (7 * s + 4) = -1 → lb' (7 * s + 5) = lb (7 * s + 5) → lb' (7 * s + 6) = lb (7 * s + 6) → IN ad (va_up bk s p) (va_up kc s (fun _ => 0)) mi cn q lp lo lq lb' lg) := by
  rcases hw with ⟨pn, r0, ⟨er, es, hs3, ep, hp3, e0⟩, eq⟩ | ⟨⟨er, hx⟩, eq⟩
  · have es := nI_j es (by omega) (by omega)
    have ep := nI_j ep (by omega) (by omega)
    subst es ep
    refine ⟨fun z => absurd ⟨hs3, hp3⟩ z, fun _ _ => ⟨er.trans e0, fun lb' a1 a2 a3 a4 a5 a6 a7 a8 => ?_⟩⟩
    subst eq
    exact T_sub hI hs3 hp3 a1 a2 a3 a4 a5 a6 a7 a8
  · rw [vin (by omega), vin (by omega)] at hx
    exact ⟨fun _ => ⟨er, eq⟩, fun a b => absurd ⟨a, b⟩ hx⟩
theorem O_drop (hI : INt ad bk kc mi cn lim n rows cc ct ck nr cr co re nu ma sr cp pu st sl lp lo lq lb lg) {si s : Nat} (hs : s ≤ 3) (hw : PD_drop ad lim n rows cc ct ck nr cr old rw co re nu ma sr cp pu st sl si (nI s) r q) :
    (¬ s < 3 → r = -30 ∧ q = (lim, n, rows, cc, ct, ck, nr, cr, old, rw, co, re, nu, ma, sr, cp, pu, st, sl)) ∧ (s < 3 → r = nI (st s) ∧ ∀ lb' : qF, (∀ i, i < 3 → i ≠ s → ∀ j, j < 7 → lb' (7 * i + j) = lb (7 * i + j)) → lb' (7 * s) = lb (7 * s) → lb' (7 * s + 1) = nI 0 → lb' (7 * s + 2) = lb (7 * s + 2) → lb' (7 * s + 3) = -1 → lb' (7 * s + 4) = -1 → lb' (7 * s + 5) = lb (7 * s + 5) → lb' (7 * s + 6) = lb (7 * s + 6) → IN ad bk (va_up kc s (fun _ => 0)) mi cn q lp lo lq lb' lg) := by
  rcases hw with ⟨r0, ⟨er, es, hs3, e0⟩, eq⟩ | ⟨⟨er, hx⟩, eq⟩
  · have es := nI_j es (by omega) (by omega)
    subst es
    refine ⟨fun z => absurd hs3 z, fun _ => ⟨er.trans e0, fun lb' a1 a2 a3 a4 a5 a6 a7 a8 => ?_⟩⟩
    subst eq
    exact T_drop hI hs3 a1 a2 a3 a4 a5 a6 a7 a8
  · rw [vin (by omega)] at hx
    exact ⟨fun _ => ⟨er, eq⟩, fun a => absurd a hx⟩
theorem O_copy (hI : INt ad bk kc mi cn lim n rows cc ct ck nr cr co re nu ma sr cp pu st sl lp lo lq lb lg) {si s t : Nat} (hsi : s < 3 → si = s) (hs : s ≤ 3) (ht : t ≤ 2) (hw : PD_copy ad lim n rows cc ct ck nr cr old rw co re nu ma sr cp pu st sl si (bk si) cn (nI s) (nI t) r q) :
    (¬ (s < 3 ∧ t < 2) → r = -30 ∧ q = (lim, n, rows, cc, ct, ck, nr, cr, old, rw, co, re, nu, ma, sr, cp, pu, st, sl)) ∧ (s < 3 → t < 2 → ¬ (st s = 1 ∧ cn = 0) → r = -10 ∧ q = (lim, n, rows, cc, ct, ck, nr, cr, old, rw, co, re, nu, ma, sr, cp, pu, st, sl)) ∧ (s < 3 → t < 2 → st s = 1 → cn = 0 → r = nI (qCnt (s_sr q s) (t * 12) 12) ∧ s_rows q = rows ∧ s_n q = n ∧ ∀ lb' : qF, (∀ i, i < 3 → ∀ j, j < 7 → ¬ (i = s ∧ (j = 3 + t ∨ j = 5 + t)) → lb' (7 * i + j) = lb (7 * i + j)) → lb' (7 * s + (3 + t)) = nI n → lb' (7 * s + (5 + t)) = nI 0 → IN ad bk (va_up kc s (fun u => if u = t then n + 1 else kc s u)) (va_up mi s (fun u => if u = t then 0 else mi s u)) cn q lp lo lq lb' lg) := by
  rcases hw with ⟨tn, r0, ⟨er, ⟨es, hs3, et, ht2⟩, hq, e0⟩, eq⟩ | ⟨hx, eq⟩
  · have es := nI_j es (by omega) (by omega)
    have et := nI_j et (by omega) (by omega)
    subst es et
    refine ⟨fun z => absurd ⟨hs3, ht2⟩ z, fun _ _ z => absurd hq z, fun _ _ _ _ => ?_⟩
    subst eq
    refine ⟨?_, rfl, rfl, fun lb' a1 a2 a3 => T_copy hI hs3 ht2 hq.1 hq.2 a1 a2 a3⟩
    rw [er, e0]
    congr 1
    show _ = qCnt (va_up sr s _ s) (t * 12) 12
    rw [up_same]
    have key : ∀ j, j ≤ 12 → qCnt (fun i => qCho (co (bk s) t) (re (bk s) t) (nu (bk s) t) (ma (bk s) t) (rows i)) (t * 12) j = qCnt (qMap (fun x => qCho (co (bk s) t) (re (bk s) t) (nu (bk s) t) (ma (bk s) t) x) rows (sr s) (t * 12) 12) (t * 12) j := by
      intro j
      induction j with
      | zero => intro _; rfl
      | succ j ih =>
        intro hj
        have e : qMap (fun x => qCho (co (bk s) t) (re (bk s) t) (nu (bk s) t) (ma (bk s) t) x) rows (sr s) (t * 12) 12 (t * 12 + j) = qCho (co (bk s) t) (re (bk s) t) (nu (bk s) t) (ma (bk s) t) (rows (t * 12 + j)) := by unfold qMap; rw [if_pos (by omega)]
        show qCnt (fun i => qCho (co (bk s) t) (re (bk s) t) (nu (bk s) t) (ma (bk s) t) (rows i)) (t * 12) j + (if qCho (co (bk s) t) (re (bk s) t) (nu (bk s) t) (ma (bk s) t) (rows (t * 12 + j)) = -1 then 0 else 1) = qCnt (qMap (fun x => qCho (co (bk s) t) (re (bk s) t) (nu (bk s) t) (ma (bk s) t) x) rows (sr s) (t * 12) 12) (t * 12) j + (if qMap (fun x => qCho (co (bk s) t) (re (bk s) t) (nu (bk s) t) (ma (bk s) t) x) rows (sr s) (t * 12) 12 (t * 12 + j) = -1 then 0 else 1)
        rw [ih (by omega), e]
    exact key 12 (Nat.le_refl 12)
  · rw [vin (by omega), vin (by omega)] at hx
    rcases hx with ⟨er, hx⟩ | ⟨er, hx⟩
    · exact ⟨fun _ => ⟨er, eq⟩, fun a b => absurd ⟨a, b⟩ hx, fun a b => absurd ⟨a, b⟩ hx⟩
    · exact ⟨fun z => absurd hx.1 z, fun _ _ _ => ⟨er, eq⟩, fun a b c d => absurd ⟨by rw [hsi a]; exact c, d⟩ hx.2⟩
theorem O_receive (hI : INt ad bk kc mi cn lim n rows cc ct ck nr cr co re nu ma sr cp pu st sl lp lo lq lb lg) {si s m : Nat} (hsi : s < 3 → si = s) (hs : s ≤ 3) (hm1 : 1 ≤ m) (hm : m ≤ 51) (hw : PD_receive ad lim n rows cc ct ck nr cr old rw co re nu ma sr cp pu st sl si (bk si) (nI s) (nI m) r q) :
    (¬ s < 3 → r = -30 ∧ q = (lim, n, rows, cc, ct, ck, nr, cr, old, rw, co, re, nu, ma, sr, cp, pu, st, sl)) ∧ (s < 3 → ¬ m ≤ 50 → r = -20 ∧ q = (lim, n, rows, cc, ct, ck, nr, cr, old, rw, co, re, nu, ma, sr, cp, pu, st, sl)) ∧ (s < 3 → m ≤ 50 → ¬ st s = 1 → r = -10 ∧ q = (lim, n, rows, cc, ct, ck, nr, cr, old, rw, co, re, nu, ma, sr, cp, pu, st, sl)) ∧ (s < 3 → m ≤ 50 → st s = 1 → ∃ k sq, r = nI k ∧ k ≤ m ∧ sl s + k ≤ n ∧ s_st q s = sq ∧ s_n q = n ∧ ((sq = 1 ∧ (k = m ∨ sl s + k = n)) ∨ (sq = 2 ∧ k < m ∧ sl s + k < n ∧ ¬ (mi s 0 = 0 ∧ mi s 1 = 0))) ∧ ∀ lb' : qF, (∀ i, i < 3 → ∀ j, j < 7 → ¬ (i = s ∧ (j = 1 ∨ j = 2)) → lb' (7 * i + j) = lb (7 * i + j)) → lb' (7 * s + 1) = nI sq → lb' (7 * s + 2) = nI (sl s + k) → IN ad bk kc mi cn q lp lo lq lb' lg) := by
  rcases hw with ⟨k, f, sq, o, w, r0, ⟨er, ⟨es, hs3⟩, hst, mn, em, hmn1, hmn, e0, hk, hkn, hq, hsq⟩, eq⟩ | ⟨hx, eq⟩
  · have es := nI_j es (by omega) (by omega)
    have em := nI_j em (by omega) (by omega)
    subst es em
    refine ⟨fun z => absurd hs3 z, fun _ z => by omega, fun _ _ z => absurd hst z, fun _ _ _ => ?_⟩
    subst eq
    refine ⟨k, sq, er.trans e0, hk, hkn, up_same _ _ _, rfl, ?_, fun lb' a1 a2 a3 => T_recv hI hs3 hst hkn hq (by rcases hsq with z | z; exact Or.inl z.1; exact Or.inr ⟨z.1, z.2.2.1⟩) a1 a2 a3⟩
    rcases hsq with z | ⟨z1, z2, z3, z4⟩
    · exact Or.inl z
    · exact Or.inr ⟨z1, z2, z3, T_stop hI hs3 hst z3 hq z4⟩
  · rw [vin (by omega), nI_leI (by omega) (by omega), nI_leI (by omega) (by omega)] at hx
    rcases hx with ⟨er, hx⟩ | ⟨er, hx⟩ | ⟨er, hx⟩
    · exact ⟨fun _ => ⟨er, eq⟩, fun a => absurd a hx, fun a => absurd a hx, fun a => absurd a hx⟩
    · exact ⟨fun z => absurd hx.1 z, fun _ _ => ⟨er, eq⟩, fun _ z => absurd ⟨hm1, z⟩ hx.2, fun _ z => absurd ⟨hm1, z⟩ hx.2⟩
    · exact ⟨fun z => absurd hx.1 z, fun _ z => absurd hx.2.1.2 z, fun _ _ _ => ⟨er, eq⟩, fun a _ z => absurd (by rw [hsi a]; exact z) hx.2.2⟩
theorem O_goOn0 (hI : INt ad bk kc mi cn lim n rows cc ct ck nr cr co re nu ma sr cp pu st sl lp lo lq lb lg) {si s : Nat} (hsi : s < 3 → si = s) (hs : s ≤ 3) (hw : PD_goOn0 ad lim n rows cc ct ck nr cr old rw co re nu ma sr cp pu st sl si (nI s) r q) :
    (¬ s < 3 → r = -30 ∧ q = (lim, n, rows, cc, ct, ck, nr, cr, old, rw, co, re, nu, ma, sr, cp, pu, st, sl)) ∧ (s < 3 → ¬ st s = 2 → r = -10 ∧ q = (lim, n, rows, cc, ct, ck, nr, cr, old, rw, co, re, nu, ma, sr, cp, pu, st, sl)) ∧ (s < 3 → st s = 2 → r = nI (sl s + 0) ∧ ∀ lb' : qF, (∀ i, i < 3 → i ≠ s → ∀ j, j < 7 → lb' (7 * i + j) = lb (7 * i + j)) → lb' (7 * s) = lb (7 * s) → lb' (7 * s + 1) = nI 1 → lb' (7 * s + 2) = nI (sl s + 0) → lb' (7 * s + 3) = lb (7 * s + 3) → lb' (7 * s + 4) = lb (7 * s + 4) → lb' (7 * s + 5) = (if 0 = 1 then nI 1 else lb (7 * s + 5)) → lb' (7 * s + 6) = (if 0 = 1 then nI 1 else lb (7 * s + 6)) → IN ad bk kc (va_up mi s (fun u => if 0 = 1 then 1 else mi s u)) cn q lp lo lq lb' lg) := by
  rcases hw with ⟨r0, ⟨er, ⟨es, hs3⟩, hst, e0⟩, eq⟩ | ⟨hx, eq⟩
  · have es := nI_j es (by omega) (by omega)
    subst es
    rw [if_pos (by decide)] at e0 eq
    refine ⟨fun z => absurd hs3 z, fun _ z => absurd hst z, fun _ _ => ⟨er.trans e0, fun lb' a1 a2 a3 a4 a5 a6 a7 a8 => ?_⟩⟩
    subst eq
    exact T_goOn hI hs3 hst (by omega) a1 a2 a3 a4 a5 a6 a7 a8
  · rw [vin (by omega)] at hx
    rcases hx with ⟨er, hx⟩ | ⟨er, hx⟩
    · exact ⟨fun _ => ⟨er, eq⟩, fun a => absurd a hx, fun a => absurd a hx⟩
    · exact ⟨fun z => absurd hx.1 z, fun _ _ => ⟨er, eq⟩, fun a z => absurd (by rw [hsi a]; exact z) hx.2⟩
theorem O_goOn1 (hI : INt ad bk kc mi cn lim n rows cc ct ck nr cr co re nu ma sr cp pu st sl lp lo lq lb lg) {si s : Nat} (hsi : s < 3 → si = s) (hs : s ≤ 3) (hw : PD_goOn1 ad lim n rows cc ct ck nr cr old rw co re nu ma sr cp pu st sl si (nI s) r q) :
    (¬ s < 3 → r = -30 ∧ q = (lim, n, rows, cc, ct, ck, nr, cr, old, rw, co, re, nu, ma, sr, cp, pu, st, sl)) ∧ (s < 3 → ¬ st s = 2 → r = -10 ∧ q = (lim, n, rows, cc, ct, ck, nr, cr, old, rw, co, re, nu, ma, sr, cp, pu, st, sl)) ∧ (s < 3 → st s = 2 → r = nI (sl s + 1) ∧ ∀ lb' : qF, (∀ i, i < 3 → i ≠ s → ∀ j, j < 7 → lb' (7 * i + j) = lb (7 * i + j)) → lb' (7 * s) = lb (7 * s) → lb' (7 * s + 1) = nI 1 → lb' (7 * s + 2) = nI (sl s + 1) → lb' (7 * s + 3) = lb (7 * s + 3) → lb' (7 * s + 4) = lb (7 * s + 4) → lb' (7 * s + 5) = (if 1 = 1 then nI 1 else lb (7 * s + 5)) → lb' (7 * s + 6) = (if 1 = 1 then nI 1 else lb (7 * s + 6)) → IN ad bk kc (va_up mi s (fun u => if 1 = 1 then 1 else mi s u)) cn q lp lo lq lb' lg) := by
  rcases hw with ⟨r0, ⟨er, ⟨es, hs3⟩, hst, e0⟩, eq⟩ | ⟨hx, eq⟩
  · have es := nI_j es (by omega) (by omega)
    subst es
    rw [if_neg (by decide)] at e0 eq
    refine ⟨fun z => absurd hs3 z, fun _ z => absurd hst z, fun _ _ => ⟨er.trans e0, fun lb' a1 a2 a3 a4 a5 a6 a7 a8 => ?_⟩⟩
    subst eq
    exact T_goOn hI hs3 hst (by omega) a1 a2 a3 a4 a5 a6 a7 a8
  · rw [vin (by omega)] at hx
    rcases hx with ⟨er, hx⟩ | ⟨er, hx⟩
    · exact ⟨fun _ => ⟨er, eq⟩, fun a => absurd a hx, fun a => absurd a hx⟩
    · exact ⟨fun z => absurd hx.1 z, fun _ _ => ⟨er, eq⟩, fun a z => absurd (by rw [hsi a]; exact z) hx.2⟩
theorem eX_in {j : Nat} (hj : j ≤ 101) : vp_in (eX j) 100 ↔ 1 ≤ j ∧ j ≤ 100 := by rw [vp_in_iff, eX_int (by omega)]; omega
theorem qNum_own {j c : Nat} (hj : j ≤ 100) (hc : c < 3) : qNum (if eX j = -1 then -1 else qRow (eX j) (eX j) (eX j)) (nI c) = eX j := by
  by_cases y : j = 0
  · subst y
    rw [if_pos eX_0, eX_0]
    unfold qNum
    rw [if_pos rfl]
  · rw [if_neg (fun z => y ((eX_m1 (by omega)).mp z)), eX_pos (by omega), qRow_e (by omega) (by omega) (by omega), qNum_e (by omega) (by omega) (by omega) hc]
    congr 1
    unfold dig
    split
    · rfl
    · split <;> rfl
theorem O_own (hI : INt ad bk kc mi cn lim n rows cc ct ck nr cr co re nu ma sr cp pu st sl lp lo lq lb lg) {si s t k j : Nat} (hs : s ≤ 3) (ht : t ≤ 2) (hk : k ≤ 12) (hj : j ≤ 101) (hw : PD_own ad lim n rows cc ct ck nr cr old rw co re nu ma sr cp pu st sl si (nI s) (nI t) (nI k) (eX j) r q) :
    (¬ (s < 3 ∧ t < 2 ∧ k < 12) → r = -30 ∧ q = (lim, n, rows, cc, ct, ck, nr, cr, old, rw, co, re, nu, ma, sr, cp, pu, st, sl)) ∧ (s < 3 → t < 2 → k < 12 → ¬ j ≤ 100 → r = -20 ∧ q = (lim, n, rows, cc, ct, ck, nr, cr, old, rw, co, re, nu, ma, sr, cp, pu, st, sl)) ∧ (s < 3 → t < 2 → k < 12 → j ≤ 100 → r = bI (decide (¬ sr s (t * 12 + k) = -1)) ∧ qNum (s_sr q s (t * 12 + k)) (nI 0) = eX j ∧ qNum (s_sr q s (t * 12 + k)) (nI 2) = eX j ∧ ∀ lb' : qF, (∀ i, i < 3 → ∀ j, j < 7 → ¬ (i = s ∧ j = 5 + t) → lb' (7 * i + j) = lb (7 * i + j)) → lb' (7 * s + (5 + t)) = nI 1 → IN ad bk kc (va_up mi s (fun u => if u = t then 1 else mi s u)) cn q lp lo lq lb' lg) := by
  rcases hw with ⟨tn, kn, r0, ⟨er, ⟨es, hs3, et, ht2, ek, hk2⟩, hn, e0⟩, eq⟩ | ⟨hx, eq⟩
  · have es := nI_j es (by omega) (by omega)
    have et := nI_j et (by omega) (by omega)
    have ek := nI_j ek (by omega) (by omega)
    subst es et ek
    rw [eX_in hj, eX_m1 (by omega)] at hn
    refine ⟨fun z => absurd ⟨hs3, ht2, hk2⟩ z, fun _ _ _ z => by omega, fun _ _ _ hj9 => ⟨by rw [er, e0, cZ_b], ?_⟩⟩
    have hv : VR (if eX j = -1 then -1 else qRow (eX j) (eX j) (eX j)) := by
      by_cases y : j = 0
      · subst y; rw [if_pos eX_0]; exact VR_m1
      · rw [if_neg (fun z => y ((eX_m1 (by omega)).mp z)), eX_pos (by omega)]
        exact ⟨_, rE_own (vp_in_nI (by omega) (by omega))⟩
    subst eq
    have ew : s_sr (lim, n, rows, cc, ct, ck, nr, cr, old, rw, co, re, nu, ma, va_up sr s (upd (sr s) (t * 12 + k) (if eX j = -1 then -1 else qRow (eX j) (eX j) (eX j))), cp, pu, st, sl) s (t * 12 + k) = if eX j = -1 then -1 else qRow (eX j) (eX j) (eX j) := by
      show va_up sr s _ s _ = _
      rw [up_same, upd_same]
    rw [ew]
    exact ⟨qNum_own hj9 (by omega), qNum_own hj9 (by omega), fun lb' a1 a2 => T_own hI hs3 ht2 hk2 hv a1 a2⟩
  · rw [vin (by omega), vin (by omega), vin (by omega), eX_in hj, eX_m1 (by omega)] at hx
    rcases hx with ⟨er, hx⟩ | ⟨er, hx⟩
    · exact ⟨fun _ => ⟨er, eq⟩, fun a b c => absurd ⟨a, b, c⟩ hx, fun a b c => absurd ⟨a, b, c⟩ hx⟩
    · exact ⟨fun z => absurd hx.1 z, fun _ _ _ _ => ⟨er, eq⟩, fun _ _ _ z => by omega⟩
theorem O_atx {t k c : Nat} (ht : t ≤ 2) (hk : k ≤ 12) (hc : c ≤ 3) (h : ¬ (t < 2 ∧ k < 12 ∧ c < 3)) (hw : PA_at ad lim n rows cc ct ck nr cr old rw co re nu ma sr cp pu st sl (nI t) (nI k) (nI c) r q) : r = -30 ∧ q = (lim, n, rows, cc, ct, ck, nr, cr, old, rw, co, re, nu, ma, sr, cp, pu, st, sl) := by
  rcases hw with ⟨tn, kn, r0, ⟨er, et, ht2, ek, hk2, hv, e0⟩, eq⟩ | ⟨⟨er, hx⟩, eq⟩
  · have et := nI_j et (by omega) (by omega)
    have ek := nI_j ek (by omega) (by omega)
    rw [vin (by omega)] at hv
    exact absurd ⟨by omega, by omega, hv⟩ h
  · exact ⟨er, eq⟩
theorem O_statex {si : Nat} (hw : PA_state ad lim n rows cc ct ck nr cr old rw co re nu ma sr cp pu st sl si (nI 3) r q) : r = -30 ∧ q = (lim, n, rows, cc, ct, ck, nr, cr, old, rw, co, re, nu, ma, sr, cp, pu, st, sl) := by
  rcases hw with ⟨r0, ⟨er, es, hs, e0⟩, eq⟩ | ⟨⟨er, hx⟩, eq⟩
  · have es := nI_j es (by omega) (by omega)
    omega
  · exact ⟨er, eq⟩
theorem O_lagx {si : Nat} (hw : PA_lag ad lim n rows cc ct ck nr cr old rw co re nu ma sr cp pu st sl si (-1) r q) : r = -30 ∧ q = (lim, n, rows, cc, ct, ck, nr, cr, old, rw, co, re, nu, ma, sr, cp, pu, st, sl) := by
  rcases hw with ⟨r0, ⟨er, es, hs, e0⟩, eq⟩ | ⟨⟨er, hx⟩, eq⟩
  · exact ((m1_n (by omega)).mp es).elim
  · exact ⟨er, eq⟩
theorem O_copiedAtx {si : Nat} (hw : PA_copiedAt ad lim n rows cc ct ck nr cr old rw co re nu ma sr cp pu st sl si (nI 0) (nI 2) r q) : r = -30 ∧ q = (lim, n, rows, cc, ct, ck, nr, cr, old, rw, co, re, nu, ma, sr, cp, pu, st, sl) := by
  rcases hw with ⟨tn, r0, ⟨er, es, hs, et, ht, e0⟩, eq⟩ | ⟨⟨er, hx⟩, eq⟩
  · have et := nI_j et (by omega) (by omega)
    omega
  · exact ⟨er, eq⟩
theorem O_seenx {si : Nat} (hw : PA_seen ad lim n rows cc ct ck nr cr old rw co re nu ma sr cp pu st sl si (nI 0) (nI 0) (nI 12) (nI 0) r q) : r = -30 ∧ q = (lim, n, rows, cc, ct, ck, nr, cr, old, rw, co, re, nu, ma, sr, cp, pu, st, sl) := by
  rcases hw with ⟨tn, kn, r0, ⟨er, es, hs, et, ht, ek, hk, e0⟩, eq⟩ | ⟨⟨er, hx⟩, eq⟩
  · have ek := nI_j ek (by omega) (by omega)
    omega
  · exact ⟨er, eq⟩
theorem O_faithx {si pi : Nat} (hw : PA_isFaithful ad lim n rows cc ct ck nr cr old rw co re nu ma sr cp pu st sl si pi (nI 3) (nI 0) r q) : r = -30 ∧ q = (lim, n, rows, cc, ct, ck, nr, cr, old, rw, co, re, nu, ma, sr, cp, pu, st, sl) := by
  rcases hw with ⟨tn, ca, r0, ⟨er, ⟨es, hs, et, ht⟩, e0⟩, eq⟩ | ⟨hx, eq⟩
  · have es := nI_j es (by omega) (by omega)
    omega
  · rcases hx with ⟨er, hx⟩ | ⟨er, hx⟩
    · exact ⟨er, eq⟩
    · rw [vin (by omega)] at hx
      omega
theorem O_faith (hI : INt ad bk kc mi cn lim n rows cc ct ck nr cr co re nu ma sr cp pu st sl lp lo lq lb lg) {s t : Nat} (hs : s < 3) (ht : t < 2) (hw : PA_isFaithful ad lim n rows cc ct ck nr cr old rw co re nu ma sr cp pu st sl s (bk s) (nI s) (nI t) r q) :
    (¬ ((st s = 1 ∨ st s = 2) ∧ 0 < kc s t) → r = -10 ∧ q = (lim, n, rows, cc, ct, ck, nr, cr, old, rw, co, re, nu, ma, sr, cp, pu, st, sl)) ∧ ((st s = 1 ∨ st s = 2) → 0 < kc s t → (r = nI 1 ∨ (r = nI 0 ∧ mi s t = 1)) ∧ q = (lim, n, rows, cc, ct, ck, nr, cr, old, rw, co, re, nu, ma, sr, cp, pu, st, sl)) := by
  obtain ⟨hlim, hn, g0, g1, g2, hp, ho, hL, hO, hB, hS⟩ := hI
  obtain ⟨h1, h2, h3, h4, h5, h6, h7, h8, h9, h10, h11⟩ := hS s hs
  obtain ⟨z1, z2, z3, z4, z5, z6⟩ := h11 t ht
  rcases hw with ⟨tn, ca, r0, ⟨er, ⟨es, hs3, et, ht2⟩, hst, ⟨ec, hca⟩, hr⟩, eq⟩ | ⟨hx, eq⟩
  · have et := nI_j et (by omega) (by omega)
    subst et
    have ek : kc s t = ca + 1 := by
      rw [z2] at ec
      have := (eX_eq_n (by omega) (by omega)).mp ec
      omega
    refine ⟨fun z => absurd ⟨hst, by omega⟩ z, fun _ _ => ⟨?_, eq⟩⟩
    rcases hr with ⟨e1, -⟩ | ⟨e1, hno⟩
    · exact Or.inl (by rw [er, e1]; rfl)
    · refine Or.inr ⟨by rw [er, e1]; rfl, ?_⟩
      rcases (show mi s t = 0 ∨ mi s t = 1 by omega) with q0 | q0
      · exact absurd (fun i hi => z6 q0 hst ca ek i hi) hno
      · exact q0
  · rcases hx with ⟨er, hx⟩ | ⟨er, hx⟩
    · rw [vin (by omega), vin (by omega)] at hx
      exact absurd ⟨hs, ht⟩ hx
    · obtain ⟨-, tn, et, ht2, hx⟩ := hx
      have et := nI_j et (by omega) (by omega)
      subst et
      refine ⟨fun _ => ⟨er, eq⟩, fun a b => ?_⟩
      rcases hx with y | y
      · exact absurd a y
      · rw [z2, eX_m1 (by omega)] at y
        omega
theorem N_at {t k c : Nat} (ht : t < 2) (hk : k < 12) (hw : PN_at ad lim n rows cc ct ck nr cr old rw co re nu ma sr cp pu st sl (nI t) (nI k) (nI c) r q) : r = qNum (rows (t * 12 + k)) (nI c) ∧ q = (lim, n, rows, cc, ct, ck, nr, cr, old, rw, co, re, nu, ma, sr, cp, pu, st, sl) := by
  obtain ⟨tn, kn, ⟨et, ht2, ek, hk2, hv, e0⟩, eq⟩ := hw
  have et := nI_j et (by omega) (by omega)
  have ek := nI_j ek (by omega) (by omega)
  subst et ek
  exact ⟨e0, eq⟩
theorem N_copiedAt {s t : Nat} (ht : t < 2) (hw : PN_copiedAt ad lim n rows cc ct ck nr cr old rw co re nu ma sr cp pu st sl s (nI s) (nI t) r q) : r = cp s t ∧ q = (lim, n, rows, cc, ct, ck, nr, cr, old, rw, co, re, nu, ma, sr, cp, pu, st, sl) := by
  obtain ⟨tn, ⟨es, hs, et, ht2, e0⟩, eq⟩ := hw
  have et := nI_j et (by omega) (by omega)
  subst et
  exact ⟨e0, eq⟩
theorem N_seen {s t k c : Nat} (ht : t < 2) (hk : k < 12) (hw : PN_seen ad lim n rows cc ct ck nr cr old rw co re nu ma sr cp pu st sl s (nI s) (nI t) (nI k) (nI c) r q) : r = qNum (sr s (t * 12 + k)) (nI c) ∧ q = (lim, n, rows, cc, ct, ck, nr, cr, old, rw, co, re, nu, ma, sr, cp, pu, st, sl) := by
  obtain ⟨tn, kn, ⟨es, hs, et, ht2, ek, hk2, hv, e0⟩, eq⟩ := hw
  have et := nI_j et (by omega) (by omega)
  have ek := nI_j ek (by omega) (by omega)
  subst et ek
  exact ⟨e0, eq⟩
theorem N_faith (hI : INt ad bk kc mi cn lim n rows cc ct ck nr cr co re nu ma sr cp pu st sl lp lo lq lb lg) {s t c : Nat} (hs : s < 3) (ht : t < 2) (hmi : mi s t = 0) (hk : kc s t = c + 1) (hw : PN_isFaithful ad lim n rows cc ct ck nr cr old rw co re nu ma sr cp pu st sl s (bk s) (nI s) (nI t) r q) : r = nI 1 ∧ q = (lim, n, rows, cc, ct, ck, nr, cr, old, rw, co, re, nu, ma, sr, cp, pu, st, sl) := by
  obtain ⟨hlim, hn, g0, g1, g2, hp, ho, hL, hO, hB, hS⟩ := hI
  obtain ⟨h1, h2, h3, h4, h5, h6, h7, h8, h9, h10, h11⟩ := hS s hs
  obtain ⟨z1, z2, z3, z4, z5, z6⟩ := h11 t ht
  obtain ⟨tn, ca, ⟨⟨es, hs3, et, ht2⟩, hst, ⟨ec, hca⟩, hr⟩, eq⟩ := hw
  have et := nI_j et (by omega) (by omega)
  subst et
  have ek : kc s t = ca + 1 := by
    rw [z2] at ec
    have := (eX_eq_n (by omega) (by omega)).mp ec
    omega
  rcases hr with ⟨e1, -⟩ | ⟨e1, hno⟩
  · exact ⟨e1, eq⟩
  · exact absurd (fun i hi => z6 hmi hst ca ek i hi) hno
theorem H_log (hI : INt ad bk kc mi cn lim n rows cc ct ck nr cr co re nu ma sr cp pu st sl lp lo lq lb lg) : ∀ c, c < n → ∃ m, m ≤ 12 ∧ cc c = nI m ∧ (∀ i, i < m → ∃ t, t < 2 ∧ ct (c * 12 + i) = nI t) ∧ (∀ i, i < m → ck (c * 12 + i) = -1 ∨ ∃ k, k < 12 ∧ ck (c * 12 + i) = nI k) := fun c hc => by
  obtain ⟨m, hm, e1, e2, -⟩ := hI.2.2.2.2.2.2.2.1.2.1 c hc
  refine ⟨m, hm, e1, fun i hi => ?_, fun i hi => ?_⟩
  · obtain ⟨t, ht, e, -⟩ := e2 i hi; exact ⟨t, ht, e⟩
  · obtain ⟨t, ht, e, h⟩ := e2 i hi
    rcases h with h | h
    · exact Or.inl h.1
    · exact Or.inr h.1
theorem H_cp (hI : INt ad bk kc mi cn lim n rows cc ct ck nr cr co re nu ma sr cp pu st sl lp lo lq lb lg) {s : Nat} (hs : s < 3) : ∀ t, t < 2 → cp s t = -1 ∨ ∃ c, c ≤ 50 ∧ cp s t = nI c := fun t ht => by
  have hn := hI.2.1
  obtain ⟨h1, h2, h3, h4, h5, h6, h7, h8, h9, h10, h11⟩ := hI.2.2.2.2.2.2.2.2.2.2 s hs
  obtain ⟨z1, z2, -⟩ := h11 t ht
  rw [z2]
  by_cases y : kc s t = 0
  · rw [y]; exact Or.inl eX_0
  · exact Or.inr ⟨kc s t - 1, by omega, eX_pos (by omega)⟩
/-- a row of a table that is faithful: its numbers, those of columns out of the list 0 -/
theorem F_row (hI : INt ad bk kc mi cn lim n rows cc ct ck nr cr co re nu ma sr cp pu st sl lp lo lq lb lg) {s t k c : Nat} (hs : s < 3) (ht : t < 2) (hk : k < 12) (hst : st s = 1 ∨ st s = 2) (hmi : mi s t = 0) (hc : kc s t = c + 1) : ∃ w, w < 8 ∧ lq (2 * bk s + t) = nI w ∧ (sr s (t * 12 + k) = -1 ∨ ∃ x y z, x < 100 ∧ y < 100 ∧ z < 100 ∧ sr s (t * 12 + k) = nI (k3 x y z) ∧ (w % 2 = 1 ∨ x = 0) ∧ (w / 2 % 2 = 1 ∨ y = 0) ∧ (w / 4 % 2 = 1 ∨ z = 0)) := by
  obtain ⟨hlim, hn, g0, g1, g2, hp, ho, hL, hO, hB, hS⟩ := hI
  obtain ⟨h1, h2, h3, h4, h5, h6, h7, h8, h9, h10, h11⟩ := hS s hs
  obtain ⟨z1, z2, z3, z4, z5, z6⟩ := h11 t ht
  obtain ⟨c0, r0, v0, w, hc0, hr0, hv0, hw0, e1, e2, e3, e4, e5⟩ := hB (bk s) h3 t ht
  refine ⟨w, hw0, e5, ?_⟩
  have e := z6 hmi hst c hc k hk
  have hm : mx2 (sl s) c ≤ n := mx2_le h2 (by omega)
  obtain ⟨y, hy⟩ := hL.1 (mx2 (sl s) c) hm (t * 12 + k) (by omega)
  rw [e]
  unfold qCho
  rcases hy with ⟨q1, q2⟩ | ⟨x, y', z, hx, hy', hz, q1, q2⟩
  · rw [if_pos q1]; exact Or.inl rfl
  · rw [q1, if_neg (fun q => (nI_m1 (by have := k3_lt hx hy' hz; omega)).mp q)]
    split
    · refine Or.inr ⟨bo w 0 x, bo w 1 y', bo w 2 z, bo_lt hx, bo_lt hy', bo_lt hz, by rw [e4]; exact mask_e hw0 hx hy' hz, ?_, ?_, ?_⟩
      · unfold bo; split <;> omega
      · unfold bo; split <;> omega
      · unfold bo; split <;> omega
    · exact Or.inl rfl
/-- what is seen behind a copy: the numbers of the publisher's row in the listed columns, else 0 -/
theorem C_row {lb' : qF} {kc' mi' : Nat → Nat → Nat} (hI : INt ad bk kc' mi' cn lim n rows cc ct ck nr cr co re nu ma sr cp pu st sl lp lo lq lb' lg) {s t k : Nat} (hs : s < 3) (ht : t < 2) (hk : k < 12) (hst : st s = 1) (hcn : cn = 0) (hmi : mi' s t = 0) (hc : kc' s t = n + 1) : ∃ w, w < 8 ∧ lq (2 * bk s + t) = nI w ∧ (sr s (t * 12 + k) = -1 ∨ ∃ x y z, x < 100 ∧ y < 100 ∧ z < 100 ∧ rows (t * 12 + k) = nI (k3 x y z) ∧ sr s (t * 12 + k) = nI (k3 (bo w 0 x) (bo w 1 y) (bo w 2 z))) := by
  obtain ⟨hlim, hn, g0, g1, g2, hp, ho, hL, hO, hB, hS⟩ := hI
  obtain ⟨h1, h2, h3, h4, h5, h6, h7, h8, h9, h10, h11⟩ := hS s hs
  obtain ⟨z1, z2, z3, z4, z5, z6⟩ := h11 t ht
  obtain ⟨c0, r0, v0, w, hc0, hr0, hv0, hw0, e1, e2, e3, e4, e5⟩ := hB (bk s) h3 t ht
  refine ⟨w, hw0, e5, ?_⟩
  have e := z6 hmi (Or.inl hst) n hc k hk
  have em : mx2 (sl s) n = n := by unfold mx2; split <;> omega
  have er := hO.2.2.2 (t * 12 + k) (by omega)
  rw [hcn] at er
  have er : rows (t * 12 + k) = cr (n * 24 + (t * 12 + k)) := er
  rw [e, em, ← er]
  unfold qCho
  rcases hp (t * 12 + k) (by omega) with ⟨q1, q2⟩ | ⟨x, y', z, hx, hy', hz, q1, q2⟩
  · rw [if_pos q1]; exact Or.inl rfl
  · rw [q1, if_neg (fun q => (nI_m1 (by have := k3_lt hx hy' hz; omega)).mp q)]
    split
    · exact Or.inr ⟨x, y', z, hx, hy', hz, rfl, by rw [e4]; exact mask_e hw0 hx hy' hz⟩
    · exact Or.inl rfl
end OUTC
