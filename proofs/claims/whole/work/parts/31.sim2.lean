/-! The publications' and the subscribers' calls: class and model answer alike. -/
theorem RS_of {ad bk bk' : Nat → Nat} {n i : Nat} {pu pu' : Nat → Option Nat} {st sl st' sl' : Nat → Nat} {sr cp sr' cp' : Nat → qF} {boo sta slo cop see boo' sta' slo' cop' see' : qF} (h : RS ad bk n pu st sl sr cp boo sta slo cop see i) (e1 : bk' i = bk i) (e2 : pu' i = pu i) (e3 : st' i = st i) (e4 : sl' i = sl i) (e5 : sr' i = sr i) (e6 : cp' i = cp i) (e7 : boo' i = boo i) (e8 : sta' i = sta i) (e9 : slo' i = slo i) (e10 : ∀ t, t < 2 → cop' (2 * i + t) = cop (2 * i + t)) (e11 : ∀ j, j < 24 → see' (24 * i + j) = see (24 * i + j)) : RS ad bk' n pu' st' sl' sr' cp' boo' sta' slo' cop' see' i := by
  unfold RS at h ⊢
  rw [e1, e2, e3, e4, e5, e6, e7, e8, e9]
  obtain ⟨h1, h2, h3, h4, h5, h6, h7, h8, h9, h10⟩ := h
  exact ⟨h1, h2, h3, h4, h5, h6, h7, h8, fun t ht => by rw [e10 t ht]; exact h9 t ht, fun j hj => by rw [e11 j hj]; exact h10 j hj⟩
/-- a subscriber's publication, by its address and by its number -/
theorem RS_pub {ad bk : Nat → Nat} {n i p : Nat} {pu : Nat → Option Nat} {st sl : Nat → Nat} {sr cp : Nat → qF} {boo sta slo cop see : qF} (h : RS ad bk n pu st sl sr cp boo sta slo cop see i) (hinj : ∀ x y, x < 3 → y < 3 → ad (13 + 5 * x) = ad (13 + 5 * y) → x = y) (hp : p < 3) : pu i = some (ad (13 + 5 * p)) ↔ (0 < st i ∧ bk i = p) := by
  obtain ⟨-, -, -, -, h5, -, -, h8, -⟩ := h
  rcases h8 with ⟨a, b⟩ | ⟨a, b⟩
  · rw [b]; exact ⟨fun q => (by cases q), fun q => (by omega)⟩
  · rw [b]; exact ⟨fun q => ⟨a, hinj _ _ h5 hp (Option.some.inj q)⟩, fun q => by rw [q.2]⟩
theorem RS_fg {ad bk : Nat → Nat} {n i p t : Nat} {pu : Nat → Option Nat} {st sl : Nat → Nat} {sr cp : Nat → qF} {boo sta slo cop see : qF} (h : RS ad bk n pu st sl sr cp boo sta slo cop see i) (hinj : ∀ x y, x < 3 → y < 3 → ad (13 + 5 * x) = ad (13 + 5 * y) → x = y) (hp : p < 3) (hi : i < 3) : RS ad bk n pu st sl sr (fun i => qFg (decide (pu i = some (ad (13 + 5 * p)))) (cp i) t) boo sta slo (mFg cop st bk p t 3) see i := by
  have hb := RS_pub h hinj hp
  obtain ⟨h1, h2, h3, h4, h5, h6, h7, h8, h9, h10⟩ := h
  refine ⟨h1, h2, h3, h4, h5, h6, h7, h8, fun u hu => ?_, h10⟩
  show qFg (decide (pu i = some (ad (13 + 5 * p)))) (cp i) t u = _ ∧ (qFg (decide (pu i = some (ad (13 + 5 * p)))) (cp i) t u = -1 ∨ ∃ c, c ≤ n ∧ qFg (decide (pu i = some (ad (13 + 5 * p)))) (cp i) t u = nI c)
  have e1 : (2 * i + u) / 2 = i := by omega
  have e2 : (2 * i + u) % 2 = u := by omega
  unfold qFg mFg
  rw [e1, e2]
  by_cases q : pu i = some (ad (13 + 5 * p))
  · rw [if_pos (decide_eq_true q)]
    by_cases z : u = t
    · rw [z, upd_same, if_pos ⟨⟨hi, rfl⟩, hb.mp q⟩]; exact ⟨rfl, Or.inl rfl⟩
    · rw [upd_ne z, if_neg (fun w => z w.1.2)]; exact h9 u hu
  · rw [if_neg (fun w => q (of_decide_eq_true w)), if_neg (fun w => q (hb.mpr w.2))]; exact h9 u hu
theorem fgN_e {ad bk : Nat → Nat} {n p t : Nat} {pu : Nat → Option Nat} {st sl : Nat → Nat} {sr cp : Nat → qF} {boo sta slo cop see : qF} (hS : ∀ i, i < 3 → RS ad bk n pu st sl sr cp boo sta slo cop see i) (hinj : ∀ x y, x < 3 → y < 3 → ad (13 + 5 * x) = ad (13 + 5 * y) → x = y) (hp : p < 3) (ht : t < 2) : qFgN (decide (pu 0 = some (ad (13 + 5 * p)))) (cp 0) t + qFgN (decide (pu 1 = some (ad (13 + 5 * p)))) (cp 1) t + qFgN (decide (pu 2 = some (ad (13 + 5 * p)))) (cp 2) t = mFgN cop st bk p t 3 := by
  have e : ∀ i, i < 3 → qFgN (decide (pu i = some (ad (13 + 5 * p)))) (cp i) t = if (0 < st i ∧ bk i = p) ∧ ¬ cop (2 * i + t) = -1 then 1 else 0 := fun i hi => by
    have hb := RS_pub (hS i hi) hinj hp
    have hc := ((hS i hi).2.2.2.2.2.2.2.2.1 t ht).1
    unfold qFgN
    by_cases q : (0 < st i ∧ bk i = p) ∧ ¬ cop (2 * i + t) = -1
    · rw [if_pos q, if_pos ⟨decide_eq_true (hb.mpr q.1), by rw [hc]; exact q.2⟩]
    · rw [if_neg q, if_neg (fun z => q ⟨hb.mp (of_decide_eq_true z.1), by rw [← hc]; exact z.2⟩)]
  rw [e 0 (by omega), e 1 (by omega), e 2 (by omega)]
  have z : ∀ a b c : Nat, a + b + c = ((0 + a) + b) + c := fun a b c => by omega
  exact z _ _ _
theorem rE_inj {x y x' y' : Int32} (h : rE x y) (h' : rE x' y') : x = x' ↔ y = y' := by
  rcases h with ⟨rfl, rfl⟩ | ⟨a, b, c, ha, hb, hc, rfl, rfl⟩
  · exact ⟨fun q => ((rE_m1 h').mp q.symm).symm, fun q => ((rE_m1 h').mpr q.symm).symm⟩
  · rcases h' with ⟨rfl, rfl⟩ | ⟨a', b', c', ha', hb', hc', rfl, rfl⟩
    · have h1 := k3_lt ha hb hc
      have h2 := d3_lt ha hb hc
      exact ⟨fun q => ((nI_m1 (by omega)).mp q).elim, fun q => ((nI_m1 (by omega)).mp q).elim⟩
    · have h1 := k3_lt ha hb hc
      have h2 := d3_lt ha hb hc
      have h1' := k3_lt ha' hb' hc'
      have h2' := d3_lt ha' hb' hc'
      rw [nI_eq (by omega) (by omega), nI_eq (by omega) (by omega)]
      unfold k3 d3; omega
theorem cnt_m {f g : qF} {a : Nat} : ∀ (m : Nat), (∀ j, j < m → (f (a + j) = -1 ↔ g j = -1)) → qCnt f a m = mCnt g m
  | 0, _ => rfl
  | m + 1, h => by
    have h1 := cnt_m m (fun j hj => h j (by omega))
    show qCnt f a m + (if f (a + m) = -1 then 0 else 1) = mCnt g m + (if g m = -1 then 0 else 1)
    rw [h1]
    by_cases q : f (a + m) = -1
    · rw [if_pos q, if_pos ((h m (by omega)).mp q)]
    · rw [if_neg q, if_neg (fun z => q ((h m (by omega)).mpr z))]
/-- what a publication chooses of a row -/
theorem RP_cho {co re nu ma : Nat → qF} {col rel num lis : qF} {p t : Nat} {x y : Int32} (h : RP co re nu ma col rel num lis) (hp : p < 3) (ht : t < 2) (hx : rE x y) : rE (qCho (co p t) (re p t) (nu p t) (ma p t) x) (mSel (col (2 * p + t)) (rel (2 * p + t)) (num (2 * p + t)) (lis (2 * p + t)) y) := by
  obtain ⟨c, r, v, w, hc, hr, hv, hw, e1, e2, e3, e4, e5, e6, e7, e8⟩ := h p hp t ht
  rw [e1, e2, e3, e4, e5, e6, e7, e8]
  exact rE_cho hx hc hr hw
section SIM
variable {ad bk : Nat → Nat} {lim n cn si pi : Nat} {rows cc ct ck nr cr old rw : qF} {co re nu ma sr cp : Nat → qF} {pu : Nat → Option Nat} {st sl : Nat → Nat} {th : Int32} {row kept chg tab key frs col rel num lis boo sta slo cop see the her : qF} {out : Nat → Int64} {k r : Int32} {q : S4 × (Nat → Int64)} {q1 : S4} {q2 : S5}
theorem sM_setCondition {px tx cx rx nx : Int32} (hinj : ∀ x y, x < 3 → y < 3 → ad (13 + 5 * x) = ad (13 + 5 * y) → x = y) (hR : RR ad bk lim n rows cc ct ck nr cr co re nu ma sr cp pu st sl row kept chg tab key frs col rel num lis boo sta slo cop see) (h1 : PL_setCondition ad lim n rows cc ct ck nr cr old rw co re nu ma sr cp pu st sl pi px tx cx rx nx out k q) (h2 : PM_setCondition th n lim row kept chg tab key frs col rel num lis boo sta slo cop see the her st bk px tx cx rx nx r q2) : SIMi ad k r q q2 := by
  have hR9 := hR
  obtain ⟨hlim, hn, hT, hP, hS⟩ := hR
  obtain ⟨h, a1, a2, a3, a4, hd, rfl⟩ := h2
  rcases h1 with ⟨tn, r0, ⟨rfl, ⟨rfl, hp, rfl, ht, hc⟩, hv, er⟩, rfl⟩ | ⟨hx, rfl⟩
  · rcases hd with ⟨z, -⟩ | ⟨-, z, -⟩ | ⟨pi', tn', e1, hp', e2, ht', -, -, rfl, er', rfl, rfl, rfl, rfl⟩
    · exact absurd ⟨vp_in_nI hp (by decide), vp_in_nI ht (by decide), hc⟩ z
    · exact absurd hv z
    · obtain rfl := nI_j e1 (by omega) (by omega)
      obtain rfl := nI_j e2 (by omega) (by omega)
      obtain ⟨c9, hc9, rfl⟩ := vp_in_of hc (by decide)
      obtain ⟨r9, hr9, rfl⟩ := vp_in_of hv.1 (by decide)
      obtain ⟨v9, hv9, rfl⟩ := vp_in_of hv.2 (by decide)
      refine ⟨rfl, fun _ => (updL_0 out r0.toInt64).trans ?_, bk, rfl, rfl, hlim, hn, hT, fun p hp2 t ht2 => ?_, fun i hi => RS_fg (hS i hi) hinj hp hi⟩
      · rw [er, er']; exact congrArg (fun z => (nI z).toInt64) (fgN_e hS hinj hp ht)
      · obtain ⟨c, r, v, w, h1, h2, h3, h4, f1, f2, f3, f4, f5, f6, f7, f8⟩ := hP p hp2 t ht2
        by_cases z : p = pi ∧ t = tn
        · obtain ⟨rfl, rfl⟩ := z
          refine ⟨c9, r9, v9, w, hc9, hr9, hv9, h4, ?_, upd_same _ _ _, ?_, upd_same _ _ _, ?_, upd_same _ _ _, f7, f8⟩ <;> rw [up_same, upd_same]
        · have z2 : ∀ (f : Nat → qF) (x : Int32), va_up f pi (upd (f pi) tn x) p t = f p t := fun f x => by
            by_cases y : p = pi
            · subst y; rw [up_same, upd_ne (fun y2 => z ⟨rfl, y2⟩)]
            · rw [up_ne y]
          have z3 : 2 * p + t ≠ 2 * pi + tn := fun y => z ⟨by omega, by omega⟩
          exact ⟨c, r, v, w, h1, h2, h3, h4, by rw [z2]; exact f1, by rw [upd_ne z3]; exact f2, by rw [z2]; exact f3, by rw [upd_ne z3]; exact f4, by rw [z2]; exact f5, by rw [upd_ne z3]; exact f6, f7, f8⟩
  · rcases hx with ⟨rfl, hx⟩ | ⟨rfl, hx⟩
    · rcases hd with ⟨-, rfl, rfl, rfl, rfl, rfl⟩ | ⟨z, -⟩ | ⟨pi', tn', e1, hp', e2, ht', z, -⟩
      · exact ⟨rfl, fun z => absurd z n01, bk, rfl, rfl, hR9⟩
      · exact absurd z hx
      · exact absurd ⟨in2 e1 hp' (by decide), in2 e2 ht' (by decide), z⟩ hx
    · rcases hd with ⟨z, -⟩ | ⟨-, -, rfl, rfl, rfl, rfl, rfl⟩ | ⟨pi', tn', e1, hp', e2, ht', -, z, -⟩
      · exact absurd hx.1 z
      · exact ⟨rfl, fun z => absurd z n02, bk, rfl, rfl, hR9⟩
      · exact absurd z hx.2
theorem sM_setColumns {px tx cx : Int32} (hinj : ∀ x y, x < 3 → y < 3 → ad (13 + 5 * x) = ad (13 + 5 * y) → x = y) (hR : RR ad bk lim n rows cc ct ck nr cr co re nu ma sr cp pu st sl row kept chg tab key frs col rel num lis boo sta slo cop see) (h1 : PL_setColumns ad lim n rows cc ct ck nr cr old rw co re nu ma sr cp pu st sl pi px tx cx out k q) (h2 : PM_setColumns th n lim row kept chg tab key frs col rel num lis boo sta slo cop see the her st bk px tx cx r q2) : SIMi ad k r q q2 := by
  have hR9 := hR
  obtain ⟨hlim, hn, hT, hP, hS⟩ := hR
  obtain ⟨h, a1, a4, hd, rfl⟩ := h2
  rcases h1 with ⟨tn, r0, ⟨rfl, ⟨rfl, hp, rfl, ht⟩, hv, er⟩, rfl⟩ | ⟨hx, rfl⟩
  · rcases hd with ⟨z, -⟩ | ⟨-, z, -⟩ | ⟨pi', tn', e1, hp', e2, ht', -, rfl, er', rfl, rfl⟩
    · exact absurd ⟨vp_in_nI hp (by decide), vp_in_nI ht (by decide)⟩ z
    · exact absurd hv z
    · obtain rfl := nI_j e1 (by omega) (by omega)
      obtain rfl := nI_j e2 (by omega) (by omega)
      obtain ⟨w9, hw9, rfl⟩ := vp_in_of hv (by decide)
      refine ⟨rfl, fun _ => (updL_0 out r0.toInt64).trans ?_, bk, rfl, rfl, hlim, hn, hT, fun p hp2 t ht2 => ?_, fun i hi => RS_fg (hS i hi) hinj hp hi⟩
      · rw [er, er']; exact congrArg (fun z => (nI z).toInt64) (fgN_e hS hinj hp ht)
      · obtain ⟨c, r, v, w, h1, h2, h3, h4, f1, f2, f3, f4, f5, f6, f7, f8⟩ := hP p hp2 t ht2
        by_cases z : p = pi ∧ t = tn
        · obtain ⟨rfl, rfl⟩ := z
          exact ⟨c, r, v, w9, h1, h2, h3, hw9, f1, f2, f3, f4, f5, f6, by rw [up_same, upd_same], upd_same _ _ _⟩
        · have z2 : ∀ (f : Nat → qF) (x : Int32), va_up f pi (upd (f pi) tn x) p t = f p t := fun f x => by
            by_cases y : p = pi
            · subst y; rw [up_same, upd_ne (fun y2 => z ⟨rfl, y2⟩)]
            · rw [up_ne y]
          have z3 : 2 * p + t ≠ 2 * pi + tn := fun y => z ⟨by omega, by omega⟩
          exact ⟨c, r, v, w, h1, h2, h3, h4, f1, f2, f3, f4, f5, f6, by rw [z2]; exact f7, by rw [upd_ne z3]; exact f8⟩
  · rcases hx with ⟨rfl, hx⟩ | ⟨rfl, hx⟩
    · rcases hd with ⟨-, rfl, rfl, rfl⟩ | ⟨z, -⟩ | ⟨pi', tn', e1, hp', e2, ht', -⟩
      · exact ⟨rfl, fun z => absurd z n01, bk, rfl, rfl, hR9⟩
      · exact absurd z hx
      · exact absurd ⟨in2 e1 hp' (by decide), in2 e2 ht' (by decide)⟩ hx
    · rcases hd with ⟨z, -⟩ | ⟨-, -, rfl, rfl, rfl⟩ | ⟨pi', tn', e1, hp', e2, ht', z, -⟩
      · exact absurd hx.1 z
      · exact ⟨rfl, fun z => absurd z n02, bk, rfl, rfl, hR9⟩
      · exact absurd z hx.2
theorem sM_subscribe {sx px : Int32} (hR : RR ad bk lim n rows cc ct ck nr cr co re nu ma sr cp pu st sl row kept chg tab key frs col rel num lis boo sta slo cop see) (h1 : PL_subscribe ad lim n rows cc ct ck nr cr old rw co re nu ma sr cp pu st sl si sx px out k q) (h2 : PM_subscribe th n lim row kept chg tab key frs col rel num lis boo sta slo cop see the her st sx px r q2) : SIMi ad k r q q2 := by
  have hR9 := hR
  obtain ⟨hlim, hn, hT, hP, hS⟩ := hR
  obtain ⟨h, a1, a2, a3, a4, hd, rfl⟩ := h2
  rcases h1 with ⟨pn, r0, ⟨rfl, rfl, hs, rfl, hp, er⟩, rfl⟩ | ⟨⟨rfl, hx⟩, rfl⟩
  · rcases hd with ⟨z, -⟩ | ⟨si', pi', e1, hs', e2, hp', rfl, er', rfl, rfl, rfl, rfl⟩
    · exact absurd ⟨vp_in_nI hs (by decide), vp_in_nI hp (by decide)⟩ z
    · obtain rfl := nI_j e1 (by omega) (by omega)
      obtain rfl := nI_j e2 (by omega) (by omega)
      refine ⟨rfl, fun _ => (updL_0 out r0.toInt64).trans (by rw [er, er']), va_up bk si pn, rfl, rfl, hlim, hn, hT, hP, fun i hi => ?_⟩
      by_cases z : i = si
      · subst z
        obtain ⟨g1, g2, g3, g4, g5, g6, g7, g8, g9, g10⟩ := hS i hi
        unfold RS
        rw [up_same, up_same, up_same, up_same, up_same, upd_same, upd_same, upd_same]
        refine ⟨by omega, rfl, Nat.le_refl n, rfl, hp, rfl, fun z => by omega, Or.inr ⟨by omega, rfl⟩, fun t ht => ?_, g10⟩
        have e : upd (upd (cp i) 0 (-1)) 1 (-1) t = -1 := by
          rcases (show t = 0 ∨ t = 1 by omega) with rfl | rfl
          · rw [upd_ne (by decide), upd_same]
          · exact upd_same _ _ _
        have e2 : upd (upd cop (2 * i + 0) (-1)) (2 * i + 1) (-1) (2 * i + t) = -1 := by
          rcases (show t = 0 ∨ t = 1 by omega) with rfl | rfl
          · rw [upd_ne (by omega), upd_same]
          · exact upd_same _ _ _
        rw [e, e2]; exact ⟨rfl, Or.inl rfl⟩
      · exact RS_of (hS i hi) (up_ne z) (up_ne z) (up_ne z) (up_ne z) rfl (up_ne z) (upd_ne z) (upd_ne z) (upd_ne z) (fun t ht => by rw [upd_ne (by omega), upd_ne (by omega)]) (fun _ _ => rfl)
  · rcases hd with ⟨-, rfl, rfl, rfl, rfl, rfl⟩ | ⟨si', pi', e1, hs', e2, hp', -⟩
    · exact ⟨rfl, fun z => absurd z n01, bk, rfl, rfl, hR9⟩
    · exact absurd ⟨in2 e1 hs' (by decide), in2 e2 hp' (by decide)⟩ hx
theorem sM_drop {sx : Int32} (hR : RR ad bk lim n rows cc ct ck nr cr co re nu ma sr cp pu st sl row kept chg tab key frs col rel num lis boo sta slo cop see) (h1 : PL_drop ad lim n rows cc ct ck nr cr old rw co re nu ma sr cp pu st sl si sx out k q) (h2 : PM_drop th n lim row kept chg tab key frs col rel num lis boo sta slo cop see the her st sx r q2) : SIMi ad k r q q2 := by
  have hR9 := hR
  obtain ⟨hlim, hn, hT, hP, hS⟩ := hR
  obtain ⟨h, a2, a4, hd, rfl⟩ := h2
  rcases h1 with ⟨r0, ⟨rfl, rfl, hs, er⟩, rfl⟩ | ⟨⟨rfl, hx⟩, rfl⟩
  · rcases hd with ⟨z, -⟩ | ⟨si', e1, hs', rfl, er', rfl, rfl⟩
    · exact absurd (vp_in_nI hs (by decide)) z
    · obtain rfl := nI_j e1 (by omega) (by omega)
      refine ⟨rfl, fun _ => (updL_0 out r0.toInt64).trans (by rw [er, er']), bk, rfl, rfl, hlim, hn, hT, hP, fun i hi => ?_⟩
      by_cases z : i = si
      · subst z
        obtain ⟨g1, g2, g3, g4, g5, g6, g7, g8, g9, g10⟩ := hS i hi
        unfold RS
        rw [up_same, up_same, up_same, upd_same]
        refine ⟨by omega, rfl, g3, g4, g5, g6, fun z => by omega, Or.inl ⟨rfl, rfl⟩, fun t ht => ?_, g10⟩
        have e : upd (upd (cp i) 0 (-1)) 1 (-1) t = -1 := by
          rcases (show t = 0 ∨ t = 1 by omega) with rfl | rfl
          · rw [upd_ne (by decide), upd_same]
          · exact upd_same _ _ _
        have e2 : upd (upd cop (2 * i + 0) (-1)) (2 * i + 1) (-1) (2 * i + t) = -1 := by
          rcases (show t = 0 ∨ t = 1 by omega) with rfl | rfl
          · rw [upd_ne (by omega), upd_same]
          · exact upd_same _ _ _
        rw [e, e2]; exact ⟨rfl, Or.inl rfl⟩
      · exact RS_of (hS i hi) rfl (up_ne z) (up_ne z) rfl rfl (up_ne z) rfl (upd_ne z) rfl (fun t ht => by rw [upd_ne (by omega), upd_ne (by omega)]) (fun _ _ => rfl)
  · rcases hd with ⟨-, rfl, rfl, rfl⟩ | ⟨si', e1, hs', -⟩
    · exact ⟨rfl, fun z => absurd z n01, bk, rfl, rfl, hR9⟩
    · exact absurd (in2 e1 hs' (by decide)) hx
theorem sM_state {sx : Int32} (hR : RR ad bk lim n rows cc ct ck nr cr co re nu ma sr cp pu st sl row kept chg tab key frs col rel num lis boo sta slo cop see) (h1 : PL_state ad lim n rows cc ct ck nr cr old rw co re nu ma sr cp pu st sl si sx out k q) (h2 : PM_state th n lim row kept chg tab key frs col rel num lis boo sta slo cop see the her st sx r q2) : SIMi ad k r q q2 := by
  obtain ⟨h, hd, rfl⟩ := h2
  rcases h1 with ⟨r0, ⟨rfl, rfl, hs, er⟩, rfl⟩ | ⟨⟨rfl, hx⟩, rfl⟩
  · rcases hd with ⟨z, -⟩ | ⟨si', e1, hs', rfl, er'⟩
    · exact absurd (vp_in_nI hs (by decide)) z
    · obtain rfl := nI_j e1 (by omega) (by omega)
      exact ⟨rfl, fun _ => (updL_0 out r0.toInt64).trans (by rw [er, er']), bk, rfl, rfl, hR⟩
  · rcases hd with ⟨-, rfl⟩ | ⟨si', e1, hs', -⟩
    · exact ⟨rfl, fun z => absurd z n01, bk, rfl, rfl, hR⟩
    · exact absurd (in2 e1 hs' (by decide)) hx
theorem sM_lag {sx : Int32} (hR : RR ad bk lim n rows cc ct ck nr cr co re nu ma sr cp pu st sl row kept chg tab key frs col rel num lis boo sta slo cop see) (h1 : PL_lag ad lim n rows cc ct ck nr cr old rw co re nu ma sr cp pu st sl si sx out k q) (h2 : PM_lag th n lim row kept chg tab key frs col rel num lis boo sta slo cop see the her st sl sx r q2) : SIMi ad k r q q2 := by
  obtain ⟨h, hd, rfl⟩ := h2
  rcases h1 with ⟨r0, ⟨rfl, rfl, hs, er⟩, rfl⟩ | ⟨⟨rfl, hx⟩, rfl⟩
  · rcases hd with ⟨z, -⟩ | ⟨si', e1, hs', rfl, er'⟩
    · exact absurd (vp_in_nI hs (by decide)) z
    · obtain rfl := nI_j e1 (by omega) (by omega)
      exact ⟨rfl, fun _ => (updL_0 out r0.toInt64).trans (by rw [er, er']), bk, rfl, rfl, hR⟩
  · rcases hd with ⟨-, rfl⟩ | ⟨si', e1, hs', -⟩
    · exact ⟨rfl, fun z => absurd z n01, bk, rfl, rfl, hR⟩
    · exact absurd (in2 e1 hs' (by decide)) hx
theorem sM_copiedAt {sx tx : Int32} (hR : RR ad bk lim n rows cc ct ck nr cr co re nu ma sr cp pu st sl row kept chg tab key frs col rel num lis boo sta slo cop see) (h1 : PL_copiedAt ad lim n rows cc ct ck nr cr old rw co re nu ma sr cp pu st sl si sx tx out k q) (h2 : PM_copiedAt th n lim row kept chg tab key frs col rel num lis boo sta slo cop see the her sx tx r q2) : SIMi ad k r q q2 := by
  have hS := hR.2.2.2.2
  obtain ⟨h, hd, rfl⟩ := h2
  rcases h1 with ⟨tn, r0, ⟨rfl, rfl, hs, rfl, ht, er⟩, rfl⟩ | ⟨⟨rfl, hx⟩, rfl⟩
  · rcases hd with ⟨z, -⟩ | ⟨si', tn', e1, hs', e2, ht', rfl, er'⟩
    · exact absurd ⟨vp_in_nI hs (by decide), vp_in_nI ht (by decide)⟩ z
    · obtain rfl := nI_j e1 (by omega) (by omega)
      obtain rfl := nI_j e2 (by omega) (by omega)
      exact ⟨rfl, fun _ => (updL_0 out r0.toInt64).trans (by rw [er, er', ((hS si hs).2.2.2.2.2.2.2.2.1 tn ht).1]), bk, rfl, rfl, hR⟩
  · rcases hd with ⟨-, rfl⟩ | ⟨si', tn', e1, hs', e2, ht', -⟩
    · exact ⟨rfl, fun z => absurd z n01, bk, rfl, rfl, hR⟩
    · exact absurd ⟨in2 e1 hs' (by decide), in2 e2 ht' (by decide)⟩ hx
theorem sM_seen {sx tx kx cx : Int32} (hR : RR ad bk lim n rows cc ct ck nr cr co re nu ma sr cp pu st sl row kept chg tab key frs col rel num lis boo sta slo cop see) (h1 : PL_seen ad lim n rows cc ct ck nr cr old rw co re nu ma sr cp pu st sl si sx tx kx cx out k q) (h2 : PM_seen th n lim row kept chg tab key frs col rel num lis boo sta slo cop see the her sx tx kx cx r q2) : SIMi ad k r q q2 := by
  have hS := hR.2.2.2.2
  obtain ⟨h, hd, rfl⟩ := h2
  rcases h1 with ⟨tn, kn, r0, ⟨rfl, rfl, hs, rfl, ht, rfl, hkn, hc, er⟩, rfl⟩ | ⟨⟨rfl, hx⟩, rfl⟩
  · rcases hd with ⟨z, -⟩ | ⟨si', tn', kn', e1, hs', e2, ht', e3, hk', -, rfl, er'⟩
    · exact absurd ⟨vp_in_nI hs (by decide), ⟨vp_in_nI ht (by decide), vp_in_nI hkn (by decide)⟩, hc⟩ z
    · obtain rfl := nI_j e1 (by omega) (by omega)
      obtain rfl := nI_j e2 (by omega) (by omega)
      obtain rfl := nI_j e3 (by omega) (by omega)
      obtain ⟨j, hj, rfl⟩ := vp_in_of hc (by decide)
      refine ⟨rfl, fun _ => (updL_0 out r0.toInt64).trans ?_, bk, rfl, rfl, hR⟩
      have h9 := (hS si hs).2.2.2.2.2.2.2.2.2 (tn * 12 + kn) (by omega)
      rw [er, er', rE_num h9 hj, show 24 * si + 12 * tn + kn = 24 * si + (tn * 12 + kn) by omega]
  · rcases hd with ⟨-, rfl⟩ | ⟨si', tn', kn', e1, hs', e2, ht', e3, hk', z, -⟩
    · exact ⟨rfl, fun z => absurd z n01, bk, rfl, rfl, hR⟩
    · exact absurd ⟨in2 e1 hs' (by decide), ⟨in2 e2 ht' (by decide), in2 e3 hk' (by decide)⟩, z⟩ hx
theorem sM_goOn {sx bx : Int32} (hsx : ∀ j, j < 3 → sx = nI j → j = si) (hR : RR ad bk lim n rows cc ct ck nr cr co re nu ma sr cp pu st sl row kept chg tab key frs col rel num lis boo sta slo cop see) (h1 : PL_goOn ad lim n rows cc ct ck nr cr old rw co re nu ma sr cp pu st sl si sx bx out k q) (h2 : PM_goOn th n lim row kept chg tab key frs col rel num lis boo sta slo cop see the her st sl sx bx r q2) : SIMi ad k r q q2 := by
  have hR9 := hR
  obtain ⟨hlim, hn, hT, hP, hS⟩ := hR
  obtain ⟨h, a2, a3, hd, rfl⟩ := h2
  rcases h1 with ⟨r0, ⟨rfl, ⟨rfl, hs⟩, h2s, er⟩, rfl⟩ | ⟨hx, rfl⟩
  · rcases hd with ⟨z, -⟩ | ⟨si', e1, hs', z, -⟩ | ⟨si', e1, hs', -, rfl, er', rfl, rfl⟩
    · exact absurd (vp_in_nI hs (by decide)) z
    · obtain rfl := nI_j e1 (by omega) (by omega)
      exact absurd h2s z
    · obtain rfl := nI_j e1 (by omega) (by omega)
      refine ⟨rfl, fun _ => (updL_0 out r0.toInt64).trans (by rw [er, er']), bk, rfl, rfl, hlim, hn, hT, hP, fun i hi => ?_⟩
      by_cases z : i = si
      · subst z
        obtain ⟨g1, g2, g3, g4, g5, g6, g7, g8, g9, g10⟩ := hS i hi
        have g77 := g7 h2s
        unfold RS
        rw [up_same, up_same, upd_same, upd_same]
        refine ⟨by omega, rfl, by split <;> omega, rfl, g5, g6, fun z => by omega, Or.inr ⟨by omega, ?_⟩, g9, g10⟩
        rcases g8 with ⟨z, -⟩ | ⟨-, z⟩
        · omega
        · exact z
      · exact RS_of (hS i hi) rfl rfl (up_ne z) (up_ne z) rfl rfl rfl (upd_ne z) (upd_ne z) (fun _ _ => rfl) (fun _ _ => rfl)
  · rcases hx with ⟨rfl, hx⟩ | ⟨rfl, hx⟩
    · rcases hd with ⟨-, rfl, rfl, rfl⟩ | ⟨si', e1, hs', -⟩ | ⟨si', e1, hs', -⟩
      · exact ⟨rfl, fun z => absurd z n01, bk, rfl, rfl, hR9⟩
      · exact absurd (in2 e1 hs' (by decide)) hx
      · exact absurd (in2 e1 hs' (by decide)) hx
    · rcases hd with ⟨z, -⟩ | ⟨si', e1, hs', -, rfl, rfl, rfl⟩ | ⟨si', e1, hs', z, -⟩
      · exact absurd hx.1 z
      · exact ⟨rfl, fun z => absurd z n02, bk, rfl, rfl, hR9⟩
      · obtain rfl := hsx si' hs' e1
        exact absurd z hx.2
theorem sM_own {sx tx kx nx : Int32} (hR : RR ad bk lim n rows cc ct ck nr cr co re nu ma sr cp pu st sl row kept chg tab key frs col rel num lis boo sta slo cop see) (h1 : PL_own ad lim n rows cc ct ck nr cr old rw co re nu ma sr cp pu st sl si sx tx kx nx out k q) (h2 : PM_own th n lim row kept chg tab key frs col rel num lis boo sta slo cop see the her sx tx kx nx r q2) : SIMz ad k r q q2 := by
  have hR9 := hR
  obtain ⟨hlim, hn, hT, hP, hS⟩ := hR
  obtain ⟨h, a1, hd, rfl⟩ := h2
  rcases h1 with ⟨tn, kn, r0, ⟨rfl, ⟨rfl, hs, rfl, ht, rfl, hkn⟩, hv, er⟩, rfl⟩ | ⟨hx, rfl⟩
  · rcases hd with ⟨z, -⟩ | ⟨-, z, -⟩ | ⟨si', tn', kn', e1, hs', e2, ht', e3, hk', -, rfl, er', rfl⟩
    · exact absurd ⟨vp_in_nI hs (by decide), vp_in_nI ht (by decide), vp_in_nI hkn (by decide)⟩ z
    · exact absurd hv z
    · obtain rfl := nI_j e1 (by omega) (by omega)
      obtain rfl := nI_j e2 (by omega) (by omega)
      obtain rfl := nI_j e3 (by omega) (by omega)
      have h9 := (hS si hs).2.2.2.2.2.2.2.2.2 (tn * 12 + kn) (by omega)
      rw [show 24 * si + 12 * tn + kn = 24 * si + (tn * 12 + kn) by omega] at er' ⊢
      refine ⟨rfl, fun _ => (updL_0 out (cB r0)).trans ?_, bk, rfl, rfl, hlim, hn, hT, hP, fun i hi => ?_⟩
      · rw [er, er']; congr 2
        exact decide_eq_decide.mpr (not_congr (rE_m1 h9))
      · have hv9 : rE (if nx = -1 then -1 else qRow nx nx nx) (if nx = -1 then -1 else nI 10101 * nx) := by
          by_cases z : nx = -1
          · rw [if_pos z, if_pos z]; exact rE_no
          · rw [if_neg z, if_neg z]; exact rE_own (hv.resolve_left z)
        by_cases z : i = si
        · subst z
          obtain ⟨g1, g2, g3, g4, g5, g6, g7, g8, g9, g10⟩ := hS i hi
          unfold RS
          rw [up_same]
          refine ⟨g1, g2, g3, g4, g5, g6, g7, g8, g9, fun j hj => ?_⟩
          by_cases y : j = tn * 12 + kn
          · rw [y, upd_same, upd_same]; exact hv9
          · rw [upd_ne y, upd_ne (by omega)]; exact g10 j hj
        · exact RS_of (hS i hi) rfl rfl rfl rfl (up_ne z) rfl rfl rfl rfl (fun _ _ => rfl) (fun j hj => by rw [upd_ne (by omega)])
  · rcases hx with ⟨rfl, hx⟩ | ⟨rfl, hx⟩
    · rcases hd with ⟨-, rfl, rfl⟩ | ⟨z, -⟩ | ⟨si', tn', kn', e1, hs', e2, ht', e3, hk', -⟩
      · exact ⟨rfl, fun z => absurd z n01, bk, rfl, rfl, hR9⟩
      · exact absurd z hx
      · exact absurd ⟨in2 e1 hs' (by decide), in2 e2 ht' (by decide), in2 e3 hk' (by decide)⟩ hx
    · rcases hd with ⟨z, -⟩ | ⟨-, -, rfl, rfl⟩ | ⟨si', tn', kn', e1, hs', e2, ht', e3, hk', z, -⟩
      · exact absurd hx.1 z
      · exact ⟨rfl, fun z => absurd z n02, bk, rfl, rfl, hR9⟩
      · exact absurd z hx.2
end SIM
