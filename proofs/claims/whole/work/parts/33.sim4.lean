/-! receive: class and model answer alike. -/
theorem has_e {co re nu ma : Nat → qF} {col rel num lis : qF} {p t : Nat} {x y : Int32} (h : RP co re nu ma col rel num lis) (hp : p < 3) (ht : t < 2) (hx : rE x y) : ¬ qCho (co p t) (re p t) (nu p t) (ma p t) x = -1 ↔ mHas col rel num (2 * p + t) y = true := by
  obtain ⟨c, r, v, w, hc, hr, hv, hw, e1, e2, e3, e4, e5, e6, e7, e8⟩ := h p hp t ht
  unfold mHas
  rw [e1, e2, e3, e4, e5, e6, e7]
  unfold qCho
  by_cases q : x = -1
  · rw [if_pos q, mCouB_f (fun z => z.1 ((rE_m1 hx).mp q))]
    exact ⟨fun z => absurd rfl z, fun z => (by cases z)⟩
  · rw [if_neg q]
    by_cases z : qLetB (nI r) (nI v) (qNum x (nI c)) = true
    · rw [if_pos z, (let_e hx q hc hr).mp z]
      refine ⟨fun _ => rfl, fun _ u => ?_⟩
      rcases hx with ⟨rfl, -⟩ | ⟨a, b, d, ha, hb, hd, rfl, -⟩
      · exact q rfl
      · rw [mask_e hw ha hb hd] at u
        have := k3_lt (bo_lt (w := w) (k := 0) ha) (bo_lt (w := w) (k := 1) hb) (bo_lt (w := w) (k := 2) hd)
        exact (nI_m1 (by omega)).mp u
    · rw [if_neg z]
      exact ⟨fun u => absurd rfl u, fun u => absurd ((let_e hx q hc hr).mpr u) z⟩
theorem cho_v {co re nu ma : Nat → qF} {col rel num lis : qF} {p t : Nat} {x y : Int32} (h : RP co re nu ma col rel num lis) (hp : p < 3) (ht : t < 2) (hx : rE x y) (hh : mHas col rel num (2 * p + t) y = true) : rE (qCho (co p t) (re p t) (nu p t) (ma p t) x) (mChoN (lis (2 * p + t)) y 3) := by
  have h9 := RP_cho h hp ht hx
  unfold mSel at h9
  unfold mHas at hh
  rw [if_pos hh] at h9
  exact h9
theorem mHas_m1 {col rel num : qF} {x : Nat} : mHas col rel num x (-1) = false := mCouB_f (fun z => z.1 rfl)
theorem mJ_off {col rel num lis : qF} {x t : Nat} {K v : Int32} {th he : qF} : ∀ j, mJ col rel num lis x t K v false th he j = some he
  | 0 => rfl
  | j + 1 => mJ_skip (mJ_off j) (fun q => by cases q.1)
theorem mJ_all {col rel num lis : qF} {x t : Nat} {K v : Int32} {th he : qF} (hK : K = -1) (hv : mHas col rel num x v = false) : ∀ j, mJ col rel num lis x t K v true th he j = some (fun i => if (12 * t ≤ i ∧ i < 12 * t + j) ∧ mHas col rel num x (th i) = true then -1 else he i)
  | 0 => by
    show some he = _
    congr 1; funext i; rw [if_neg (by omega)]
  | j + 1 => by
    rw [mJ_do (mJ_all hK hv j) ⟨rfl, Or.inr hK⟩ (mOk_t (fun q => by rw [hv] at q; cases q.1))]
    congr 1
    unfold mOne
    rw [if_neg (by rw [hv]; decide)]
    by_cases q : mHas col rel num x (th (12 * t + j)) = true
    · rw [if_pos q]
      funext i; unfold upd
      by_cases z : i = 12 * t + j
      · subst z; rw [if_pos rfl, if_pos ⟨⟨by omega, by omega⟩, q⟩]
      · rw [if_neg z]
        dsimp only
        by_cases u : (12 * t ≤ i ∧ i < 12 * t + j) ∧ mHas col rel num x (th i) = true
        · rw [if_pos u, if_pos ⟨⟨u.1.1, by omega⟩, u.2⟩]
        · rw [if_neg u, if_neg (fun w => u ⟨⟨w.1.1, by omega⟩, w.2⟩)]
    · rw [if_neg q]
      funext i
      by_cases u : (12 * t ≤ i ∧ i < 12 * t + j) ∧ mHas col rel num x (th i) = true
      · rw [if_pos u, if_pos ⟨⟨u.1.1, by omega⟩, u.2⟩]
      · rw [if_neg u, if_neg (fun w => by
          by_cases z : i = 12 * t + j
          · rw [z] at w; exact q w.2
          · exact u ⟨⟨w.1.1, by omega⟩, w.2⟩)]
theorem mJ_one {col rel num lis : qF} {x t k : Nat} {K v : Int32} {th he : qF} (hk : k < 12) (hK : K = nI k) : mJ col rel num lis x t K v true th he 12 = if mOk col rel num x (th (12 * t + k)) v he (12 * t + k) = true then some (mOne col rel num lis x (th (12 * t + k)) v he (12 * t + k)) else none := by
  have ne : ∀ j, j < 12 → j ≠ k → ¬ (true = true ∧ (K = nI j ∨ K = -1)) := fun j hj hjk q => by
    rcases q.2 with z | z
    · rw [hK] at z; exact hjk (nI_j z (by omega) (by omega)).symm
    · rw [hK] at z; exact (nI_m1 (by omega)).mp z
  have h1 : ∀ j, j ≤ k → mJ col rel num lis x t K v true th he j = some he := by
    intro j
    induction j with
    | zero => intro _; rfl
    | succ j ih => intro hj; exact mJ_skip (ih (by omega)) (ne j (by omega) (by omega))
  have h2 := h1 k (Nat.le_refl k)
  by_cases q : mOk col rel num x (th (12 * t + k)) v he (12 * t + k) = true
  · rw [if_pos q]
    have h3 := mJ_do h2 ⟨rfl, Or.inl hK⟩ q
    have h4 : ∀ d, k + 1 + d ≤ 12 → mJ col rel num lis x t K v true th he (k + 1 + d) = some (mOne col rel num lis x (th (12 * t + k)) v he (12 * t + k)) := by
      intro d
      induction d with
      | zero => intro _; exact h3
      | succ d ih => intro hd; exact mJ_skip (ih (by omega)) (ne (k + 1 + d) (by omega) (by omega))
    have h5 := h4 (12 - (k + 1)) (by omega)
    rw [show k + 1 + (12 - (k + 1)) = 12 by omega] at h5
    exact h5
  · rw [if_neg q]
    have h3 := mJ_no h2 ⟨rfl, Or.inl hK⟩ (by cases z : mOk col rel num x (th (12 * t + k)) v he (12 * t + k) with | true => exact absurd z q | false => rfl)
    have h5 := mJ_n h3 (12 - (k + 1))
    rw [show k + 1 + (12 - (k + 1)) = 12 by omega] at h5
    exact h5
def RA (tk : Nat → Bool) (o w th he : qF) : Prop := (∀ j, j < 24 → rE (w j) (he j)) ∧ ∀ t, t < 2 → tk t = true → ∀ j, j < 12 → rE (o (t * 12 + j)) (th (12 * t + j))
theorem step_e {co re nu ma : Nat → qF} {col rel num lis : qF} {p t : Nat} {K K' v v' : Int32} {tk : Nat → Bool} {o w th he : qF} (hP : RP co re nu ma col rel num lis) (hp : p < 3) (ht : t < 2) (hA : RA tk o w th he) (hkv : (K = -1 ∧ K' = -1 ∧ v = -1 ∧ v' = -1) ∨ ((∃ k, k < 12 ∧ K = nI k ∧ K' = nI k) ∧ rE v v')) :
    (qAp1 (co p) (re p) (nu p) (ma p) (tk t) t K v o w = none ∧ mJ col rel num lis (2 * p + t) t K' v' (tk t) th he 12 = none) ∨ ∃ o1 w1 he1, qAp1 (co p) (re p) (nu p) (ma p) (tk t) t K v o w = some (o1, w1) ∧ mJ col rel num lis (2 * p + t) t K' v' (tk t) th he 12 = some he1 ∧ RA tk o1 w1 (mGo th t K' v') he1 := by
  obtain ⟨hw, ho⟩ := hA
  cases htk : tk t with
  | false =>
    refine Or.inr ⟨o, w, he, qAp1_n rfl, mJ_off 12, hw, fun u hu huk j hj => ?_⟩
    have hut : u ≠ t := fun z => by rw [z, htk] at huk; cases huk
    have e : mGo th t K' v' (12 * u + j) = th (12 * u + j) := by
      rcases hkv with ⟨-, e2, -⟩ | ⟨⟨k, hk, -, e2⟩, -⟩
      · rw [mGo_m e2]; exact qFill_in (by omega)
      · rw [mGo_k hk e2]; exact upd_ne (by omega)
    rw [e]; exact ho u hu huk j hj
  | true =>
    rcases hkv with ⟨e1, e2, e3, e4⟩ | ⟨⟨k, hk, e1, e2⟩, hv⟩
    · subst e3; subst e4
      refine Or.inr ⟨_, _, _, qAp1_a (by decide) e1, mJ_all e2 mHas_m1 12, fun j hj => ?_, fun u hu huk j hj => ?_⟩
      · unfold qTaR
        dsimp only
        by_cases q : t * 12 ≤ j ∧ j < t * 12 + 12
        · have h9 := ho t ht htk (j - t * 12) (by omega)
          rw [show t * 12 + (j - t * 12) = j by omega, show 12 * t + (j - t * 12) = j by omega] at h9
          have h8 := has_e hP hp ht h9
          by_cases z : qCho (co p t) (re p t) (nu p t) (ma p t) (o j) = -1
          · rw [if_neg (fun u => u.2.2 z), if_neg (fun u => (h8.mpr u.2) z)]; exact hw j hj
          · rw [if_pos ⟨q.1, q.2, z⟩, if_pos ⟨⟨by omega, by omega⟩, h8.mp z⟩]; exact rE_no
        · rw [if_neg (fun u => q ⟨u.1, u.2.1⟩), if_neg (fun u => q ⟨by omega, by omega⟩)]; exact hw j hj
      · rw [mGo_m e2]
        by_cases z : u = t
        · subst z
          unfold qFill
          rw [if_pos (by omega), if_pos (by omega)]; exact rE_no
        · rw [qFill_in (by omega), qFill_in (by omega)]; exact ho u hu huk j hj
    · rw [mJ_one hk e2, qAp1_k (by decide) hk e1]
      have h9 := ho t ht htk k hk
      have h7 := hw (t * 12 + k) (by omega)
      rw [show 12 * t + k = t * 12 + k by omega] at h9 ⊢
      have hO := has_e hP hp ht h9
      have hN := has_e hP hp ht hv
      by_cases q : qCf (qCho (co p t) (re p t) (nu p t) (ma p t) (o (t * 12 + k))) (qCho (co p t) (re p t) (nu p t) (ma p t) v) (w (t * 12 + k))
      · obtain ⟨q1, q2, q3⟩ := q
        refine Or.inl ⟨if_pos ⟨q1, q2, q3⟩, ?_⟩
        rw [mOk_f ⟨hN.mp q2, by cases z : mHas col rel num (2 * p + t) (th (t * 12 + k)) with | true => exact absurd q1 (hO.mpr z) | false => rfl, fun z => q3 ((rE_m1 h7).mpr z)⟩]
        rfl
      · rw [if_neg q, mOk_t (fun z => q ⟨Classical.byContradiction (fun u => by have := hO.mp u; rw [this] at z; cases z.2.1), hN.mpr z.1, fun u => z.2.2 ((rE_m1 h7).mp u)⟩), if_pos rfl]
        refine Or.inr ⟨_, _, _, rfl, rfl, fun j hj => ?_, fun u hu huk j hj => ?_⟩
        · unfold mOne
          by_cases zn : qCho (co p t) (re p t) (nu p t) (ma p t) v = -1
          · have zn' : ¬ mHas col rel num (2 * p + t) v' = true := fun u => (hN.mpr u) zn
            rw [if_neg zn']
            by_cases zo : qCho (co p t) (re p t) (nu p t) (ma p t) (o (t * 12 + k)) = -1
            · rw [if_pos ⟨zo, zn⟩, if_neg (fun u => (hO.mpr u) zo)]; exact hw j hj
            · rw [if_neg (fun u => zo u.1), if_pos (hO.mp zo), zn]
              by_cases y : j = t * 12 + k
              · rw [y, upd_same, upd_same]; exact rE_no
              · rw [upd_ne y, upd_ne y]; exact hw j hj
          · rw [if_neg (fun u => zn u.2), if_pos (hN.mp zn)]
            by_cases y : j = t * 12 + k
            · rw [y, upd_same, upd_same]; exact cho_v hP hp ht hv (hN.mp zn)
            · rw [upd_ne y, upd_ne y]; exact hw j hj
        · rw [mGo_k hk e2]
          by_cases y : u * 12 + j = t * 12 + k
          · rw [y, show 12 * u + j = 12 * t + k by omega, upd_same, upd_same]; exact hv
          · rw [upd_ne y, upd_ne (by omega)]; exact ho u hu huk j hj
theorem ap_e {co re nu ma : Nat → qF} {col rel num lis : qF} {p si c m : Nat} {cp cop ct ck nr tab key frs o w th he : qF} (hP : RP co re nu ma col rel num lis) (hp : p < 3) (hC : ∀ i, i < m → RC c i ct ck nr tab key frs) (htk : ∀ t, t < 2 → qTk (cp t) (nI (c + 1)) = decide (nI 0 ≤ cop (2 * si + t) ∧ cop (2 * si + t) ≤ nI (c + 1 - 1))) (hA : RA (fun t => qTk (cp t) (nI (c + 1))) o w th he) :
    ∀ i, i ≤ m → (qAp (co p) (re p) (nu p) (ma p) cp (nI (c + 1)) ct ck nr (c * 12) o w i = none ∧ mAp col rel num lis cop tab key frs p si (c + 1) th he i = none) ∨ ∃ o1 w1 th1 he1, qAp (co p) (re p) (nu p) (ma p) cp (nI (c + 1)) ct ck nr (c * 12) o w i = some (o1, w1) ∧ mAp col rel num lis cop tab key frs p si (c + 1) th he i = some (th1, he1) ∧ RA (fun t => qTk (cp t) (nI (c + 1))) o1 w1 th1 he1 := by
  intro i
  induction i with
  | zero => intro _; exact Or.inr ⟨o, w, th, he, rfl, rfl, hA⟩
  | succ i ih =>
    intro hi
    rcases ih (by omega) with ⟨z1, z2⟩ | ⟨o1, w1, th1, he1, z1, z2, hA1⟩
    · exact Or.inl ⟨qAp_none z1 1, mAp_n z2 1⟩
    · obtain ⟨⟨t, ht, et, et'⟩, hkv⟩ := hC i (by omega)
      rw [qAp_s z1 ht et, mAp_s z2 ht et', ← htk t ht]
      rcases step_e (tk := fun t => qTk (cp t) (nI (c + 1))) hP hp ht hA1 hkv with ⟨y1, y2⟩ | ⟨o2, w2, he2, y1, y2, hA2⟩
      · exact Or.inl ⟨y1, by rw [y2]; rfl⟩
      · exact Or.inr ⟨o2, w2, _, he2, y1, by rw [y2]; rfl, hA2⟩
