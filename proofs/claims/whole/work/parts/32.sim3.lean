/-! copy and isFaithful: class and model answer alike. -/
section SIM
variable {ad bk : Nat → Nat} {lim n cn si pi : Nat} {rows cc ct ck nr cr old rw : qF} {co re nu ma sr cp : Nat → qF} {pu : Nat → Option Nat} {st sl : Nat → Nat} {th : Int32} {row kept chg tab key frs col rel num lis boo sta slo cop see the her : qF} {out : Nat → Int64} {k r : Int32} {q : S4 × (Nat → Int64)} {q1 : S4} {q2 : S5}
theorem sM_copy {sx tx : Int32} (hsx : ∀ j, j < 3 → sx = nI j → j = si) (hR : RR ad bk lim n rows cc ct ck nr cr co re nu ma sr cp pu st sl row kept chg tab key frs col rel num lis boo sta slo cop see) (hcc : cc n = nI cn) (h1 : PL_copy ad lim n rows cc ct ck nr cr old rw co re nu ma sr cp pu st sl si (bk si) cn sx tx out k q) (h2 : PM_copy th n lim row kept chg tab key frs col rel num lis boo sta slo cop see the her cn st bk sx tx r q2) : SIMi ad k r q q2 := by
  have hR9 := hR
  obtain ⟨hlim, hn, hT, hP, hS⟩ := hR
  obtain ⟨h, a4, a1, hd, rfl⟩ := h2
  rcases h1 with ⟨tn, r0, ⟨rfl, ⟨rfl, hs, rfl, ht⟩, ⟨hst, hcn⟩, er⟩, rfl⟩ | ⟨hx, rfl⟩
  · rcases hd with ⟨z, -⟩ | ⟨si', tn', e1, hs', e2, ht', z, -⟩ | ⟨si', tn', e1, hs', e2, ht', -, rfl, er', rfl, rfl⟩
    · exact absurd ⟨vp_in_nI hs (by decide), vp_in_nI ht (by decide)⟩ z
    · obtain rfl := nI_j e1 (by omega) (by omega)
      exact absurd ⟨hst, hcn⟩ z
    · obtain rfl := nI_j e1 (by omega) (by omega)
      obtain rfl := nI_j e2 (by omega) (by omega)
      have hb := (hS si hs).2.2.2.2.1
      have hrow : ∀ j, j < 24 → rE (rows j) (kept (24 * n + j)) := fun j hj => by
        rw [hT.2.2.2.2 (by rw [hcc, hcn]) j hj]; exact hT.2.1 n (Nat.le_refl n) j hj
      have hch : ∀ j, j < 24 → rE (qCho (co (bk si) tn) (re (bk si) tn) (nu (bk si) tn) (ma (bk si) tn) (rows j)) (mSel (col (2 * bk si + tn)) (rel (2 * bk si + tn)) (num (2 * bk si + tn)) (lis (2 * bk si + tn)) (kept (24 * n + j))) := fun j hj => RP_cho hP hb ht (hrow j hj)
      refine ⟨rfl, fun _ => (updL_0 out r0.toInt64).trans ?_, bk, rfl, rfl, hlim, hn, hT, hP, fun i hi => ?_⟩
      · rw [er, er']
        refine congrArg (fun z => (nI z).toInt64) (cnt_m 12 (fun j hj => ?_))
        have h9 := rE_m1 (hch (tn * 12 + j) (by omega))
        rw [show 24 * n + (tn * 12 + j) = 24 * n + 12 * tn + j by omega] at h9
        exact h9
      · by_cases z : i = si
        · subst z
          obtain ⟨g1, g2, g3, g4, g5, g6, g7, g8, g9, g10⟩ := hS i hi
          unfold RS
          rw [up_same, up_same]
          refine ⟨g1, g2, g3, g4, g5, g6, g7, g8, fun t ht9 => ?_, fun j hj => ?_⟩
          · by_cases y : t = tn
            · rw [y, upd_same, upd_same]; exact ⟨rfl, Or.inr ⟨n, Nat.le_refl n, rfl⟩⟩
            · rw [upd_ne y, upd_ne (by omega)]; exact g9 t ht9
          · unfold qMap mPut
            by_cases y : tn * 12 ≤ j ∧ j < tn * 12 + 12
            · rw [if_pos y, if_pos (by omega)]
              have h9 := hch j hj
              rw [show 24 * n + j = 24 * n + 12 * tn + (24 * i + j - (24 * i + 12 * tn)) by omega] at h9
              exact h9
            · rw [if_neg y, if_neg (by omega)]; exact g10 j hj
        · refine RS_of (hS i hi) rfl rfl rfl rfl (up_ne z) (up_ne z) rfl rfl rfl (fun t ht9 => by rw [upd_ne (by omega)]) (fun j hj => ?_)
          unfold mPut
          rw [if_neg (by omega)]
  · rcases hx with ⟨rfl, hx⟩ | ⟨rfl, hx⟩
    · rcases hd with ⟨-, rfl, rfl, rfl⟩ | ⟨si', tn', e1, hs', e2, ht', -⟩ | ⟨si', tn', e1, hs', e2, ht', -⟩
      · exact ⟨rfl, fun z => absurd z n01, bk, rfl, rfl, hR9⟩
      · exact absurd ⟨in2 e1 hs' (by decide), in2 e2 ht' (by decide)⟩ hx
      · exact absurd ⟨in2 e1 hs' (by decide), in2 e2 ht' (by decide)⟩ hx
    · rcases hd with ⟨z, -⟩ | ⟨si', tn', e1, hs', e2, ht', -, rfl, rfl, rfl⟩ | ⟨si', tn', e1, hs', e2, ht', z, -⟩
      · exact absurd hx.1 z
      · exact ⟨rfl, fun z => absurd z n02, bk, rfl, rfl, hR9⟩
      · obtain rfl := hsx si' hs' e1
        exact absurd z hx.2
theorem sM_isFaithful {sx tx : Int32} (hsx : ∀ j, j < 3 → sx = nI j → j = si) (hR : RR ad bk lim n rows cc ct ck nr cr co re nu ma sr cp pu st sl row kept chg tab key frs col rel num lis boo sta slo cop see) (h1 : PL_isFaithful ad lim n rows cc ct ck nr cr old rw co re nu ma sr cp pu st sl si (bk si) sx tx out k q) (h2 : PM_isFaithful th n lim row kept chg tab key frs col rel num lis boo sta slo cop see the her st sl bk sx tx r q2) : SIMz ad k r q q2 := by
  have hR9 := hR
  obtain ⟨hlim, hn, hT, hP, hS⟩ := hR
  obtain ⟨h, hd, rfl⟩ := h2
  rcases h1 with ⟨tn, ca, r0, ⟨rfl, ⟨rfl, hs, rfl, ht⟩, hst, ⟨hca, hca5⟩, er⟩, rfl⟩ | ⟨hx, rfl⟩
  · have hc := (hS si hs).2.2.2.2.2.2.2.2.1 tn ht
    rcases hd with ⟨z, -⟩ | ⟨si', tn', e1, hs', e2, ht', z, -⟩ | ⟨si', tn', ca', e1, hs', e2, ht', -, hca', hca5', rfl, er'⟩
    · exact absurd ⟨vp_in_nI hs (by decide), vp_in_nI ht (by decide)⟩ z
    · obtain rfl := nI_j e1 (by omega) (by omega)
      obtain rfl := nI_j e2 (by omega) (by omega)
      rcases z with z | z
      · exact absurd hst z
      · rw [← hc.1, hca] at z
        exact ((nI_m1 (by omega)).mp z).elim
    · obtain rfl := nI_j e1 (by omega) (by omega)
      obtain rfl := nI_j e2 (by omega) (by omega)
      have ec : ca = ca' := nI_j (hca.symm.trans (hc.1.trans hca')) (by omega) (by omega)
      subst ec
      refine ⟨rfl, fun _ => (updL_0 out (cB r0)).trans ?_, bk, rfl, rfl, hR9⟩
      have hcn : ca ≤ n := by
        rcases hc.2 with z | ⟨c, hc9, z⟩
        · rw [hca] at z; exact ((nI_m1 (by omega)).mp z).elim
        · have := nI_j (hca.symm.trans z) (by omega) (by omega); omega
      have hsn := (hS si hs).2.2.1
      have hb := (hS si hs).2.2.2.2.1
      obtain ⟨as, has⟩ : ∃ z, z = (if sl si < ca then ca else sl si) := ⟨_, rfl⟩
      have hasn : as ≤ n := by rw [has]; split <;> omega
      have key : ∀ i, i < 12 → (sr si (tn * 12 + i) = qCho (co (bk si) tn) (re (bk si) tn) (nu (bk si) tn) (ma (bk si) tn) (cr (as * 24 + (tn * 12 + i))) ↔ see (24 * si + 12 * tn + i) = mSel (col (2 * bk si + tn)) (rel (2 * bk si + tn)) (num (2 * bk si + tn)) (lis (2 * bk si + tn)) (kept (24 * as + 12 * tn + i))) := fun i hi => by
        have g1 := (hS si hs).2.2.2.2.2.2.2.2.2 (tn * 12 + i) (by omega)
        have g2 := RP_cho hP hb ht (hT.2.1 as hasn (tn * 12 + i) (by omega))
        rw [show 24 * si + (tn * 12 + i) = 24 * si + 12 * tn + i by omega] at g1
        rw [show 24 * as + (tn * 12 + i) = 24 * as + 12 * tn + i by omega] at g2
        exact rE_inj g1 g2
      rw [← has] at er er'
      rcases er with ⟨rfl, er⟩ | ⟨rfl, er⟩ <;> rcases er' with ⟨rfl, er'⟩ | ⟨rfl, er'⟩
      · rfl
      · exact absurd (fun i hi => (key i hi).mp (er i hi)) er'
      · exact absurd (fun i hi => (key i hi).mpr (er' i hi)) er
      · rfl
  · rcases hx with ⟨rfl, hx⟩ | ⟨rfl, hx1, tn, rfl, ht, hx⟩
    · rcases hd with ⟨-, rfl⟩ | ⟨si', tn', e1, hs', e2, ht', -⟩ | ⟨si', tn', ca', e1, hs', e2, ht', -⟩
      · exact ⟨rfl, fun z => absurd z n01, bk, rfl, rfl, hR9⟩
      · exact absurd ⟨in2 e1 hs' (by decide), in2 e2 ht' (by decide)⟩ hx
      · exact absurd ⟨in2 e1 hs' (by decide), in2 e2 ht' (by decide)⟩ hx
    · rcases hd with ⟨z, -⟩ | ⟨si', tn', e1, hs', e2, ht', -, rfl⟩ | ⟨si', tn', ca', e1, hs', e2, ht', z, hca', hca5', -⟩
      · exact absurd ⟨hx1, vp_in_nI ht (by decide)⟩ z
      · exact ⟨rfl, fun z => absurd z n02, bk, rfl, rfl, hR9⟩
      · obtain rfl := hsx si' hs' e1
        obtain rfl := nI_j e2 (by omega) (by omega)
        rcases hx with hx | hx
        · exact absurd z hx
        · rw [((hS _ hs').2.2.2.2.2.2.2.2.1 tn ht).1, hca'] at hx
          exact ((nI_m1 (by omega)).mp hx).elim
end SIM
