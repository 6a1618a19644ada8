/-! What the walks of the law's methods take of the shadow; rows that they want beside. -/
abbrev LT : Type := S4 × qF × qF × qF × qF × qF
abbrev LWt (cI cP cS : ClassId) (ad la : Nat → Nat) (T : LT) : va_W := LW cI cP cS ad la T.1 T.2.1 T.2.2.1 T.2.2.2.1 T.2.2.2.2.1 T.2.2.2.2.2
abbrev INT (ad : Nat → Nat) (T : LT) : Prop := INE ad T.1 T.2.1 T.2.2.1 T.2.2.2.1 T.2.2.2.2.1 T.2.2.2.2.2
section ACC
variable {ad bk : Nat → Nat} {kc mi : Nat → Nat → Nat} {cn : Nat} {S : S4} {lp lo lq lb lg : qF}
theorem IN_g0 (h : IN ad bk kc mi cn S lp lo lq lb lg) : lg 0 = nI (s_n S) := (IN_of h).2.2.1
theorem IN_g1 (h : IN ad bk kc mi cn S lp lo lq lb lg) : lg 1 = nI cn := (IN_of h).2.2.2.1
theorem IN_g2 (h : IN ad bk kc mi cn S lp lo lq lb lg) : lg 2 = nI (s_lim S) := (IN_of h).2.2.2.2.1
theorem IN_lim (h : IN ad bk kc mi cn S lp lo lq lb lg) : s_lim S ≤ 50 := (IN_of h).1
theorem IN_n (h : IN ad bk kc mi cn S lp lo lq lb lg) : s_n S ≤ 50 := (IN_of h).2.1
theorem IN_cn (h : IN ad bk kc mi cn S lp lo lq lb lg) : cn ≤ 12 := (IN_of h).2.2.2.2.2.2.2.2.1.1
theorem IN_cc (h : IN ad bk kc mi cn S lp lo lq lb lg) : s_cc S (s_n S) = nI cn := (IN_of h).2.2.2.2.2.2.2.2.1.2.1
theorem IN_p (h : IN ad bk kc mi cn S lp lo lq lb lg) : ∀ i, i < 24 → rE (s_rows S i) (lp i) := (IN_of h).2.2.2.2.2.1
theorem IN_s (h : IN ad bk kc mi cn S lp lo lq lb lg) {i : Nat} (hi : i < 3) : SU ad (s_lim S) (s_n S) (s_co S) (s_re S) (s_nu S) (s_ma S) (s_cr S) (s_pu S i) (s_st S i) (s_sl S i) (s_sr S i) (s_cp S i) (bk i) (kc i) (mi i) (fun j => lb (7 * i + j)) := (IN_of h).2.2.2.2.2.2.2.2.2.2 i hi
theorem IN_b0 (h : IN ad bk kc mi cn S lp lo lq lb lg) {i : Nat} (hi : i < 3) : lb (7 * i) = nI (bk i) := (IN_s h hi).2.2.2.1
theorem IN_b1 (h : IN ad bk kc mi cn S lp lo lq lb lg) {i : Nat} (hi : i < 3) : lb (7 * i + 1) = nI (s_st S i) := (IN_s h hi).2.2.2.2.1
theorem IN_b2 (h : IN ad bk kc mi cn S lp lo lq lb lg) {i : Nat} (hi : i < 3) : lb (7 * i + 2) = nI (s_sl S i) := (IN_s h hi).2.2.2.2.2.1
theorem IN_t (h : IN ad bk kc mi cn S lp lo lq lb lg) {i t : Nat} (hi : i < 3) (ht : t < 2) : ST (s_n S) (s_co S) (s_re S) (s_nu S) (s_ma S) (s_cr S) (s_st S i) (s_sl S i) (s_sr S i) (s_cp S i) (bk i) (kc i) (mi i) (fun j => lb (7 * i + j)) t := (IN_s h hi).2.2.2.2.2.2.2.2.2.2 t ht
theorem IN_b3 (h : IN ad bk kc mi cn S lp lo lq lb lg) {i t : Nat} (hi : i < 3) (ht : t < 2) : lb (7 * i + 3 + t) = eX (kc i t) := by rw [Nat.add_assoc]; exact (IN_t h hi ht).2.2.1
theorem IN_b5 (h : IN ad bk kc mi cn S lp lo lq lb lg) {i t : Nat} (hi : i < 3) (ht : t < 2) : lb (7 * i + 5 + t) = nI (mi i t) := by rw [Nat.add_assoc]; exact (IN_t h hi ht).2.2.2.2.1
theorem IN_b50 (h : IN ad bk kc mi cn S lp lo lq lb lg) {i : Nat} (hi : i < 3) : lb (7 * i + 5) = nI (mi i 0) := IN_b5 h hi (by omega : 0 < 2)
theorem IN_b51 (h : IN ad bk kc mi cn S lp lo lq lb lg) {i : Nat} (hi : i < 3) : lb (7 * i + 6) = nI (mi i 1) := IN_b5 h hi (by omega : 1 < 2)
theorem IN_f (h : IN ad bk kc mi cn S lp lo lq lb lg) {i : Nat} (hi : i < 3) : s_st S i ≤ 3 ∧ s_sl S i ≤ s_n S ∧ bk i < 3 ∧ (s_st S i = 2 → s_sl S i < s_n S) ∧ (s_st S i = 1 ∨ s_st S i = 2 → s_n S - s_sl S i ≤ s_lim S) := ⟨(IN_s h hi).1, (IN_s h hi).2.1, (IN_s h hi).2.2.1, (IN_s h hi).2.2.2.2.2.2.2.1, (IN_s h hi).2.2.2.2.2.2.2.2.1⟩
theorem IN_ft (h : IN ad bk kc mi cn S lp lo lq lb lg) {i t : Nat} (hi : i < 3) (ht : t < 2) : kc i t ≤ s_n S + 1 ∧ mi i t ≤ 1 := ⟨(IN_t h hi ht).1, (IN_t h hi ht).2.2.2.1⟩
theorem IN_cp (h : IN ad bk kc mi cn S lp lo lq lb lg) {i t : Nat} (hi : i < 3) (ht : t < 2) : s_cp S i t = eX (kc i t) := (IN_t h hi ht).2.1
theorem IN_sr (h : IN ad bk kc mi cn S lp lo lq lb lg) {i j : Nat} (hi : i < 3) (hj : j < 24) : VR (s_sr S i j) := (IN_s h hi).2.2.2.2.2.2.2.2.2.1 j hj
theorem IN_pu (h : IN ad bk kc mi cn S lp lo lq lb lg) {i : Nat} (hi : i < 3) : (s_st S i = 0 ∧ s_pu S i = none) ∨ (0 < s_st S i ∧ s_pu S i = some (ad (13 + 5 * bk i))) := (IN_s h hi).2.2.2.2.2.2.1
theorem IN_sts (h : IN ad bk kc mi cn S lp lo lq lb lg) : ∀ i, i < 3 → s_st S i ≤ 3 := fun i hi => (IN_s h hi).1
theorem IN_sls (h : IN ad bk kc mi cn S lp lo lq lb lg) : ∀ i, i < 3 → s_sl S i ≤ s_n S := fun i hi => (IN_s h hi).2.1
end ACC
theorem hsx_of {s : Nat} (hs : s < 2 ^ 31) : ∀ j, j < 3 → nI s = nI j → j = s := fun j hj e => (nI_j e hs (by omega)).symm
theorem hsx_3 {z : Nat} : ∀ j, j < 3 → nI 3 = nI j → j = z := fun j hj e => by have := nI_j e (by omega) (by omega); omega
theorem hsx_m {z : Nat} : ∀ j, j < 3 → (-1 : Int32) = nI j → j = z := fun j hj e => ((m1_n (by omega)).mp e).elim
theorem nx_at {t k c : Nat} (ht : t < 2) (hk : k < 12) (hc : c < 3) : ∀ E : String, ¬ (E = nIO ∧ ¬ (vp_in (nI t) 2 ∧ vp_in (nI k) 12 ∧ vp_in (nI c) 3)) := fun E h => h.2 ⟨vp_in_nI ht (by decide), vp_in_nI hk (by decide), vp_in_nI hc (by decide)⟩
theorem nx_s {s : Nat} (hs : s < 3) : ∀ E : String, ¬ (E = nIO ∧ ¬ vp_in (nI s) 3) := fun E h => h.2 (vp_in_nI hs (by decide))
theorem nx_st {s t : Nat} (hs : s < 3) (ht : t < 2) : ∀ E : String, ¬ (E = nIO ∧ ¬ (vp_in (nI s) 3 ∧ vp_in (nI t) 2)) := fun E h => h.2 ⟨vp_in_nI hs (by decide), vp_in_nI ht (by decide)⟩
theorem nx_seen {s t k c : Nat} (hs : s < 3) (ht : t < 2) (hk : k < 12) (hc : c < 3) : ∀ E : String, ¬ (E = nIO ∧ ¬ (vp_in (nI s) 3 ∧ (vp_in (nI t) 2 ∧ vp_in (nI k) 12) ∧ vp_in (nI c) 3)) := fun E h => h.2 ⟨vp_in_nI hs (by decide), ⟨vp_in_nI ht (by decide), vp_in_nI hk (by decide)⟩, vp_in_nI hc (by decide)⟩
theorem nI_ge0 {k : Nat} (h : k < 2 ^ 31) : 0 ≤ nI k ↔ True := ⟨fun _ => trivial, fun _ => Int32.not_lt.mp (fun q => nI_pos h q)⟩
theorem nI_nm1 {k : Nat} (h : k < 2 ^ 31) : nI k < -1 ↔ False := by
  rw [Int32.lt_iff_toInt_lt, nI_toInt h]
  rw [show (-1 : Int32).toInt = -1 from by decide]
  exact ⟨fun q => absurd q (by omega), False.elim⟩
theorem eX_z0 {k : Nat} (h : k < 2 ^ 30) : eX k = 0 ↔ k = 1 := by
  rw [← nI_0, eX_eq_n h (by decide)]
theorem eX_ng {k : Nat} (h : k < 2 ^ 30) : eX k < 0 ↔ k = 0 := by
  rw [Int32.lt_iff_toInt_lt, eX_int h]
  have : (0 : Int32).toInt = 0 := by decide
  omega
theorem eX_ge {k : Nat} (h : k < 2 ^ 30) : 0 ≤ eX k ↔ 0 < k := by
  rw [Int32.le_iff_toInt_le, eX_int h]
  have : (0 : Int32).toInt = 0 := by decide
  omega
theorem qNum_m {c : Int32} : qNum (-1) c = -1 := by unfold qNum; rw [if_pos rfl]
section LROWS
variable {p : Program} {l : Launch} {e : Env} {R : Room} {s : State} {m : MethodId} {args : Array Value} {below : List Frame} {meth : Method} {c : Code} {H : Heap} {locs : List Loc} {cells slots : Nat} {Q : State → Prop} {cc : ByteArray} {pc : Nat} {ls : Array Slot} {rest st0 : List Value} {D : va_G} {A : Nat → Prop} {H0 : Heap} {nL : Nat}
theorem x_if_ge (hx : p.tables.exec = Jvm.exec) (hb : c.code = cc) {x : Int32} {off : Int} {tgt : Nat} {P : Prop} (hP : 0 ≤ x ↔ P) (hdg : decode cc pc = .ok (.ifCond .ge off, 3)) (ht : (pc : Int) + off = (tgt : Int)) (kt : P → W p l e R s m args below meth c H locs cells slots Q (F0 m tgt ls rest)) (kf : ¬ P → W p l e R s m args below meth c H locs cells slots Q (F0 m (pc + 3) ls rest)) : W p l e R s m args below meth c H locs cells slots Q (F0 m pc ls (.int x :: rest)) :=
  lv_if_ge hx hb hdg ht (fun h => kt (hP.mp h)) (fun h => kf (fun q => h (hP.mpr q)))
/-- two ways that come together -/
theorem x_join {σ : Type} (pre : σ → Prop) (pcJ : Nat) (cs ss : σ → Nat) (w : σ → va_W) (lv : σ → List (Nat × Value)) (st : σ → List Value)
    (cont : ∀ x : σ, pre x → ∀ (H : Heap) (locs : List Loc) (ls : Array Slot), va_P D vwCl (w x) H → va_D A (w x) → va_S A H0 H locs → lv_has ls nL (lv x) → W p l e R s m args below meth c H locs (cs x) (ss x) Q (F0 m pcJ ls (st x)))
    (main : (∀ x : σ, pre x → ∀ (H : Heap) (locs : List Loc) (ls : Array Slot), va_P D vwCl (w x) H → va_D A (w x) → va_S A H0 H locs → lv_has ls nL (lv x) → W p l e R s m args below meth c H locs (cs x) (ss x) Q (F0 m pcJ ls (st x))) → W p l e R s m args below meth c H locs cells slots Q (F0 m pc ls st0)) : W p l e R s m args below meth c H locs cells slots Q (F0 m pc ls st0) := main cont
end LROWS
