set_option maxRecDepth 20000 in
theorem kL_part_k7 : Cond.constant RL 7 (2147483647) ∈ wsL_part := by decide +kernel
set_option maxHeartbeats 8000000 in
set_option maxRecDepth 100000 in
theorem zL_part (l : Launch) (D : va_G) (cI cP cS cL : ClassId) (hfl : l.stackTraces = false) (ad la : Nat → Nat) (hinj : ∀ x y, x < 3 → y < 3 → ad (13 + 5 * x) = ad (13 + 5 * y) → x = y) (S : S4) (lp lo lq lb lg : qF) (sb L k nn : Nat) (xs : Nat → Int32) (hL : L ≤ 260) (hk : k < 1000) (hn0 : 0 < nn) (hn1 : nn < 10000)  : xRi l yL_part wsL_part (rmD 1 0 0) D [(cI, .int), (cP, .object RX0), (cS, .object RX2)] sb L xs [.ref sb, .int (nI k), .int (nI nn)] (LW cI cP cS ad la S lp lo lq lb lg) (fun (r : Int32) (_ : Unit) => ∃ j, j < nn ∧ r = nI j) (fun (_ : Unit) => LW cI cP cS ad la S lp lo lq lb lg) 0 0 := by
  refine xe_R (cc := cL_part) (maxL := 4) (ret := (some .int)) (by decide) rfl (Nat.le_of_ble_eq_true rfl) ?_
  intro zp ze s zm below meth zc A ls B hE hX hbl hbA
  obtain ⟨hx, hb, hml, hrt, hts, hown, hnm, hlk, hK, hP, hD, hA, hS, hN, hl⟩ := B
  have hown : s.vm.findClass RL = some zm.cls := hown
  have hl : lv_has ls 4 [(0, .ref sb), (1, .int (nI k)), (2, .int (nI nn))] := hl
  have hA : ∀ q, s.heap.size ≤ q → A q := hA
  refine lv_iload_n hx hb dL_part_0 rfl (lv_at hl 1 rfl) ?_
  refine lv_aload_n hx hb dL_part_1 rfl (lv_at hl 0 rfl) ?_
  refine va_slen hx hb hX hbl hbA hS dL_part_2 ?_
  refine x_cmp_ge (tgt := 12) hx hb (nI_leI (a := L) (b := k) (by omega) (by omega)) dL_part_3 (by decide) (fun c3 => ?_) (fun c3 => ?_)
  · refine lv_sipush (v := nI 389) hx hb dL_part_12 (by decide) ?_
    refine lv_iload_n hx hb dL_part_15 rfl (lv_at hl 1 rfl) ?_
    refine x_mul (k := 389 * k) hx hb dL_part_16 rfl ?_
    refine lv_sipush (v := nI 257) hx hb dL_part_17 (by decide) ?_
    refine lv_iload_n hx hb dL_part_20 rfl (lv_at hl 1 rfl) ?_
    refine x_mul (k := 257 * k) hx hb dL_part_21 rfl ?_
    refine lv_iload_n hx hb dL_part_22 rfl (lv_at hl 1 rfl) ?_
    refine x_mul (k := (257 * k) * k) hx hb dL_part_23 rfl ?_
    refine x_add (k := (389 * k) + ((257 * k) * k)) hx hb dL_part_24 rfl ?_
    refine lv_istore_n (lv' := [(3, .int (nI ((389 * k) + ((257 * k) * k)))), (0, .ref sb), (1, .int (nI k)), (2, .int (nI nn))]) hx hb dL_part_25 rfl hl (by decide) rfl (fun ls hl => ?_)
    obtain ⟨z9, hz9, ez9⟩ := pt_and (nI ((389 * k) + ((257 * k) * k)))
    refine lv_iload_n hx hb dL_part_26 rfl (lv_at hl 0 rfl) ?_
    refine lv_ldc (v := (2147483647 : Int32)) hx hb hown (hts _ kL_part_k7) dL_part_27 ?_
    refine lv_iand hx hb dL_part_29 ?_
    refine x_top (y := nI z9) (ez9) ?_
    refine lv_iload_n hx hb dL_part_30 rfl (lv_at hl 3 rfl) ?_
    refine x_rem (k := z9 % nn) hx hb dL_part_31 (by omega) (by omega) (by omega) rfl ?_
    exact x_ret_i hx hb hrt hlk hP hD hS dL_part_32 ⟨by omega, by omega⟩ (()) ⟨_, Nat.mod_lt _ hn0, rfl⟩ rfl
  · refine lv_aload_n hx hb dL_part_6 rfl (lv_at hl 0 rfl) ?_
    refine lv_iload_n hx hb dL_part_7 rfl (lv_at hl 1 rfl) ?_
    refine x_sld (k := k) hx hb hX hbl hbA hS (by omega) hL dL_part_8 ?_
    refine lv_goto (tgt := 25) hx hb dL_part_9 (by decide) ?_
    refine lv_istore_n (lv' := [(3, .int (xs k)), (0, .ref sb), (1, .int (nI k)), (2, .int (nI nn))]) hx hb dL_part_25 rfl hl (by decide) rfl (fun ls hl => ?_)
    obtain ⟨z9, hz9, ez9⟩ := pt_and (xs k)
    refine lv_iload_n hx hb dL_part_26 rfl (lv_at hl 0 rfl) ?_
    refine lv_ldc (v := (2147483647 : Int32)) hx hb hown (hts _ kL_part_k7) dL_part_27 ?_
    refine lv_iand hx hb dL_part_29 ?_
    refine x_top (y := nI z9) (ez9) ?_
    refine lv_iload_n hx hb dL_part_30 rfl (lv_at hl 3 rfl) ?_
    refine x_rem (k := z9 % nn) hx hb dL_part_31 (by omega) (by omega) (by omega) rfl ?_
    exact x_ret_i hx hb hrt hlk hP hD hS dL_part_32 ⟨by omega, by omega⟩ (()) ⟨_, Nat.mod_lt _ hn0, rfl⟩ rfl
