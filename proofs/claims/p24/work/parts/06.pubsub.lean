set_option maxRecDepth 20000 in
theorem kX4_checkTable_c199 : Cond.classLink RX4 199 "java/lang/IndexOutOfBoundsException" ∈ wsX4_checkTable := by decide +kernel
set_option maxRecDepth 20000 in
theorem kX4_checkTable_inIO : Cond.initialized "java/lang/IndexOutOfBoundsException" ∈ wsX4_checkTable := by decide +kernel
set_option maxRecDepth 20000 in
theorem kX4_checkTable_t203 : ∀ w ∈ (vx_atS RX4 203 "java/lang/IndexOutOfBoundsException" ["java/lang/RuntimeException", "java/lang/Exception"]).filter goodWord, w ∈ wsX4_checkTable := fun _ h => List.mem_cons_of_mem _ (List.mem_append_right _ h)
set_option maxHeartbeats 4000000 in
set_option maxRecDepth 100000 in
theorem zX4_checkTable (l : Launch) (D : va_G) (cI cP cS cL : ClassId) (hfl : l.stackTraces = false) (x : Int32)  : xXv l yX4_checkTable wsX4_checkTable (rmD 6 1 6) D [(cI, .int), (cP, .object RX0), (cS, .object RX2)] [.int x] [] (fun (u : Nat) => match u with | xn => (x = nI xn ∧ xn < 2)) (fun (u : Nat) => match u with | xn => []) (fun E => E = nIO ∧ ¬ vp_in x 2) 1 6 := by
  refine xe_Xv (cc := cX4_checkTable) (maxL := 1) (ret := none) (by decide) rfl (Nat.le_of_ble_eq_true rfl) ?_
  intro zp ze s zm below meth zc A ls B htab hE
  obtain ⟨hx, hb, hml, hrt, hts, hown, hnm, hlk, hK, hP, hD, hA, hS, hN, hl⟩ := B
  have hown : s.vm.findClass RX4 = some zm.cls := hown
  have hl : lv_has ls 1 [(0, .int x)] := hl
  have hA : ∀ q, s.heap.size ≤ q → A q := hA
  refine lv_iload_n hx hb dX4_checkTable_0 rfl (lv_at hl 0 rfl) ?_
  refine x_if_lt (tgt := 9) hx hb (Iff.rfl) dX4_checkTable_1 (by decide) (fun c1 => ?_) (fun c1 => ?_)
  · exact x_throw (text := "a table is 0 or 1") hx hb hml hfl htab hlk hown hts (by decide) kX4_checkTable_c199 kX4_checkTable_inIO kX4_checkTable_t203 xg_203_nIO_n xg_203_nIO_g (by decide) hE hP hD hS hl.1 dX4_checkTable_9 dX4_checkTable_12 dX4_checkTable_13 dX4_checkTable_15 dX4_checkTable_18 ⟨by decide, by decide, by decide, by decide⟩ ⟨by decide, by decide⟩ ⟨rfl, in_neg c1⟩
  · refine lv_iload_n hx hb dX4_checkTable_4 rfl (lv_at hl 0 rfl) ?_
    refine lv_iconst (v := nI 2) hx hb dX4_checkTable_5 (by decide) ?_
    refine x_cmp_lt (tgt := 19) hx hb (Iff.rfl) dX4_checkTable_6 (by decide) (fun c6 => ?_) (fun c6 => ?_)
    · obtain ⟨j9, hj9, ej9⟩ := vp_in_of (in_lt (by decide) c1 (Int32.not_le.mpr c6)) (by decide)
      exact vx_ret (x_ret_v hx hb hrt hlk hP hD hS dX4_checkTable_19 ⟨by decide, by decide⟩ j9 ⟨ej9, hj9⟩ rfl)
    · exact x_throw (text := "a table is 0 or 1") hx hb hml hfl htab hlk hown hts (by decide) kX4_checkTable_c199 kX4_checkTable_inIO kX4_checkTable_t203 xg_203_nIO_n xg_203_nIO_g (by decide) hE hP hD hS hl.1 dX4_checkTable_9 dX4_checkTable_12 dX4_checkTable_13 dX4_checkTable_15 dX4_checkTable_18 ⟨by decide, by decide, by decide, by decide⟩ ⟨by decide, by decide⟩ ⟨rfl, in_big (by decide) (Int32.not_lt.mp c6)⟩

set_option maxRecDepth 20000 in
theorem kX4_checkColumn_c199 : Cond.classLink RX4 199 "java/lang/IndexOutOfBoundsException" ∈ wsX4_checkColumn := by decide +kernel
set_option maxRecDepth 20000 in
theorem kX4_checkColumn_inIO : Cond.initialized "java/lang/IndexOutOfBoundsException" ∈ wsX4_checkColumn := by decide +kernel
set_option maxRecDepth 20000 in
theorem kX4_checkColumn_t203 : ∀ w ∈ (vx_atS RX4 203 "java/lang/IndexOutOfBoundsException" ["java/lang/RuntimeException", "java/lang/Exception"]).filter goodWord, w ∈ wsX4_checkColumn := fun _ h => List.mem_cons_of_mem _ (List.mem_append_right _ h)
set_option maxHeartbeats 4000000 in
set_option maxRecDepth 100000 in
theorem zX4_checkColumn (l : Launch) (D : va_G) (cI cP cS cL : ClassId) (hfl : l.stackTraces = false) (x : Int32)  : xXv l yX4_checkColumn wsX4_checkColumn (rmD 6 1 6) D [(cI, .int), (cP, .object RX0), (cS, .object RX2)] [.int x] [] (fun (u : Nat) => match u with | xn => (x = nI xn ∧ xn < 3)) (fun (u : Nat) => match u with | xn => []) (fun E => E = nIO ∧ ¬ vp_in x 3) 1 6 := by
  refine xe_Xv (cc := cX4_checkColumn) (maxL := 1) (ret := none) (by decide) rfl (Nat.le_of_ble_eq_true rfl) ?_
  intro zp ze s zm below meth zc A ls B htab hE
  obtain ⟨hx, hb, hml, hrt, hts, hown, hnm, hlk, hK, hP, hD, hA, hS, hN, hl⟩ := B
  have hown : s.vm.findClass RX4 = some zm.cls := hown
  have hl : lv_has ls 1 [(0, .int x)] := hl
  have hA : ∀ q, s.heap.size ≤ q → A q := hA
  refine lv_iload_n hx hb dX4_checkColumn_0 rfl (lv_at hl 0 rfl) ?_
  refine x_if_lt (tgt := 9) hx hb (Iff.rfl) dX4_checkColumn_1 (by decide) (fun c1 => ?_) (fun c1 => ?_)
  · exact x_throw (text := "a column is 0 to 2") hx hb hml hfl htab hlk hown hts (by decide) kX4_checkColumn_c199 kX4_checkColumn_inIO kX4_checkColumn_t203 xg_203_nIO_n xg_203_nIO_g (by decide) hE hP hD hS hl.1 dX4_checkColumn_9 dX4_checkColumn_12 dX4_checkColumn_13 dX4_checkColumn_15 dX4_checkColumn_18 ⟨by decide, by decide, by decide, by decide⟩ ⟨by decide, by decide⟩ ⟨rfl, in_neg c1⟩
  · refine lv_iload_n hx hb dX4_checkColumn_4 rfl (lv_at hl 0 rfl) ?_
    refine lv_iconst (v := nI 3) hx hb dX4_checkColumn_5 (by decide) ?_
    refine x_cmp_lt (tgt := 19) hx hb (Iff.rfl) dX4_checkColumn_6 (by decide) (fun c6 => ?_) (fun c6 => ?_)
    · obtain ⟨j9, hj9, ej9⟩ := vp_in_of (in_lt (by decide) c1 (Int32.not_le.mpr c6)) (by decide)
      exact vx_ret (x_ret_v hx hb hrt hlk hP hD hS dX4_checkColumn_19 ⟨by decide, by decide⟩ j9 ⟨ej9, hj9⟩ rfl)
    · exact x_throw (text := "a column is 0 to 2") hx hb hml hfl htab hlk hown hts (by decide) kX4_checkColumn_c199 kX4_checkColumn_inIO kX4_checkColumn_t203 xg_203_nIO_n xg_203_nIO_g (by decide) hE hP hD hS hl.1 dX4_checkColumn_9 dX4_checkColumn_12 dX4_checkColumn_13 dX4_checkColumn_15 dX4_checkColumn_18 ⟨by decide, by decide, by decide, by decide⟩ ⟨by decide, by decide⟩ ⟨rfl, in_big (by decide) (Int32.not_lt.mp c6)⟩

set_option maxRecDepth 20000 in
theorem kX4_checkPublication_c199 : Cond.classLink RX4 199 "java/lang/IndexOutOfBoundsException" ∈ wsX4_checkPublication := by decide +kernel
set_option maxRecDepth 20000 in
theorem kX4_checkPublication_inIO : Cond.initialized "java/lang/IndexOutOfBoundsException" ∈ wsX4_checkPublication := by decide +kernel
set_option maxRecDepth 20000 in
theorem kX4_checkPublication_t203 : ∀ w ∈ (vx_atS RX4 203 "java/lang/IndexOutOfBoundsException" ["java/lang/RuntimeException", "java/lang/Exception"]).filter goodWord, w ∈ wsX4_checkPublication := fun _ h => List.mem_cons_of_mem _ (List.mem_append_right _ h)
set_option maxHeartbeats 4000000 in
set_option maxRecDepth 100000 in
theorem zX4_checkPublication (l : Launch) (D : va_G) (cI cP cS cL : ClassId) (hfl : l.stackTraces = false) (x : Int32)  : xXv l yX4_checkPublication wsX4_checkPublication (rmD 6 1 6) D [(cI, .int), (cP, .object RX0), (cS, .object RX2)] [.int x] [] (fun (u : Nat) => match u with | xn => (x = nI xn ∧ xn < 3)) (fun (u : Nat) => match u with | xn => []) (fun E => E = nIO ∧ ¬ vp_in x 3) 1 6 := by
  refine xe_Xv (cc := cX4_checkPublication) (maxL := 1) (ret := none) (by decide) rfl (Nat.le_of_ble_eq_true rfl) ?_
  intro zp ze s zm below meth zc A ls B htab hE
  obtain ⟨hx, hb, hml, hrt, hts, hown, hnm, hlk, hK, hP, hD, hA, hS, hN, hl⟩ := B
  have hown : s.vm.findClass RX4 = some zm.cls := hown
  have hl : lv_has ls 1 [(0, .int x)] := hl
  have hA : ∀ q, s.heap.size ≤ q → A q := hA
  refine lv_iload_n hx hb dX4_checkPublication_0 rfl (lv_at hl 0 rfl) ?_
  refine x_if_lt (tgt := 9) hx hb (Iff.rfl) dX4_checkPublication_1 (by decide) (fun c1 => ?_) (fun c1 => ?_)
  · exact x_throw (text := "a publication is 0 to 2") hx hb hml hfl htab hlk hown hts (by decide) kX4_checkPublication_c199 kX4_checkPublication_inIO kX4_checkPublication_t203 xg_203_nIO_n xg_203_nIO_g (by decide) hE hP hD hS hl.1 dX4_checkPublication_9 dX4_checkPublication_12 dX4_checkPublication_13 dX4_checkPublication_15 dX4_checkPublication_18 ⟨by decide, by decide, by decide, by decide⟩ ⟨by decide, by decide⟩ ⟨rfl, in_neg c1⟩
  · refine lv_iload_n hx hb dX4_checkPublication_4 rfl (lv_at hl 0 rfl) ?_
    refine lv_iconst (v := nI 3) hx hb dX4_checkPublication_5 (by decide) ?_
    refine x_cmp_lt (tgt := 19) hx hb (Iff.rfl) dX4_checkPublication_6 (by decide) (fun c6 => ?_) (fun c6 => ?_)
    · obtain ⟨j9, hj9, ej9⟩ := vp_in_of (in_lt (by decide) c1 (Int32.not_le.mpr c6)) (by decide)
      exact vx_ret (x_ret_v hx hb hrt hlk hP hD hS dX4_checkPublication_19 ⟨by decide, by decide⟩ j9 ⟨ej9, hj9⟩ rfl)
    · exact x_throw (text := "a publication is 0 to 2") hx hb hml hfl htab hlk hown hts (by decide) kX4_checkPublication_c199 kX4_checkPublication_inIO kX4_checkPublication_t203 xg_203_nIO_n xg_203_nIO_g (by decide) hE hP hD hS hl.1 dX4_checkPublication_9 dX4_checkPublication_12 dX4_checkPublication_13 dX4_checkPublication_15 dX4_checkPublication_18 ⟨by decide, by decide, by decide, by decide⟩ ⟨by decide, by decide⟩ ⟨rfl, in_big (by decide) (Int32.not_lt.mp c6)⟩

set_option maxRecDepth 20000 in
theorem kX4_checkSubscriber_c199 : Cond.classLink RX4 199 "java/lang/IndexOutOfBoundsException" ∈ wsX4_checkSubscriber := by decide +kernel
set_option maxRecDepth 20000 in
theorem kX4_checkSubscriber_inIO : Cond.initialized "java/lang/IndexOutOfBoundsException" ∈ wsX4_checkSubscriber := by decide +kernel
set_option maxRecDepth 20000 in
theorem kX4_checkSubscriber_t203 : ∀ w ∈ (vx_atS RX4 203 "java/lang/IndexOutOfBoundsException" ["java/lang/RuntimeException", "java/lang/Exception"]).filter goodWord, w ∈ wsX4_checkSubscriber := fun _ h => List.mem_cons_of_mem _ (List.mem_append_right _ h)
set_option maxHeartbeats 4000000 in
set_option maxRecDepth 100000 in
theorem zX4_checkSubscriber (l : Launch) (D : va_G) (cI cP cS cL : ClassId) (hfl : l.stackTraces = false) (x : Int32)  : xXv l yX4_checkSubscriber wsX4_checkSubscriber (rmD 6 1 6) D [(cI, .int), (cP, .object RX0), (cS, .object RX2)] [.int x] [] (fun (u : Nat) => match u with | xn => (x = nI xn ∧ xn < 3)) (fun (u : Nat) => match u with | xn => []) (fun E => E = nIO ∧ ¬ vp_in x 3) 1 6 := by
  refine xe_Xv (cc := cX4_checkSubscriber) (maxL := 1) (ret := none) (by decide) rfl (Nat.le_of_ble_eq_true rfl) ?_
  intro zp ze s zm below meth zc A ls B htab hE
  obtain ⟨hx, hb, hml, hrt, hts, hown, hnm, hlk, hK, hP, hD, hA, hS, hN, hl⟩ := B
  have hown : s.vm.findClass RX4 = some zm.cls := hown
  have hl : lv_has ls 1 [(0, .int x)] := hl
  have hA : ∀ q, s.heap.size ≤ q → A q := hA
  refine lv_iload_n hx hb dX4_checkSubscriber_0 rfl (lv_at hl 0 rfl) ?_
  refine x_if_lt (tgt := 9) hx hb (Iff.rfl) dX4_checkSubscriber_1 (by decide) (fun c1 => ?_) (fun c1 => ?_)
  · exact x_throw (text := "a subscriber is 0 to 2") hx hb hml hfl htab hlk hown hts (by decide) kX4_checkSubscriber_c199 kX4_checkSubscriber_inIO kX4_checkSubscriber_t203 xg_203_nIO_n xg_203_nIO_g (by decide) hE hP hD hS hl.1 dX4_checkSubscriber_9 dX4_checkSubscriber_12 dX4_checkSubscriber_13 dX4_checkSubscriber_15 dX4_checkSubscriber_18 ⟨by decide, by decide, by decide, by decide⟩ ⟨by decide, by decide⟩ ⟨rfl, in_neg c1⟩
  · refine lv_iload_n hx hb dX4_checkSubscriber_4 rfl (lv_at hl 0 rfl) ?_
    refine lv_iconst (v := nI 3) hx hb dX4_checkSubscriber_5 (by decide) ?_
    refine x_cmp_lt (tgt := 19) hx hb (Iff.rfl) dX4_checkSubscriber_6 (by decide) (fun c6 => ?_) (fun c6 => ?_)
    · obtain ⟨j9, hj9, ej9⟩ := vp_in_of (in_lt (by decide) c1 (Int32.not_le.mpr c6)) (by decide)
      exact vx_ret (x_ret_v hx hb hrt hlk hP hD hS dX4_checkSubscriber_19 ⟨by decide, by decide⟩ j9 ⟨ej9, hj9⟩ rfl)
    · exact x_throw (text := "a subscriber is 0 to 2") hx hb hml hfl htab hlk hown hts (by decide) kX4_checkSubscriber_c199 kX4_checkSubscriber_inIO kX4_checkSubscriber_t203 xg_203_nIO_n xg_203_nIO_g (by decide) hE hP hD hS hl.1 dX4_checkSubscriber_9 dX4_checkSubscriber_12 dX4_checkSubscriber_13 dX4_checkSubscriber_15 dX4_checkSubscriber_18 ⟨by decide, by decide, by decide, by decide⟩ ⟨by decide, by decide⟩ ⟨rfl, in_big (by decide) (Int32.not_lt.mp c6)⟩

set_option maxRecDepth 20000 in
theorem kX4_checkNumber_c102 : Cond.classLink RX4 102 "java/lang/IllegalArgumentException" ∈ wsX4_checkNumber := by decide +kernel
set_option maxRecDepth 20000 in
theorem kX4_checkNumber_inIA : Cond.initialized "java/lang/IllegalArgumentException" ∈ wsX4_checkNumber := by decide +kernel
set_option maxRecDepth 20000 in
theorem kX4_checkNumber_t106 : ∀ w ∈ (vx_atS RX4 106 "java/lang/IllegalArgumentException" ["java/lang/RuntimeException", "java/lang/Exception"]).filter goodWord, w ∈ wsX4_checkNumber := fun _ h => List.mem_cons_of_mem _ (List.mem_append_right _ h)
set_option maxHeartbeats 4000000 in
set_option maxRecDepth 100000 in
theorem zX4_checkNumber (l : Launch) (D : va_G) (cI cP cS cL : ClassId) (hfl : l.stackTraces = false) (x : Int32)  : xXv l yX4_checkNumber wsX4_checkNumber (rmD 6 1 6) D [(cI, .int), (cP, .object RX0), (cS, .object RX2)] [.int x] [] (fun (u : Nat) => match u with | xn => (x = nI xn ∧ xn < 100)) (fun (u : Nat) => match u with | xn => []) (fun E => E = nIA ∧ ¬ vp_in x 100) 1 6 := by
  refine xe_Xv (cc := cX4_checkNumber) (maxL := 1) (ret := none) (by decide) rfl (Nat.le_of_ble_eq_true rfl) ?_
  intro zp ze s zm below meth zc A ls B htab hE
  obtain ⟨hx, hb, hml, hrt, hts, hown, hnm, hlk, hK, hP, hD, hA, hS, hN, hl⟩ := B
  have hown : s.vm.findClass RX4 = some zm.cls := hown
  have hl : lv_has ls 1 [(0, .int x)] := hl
  have hA : ∀ q, s.heap.size ≤ q → A q := hA
  refine lv_iload_n hx hb dX4_checkNumber_0 rfl (lv_at hl 0 rfl) ?_
  refine x_if_lt (tgt := 10) hx hb (Iff.rfl) dX4_checkNumber_1 (by decide) (fun c1 => ?_) (fun c1 => ?_)
  · exact x_throw (text := "a number is 0 to 99") hx hb hml hfl htab hlk hown hts (by decide) kX4_checkNumber_c102 kX4_checkNumber_inIA kX4_checkNumber_t106 xg_106_nIA_n xg_106_nIA_g (by decide) hE hP hD hS hl.1 dX4_checkNumber_10 dX4_checkNumber_13 dX4_checkNumber_14 dX4_checkNumber_16 dX4_checkNumber_19 ⟨by decide, by decide, by decide, by decide⟩ ⟨by decide, by decide⟩ ⟨rfl, in_neg c1⟩
  · refine lv_iload_n hx hb dX4_checkNumber_4 rfl (lv_at hl 0 rfl) ?_
    refine lv_bipush (v := nI 100) hx hb dX4_checkNumber_5 (by decide) ?_
    refine x_cmp_lt (tgt := 20) hx hb (Iff.rfl) dX4_checkNumber_7 (by decide) (fun c7 => ?_) (fun c7 => ?_)
    · obtain ⟨j9, hj9, ej9⟩ := vp_in_of (in_lt (by decide) c1 (Int32.not_le.mpr c7)) (by decide)
      exact vx_ret (x_ret_v hx hb hrt hlk hP hD hS dX4_checkNumber_20 ⟨by decide, by decide⟩ j9 ⟨ej9, hj9⟩ rfl)
    · exact x_throw (text := "a number is 0 to 99") hx hb hml hfl htab hlk hown hts (by decide) kX4_checkNumber_c102 kX4_checkNumber_inIA kX4_checkNumber_t106 xg_106_nIA_n xg_106_nIA_g (by decide) hE hP hD hS hl.1 dX4_checkNumber_10 dX4_checkNumber_13 dX4_checkNumber_14 dX4_checkNumber_16 dX4_checkNumber_19 ⟨by decide, by decide, by decide, by decide⟩ ⟨by decide, by decide⟩ ⟨rfl, in_big (by decide) (Int32.not_lt.mp c7)⟩

set_option maxRecDepth 20000 in
theorem kX4_checkKey_c199 : Cond.classLink RX4 199 "java/lang/IndexOutOfBoundsException" ∈ wsX4_checkKey := by decide +kernel
set_option maxRecDepth 20000 in
theorem kX4_checkKey_inIO : Cond.initialized "java/lang/IndexOutOfBoundsException" ∈ wsX4_checkKey := by decide +kernel
set_option maxRecDepth 20000 in
theorem kX4_checkKey_t203 : ∀ w ∈ (vx_atS RX4 203 "java/lang/IndexOutOfBoundsException" ["java/lang/RuntimeException", "java/lang/Exception"]).filter goodWord, w ∈ wsX4_checkKey := fun _ h => List.mem_cons_of_mem _ (List.mem_append_right _ h)
set_option maxHeartbeats 4000000 in
set_option maxRecDepth 100000 in
theorem zX4_checkKey (l : Launch) (D : va_G) (cI cP cS cL : ClassId) (hfl : l.stackTraces = false) (x y : Int32)  : xXv l yX4_checkKey wsX4_checkKey (rmD 7 2 12) D [(cI, .int), (cP, .object RX0), (cS, .object RX2)] [.int x, .int y] [] (fun (u : Nat × Nat) => match u with | (xn, yn) => (x = nI xn ∧ xn < 2 ∧ y = nI yn ∧ yn < 12)) (fun (u : Nat × Nat) => match u with | (xn, yn) => []) (fun E => E = nIO ∧ ¬ (vp_in x 2 ∧ vp_in y 12)) 2 12 := by
  refine xe_Xv (cc := cX4_checkKey) (maxL := 2) (ret := none) (by decide) rfl (Nat.le_of_ble_eq_true rfl) ?_
  intro zp ze s zm below meth zc A ls B htab hE
  obtain ⟨hx, hb, hml, hrt, hts, hown, hnm, hlk, hK, hP, hD, hA, hS, hN, hl⟩ := B
  have hown : s.vm.findClass RX4 = some zm.cls := hown
  have hl : lv_has ls 2 [(0, .int x), (1, .int y)] := hl
  have hA : ∀ q, s.heap.size ≤ q → A q := hA
  refine lv_iload_n hx hb dX4_checkKey_0 rfl (lv_at hl 0 rfl) ?_
  refine x_callXv (w2 := fun (u : Nat) => match u with | xn => []) (wr := []) (x_runXS (n := 1) ⟨hx, hb, hml, hown, hts⟩ (zX4_checkTable l D cI cP cS cL hfl x) gX4_checkKey_X4_checkTable rfl rfl rfl (by decide +kernel) ⟨by decide, by decide⟩ hN hK hP hD hS hA hE [] rfl rfl rfl hl.1 (rest := []) (As := [.int x]) rfl (Nat.le_of_ble_eq_true rfl) dX4_checkKey_1 ⟨by decide, by decide⟩) htab hlk (fun _ h => ⟨h.1, fun q => h.2 q.1⟩) ⟨by decide, by decide⟩ hP hD hS hA [] [] [] [] rfl rfl rfl (by decide) rfl rfl rfl (fun _ => rfl) (fun u H locs hw hP hD hS => ?_)
  obtain ⟨xn, h9⟩ : ∃ z, z = u := ⟨u, rfl⟩
  subst h9
  have hP : va_P D vwCl [] H := hP
  have hD : va_D A [] := hD
  refine lv_iload_n hx hb dX4_checkKey_4 rfl (lv_at hl 1 rfl) ?_
  refine x_if_lt (tgt := 14) hx hb (Iff.rfl) dX4_checkKey_5 (by decide) (fun c5 => ?_) (fun c5 => ?_)
  · exact x_throw (text := "a key is 0 to 11") hx hb hml hfl htab hlk hown hts (by decide) kX4_checkKey_c199 kX4_checkKey_inIO kX4_checkKey_t203 xg_203_nIO_n xg_203_nIO_g (by decide) hE hP hD hS hl.1 dX4_checkKey_14 dX4_checkKey_17 dX4_checkKey_18 dX4_checkKey_20 dX4_checkKey_23 ⟨by decide, by decide, by decide, by decide⟩ ⟨by decide, by decide⟩ ⟨rfl, fun q => in_neg c5 q.2⟩
  · refine lv_iload_n hx hb dX4_checkKey_8 rfl (lv_at hl 1 rfl) ?_
    refine lv_bipush (v := nI 12) hx hb dX4_checkKey_9 (by decide) ?_
    refine x_cmp_lt (tgt := 24) hx hb (Iff.rfl) dX4_checkKey_11 (by decide) (fun c11 => ?_) (fun c11 => ?_)
    · obtain ⟨j9, hj9, ej9⟩ := vp_in_of (in_lt (by decide) c5 (Int32.not_le.mpr c11)) (by decide)
      exact vx_ret (x_ret_v hx hb hrt hlk hP hD hS dX4_checkKey_24 ⟨by decide, by decide⟩ (xn, j9) ⟨hw.1, hw.2, ej9, hj9⟩ rfl)
    · exact x_throw (text := "a key is 0 to 11") hx hb hml hfl htab hlk hown hts (by decide) kX4_checkKey_c199 kX4_checkKey_inIO kX4_checkKey_t203 xg_203_nIO_n xg_203_nIO_g (by decide) hE hP hD hS hl.1 dX4_checkKey_14 dX4_checkKey_17 dX4_checkKey_18 dX4_checkKey_20 dX4_checkKey_23 ⟨by decide, by decide, by decide, by decide⟩ ⟨by decide, by decide⟩ ⟨rfl, fun q => in_big (by decide) (Int32.not_lt.mp c11) q.2⟩

set_option maxRecDepth 20000 in
theorem kX1_openChanges_f19 : Cond.fieldLink RX1 19 "RowReplicator$Publisher" "changeCounts" "[I" ∈ wsX1_openChanges := by decide +kernel
set_option maxRecDepth 20000 in
theorem kX1_openChanges_X1 : ∀ w ∈ wsX10, w ∈ wsX1_openChanges := by decide +kernel
set_option maxRecDepth 20000 in
theorem kX1_openChanges_f15 : Cond.fieldLink RX1 15 "RowReplicator$Publisher" "commitCount" "I" ∈ wsX1_openChanges := by decide +kernel
set_option maxHeartbeats 4000000 in
set_option maxRecDepth 100000 in
theorem zX1_openChanges (l : Launch) (D : va_G) (cI cP cS cL : ClassId) (h0 hr hc ht hk hn hm : Nat) (n : Nat) (cc : Nat → Int32) (hn9 : n ≤ 50) : xMi l yX1_openChanges wsX1_openChanges (rmD 0 0 0) D [(cI, .int), (cP, .object RX0), (cS, .object RX2)] [.ref h0] [(h0, .inr (1, [.ref hr, .int (nI n), .ref hc, .ref ht, .ref hk, .ref hn, .ref hm])), (hc, .inl (cI, 51, .inl cc))] (fun (r : Int32) (u : Unit) => r = cc n) (fun (u : Unit) => [(h0, .inr (1, [.ref hr, .int (nI n), .ref hc, .ref ht, .ref hk, .ref hn, .ref hm])), (hc, .inl (cI, 51, .inl cc))]) 0 0 := by
  refine xe_i (cc := cX1_openChanges) (maxL := 1) (ret := (some .int)) (by decide) rfl (Nat.le_of_ble_eq_true rfl) ?_
  intro zp ze s zm below meth zc A ls B
  obtain ⟨hx, hb, hml, hrt, hts, hown, hnm, hlk, hK, hP, hD, hA, hS, hN, hl⟩ := B
  have hown : s.vm.findClass RX1 = some zm.cls := hown
  have hl : lv_has ls 1 [(0, .ref h0)] := hl
  have hA : ∀ q, s.heap.size ≤ q → A q := hA
  refine lv_aload_n hx hb dX1_openChanges_0 rfl (lv_at hl 0 rfl) ?_
  refine va_get (D := D) (ci := 1) (v := .ref hc) (C := RX1) (T := TX1) (N := 7) hx hb hts kX1_openChanges_X1 hown hK hP 0 rfl rfl 2 (by decide) (hts _ kX1_openChanges_f19) (fun _ h9 => h9) rfl dX1_openChanges_1 ?_
  refine lv_aload_n hx hb dX1_openChanges_4 rfl (lv_at hl 0 rfl) ?_
  refine va_get (D := D) (ci := 1) (v := .int (nI n)) (C := RX1) (T := TX1) (N := 7) hx hb hts kX1_openChanges_X1 hown hK hP 0 rfl rfl 1 (by decide) (hts _ kX1_openChanges_f15) (fun _ h9 => h9) rfl dX1_openChanges_5 ?_
  refine x_ald (v := cc n) hx hb hK hP 1 0 rfl rfl (by omega) (by omega) rfl dX1_openChanges_8 ?_
  exact x_ret_i hx hb hrt hlk hP hD hS dX1_openChanges_9 ⟨by decide, by decide⟩ () rfl rfl

set_option maxRecDepth 20000 in
theorem kX1_rowAsOf_f31 : Cond.fieldLink RX1 31 "RowReplicator$Publisher" "committedRows" "[I" ∈ wsX1_rowAsOf := by decide +kernel
set_option maxRecDepth 20000 in
theorem kX1_rowAsOf_X1 : ∀ w ∈ wsX10, w ∈ wsX1_rowAsOf := by decide +kernel
set_option maxHeartbeats 4000000 in
set_option maxRecDepth 100000 in
theorem zX1_rowAsOf (l : Launch) (D : va_G) (cI cP cS cL : ClassId) (h0 hr hc ht hk hn hm : Nat) (n c p : Nat) (cr : Nat → Int32) (hc9 : c ≤ 50) (hp9 : p < 24) : xMi l yX1_rowAsOf wsX1_rowAsOf (rmD 0 0 0) D [(cI, .int), (cP, .object RX0), (cS, .object RX2)] [.ref h0, .int (nI c), .int (nI p)] [(h0, .inr (1, [.ref hr, .int (nI n), .ref hc, .ref ht, .ref hk, .ref hn, .ref hm])), (hm, .inl (cI, 1224, .inl cr))] (fun (r : Int32) (u : Unit) => r = cr (c * 24 + p)) (fun (u : Unit) => [(h0, .inr (1, [.ref hr, .int (nI n), .ref hc, .ref ht, .ref hk, .ref hn, .ref hm])), (hm, .inl (cI, 1224, .inl cr))]) 0 0 := by
  refine xe_i (cc := cX1_rowAsOf) (maxL := 3) (ret := (some .int)) (by decide) rfl (Nat.le_of_ble_eq_true rfl) ?_
  intro zp ze s zm below meth zc A ls B
  obtain ⟨hx, hb, hml, hrt, hts, hown, hnm, hlk, hK, hP, hD, hA, hS, hN, hl⟩ := B
  have hown : s.vm.findClass RX1 = some zm.cls := hown
  have hl : lv_has ls 3 [(0, .ref h0), (1, .int (nI c)), (2, .int (nI p))] := hl
  have hA : ∀ q, s.heap.size ≤ q → A q := hA
  refine lv_aload_n hx hb dX1_rowAsOf_0 rfl (lv_at hl 0 rfl) ?_
  refine va_get (D := D) (ci := 1) (v := .ref hm) (C := RX1) (T := TX1) (N := 7) hx hb hts kX1_rowAsOf_X1 hown hK hP 0 rfl rfl 6 (by decide) (hts _ kX1_rowAsOf_f31) (fun _ h9 => h9) rfl dX1_rowAsOf_1 ?_
  refine lv_iload_n hx hb dX1_rowAsOf_4 rfl (lv_at hl 1 rfl) ?_
  refine lv_bipush (v := nI 24) hx hb dX1_rowAsOf_5 (by decide) ?_
  refine x_mul (k := c * 24) hx hb dX1_rowAsOf_7 rfl ?_
  refine lv_iload_n hx hb dX1_rowAsOf_8 rfl (lv_at hl 2 rfl) ?_
  refine x_add (k := (c * 24) + p) hx hb dX1_rowAsOf_9 rfl ?_
  refine x_ald (v := cr ((c * 24) + p)) hx hb hK hP 1 0 rfl rfl (by omega) (by omega) rfl dX1_rowAsOf_10 ?_
  exact x_ret_i hx hb hrt hlk hP hD hS dX1_rowAsOf_11 ⟨by decide, by decide⟩ () rfl rfl

set_option maxRecDepth 20000 in
theorem kX1_close_f15 : Cond.fieldLink RX1 15 "RowReplicator$Publisher" "commitCount" "I" ∈ wsX1_close := by decide +kernel
set_option maxRecDepth 20000 in
theorem kX1_close_X1 : ∀ w ∈ wsX10, w ∈ wsX1_close := by decide +kernel
set_option maxRecDepth 20000 in
theorem kX1_close_f9 : Cond.fieldLink RX1 9 "RowReplicator$Publisher" "rows" "[I" ∈ wsX1_close := by decide +kernel
set_option maxRecDepth 20000 in
theorem kX1_close_f31 : Cond.fieldLink RX1 31 "RowReplicator$Publisher" "committedRows" "[I" ∈ wsX1_close := by decide +kernel
set_option maxRecDepth 20000 in
theorem kX1_close_a1 : Cond.methodLink RX1 38 arraycopyName ∈ wsX1_close := by decide +kernel
set_option maxRecDepth 20000 in
theorem kX1_close_a2 : Cond.native arraycopyName ∈ wsX1_close := by decide +kernel
set_option maxRecDepth 20000 in
theorem kX1_close_a3 : Cond.static arraycopyName ∈ wsX1_close := by decide +kernel
set_option maxRecDepth 20000 in
theorem kX1_close_a4 : Cond.initialized "java/lang/System" ∈ wsX1_close := by decide +kernel
set_option maxHeartbeats 4000000 in
set_option maxRecDepth 100000 in
theorem zX1_close (l : Launch) (D : va_G) (cI cP cS cL : ClassId) (h0 hr hc ht hk hn hm : Nat) (n : Nat) (rows cr : Nat → Int32) (hn9 : n < 50) : xMv l yX1_close wsX1_close (rmD 2 0 0) D [(cI, .int), (cP, .object RX0), (cS, .object RX2)] [.ref h0] [(h0, .inr (1, [.ref hr, .int (nI n), .ref hc, .ref ht, .ref hk, .ref hn, .ref hm])), (hr, .inl (cI, 24, .inl rows)), (hm, .inl (cI, 1224, .inl cr))] (fun (u : Unit) => True) (fun (u : Unit) => [(h0, .inr (1, [.ref hr, .int (nI (n + 1)), .ref hc, .ref ht, .ref hk, .ref hn, .ref hm])), (hr, .inl (cI, 24, .inl rows)), (hm, .inl (cI, 1224, .inl (va_cpy rows cr 0 ((n + 1) * 24) 24)))]) 0 0 := by
  refine xe_v (cc := cX1_close) (maxL := 1) (ret := none) (by decide) rfl (Nat.le_of_ble_eq_true rfl) ?_
  intro zp ze s zm below meth zc A ls B
  obtain ⟨hx, hb, hml, hrt, hts, hown, hnm, hlk, hK, hP, hD, hA, hS, hN, hl⟩ := B
  have hown : s.vm.findClass RX1 = some zm.cls := hown
  have hl : lv_has ls 1 [(0, .ref h0)] := hl
  have hA : ∀ q, s.heap.size ≤ q → A q := hA
  refine lv_aload_n hx hb dX1_close_0 rfl (lv_at hl 0 rfl) ?_
  refine lv_dup hx hb dX1_close_1 rfl ?_
  refine va_get (D := D) (ci := 1) (v := .int (nI n)) (C := RX1) (T := TX1) (N := 7) hx hb hts kX1_close_X1 hown hK hP 0 rfl rfl 1 (by decide) (hts _ kX1_close_f15) (fun _ h9 => h9) rfl dX1_close_2 ?_
  refine lv_iconst (v := nI 1) hx hb dX1_close_5 (by decide) ?_
  refine x_add (k := n + 1) hx hb dX1_close_6 rfl ?_
  refine x_put (fs' := [.ref hr, .int (nI (n + 1)), .ref hc, .ref ht, .ref hk, .ref hn, .ref hm]) (ws' := [(h0, .inr (1, [.ref hr, .int (nI (n + 1)), .ref hc, .ref ht, .ref hk, .ref hn, .ref hm])), (hr, .inl (cI, 24, .inl rows)), (hm, .inl (cI, 1224, .inl cr))]) (v := .int (nI (n + 1))) (ty := .int) (C := RX1) (T := TX1) (N := 7) (ci := 1) hx hb hts kX1_close_X1 tyX1 tyX1_ok nmX1 hown hK hP hD hS 0 rfl rfl 1 (by decide) (hts _ kX1_close_f15) (fun _ h9 => h9) rfl (by decide +kernel) rfl rfl (Nat.le_of_ble_eq_true rfl) rfl rfl dX1_close_7 (fun H locs hP hD hS => ?_)
  refine lv_aload_n hx hb dX1_close_10 rfl (lv_at hl 0 rfl) ?_
  refine va_get (D := D) (ci := 1) (v := .ref hr) (C := RX1) (T := TX1) (N := 7) hx hb hts kX1_close_X1 hown hK hP 0 rfl rfl 0 (by decide) (hts _ kX1_close_f9) (fun _ h9 => h9) rfl dX1_close_11 ?_
  refine lv_iconst (v := nI 0) hx hb dX1_close_14 (by decide) ?_
  refine lv_aload_n hx hb dX1_close_15 rfl (lv_at hl 0 rfl) ?_
  refine va_get (D := D) (ci := 1) (v := .ref hm) (C := RX1) (T := TX1) (N := 7) hx hb hts kX1_close_X1 hown hK hP 0 rfl rfl 6 (by decide) (hts _ kX1_close_f31) (fun _ h9 => h9) rfl dX1_close_16 ?_
  refine lv_aload_n hx hb dX1_close_19 rfl (lv_at hl 0 rfl) ?_
  refine va_get (D := D) (ci := 1) (v := .int (nI (n + 1))) (C := RX1) (T := TX1) (N := 7) hx hb hts kX1_close_X1 hown hK hP 0 rfl rfl 1 (by decide) (hts _ kX1_close_f15) (fun _ h9 => h9) rfl dX1_close_20 ?_
  refine lv_bipush (v := nI 24) hx hb dX1_close_23 (by decide) ?_
  refine x_mul (k := (n + 1) * 24) hx hb dX1_close_25 rfl ?_
  refine lv_bipush (v := nI 24) hx hb dX1_close_26 (by decide) ?_
  refine x_cpy (g := va_cpy rows cr 0 ((n + 1) * 24) 24) (ws' := [(h0, .inr (1, [.ref hr, .int (nI (n + 1)), .ref hc, .ref ht, .ref hk, .ref hn, .ref hm])), (hr, .inl (cI, 24, .inl rows)), (hm, .inl (cI, 1224, .inl (va_cpy rows cr 0 ((n + 1) * 24) 24)))]) hx hb (hml.trans hl.1.symm) hown (hts _ kX1_close_a1) (hts _ kX1_close_a2) (hts _ kX1_close_a3) (hts _ kX1_close_a4) hK hP hD hS 1 2 0 0 rfl rfl rfl rfl (by omega) (by omega) (by omega) (by omega) (by omega) (rfl) rfl (by decide) (by decide) dX1_close_28 (fun H locs hP hD hS => ?_)
  exact x_ret_v hx hb hrt hlk hP hD hS dX1_close_31 ⟨by decide, by decide⟩ () trivial rfl

set_option maxRecDepth 20000 in
theorem kX1_undo_f19 : Cond.fieldLink RX1 19 "RowReplicator$Publisher" "changeCounts" "[I" ∈ wsX1_undo := by decide +kernel
set_option maxRecDepth 20000 in
theorem kX1_undo_X1 : ∀ w ∈ wsX10, w ∈ wsX1_undo := by decide +kernel
set_option maxRecDepth 20000 in
theorem kX1_undo_f15 : Cond.fieldLink RX1 15 "RowReplicator$Publisher" "commitCount" "I" ∈ wsX1_undo := by decide +kernel
set_option maxRecDepth 20000 in
theorem kX1_undo_f31 : Cond.fieldLink RX1 31 "RowReplicator$Publisher" "committedRows" "[I" ∈ wsX1_undo := by decide +kernel
set_option maxRecDepth 20000 in
theorem kX1_undo_f9 : Cond.fieldLink RX1 9 "RowReplicator$Publisher" "rows" "[I" ∈ wsX1_undo := by decide +kernel
set_option maxRecDepth 20000 in
theorem kX1_undo_a1 : Cond.methodLink RX1 38 arraycopyName ∈ wsX1_undo := by decide +kernel
set_option maxRecDepth 20000 in
theorem kX1_undo_a2 : Cond.native arraycopyName ∈ wsX1_undo := by decide +kernel
set_option maxRecDepth 20000 in
theorem kX1_undo_a3 : Cond.static arraycopyName ∈ wsX1_undo := by decide +kernel
set_option maxRecDepth 20000 in
theorem kX1_undo_a4 : Cond.initialized "java/lang/System" ∈ wsX1_undo := by decide +kernel
set_option maxHeartbeats 4000000 in
set_option maxRecDepth 100000 in
theorem zX1_undo (l : Launch) (D : va_G) (cI cP cS cL : ClassId) (h0 hr hc ht hk hn hm : Nat) (n : Nat) (rows cc cr : Nat → Int32) (hn9 : n ≤ 50) : xMv l yX1_undo wsX1_undo (rmD 2 0 0) D [(cI, .int), (cP, .object RX0), (cS, .object RX2)] [.ref h0] [(h0, .inr (1, [.ref hr, .int (nI n), .ref hc, .ref ht, .ref hk, .ref hn, .ref hm])), (hr, .inl (cI, 24, .inl rows)), (hc, .inl (cI, 51, .inl cc)), (hm, .inl (cI, 1224, .inl cr))] (fun (u : Unit) => True) (fun (u : Unit) => [(h0, .inr (1, [.ref hr, .int (nI n), .ref hc, .ref ht, .ref hk, .ref hn, .ref hm])), (hr, .inl (cI, 24, .inl (va_cpy cr rows (n * 24) 0 24))), (hc, .inl (cI, 51, .inl (upd cc n (nI 0)))), (hm, .inl (cI, 1224, .inl cr))]) 0 0 := by
  refine xe_v (cc := cX1_undo) (maxL := 1) (ret := none) (by decide) rfl (Nat.le_of_ble_eq_true rfl) ?_
  intro zp ze s zm below meth zc A ls B
  obtain ⟨hx, hb, hml, hrt, hts, hown, hnm, hlk, hK, hP, hD, hA, hS, hN, hl⟩ := B
  have hown : s.vm.findClass RX1 = some zm.cls := hown
  have hl : lv_has ls 1 [(0, .ref h0)] := hl
  have hA : ∀ q, s.heap.size ≤ q → A q := hA
  refine lv_aload_n hx hb dX1_undo_0 rfl (lv_at hl 0 rfl) ?_
  refine va_get (D := D) (ci := 1) (v := .ref hc) (C := RX1) (T := TX1) (N := 7) hx hb hts kX1_undo_X1 hown hK hP 0 rfl rfl 2 (by decide) (hts _ kX1_undo_f19) (fun _ h9 => h9) rfl dX1_undo_1 ?_
  refine lv_aload_n hx hb dX1_undo_4 rfl (lv_at hl 0 rfl) ?_
  refine va_get (D := D) (ci := 1) (v := .int (nI n)) (C := RX1) (T := TX1) (N := 7) hx hb hts kX1_undo_X1 hown hK hP 0 rfl rfl 1 (by decide) (hts _ kX1_undo_f15) (fun _ h9 => h9) rfl dX1_undo_5 ?_
  refine lv_iconst (v := nI 0) hx hb dX1_undo_8 (by decide) ?_
  refine x_ast (g := upd cc n (nI 0)) (ws' := [(h0, .inr (1, [.ref hr, .int (nI n), .ref hc, .ref ht, .ref hk, .ref hn, .ref hm])), (hr, .inl (cI, 24, .inl rows)), (hc, .inl (cI, 51, .inl (upd cc n (nI 0)))), (hm, .inl (cI, 1224, .inl cr))]) hx hb hK hP hD hS 2 0 rfl rfl (by omega) (by omega) (rfl) rfl dX1_undo_9 (fun H locs hP hD hS => ?_)
  refine lv_aload_n hx hb dX1_undo_10 rfl (lv_at hl 0 rfl) ?_
  refine va_get (D := D) (ci := 1) (v := .ref hm) (C := RX1) (T := TX1) (N := 7) hx hb hts kX1_undo_X1 hown hK hP 0 rfl rfl 6 (by decide) (hts _ kX1_undo_f31) (fun _ h9 => h9) rfl dX1_undo_11 ?_
  refine lv_aload_n hx hb dX1_undo_14 rfl (lv_at hl 0 rfl) ?_
  refine va_get (D := D) (ci := 1) (v := .int (nI n)) (C := RX1) (T := TX1) (N := 7) hx hb hts kX1_undo_X1 hown hK hP 0 rfl rfl 1 (by decide) (hts _ kX1_undo_f15) (fun _ h9 => h9) rfl dX1_undo_15 ?_
  refine lv_bipush (v := nI 24) hx hb dX1_undo_18 (by decide) ?_
  refine x_mul (k := n * 24) hx hb dX1_undo_20 rfl ?_
  refine lv_aload_n hx hb dX1_undo_21 rfl (lv_at hl 0 rfl) ?_
  refine va_get (D := D) (ci := 1) (v := .ref hr) (C := RX1) (T := TX1) (N := 7) hx hb hts kX1_undo_X1 hown hK hP 0 rfl rfl 0 (by decide) (hts _ kX1_undo_f9) (fun _ h9 => h9) rfl dX1_undo_22 ?_
  refine lv_iconst (v := nI 0) hx hb dX1_undo_25 (by decide) ?_
  refine lv_bipush (v := nI 24) hx hb dX1_undo_26 (by decide) ?_
  refine x_cpy (g := va_cpy cr rows (n * 24) 0 24) (ws' := [(h0, .inr (1, [.ref hr, .int (nI n), .ref hc, .ref ht, .ref hk, .ref hn, .ref hm])), (hr, .inl (cI, 24, .inl (va_cpy cr rows (n * 24) 0 24))), (hc, .inl (cI, 51, .inl (upd cc n (nI 0)))), (hm, .inl (cI, 1224, .inl cr))]) hx hb (hml.trans hl.1.symm) hown (hts _ kX1_undo_a1) (hts _ kX1_undo_a2) (hts _ kX1_undo_a3) (hts _ kX1_undo_a4) hK hP hD hS 3 1 0 0 rfl rfl rfl rfl (by omega) (by omega) (by omega) (by omega) (by omega) (rfl) rfl (by decide) (by decide) dX1_undo_28 (fun H locs hP hD hS => ?_)
  exact x_ret_v hx hb hrt hlk hP hD hS dX1_undo_31 ⟨by decide, by decide⟩ () trivial rfl

set_option maxRecDepth 20000 in
theorem kX1_change_f15 : Cond.fieldLink RX1 15 "RowReplicator$Publisher" "commitCount" "I" ∈ wsX1_change := by decide +kernel
set_option maxRecDepth 20000 in
theorem kX1_change_X1 : ∀ w ∈ wsX10, w ∈ wsX1_change := by decide +kernel
set_option maxRecDepth 20000 in
theorem kX1_change_f19 : Cond.fieldLink RX1 19 "RowReplicator$Publisher" "changeCounts" "[I" ∈ wsX1_change := by decide +kernel
set_option maxRecDepth 20000 in
theorem kX1_change_f22 : Cond.fieldLink RX1 22 "RowReplicator$Publisher" "changedTables" "[I" ∈ wsX1_change := by decide +kernel
set_option maxRecDepth 20000 in
theorem kX1_change_f25 : Cond.fieldLink RX1 25 "RowReplicator$Publisher" "changedKeys" "[I" ∈ wsX1_change := by decide +kernel
set_option maxRecDepth 20000 in
theorem kX1_change_f28 : Cond.fieldLink RX1 28 "RowReplicator$Publisher" "newRows" "[I" ∈ wsX1_change := by decide +kernel
set_option maxRecDepth 20000 in
theorem kX1_change_f9 : Cond.fieldLink RX1 9 "RowReplicator$Publisher" "rows" "[I" ∈ wsX1_change := by decide +kernel
set_option maxRecDepth 20000 in
theorem kX1_change_s_X4_placeOf : Cond.static yX4_placeOf ∈ wsX1_change := by decide +kernel
set_option maxRecDepth 20000 in
theorem kX1_change_i_X4 : Cond.initialized RX4 ∈ wsX1_change := by decide +kernel
set_option maxHeartbeats 4000000 in
set_option maxRecDepth 100000 in
theorem zX1_change (l : Launch) (D : va_G) (cI cP cS cL : ClassId) (h0 hr hc ht hk hn hm : Nat) (n c t : Nat) (v : Int32) (rows cc ct ck nr : Nat → Int32) (k : Nat) (hn9 : n ≤ 50) (hcc : cc n = nI c) (hc9 : c < 12) (ht9 : t < 2) (hk9 : k < 12) : xMv l yX1_change wsX1_change (rmD 1 0 0) D [(cI, .int), (cP, .object RX0), (cS, .object RX2)] [.ref h0, .int (nI t), .int (nI k), .int v] [(h0, .inr (1, [.ref hr, .int (nI n), .ref hc, .ref ht, .ref hk, .ref hn, .ref hm])), (hr, .inl (cI, 24, .inl rows)), (hc, .inl (cI, 51, .inl cc)), (ht, .inl (cI, 612, .inl ct)), (hk, .inl (cI, 612, .inl ck)), (hn, .inl (cI, 612, .inl nr))] (fun (u : Unit) => True) (fun (u : Unit) => [(h0, .inr (1, [.ref hr, .int (nI n), .ref hc, .ref ht, .ref hk, .ref hn, .ref hm])), (hr, .inl (cI, 24, .inl (upd rows (t * 12 + k) v))), (hc, .inl (cI, 51, .inl (upd cc n (nI (c + 1))))), (ht, .inl (cI, 612, .inl (upd ct (n * 12 + c) (nI t)))), (hk, .inl (cI, 612, .inl (upd ck (n * 12 + c) (nI k)))), (hn, .inl (cI, 612, .inl (upd nr (n * 12 + c) v)))]) 0 0 := by
  refine xe_v (cc := cX1_change) (maxL := 8) (ret := none) (by decide) rfl (Nat.le_of_ble_eq_true rfl) ?_
  intro zp ze s zm below meth zc A ls B
  obtain ⟨hx, hb, hml, hrt, hts, hown, hnm, hlk, hK, hP, hD, hA, hS, hN, hl⟩ := B
  have hown : s.vm.findClass RX1 = some zm.cls := hown
  have hl : lv_has ls 8 [(0, .ref h0), (1, .int (nI t)), (2, .int (nI k)), (3, .int v)] := hl
  have hA : ∀ q, s.heap.size ≤ q → A q := hA
  refine lv_aload_n hx hb dX1_change_0 rfl (lv_at hl 0 rfl) ?_
  refine va_get (D := D) (ci := 1) (v := .int (nI n)) (C := RX1) (T := TX1) (N := 7) hx hb hts kX1_change_X1 hown hK hP 0 rfl rfl 1 (by decide) (hts _ kX1_change_f15) (fun _ h9 => h9) rfl dX1_change_1 ?_
  refine lv_bipush (v := nI 12) hx hb dX1_change_4 (by decide) ?_
  refine x_mul (k := n * 12) hx hb dX1_change_6 rfl ?_
  refine lv_aload_n hx hb dX1_change_7 rfl (lv_at hl 0 rfl) ?_
  refine va_get (D := D) (ci := 1) (v := .ref hc) (C := RX1) (T := TX1) (N := 7) hx hb hts kX1_change_X1 hown hK hP 0 rfl rfl 2 (by decide) (hts _ kX1_change_f19) (fun _ h9 => h9) rfl dX1_change_8 ?_
  refine lv_aload_n hx hb dX1_change_11 rfl (lv_at hl 0 rfl) ?_
  refine va_get (D := D) (ci := 1) (v := .int (nI n)) (C := RX1) (T := TX1) (N := 7) hx hb hts kX1_change_X1 hown hK hP 0 rfl rfl 1 (by decide) (hts _ kX1_change_f15) (fun _ h9 => h9) rfl dX1_change_12 ?_
  refine x_ald (v := nI c) hx hb hK hP 2 0 rfl rfl (by omega) (by omega) hcc dX1_change_15 ?_
  refine x_add (k := (n * 12) + c) hx hb dX1_change_16 rfl ?_
  refine lv_istore (lv' := [(4, .int (nI ((n * 12) + c))), (0, .ref h0), (1, .int (nI t)), (2, .int (nI k)), (3, .int v)]) hx hb dX1_change_17 hl (by decide) rfl (fun ls hl => ?_)
  refine lv_aload_n hx hb dX1_change_19 rfl (lv_at hl 1 rfl) ?_
  refine va_get (D := D) (ci := 1) (v := .ref ht) (C := RX1) (T := TX1) (N := 7) hx hb hts kX1_change_X1 hown hK hP 0 rfl rfl 3 (by decide) (hts _ kX1_change_f22) (fun _ h9 => h9) rfl dX1_change_20 ?_
  refine lv_iload hx hb dX1_change_23 (lv_at hl 0 rfl) ?_
  refine lv_iload_n hx hb dX1_change_25 rfl (lv_at hl 2 rfl) ?_
  refine x_ast (g := upd ct ((n * 12) + c) (nI t)) (ws' := [(h0, .inr (1, [.ref hr, .int (nI n), .ref hc, .ref ht, .ref hk, .ref hn, .ref hm])), (hr, .inl (cI, 24, .inl rows)), (hc, .inl (cI, 51, .inl cc)), (ht, .inl (cI, 612, .inl (upd ct ((n * 12) + c) (nI t)))), (hk, .inl (cI, 612, .inl ck)), (hn, .inl (cI, 612, .inl nr))]) hx hb hK hP hD hS 3 0 rfl rfl (by omega) (by omega) (rfl) rfl dX1_change_26 (fun H locs hP hD hS => ?_)
  refine lv_aload_n hx hb dX1_change_27 rfl (lv_at hl 1 rfl) ?_
  refine va_get (D := D) (ci := 1) (v := .ref hk) (C := RX1) (T := TX1) (N := 7) hx hb hts kX1_change_X1 hown hK hP 0 rfl rfl 4 (by decide) (hts _ kX1_change_f25) (fun _ h9 => h9) rfl dX1_change_28 ?_
  refine lv_iload hx hb dX1_change_31 (lv_at hl 0 rfl) ?_
  refine lv_iload_n hx hb dX1_change_33 rfl (lv_at hl 3 rfl) ?_
  refine x_ast (g := upd ck ((n * 12) + c) (nI k)) (ws' := [(h0, .inr (1, [.ref hr, .int (nI n), .ref hc, .ref ht, .ref hk, .ref hn, .ref hm])), (hr, .inl (cI, 24, .inl rows)), (hc, .inl (cI, 51, .inl cc)), (ht, .inl (cI, 612, .inl (upd ct ((n * 12) + c) (nI t)))), (hk, .inl (cI, 612, .inl (upd ck ((n * 12) + c) (nI k)))), (hn, .inl (cI, 612, .inl nr))]) hx hb hK hP hD hS 4 0 rfl rfl (by omega) (by omega) (rfl) rfl dX1_change_34 (fun H locs hP hD hS => ?_)
  refine lv_aload_n hx hb dX1_change_35 rfl (lv_at hl 1 rfl) ?_
  refine va_get (D := D) (ci := 1) (v := .ref hn) (C := RX1) (T := TX1) (N := 7) hx hb hts kX1_change_X1 hown hK hP 0 rfl rfl 5 (by decide) (hts _ kX1_change_f28) (fun _ h9 => h9) rfl dX1_change_36 ?_
  refine lv_iload hx hb dX1_change_39 (lv_at hl 0 rfl) ?_
  refine lv_iload_n hx hb dX1_change_41 rfl (lv_at hl 4 rfl) ?_
  refine x_ast (g := upd nr ((n * 12) + c) v) (ws' := [(h0, .inr (1, [.ref hr, .int (nI n), .ref hc, .ref ht, .ref hk, .ref hn, .ref hm])), (hr, .inl (cI, 24, .inl rows)), (hc, .inl (cI, 51, .inl cc)), (ht, .inl (cI, 612, .inl (upd ct ((n * 12) + c) (nI t)))), (hk, .inl (cI, 612, .inl (upd ck ((n * 12) + c) (nI k)))), (hn, .inl (cI, 612, .inl (upd nr ((n * 12) + c) v)))]) hx hb hK hP hD hS 5 0 rfl rfl (by omega) (by omega) (rfl) rfl dX1_change_42 (fun H locs hP hD hS => ?_)
  refine lv_aload_n hx hb dX1_change_43 rfl (lv_at hl 1 rfl) ?_
  refine va_get (D := D) (ci := 1) (v := .ref hc) (C := RX1) (T := TX1) (N := 7) hx hb hts kX1_change_X1 hown hK hP 0 rfl rfl 2 (by decide) (hts _ kX1_change_f19) (fun _ h9 => h9) rfl dX1_change_44 ?_
  refine lv_aload_n hx hb dX1_change_47 rfl (lv_at hl 1 rfl) ?_
  refine va_get (D := D) (ci := 1) (v := .int (nI n)) (C := RX1) (T := TX1) (N := 7) hx hb hts kX1_change_X1 hown hK hP 0 rfl rfl 1 (by decide) (hts _ kX1_change_f15) (fun _ h9 => h9) rfl dX1_change_48 ?_
  refine lv_dup2_11 hx hb dX1_change_51 rfl rfl ?_
  refine x_ald (v := nI c) hx hb hK hP 2 0 rfl rfl (by omega) (by omega) hcc dX1_change_52 ?_
  refine lv_iconst (v := nI 1) hx hb dX1_change_53 (by decide) ?_
  refine x_add (k := c + 1) hx hb dX1_change_54 rfl ?_
  refine x_ast (g := upd cc n (nI (c + 1))) (ws' := [(h0, .inr (1, [.ref hr, .int (nI n), .ref hc, .ref ht, .ref hk, .ref hn, .ref hm])), (hr, .inl (cI, 24, .inl rows)), (hc, .inl (cI, 51, .inl (upd cc n (nI (c + 1))))), (ht, .inl (cI, 612, .inl (upd ct ((n * 12) + c) (nI t)))), (hk, .inl (cI, 612, .inl (upd ck ((n * 12) + c) (nI k)))), (hn, .inl (cI, 612, .inl (upd nr ((n * 12) + c) v)))]) hx hb hK hP hD hS 2 0 rfl rfl (by omega) (by omega) (rfl) rfl dX1_change_55 (fun H locs hP hD hS => ?_)
  refine lv_iload_n hx hb dX1_change_56 rfl (lv_at hl 3 rfl) ?_
  refine lv_iconst (v := -1) hx hb dX1_change_57 (by decide) ?_
  refine x_cmp_ne (tgt := 65) hx hb (nI_m1 (k := k) (by omega)) dX1_change_58 (by decide) (fun c58 => ?_) (fun c58 => ?_)
  · refine lv_iload_n hx hb dX1_change_65 rfl (lv_at hl 3 rfl) ?_
    refine lv_istore (lv' := [(5, .int (nI k)), (4, .int (nI ((n * 12) + c))), (0, .ref h0), (1, .int (nI t)), (2, .int (nI k)), (3, .int v)]) hx hb dX1_change_66 hl (by decide) rfl (fun ls hl => ?_)
    refine lv_iload_n hx hb dX1_change_68 rfl (lv_at hl 4 rfl) ?_
    refine lv_iconst (v := -1) hx hb dX1_change_69 (by decide) ?_
    refine x_cmp_ne (tgt := 78) hx hb (nI_m1 (k := k) (by omega)) dX1_change_70 (by decide) (fun c70 => ?_) (fun c70 => ?_)
    · refine lv_iload_n hx hb dX1_change_78 rfl (lv_at hl 4 rfl) ?_
      refine lv_iconst (v := nI 1) hx hb dX1_change_79 (by decide) ?_
      refine x_add (k := k + 1) hx hb dX1_change_80 rfl ?_
      refine lv_istore (lv' := [(6, .int (nI (k + 1))), (5, .int (nI k)), (4, .int (nI ((n * 12) + c))), (0, .ref h0), (1, .int (nI t)), (2, .int (nI k)), (3, .int v)]) hx hb dX1_change_81 hl (by decide) rfl (fun ls hl => ?_)
      refine lv_iload hx hb dX1_change_83 (lv_at hl 1 rfl) ?_
      refine lv_istore (lv' := [(7, .int (nI k)), (6, .int (nI (k + 1))), (5, .int (nI k)), (4, .int (nI ((n * 12) + c))), (0, .ref h0), (1, .int (nI t)), (2, .int (nI k)), (3, .int v)]) hx hb dX1_change_85 hl (by decide) rfl (fun ls hl => ?_)
      refine lv_iload hx hb dX1_change_87 (lv_at hl 0 rfl) ?_
      refine lv_iload hx hb dX1_change_89 (lv_at hl 1 rfl) ?_
      refine x_cmp_ge (tgt := 112) hx hb (nI_leI (a := (k + 1)) (b := k) (by omega) (by omega)) dX1_change_91 (by decide) (fun c91 => ?_) (fun c91 => ?_)
      · exfalso; omega
      · refine lv_aload_n hx hb dX1_change_94 rfl (lv_at hl 4 rfl) ?_
        refine va_get (D := D) (ci := 1) (v := .ref hr) (C := RX1) (T := TX1) (N := 7) hx hb hts kX1_change_X1 hown hK hP 0 rfl rfl 0 (by decide) (hts _ kX1_change_f9) (fun _ h9 => h9) rfl dX1_change_95 ?_
        refine lv_iload_n hx hb dX1_change_98 rfl (lv_at hl 5 rfl) ?_
        refine lv_iload hx hb dX1_change_99 (lv_at hl 0 rfl) ?_
        refine x_calli (w2 := fun (u : Unit) => [(h0, .inr (1, [.ref hr, .int (nI n), .ref hc, .ref ht, .ref hk, .ref hn, .ref hm])), (hr, .inl (cI, 24, .inl rows)), (hc, .inl (cI, 51, .inl (upd cc n (nI (c + 1))))), (ht, .inl (cI, 612, .inl (upd ct ((n * 12) + c) (nI t)))), (hk, .inl (cI, 612, .inl (upd ck ((n * 12) + c) (nI k)))), (hn, .inl (cI, 612, .inl (upd nr ((n * 12) + c) v)))]) (wr := [(h0, .inr (1, [.ref hr, .int (nI n), .ref hc, .ref ht, .ref hk, .ref hn, .ref hm])), (hr, .inl (cI, 24, .inl rows)), (hc, .inl (cI, 51, .inl (upd cc n (nI (c + 1))))), (ht, .inl (cI, 612, .inl (upd ct ((n * 12) + c) (nI t)))), (hk, .inl (cI, 612, .inl (upd ck ((n * 12) + c) (nI k)))), (hn, .inl (cI, 612, .inl (upd nr ((n * 12) + c) v)))]) (x_runSN (n := 2) ⟨hx, hb, hml, hown, hts⟩ (zX4_placeOf l D cI cP cS cL t k) gX1_change_X4_placeOf_n34 rfl rfl rfl (by decide +kernel) kX1_change_s_X4_placeOf kX1_change_i_X4 (by decide +kernel) ⟨by decide, by decide⟩ hN hK hP hD [] rfl rfl rfl hl.1 (rest := [.ref hr]) (As := [.int (nI t), .int (nI k)]) rfl (Nat.le_of_ble_eq_true rfl) dX1_change_101 ⟨by decide, by decide⟩) hP hD hS hA [] [0, 1, 2, 3, 4, 5] [0, 1, 2, 3, 4, 5] rfl rfl rfl (by decide) rfl (fun _ => rfl) (fun r101 u H locs hw hP hD hS => ?_)
        subst hw
        refine lv_iload_n hx hb dX1_change_104 rfl (lv_at hl 7 rfl) ?_
        refine x_ast (g := upd rows (t * 12 + k) v) (ws' := [(h0, .inr (1, [.ref hr, .int (nI n), .ref hc, .ref ht, .ref hk, .ref hn, .ref hm])), (hr, .inl (cI, 24, .inl (upd rows (t * 12 + k) v))), (hc, .inl (cI, 51, .inl (upd cc n (nI (c + 1))))), (ht, .inl (cI, 612, .inl (upd ct ((n * 12) + c) (nI t)))), (hk, .inl (cI, 612, .inl (upd ck ((n * 12) + c) (nI k)))), (hn, .inl (cI, 612, .inl (upd nr ((n * 12) + c) v)))]) hx hb hK hP hD hS 1 0 rfl rfl (by omega) (by omega) (rfl) rfl dX1_change_105 (fun H locs hP hD hS => ?_)
        refine x_iinc (k := 0) (o := 1) (v := k + 1) (lv' := [(7, .int (nI (k + 1))), (6, .int (nI (k + 1))), (5, .int (nI k)), (4, .int (nI ((n * 12) + c))), (0, .ref h0), (1, .int (nI t)), (2, .int (nI k)), (3, .int v)]) hx hb dX1_change_106 hl rfl rfl rfl (by decide) rfl (fun ls hl => ?_)
        refine lv_goto (tgt := 87) hx hb dX1_change_109 (by decide) ?_
        refine lv_iload hx hb dX1_change_87 (lv_at hl 0 rfl) ?_
        refine lv_iload hx hb dX1_change_89 (lv_at hl 1 rfl) ?_
        refine x_cmp_ge (tgt := 112) hx hb (nI_leI (a := (k + 1)) (b := (k + 1)) (by omega) (by omega)) dX1_change_91 (by decide) (fun c91 => ?_) (fun c91 => ?_)
        · exact x_ret_v hx hb hrt hlk hP hD hS dX1_change_112 ⟨by decide, by decide⟩ () trivial rfl
        · exfalso; omega
    · exact c70.elim
  · exact c58.elim

set_option maxHeartbeats 4000000 in
set_option maxRecDepth 100000 in
theorem zX1_changeAll (l : Launch) (D : va_G) (cI cP cS cL : ClassId) (h0 hr hc ht hk hn hm : Nat) (n c t : Nat) (v : Int32) (rows cc ct ck nr : Nat → Int32) (hn9 : n ≤ 50) (hcc : cc n = nI c) (hc9 : c < 12) (ht9 : t < 2) : xMv l yX1_change wsX1_change (rmD 1 0 0) D [(cI, .int), (cP, .object RX0), (cS, .object RX2)] [.ref h0, .int (nI t), .int (-1), .int v] [(h0, .inr (1, [.ref hr, .int (nI n), .ref hc, .ref ht, .ref hk, .ref hn, .ref hm])), (hr, .inl (cI, 24, .inl rows)), (hc, .inl (cI, 51, .inl cc)), (ht, .inl (cI, 612, .inl ct)), (hk, .inl (cI, 612, .inl ck)), (hn, .inl (cI, 612, .inl nr))] (fun (u : Unit) => True) (fun (u : Unit) => [(h0, .inr (1, [.ref hr, .int (nI n), .ref hc, .ref ht, .ref hk, .ref hn, .ref hm])), (hr, .inl (cI, 24, .inl (qFill rows (t * 12) 12 v))), (hc, .inl (cI, 51, .inl (upd cc n (nI (c + 1))))), (ht, .inl (cI, 612, .inl (upd ct (n * 12 + c) (nI t)))), (hk, .inl (cI, 612, .inl (upd ck (n * 12 + c) (-1)))), (hn, .inl (cI, 612, .inl (upd nr (n * 12 + c) v)))]) 0 0 := by
  refine xe_v (cc := cX1_change) (maxL := 8) (ret := none) (by decide) rfl (Nat.le_of_ble_eq_true rfl) ?_
  intro zp ze s zm below meth zc A ls B
  obtain ⟨hx, hb, hml, hrt, hts, hown, hnm, hlk, hK, hP, hD, hA, hS, hN, hl⟩ := B
  have hown : s.vm.findClass RX1 = some zm.cls := hown
  have hl : lv_has ls 8 [(0, .ref h0), (1, .int (nI t)), (2, .int (-1)), (3, .int v)] := hl
  have hA : ∀ q, s.heap.size ≤ q → A q := hA
  refine lv_aload_n hx hb dX1_change_0 rfl (lv_at hl 0 rfl) ?_
  refine va_get (D := D) (ci := 1) (v := .int (nI n)) (C := RX1) (T := TX1) (N := 7) hx hb hts kX1_change_X1 hown hK hP 0 rfl rfl 1 (by decide) (hts _ kX1_change_f15) (fun _ h9 => h9) rfl dX1_change_1 ?_
  refine lv_bipush (v := nI 12) hx hb dX1_change_4 (by decide) ?_
  refine x_mul (k := n * 12) hx hb dX1_change_6 rfl ?_
  refine lv_aload_n hx hb dX1_change_7 rfl (lv_at hl 0 rfl) ?_
  refine va_get (D := D) (ci := 1) (v := .ref hc) (C := RX1) (T := TX1) (N := 7) hx hb hts kX1_change_X1 hown hK hP 0 rfl rfl 2 (by decide) (hts _ kX1_change_f19) (fun _ h9 => h9) rfl dX1_change_8 ?_
  refine lv_aload_n hx hb dX1_change_11 rfl (lv_at hl 0 rfl) ?_
  refine va_get (D := D) (ci := 1) (v := .int (nI n)) (C := RX1) (T := TX1) (N := 7) hx hb hts kX1_change_X1 hown hK hP 0 rfl rfl 1 (by decide) (hts _ kX1_change_f15) (fun _ h9 => h9) rfl dX1_change_12 ?_
  refine x_ald (v := nI c) hx hb hK hP 2 0 rfl rfl (by omega) (by omega) hcc dX1_change_15 ?_
  refine x_add (k := (n * 12) + c) hx hb dX1_change_16 rfl ?_
  refine lv_istore (lv' := [(4, .int (nI ((n * 12) + c))), (0, .ref h0), (1, .int (nI t)), (2, .int (-1)), (3, .int v)]) hx hb dX1_change_17 hl (by decide) rfl (fun ls hl => ?_)
  refine lv_aload_n hx hb dX1_change_19 rfl (lv_at hl 1 rfl) ?_
  refine va_get (D := D) (ci := 1) (v := .ref ht) (C := RX1) (T := TX1) (N := 7) hx hb hts kX1_change_X1 hown hK hP 0 rfl rfl 3 (by decide) (hts _ kX1_change_f22) (fun _ h9 => h9) rfl dX1_change_20 ?_
  refine lv_iload hx hb dX1_change_23 (lv_at hl 0 rfl) ?_
  refine lv_iload_n hx hb dX1_change_25 rfl (lv_at hl 2 rfl) ?_
  refine x_ast (g := upd ct ((n * 12) + c) (nI t)) (ws' := [(h0, .inr (1, [.ref hr, .int (nI n), .ref hc, .ref ht, .ref hk, .ref hn, .ref hm])), (hr, .inl (cI, 24, .inl rows)), (hc, .inl (cI, 51, .inl cc)), (ht, .inl (cI, 612, .inl (upd ct ((n * 12) + c) (nI t)))), (hk, .inl (cI, 612, .inl ck)), (hn, .inl (cI, 612, .inl nr))]) hx hb hK hP hD hS 3 0 rfl rfl (by omega) (by omega) (rfl) rfl dX1_change_26 (fun H locs hP hD hS => ?_)
  refine lv_aload_n hx hb dX1_change_27 rfl (lv_at hl 1 rfl) ?_
  refine va_get (D := D) (ci := 1) (v := .ref hk) (C := RX1) (T := TX1) (N := 7) hx hb hts kX1_change_X1 hown hK hP 0 rfl rfl 4 (by decide) (hts _ kX1_change_f25) (fun _ h9 => h9) rfl dX1_change_28 ?_
  refine lv_iload hx hb dX1_change_31 (lv_at hl 0 rfl) ?_
  refine lv_iload_n hx hb dX1_change_33 rfl (lv_at hl 3 rfl) ?_
  refine x_ast (g := upd ck ((n * 12) + c) (-1)) (ws' := [(h0, .inr (1, [.ref hr, .int (nI n), .ref hc, .ref ht, .ref hk, .ref hn, .ref hm])), (hr, .inl (cI, 24, .inl rows)), (hc, .inl (cI, 51, .inl cc)), (ht, .inl (cI, 612, .inl (upd ct ((n * 12) + c) (nI t)))), (hk, .inl (cI, 612, .inl (upd ck ((n * 12) + c) (-1)))), (hn, .inl (cI, 612, .inl nr))]) hx hb hK hP hD hS 4 0 rfl rfl (by omega) (by omega) (rfl) rfl dX1_change_34 (fun H locs hP hD hS => ?_)
  refine lv_aload_n hx hb dX1_change_35 rfl (lv_at hl 1 rfl) ?_
  refine va_get (D := D) (ci := 1) (v := .ref hn) (C := RX1) (T := TX1) (N := 7) hx hb hts kX1_change_X1 hown hK hP 0 rfl rfl 5 (by decide) (hts _ kX1_change_f28) (fun _ h9 => h9) rfl dX1_change_36 ?_
  refine lv_iload hx hb dX1_change_39 (lv_at hl 0 rfl) ?_
  refine lv_iload_n hx hb dX1_change_41 rfl (lv_at hl 4 rfl) ?_
  refine x_ast (g := upd nr ((n * 12) + c) v) (ws' := [(h0, .inr (1, [.ref hr, .int (nI n), .ref hc, .ref ht, .ref hk, .ref hn, .ref hm])), (hr, .inl (cI, 24, .inl rows)), (hc, .inl (cI, 51, .inl cc)), (ht, .inl (cI, 612, .inl (upd ct ((n * 12) + c) (nI t)))), (hk, .inl (cI, 612, .inl (upd ck ((n * 12) + c) (-1)))), (hn, .inl (cI, 612, .inl (upd nr ((n * 12) + c) v)))]) hx hb hK hP hD hS 5 0 rfl rfl (by omega) (by omega) (rfl) rfl dX1_change_42 (fun H locs hP hD hS => ?_)
  refine lv_aload_n hx hb dX1_change_43 rfl (lv_at hl 1 rfl) ?_
  refine va_get (D := D) (ci := 1) (v := .ref hc) (C := RX1) (T := TX1) (N := 7) hx hb hts kX1_change_X1 hown hK hP 0 rfl rfl 2 (by decide) (hts _ kX1_change_f19) (fun _ h9 => h9) rfl dX1_change_44 ?_
  refine lv_aload_n hx hb dX1_change_47 rfl (lv_at hl 1 rfl) ?_
  refine va_get (D := D) (ci := 1) (v := .int (nI n)) (C := RX1) (T := TX1) (N := 7) hx hb hts kX1_change_X1 hown hK hP 0 rfl rfl 1 (by decide) (hts _ kX1_change_f15) (fun _ h9 => h9) rfl dX1_change_48 ?_
  refine lv_dup2_11 hx hb dX1_change_51 rfl rfl ?_
  refine x_ald (v := nI c) hx hb hK hP 2 0 rfl rfl (by omega) (by omega) hcc dX1_change_52 ?_
  refine lv_iconst (v := nI 1) hx hb dX1_change_53 (by decide) ?_
  refine x_add (k := c + 1) hx hb dX1_change_54 rfl ?_
  refine x_ast (g := upd cc n (nI (c + 1))) (ws' := [(h0, .inr (1, [.ref hr, .int (nI n), .ref hc, .ref ht, .ref hk, .ref hn, .ref hm])), (hr, .inl (cI, 24, .inl rows)), (hc, .inl (cI, 51, .inl (upd cc n (nI (c + 1))))), (ht, .inl (cI, 612, .inl (upd ct ((n * 12) + c) (nI t)))), (hk, .inl (cI, 612, .inl (upd ck ((n * 12) + c) (-1)))), (hn, .inl (cI, 612, .inl (upd nr ((n * 12) + c) v)))]) hx hb hK hP hD hS 2 0 rfl rfl (by omega) (by omega) (rfl) rfl dX1_change_55 (fun H locs hP hD hS => ?_)
  refine lv_iload_n hx hb dX1_change_56 rfl (lv_at hl 3 rfl) ?_
  refine lv_iconst (v := -1) hx hb dX1_change_57 (by decide) ?_
  refine x_cmp_ne (tgt := 65) hx hb (Iff.rfl) dX1_change_58 (by decide) (fun c58 => ?_) (fun c58 => ?_)
  · exact absurd rfl c58
  · refine lv_iconst (v := nI 0) hx hb dX1_change_61 (by decide) ?_
    refine lv_goto (tgt := 66) hx hb dX1_change_62 (by decide) ?_
    refine lv_istore (lv' := [(5, .int (nI 0)), (4, .int (nI ((n * 12) + c))), (0, .ref h0), (1, .int (nI t)), (2, .int (-1)), (3, .int v)]) hx hb dX1_change_66 hl (by decide) rfl (fun ls hl => ?_)
    refine lv_iload_n hx hb dX1_change_68 rfl (lv_at hl 4 rfl) ?_
    refine lv_iconst (v := -1) hx hb dX1_change_69 (by decide) ?_
    refine x_cmp_ne (tgt := 78) hx hb (Iff.rfl) dX1_change_70 (by decide) (fun c70 => ?_) (fun c70 => ?_)
    · exact absurd rfl c70
    · refine lv_bipush (v := nI 12) hx hb dX1_change_73 (by decide) ?_
      refine lv_goto (tgt := 81) hx hb dX1_change_75 (by decide) ?_
      refine lv_istore (lv' := [(6, .int (nI 12)), (5, .int (nI 0)), (4, .int (nI ((n * 12) + c))), (0, .ref h0), (1, .int (nI t)), (2, .int (-1)), (3, .int v)]) hx hb dX1_change_81 hl (by decide) rfl (fun ls hl => ?_)
      refine lv_iload hx hb dX1_change_83 (lv_at hl 1 rfl) ?_
      refine lv_istore (lv' := [(7, .int (nI 0)), (6, .int (nI 12)), (5, .int (nI 0)), (4, .int (nI ((n * 12) + c))), (0, .ref h0), (1, .int (nI t)), (2, .int (-1)), (3, .int v)]) hx hb dX1_change_85 hl (by decide) rfl (fun ls hl => ?_)
      refine x_loop (nL := 8) (fun (x : Nat × (Nat → Int32)) => match x with | (j, f) => j ≤ 12 ∧ f = qFill rows (t * 12) j v) (fun (x : Nat × (Nat → Int32)) => match x with | (j, f) => 12 - j) (fun (x : Nat × (Nat → Int32)) => match x with | (j, f) => [(h0, .inr (1, [.ref hr, .int (nI n), .ref hc, .ref ht, .ref hk, .ref hn, .ref hm])), (hr, .inl (cI, 24, .inl f)), (hc, .inl (cI, 51, .inl (upd cc n (nI (c + 1))))), (ht, .inl (cI, 612, .inl (upd ct ((n * 12) + c) (nI t)))), (hk, .inl (cI, 612, .inl (upd ck ((n * 12) + c) (-1)))), (hn, .inl (cI, 612, .inl (upd nr ((n * 12) + c) v)))]) (fun (x : Nat × (Nat → Int32)) => match x with | (j, f) => [(0, .ref h0), (1, .int (nI t)), (3, .int v), (6, .int (nI 12)), (7, .int (nI j))]) (fun (x : Nat × (Nat → Int32)) => match x with | (j, f) => []) ?_ (0, rows) ⟨by omega, (qFill_0 _ _ _).symm⟩ hP hD hS (lv_sub hl [4, 5, 7, 1, 0] rfl)
      intro x9 hI87 ih87 H locs ls hP hD hS hl
      obtain ⟨j, f⟩ := x9
      have hP : va_P D vwCl [(h0, .inr (1, [.ref hr, .int (nI n), .ref hc, .ref ht, .ref hk, .ref hn, .ref hm])), (hr, .inl (cI, 24, .inl f)), (hc, .inl (cI, 51, .inl (upd cc n (nI (c + 1))))), (ht, .inl (cI, 612, .inl (upd ct ((n * 12) + c) (nI t)))), (hk, .inl (cI, 612, .inl (upd ck ((n * 12) + c) (-1)))), (hn, .inl (cI, 612, .inl (upd nr ((n * 12) + c) v)))] H := hP
      have hD : va_D A [(h0, .inr (1, [.ref hr, .int (nI n), .ref hc, .ref ht, .ref hk, .ref hn, .ref hm])), (hr, .inl (cI, 24, .inl f)), (hc, .inl (cI, 51, .inl (upd cc n (nI (c + 1))))), (ht, .inl (cI, 612, .inl (upd ct ((n * 12) + c) (nI t)))), (hk, .inl (cI, 612, .inl (upd ck ((n * 12) + c) (-1)))), (hn, .inl (cI, 612, .inl (upd nr ((n * 12) + c) v)))] := hD
      have hl : lv_has ls 8 [(0, .ref h0), (1, .int (nI t)), (3, .int v), (6, .int (nI 12)), (7, .int (nI j))] := hl
      obtain ⟨hj, hf⟩ := hI87
      refine lv_iload hx hb dX1_change_87 (lv_at hl 4 rfl) ?_
      refine lv_iload hx hb dX1_change_89 (lv_at hl 3 rfl) ?_
      refine x_cmp_ge (tgt := 112) hx hb (nI_leI (a := 12) (b := j) (by omega) (by omega)) dX1_change_91 (by decide) (fun c91 => ?_) (fun c91 => ?_)
      · obtain rfl : j = 12 := by omega
        subst hf
        exact x_ret_v hx hb hrt hlk hP hD hS dX1_change_112 ⟨by decide, by decide⟩ () trivial rfl
      · refine lv_aload_n hx hb dX1_change_94 rfl (lv_at hl 0 rfl) ?_
        refine va_get (D := D) (ci := 1) (v := .ref hr) (C := RX1) (T := TX1) (N := 7) hx hb hts kX1_change_X1 hown hK hP 0 rfl rfl 0 (by decide) (hts _ kX1_change_f9) (fun _ h9 => h9) rfl dX1_change_95 ?_
        refine lv_iload_n hx hb dX1_change_98 rfl (lv_at hl 1 rfl) ?_
        refine lv_iload hx hb dX1_change_99 (lv_at hl 4 rfl) ?_
        refine x_calli (w2 := fun (u : Unit) => [(h0, .inr (1, [.ref hr, .int (nI n), .ref hc, .ref ht, .ref hk, .ref hn, .ref hm])), (hr, .inl (cI, 24, .inl f)), (hc, .inl (cI, 51, .inl (upd cc n (nI (c + 1))))), (ht, .inl (cI, 612, .inl (upd ct ((n * 12) + c) (nI t)))), (hk, .inl (cI, 612, .inl (upd ck ((n * 12) + c) (-1)))), (hn, .inl (cI, 612, .inl (upd nr ((n * 12) + c) v)))]) (wr := [(h0, .inr (1, [.ref hr, .int (nI n), .ref hc, .ref ht, .ref hk, .ref hn, .ref hm])), (hr, .inl (cI, 24, .inl f)), (hc, .inl (cI, 51, .inl (upd cc n (nI (c + 1))))), (ht, .inl (cI, 612, .inl (upd ct ((n * 12) + c) (nI t)))), (hk, .inl (cI, 612, .inl (upd ck ((n * 12) + c) (-1)))), (hn, .inl (cI, 612, .inl (upd nr ((n * 12) + c) v)))]) (x_runSN (n := 2) ⟨hx, hb, hml, hown, hts⟩ (zX4_placeOf l D cI cP cS cL t j) gX1_change_X4_placeOf_n34 rfl rfl rfl (by decide +kernel) kX1_change_s_X4_placeOf kX1_change_i_X4 (by decide +kernel) ⟨by decide, by decide⟩ hN hK hP hD [] rfl rfl rfl hl.1 (rest := [.ref hr]) (As := [.int (nI t), .int (nI j)]) rfl (Nat.le_of_ble_eq_true rfl) dX1_change_101 ⟨by decide, by decide⟩) hP hD hS hA [] [0, 1, 2, 3, 4, 5] [0, 1, 2, 3, 4, 5] rfl rfl rfl (by decide) rfl (fun _ => rfl) (fun r101 u H locs hw hP hD hS => ?_)
        subst hw
        refine lv_iload_n hx hb dX1_change_104 rfl (lv_at hl 2 rfl) ?_
        refine x_ast (g := upd f (t * 12 + j) v) (ws' := [(h0, .inr (1, [.ref hr, .int (nI n), .ref hc, .ref ht, .ref hk, .ref hn, .ref hm])), (hr, .inl (cI, 24, .inl (upd f (t * 12 + j) v))), (hc, .inl (cI, 51, .inl (upd cc n (nI (c + 1))))), (ht, .inl (cI, 612, .inl (upd ct ((n * 12) + c) (nI t)))), (hk, .inl (cI, 612, .inl (upd ck ((n * 12) + c) (-1)))), (hn, .inl (cI, 612, .inl (upd nr ((n * 12) + c) v)))]) hx hb hK hP hD hS 1 0 rfl rfl (by omega) (by omega) (rfl) rfl dX1_change_105 (fun H locs hP hD hS => ?_)
        refine x_iinc (k := 4) (o := 1) (v := j + 1) (lv' := [(7, .int (nI (j + 1))), (0, .ref h0), (1, .int (nI t)), (3, .int v), (6, .int (nI 12))]) hx hb dX1_change_106 hl rfl rfl rfl (by decide) rfl (fun ls hl => ?_)
        refine lv_goto (tgt := 87) hx hb dX1_change_109 (by decide) ?_
        exact ih87 (j + 1, upd f (t * 12 + j) v) ⟨by omega, (by rw [hf]; exact qFill_s _ _ _ _)⟩ (by show 12 - (j + 1) < 12 - j; omega) _ _ _ hP hD hS (lv_sub hl [1, 2, 3, 4, 0] rfl)

set_option maxRecDepth 20000 in
theorem kX2_forgetTables_f15 : Cond.fieldLink RX2 15 "RowReplicator$Subscriber" "copies" "[I" ∈ wsX2_forgetTables := by decide +kernel
set_option maxRecDepth 20000 in
theorem kX2_forgetTables_X2 : ∀ w ∈ wsX20, w ∈ wsX2_forgetTables := by decide +kernel
set_option maxHeartbeats 4000000 in
set_option maxRecDepth 100000 in
theorem zX2_forgetTables (l : Launch) (D : va_G) (cI cP cS cL : ClassId) (h0 hr hc : Nat) (pu : Option Nat) (st sl : Nat) (co : Nat → Int32)  : xMv l yX2_forgetTables wsX2_forgetTables (rmD 0 0 0) D [(cI, .int), (cP, .object RX0), (cS, .object RX2)] [.ref h0] [(h0, .inr (2, [.ref hr, .ref hc, va_rf pu, .int (nI st), .int (nI sl)])), (hc, .inl (cI, 2, .inl co))] (fun (u : Unit) => True) (fun (u : Unit) => [(h0, .inr (2, [.ref hr, .ref hc, va_rf pu, .int (nI st), .int (nI sl)])), (hc, .inl (cI, 2, .inl (upd (upd co 0 (-1)) 1 (-1))))]) 0 0 := by
  refine xe_v (cc := cX2_forgetTables) (maxL := 2) (ret := none) (by decide) rfl (Nat.le_of_ble_eq_true rfl) ?_
  intro zp ze s zm below meth zc A ls B
  obtain ⟨hx, hb, hml, hrt, hts, hown, hnm, hlk, hK, hP, hD, hA, hS, hN, hl⟩ := B
  have hown : s.vm.findClass RX2 = some zm.cls := hown
  have hl : lv_has ls 2 [(0, .ref h0)] := hl
  have hA : ∀ q, s.heap.size ≤ q → A q := hA
  refine lv_iconst (v := nI 0) hx hb dX2_forgetTables_0 (by decide) ?_
  refine lv_istore_n (lv' := [(1, .int (nI 0)), (0, .ref h0)]) hx hb dX2_forgetTables_1 rfl hl (by decide) rfl (fun ls hl => ?_)
  refine lv_iload_n hx hb dX2_forgetTables_2 rfl (lv_at hl 0 rfl) ?_
  refine lv_iconst (v := nI 2) hx hb dX2_forgetTables_3 (by decide) ?_
  refine x_cmp_ge (tgt := 20) hx hb (nI_leI (a := 2) (b := 0) (by omega) (by omega)) dX2_forgetTables_4 (by decide) (fun c4 => ?_) (fun c4 => ?_)
  · exfalso; omega
  · refine lv_aload_n hx hb dX2_forgetTables_7 rfl (lv_at hl 1 rfl) ?_
    refine va_get (D := D) (ci := 2) (v := .ref hc) (C := RX2) (T := TX2) (N := 5) hx hb hts kX2_forgetTables_X2 hown hK hP 0 rfl rfl 1 (by decide) (hts _ kX2_forgetTables_f15) (fun _ h9 => h9) rfl dX2_forgetTables_8 ?_
    refine lv_iload_n hx hb dX2_forgetTables_11 rfl (lv_at hl 0 rfl) ?_
    refine lv_iconst (v := -1) hx hb dX2_forgetTables_12 (by decide) ?_
    refine x_ast (g := upd co 0 (-1)) (ws' := [(h0, .inr (2, [.ref hr, .ref hc, va_rf pu, .int (nI st), .int (nI sl)])), (hc, .inl (cI, 2, .inl (upd co 0 (-1))))]) hx hb hK hP hD hS 1 0 rfl rfl (by omega) (by omega) (rfl) rfl dX2_forgetTables_13 (fun H locs hP hD hS => ?_)
    refine x_iinc (k := 0) (o := 1) (v := 1) (lv' := [(1, .int (nI 1)), (0, .ref h0)]) hx hb dX2_forgetTables_14 hl rfl rfl rfl (by decide) rfl (fun ls hl => ?_)
    refine lv_goto (tgt := 2) hx hb dX2_forgetTables_17 (by decide) ?_
    refine lv_iload_n hx hb dX2_forgetTables_2 rfl (lv_at hl 0 rfl) ?_
    refine lv_iconst (v := nI 2) hx hb dX2_forgetTables_3 (by decide) ?_
    refine x_cmp_ge (tgt := 20) hx hb (nI_leI (a := 2) (b := 1) (by omega) (by omega)) dX2_forgetTables_4 (by decide) (fun c4 => ?_) (fun c4 => ?_)
    · exfalso; omega
    · refine lv_aload_n hx hb dX2_forgetTables_7 rfl (lv_at hl 1 rfl) ?_
      refine va_get (D := D) (ci := 2) (v := .ref hc) (C := RX2) (T := TX2) (N := 5) hx hb hts kX2_forgetTables_X2 hown hK hP 0 rfl rfl 1 (by decide) (hts _ kX2_forgetTables_f15) (fun _ h9 => h9) rfl dX2_forgetTables_8 ?_
      refine lv_iload_n hx hb dX2_forgetTables_11 rfl (lv_at hl 0 rfl) ?_
      refine lv_iconst (v := -1) hx hb dX2_forgetTables_12 (by decide) ?_
      refine x_ast (g := upd (upd co 0 (-1)) 1 (-1)) (ws' := [(h0, .inr (2, [.ref hr, .ref hc, va_rf pu, .int (nI st), .int (nI sl)])), (hc, .inl (cI, 2, .inl (upd (upd co 0 (-1)) 1 (-1))))]) hx hb hK hP hD hS 1 0 rfl rfl (by omega) (by omega) (rfl) rfl dX2_forgetTables_13 (fun H locs hP hD hS => ?_)
      refine x_iinc (k := 0) (o := 1) (v := 2) (lv' := [(1, .int (nI 2)), (0, .ref h0)]) hx hb dX2_forgetTables_14 hl rfl rfl rfl (by decide) rfl (fun ls hl => ?_)
      refine lv_goto (tgt := 2) hx hb dX2_forgetTables_17 (by decide) ?_
      refine lv_iload_n hx hb dX2_forgetTables_2 rfl (lv_at hl 0 rfl) ?_
      refine lv_iconst (v := nI 2) hx hb dX2_forgetTables_3 (by decide) ?_
      refine x_cmp_ge (tgt := 20) hx hb (nI_leI (a := 2) (b := 2) (by omega) (by omega)) dX2_forgetTables_4 (by decide) (fun c4 => ?_) (fun c4 => ?_)
      · exact x_ret_v hx hb hrt hlk hP hD hS dX2_forgetTables_20 ⟨by decide, by decide⟩ () trivial rfl
      · exfalso; omega

set_option maxRecDepth 20000 in
theorem kX2_follow_f18 : Cond.fieldLink RX2 18 "RowReplicator$Subscriber" "publication" "LRowReplicator$Publication;" ∈ wsX2_follow := by decide +kernel
set_option maxRecDepth 20000 in
theorem kX2_follow_X2 : ∀ w ∈ wsX20, w ∈ wsX2_follow := by decide +kernel
set_option maxRecDepth 20000 in
theorem kX2_follow_f22 : Cond.fieldLink RX2 22 "RowReplicator$Subscriber" "state" "I" ∈ wsX2_follow := by decide +kernel
set_option maxRecDepth 20000 in
theorem kX2_follow_f26 : Cond.fieldLink RX2 26 "RowReplicator$Subscriber" "slot" "I" ∈ wsX2_follow := by decide +kernel
set_option maxHeartbeats 4000000 in
set_option maxRecDepth 100000 in
theorem zX2_follow (l : Launch) (D : va_G) (cI cP cS cL : ClassId) (h0 hr hc : Nat) (pu : Option Nat) (st sl : Nat) (co : Nat → Int32) (hp n : Nat)  : xMv l yX2_follow wsX2_follow (rmD 1 0 0) D [(cI, .int), (cP, .object RX0), (cS, .object RX2)] [.ref h0, .ref hp, .int (nI n)] [(h0, .inr (2, [.ref hr, .ref hc, va_rf pu, .int (nI st), .int (nI sl)])), (hc, .inl (cI, 2, .inl co))] (fun (u : Unit) => True) (fun (u : Unit) => [(h0, .inr (2, [.ref hr, .ref hc, va_rf (some hp), .int (nI 1), .int (nI n)])), (hc, .inl (cI, 2, .inl (upd (upd co 0 (-1)) 1 (-1))))]) 0 0 := by
  refine xe_v (cc := cX2_follow) (maxL := 3) (ret := none) (by decide) rfl (Nat.le_of_ble_eq_true rfl) ?_
  intro zp ze s zm below meth zc A ls B
  obtain ⟨hx, hb, hml, hrt, hts, hown, hnm, hlk, hK, hP, hD, hA, hS, hN, hl⟩ := B
  have hown : s.vm.findClass RX2 = some zm.cls := hown
  have hl : lv_has ls 3 [(0, .ref h0), (1, .ref hp), (2, .int (nI n))] := hl
  have hA : ∀ q, s.heap.size ≤ q → A q := hA
  refine lv_aload_n hx hb dX2_follow_0 rfl (lv_at hl 0 rfl) ?_
  refine lv_aload_n hx hb dX2_follow_1 rfl (lv_at hl 1 rfl) ?_
  refine x_put (fs' := [.ref hr, .ref hc, .ref hp, .int (nI st), .int (nI sl)]) (ws' := [(h0, .inr (2, [.ref hr, .ref hc, .ref hp, .int (nI st), .int (nI sl)])), (hc, .inl (cI, 2, .inl co))]) (v := .ref hp) (ty := .object "RowReplicator$Publication") (C := RX2) (T := TX2) (N := 5) (ci := 2) hx hb hts kX2_follow_X2 tyX2 tyX2_ok nmX2 hown hK hP hD hS 0 rfl rfl 2 (by decide) (hts _ kX2_follow_f18) (fun _ h9 => h9) rfl (by decide +kernel) rfl rfl (Nat.le_of_ble_eq_true rfl) rfl rfl dX2_follow_2 (fun H locs hP hD hS => ?_)
  refine lv_aload_n hx hb dX2_follow_5 rfl (lv_at hl 0 rfl) ?_
  refine lv_iconst (v := nI 1) hx hb dX2_follow_6 (by decide) ?_
  refine x_put (fs' := [.ref hr, .ref hc, .ref hp, .int (nI 1), .int (nI sl)]) (ws' := [(h0, .inr (2, [.ref hr, .ref hc, .ref hp, .int (nI 1), .int (nI sl)])), (hc, .inl (cI, 2, .inl co))]) (v := .int (nI 1)) (ty := .int) (C := RX2) (T := TX2) (N := 5) (ci := 2) hx hb hts kX2_follow_X2 tyX2 tyX2_ok nmX2 hown hK hP hD hS 0 rfl rfl 3 (by decide) (hts _ kX2_follow_f22) (fun _ h9 => h9) rfl (by decide +kernel) rfl rfl (Nat.le_of_ble_eq_true rfl) rfl rfl dX2_follow_7 (fun H locs hP hD hS => ?_)
  refine lv_aload_n hx hb dX2_follow_10 rfl (lv_at hl 0 rfl) ?_
  refine lv_iload_n hx hb dX2_follow_11 rfl (lv_at hl 2 rfl) ?_
  refine x_put (fs' := [.ref hr, .ref hc, .ref hp, .int (nI 1), .int (nI n)]) (ws' := [(h0, .inr (2, [.ref hr, .ref hc, .ref hp, .int (nI 1), .int (nI n)])), (hc, .inl (cI, 2, .inl co))]) (v := .int (nI n)) (ty := .int) (C := RX2) (T := TX2) (N := 5) (ci := 2) hx hb hts kX2_follow_X2 tyX2 tyX2_ok nmX2 hown hK hP hD hS 0 rfl rfl 4 (by decide) (hts _ kX2_follow_f26) (fun _ h9 => h9) rfl (by decide +kernel) rfl rfl (Nat.le_of_ble_eq_true rfl) rfl rfl dX2_follow_12 (fun H locs hP hD hS => ?_)
  refine lv_aload_n hx hb dX2_follow_15 rfl (lv_at hl 0 rfl) ?_
  refine x_callv (w2 := fun (u : Unit) => [(h0, .inr (2, [.ref hr, .ref hc, va_rf (some hp), .int (nI 1), .int (nI n)])), (hc, .inl (cI, 2, .inl (upd (upd co 0 (-1)) 1 (-1))))]) (wr := []) (x_runV (n := 0) ⟨hx, hb, hml, hown, hts⟩ (zX2_forgetTables l D cI cP cS cL h0 hr hc (some hp) 1 n co) gX2_follow_X2_forgetTables rfl rfl rfl (by decide +kernel) ⟨by decide, by decide⟩ hN hK hP hD [0, 1] rfl rfl (ci := 2) (q0 := 0) rfl rfl rfl rfl hl.1 (rest := []) (As := []) rfl (Nat.le_of_ble_eq_true rfl) dX2_follow_16 ⟨by decide, by decide⟩) hP hD hS hA [0, 1] [] [0, 1] rfl rfl rfl (by decide) rfl (fun _ => rfl) (fun u H locs hw hP hD hS => ?_)
  exact x_ret_v hx hb hrt hlk hP hD hS dX2_follow_19 ⟨by decide, by decide⟩ () trivial rfl

set_option maxRecDepth 20000 in
theorem kX2_leave_f18 : Cond.fieldLink RX2 18 "RowReplicator$Subscriber" "publication" "LRowReplicator$Publication;" ∈ wsX2_leave := by decide +kernel
set_option maxRecDepth 20000 in
theorem kX2_leave_X2 : ∀ w ∈ wsX20, w ∈ wsX2_leave := by decide +kernel
set_option maxRecDepth 20000 in
theorem kX2_leave_f22 : Cond.fieldLink RX2 22 "RowReplicator$Subscriber" "state" "I" ∈ wsX2_leave := by decide +kernel
set_option maxHeartbeats 4000000 in
set_option maxRecDepth 100000 in
theorem zX2_leave (l : Launch) (D : va_G) (cI cP cS cL : ClassId) (h0 hr hc : Nat) (pu : Option Nat) (st sl : Nat) (co : Nat → Int32)  : xMv l yX2_leave wsX2_leave (rmD 1 0 0) D [(cI, .int), (cP, .object RX0), (cS, .object RX2)] [.ref h0] [(h0, .inr (2, [.ref hr, .ref hc, va_rf pu, .int (nI st), .int (nI sl)])), (hc, .inl (cI, 2, .inl co))] (fun (u : Unit) => True) (fun (u : Unit) => [(h0, .inr (2, [.ref hr, .ref hc, va_rf none, .int (nI 0), .int (nI sl)])), (hc, .inl (cI, 2, .inl (upd (upd co 0 (-1)) 1 (-1))))]) 0 0 := by
  refine xe_v (cc := cX2_leave) (maxL := 1) (ret := none) (by decide) rfl (Nat.le_of_ble_eq_true rfl) ?_
  intro zp ze s zm below meth zc A ls B
  obtain ⟨hx, hb, hml, hrt, hts, hown, hnm, hlk, hK, hP, hD, hA, hS, hN, hl⟩ := B
  have hown : s.vm.findClass RX2 = some zm.cls := hown
  have hl : lv_has ls 1 [(0, .ref h0)] := hl
  have hA : ∀ q, s.heap.size ≤ q → A q := hA
  refine lv_aload_n hx hb dX2_leave_0 rfl (lv_at hl 0 rfl) ?_
  refine lv_null hx hb dX2_leave_1 ?_
  refine x_put (fs' := [.ref hr, .ref hc, .null, .int (nI st), .int (nI sl)]) (ws' := [(h0, .inr (2, [.ref hr, .ref hc, .null, .int (nI st), .int (nI sl)])), (hc, .inl (cI, 2, .inl co))]) (v := .null) (ty := .object "RowReplicator$Publication") (C := RX2) (T := TX2) (N := 5) (ci := 2) hx hb hts kX2_leave_X2 tyX2 tyX2_ok nmX2 hown hK hP hD hS 0 rfl rfl 2 (by decide) (hts _ kX2_leave_f18) (fun _ h9 => h9) rfl (by decide +kernel) rfl rfl (Nat.le_of_ble_eq_true rfl) rfl rfl dX2_leave_2 (fun H locs hP hD hS => ?_)
  refine lv_aload_n hx hb dX2_leave_5 rfl (lv_at hl 0 rfl) ?_
  refine lv_iconst (v := nI 0) hx hb dX2_leave_6 (by decide) ?_
  refine x_put (fs' := [.ref hr, .ref hc, .null, .int (nI 0), .int (nI sl)]) (ws' := [(h0, .inr (2, [.ref hr, .ref hc, .null, .int (nI 0), .int (nI sl)])), (hc, .inl (cI, 2, .inl co))]) (v := .int (nI 0)) (ty := .int) (C := RX2) (T := TX2) (N := 5) (ci := 2) hx hb hts kX2_leave_X2 tyX2 tyX2_ok nmX2 hown hK hP hD hS 0 rfl rfl 3 (by decide) (hts _ kX2_leave_f22) (fun _ h9 => h9) rfl (by decide +kernel) rfl rfl (Nat.le_of_ble_eq_true rfl) rfl rfl dX2_leave_7 (fun H locs hP hD hS => ?_)
  refine lv_aload_n hx hb dX2_leave_10 rfl (lv_at hl 0 rfl) ?_
  refine x_callv (w2 := fun (u : Unit) => [(h0, .inr (2, [.ref hr, .ref hc, va_rf none, .int (nI 0), .int (nI sl)])), (hc, .inl (cI, 2, .inl (upd (upd co 0 (-1)) 1 (-1))))]) (wr := []) (x_runV (n := 0) ⟨hx, hb, hml, hown, hts⟩ (zX2_forgetTables l D cI cP cS cL h0 hr hc none 0 sl co) gX2_leave_X2_forgetTables rfl rfl rfl (by decide +kernel) ⟨by decide, by decide⟩ hN hK hP hD [0, 1] rfl rfl (ci := 2) (q0 := 0) rfl rfl rfl rfl hl.1 (rest := []) (As := []) rfl (Nat.le_of_ble_eq_true rfl) dX2_leave_11 ⟨by decide, by decide⟩) hP hD hS hA [0, 1] [] [0, 1] rfl rfl rfl (by decide) rfl (fun _ => rfl) (fun u H locs hw hP hD hS => ?_)
  exact x_ret_v hx hb hrt hlk hP hD hS dX2_leave_14 ⟨by decide, by decide⟩ () trivial rfl

set_option maxRecDepth 20000 in
theorem kX2_holdsLog_f22 : Cond.fieldLink RX2 22 "RowReplicator$Subscriber" "state" "I" ∈ wsX2_holdsLog := by decide +kernel
set_option maxRecDepth 20000 in
theorem kX2_holdsLog_X2 : ∀ w ∈ wsX20, w ∈ wsX2_holdsLog := by decide +kernel
set_option maxHeartbeats 4000000 in
set_option maxRecDepth 100000 in
theorem zX2_holdsLog (l : Launch) (D : va_G) (cI cP cS cL : ClassId) (h0 hr hc : Nat) (pu : Option Nat) (st sl : Nat) (hst : st ≤ 3) : xMi l yX2_holdsLog wsX2_holdsLog (rmD 0 0 0) D [(cI, .int), (cP, .object RX0), (cS, .object RX2)] [.ref h0] [(h0, .inr (2, [.ref hr, .ref hc, va_rf pu, .int (nI st), .int (nI sl)]))] (fun (r : Int32) (u : Unit) => r = bI (decide (st = 1 ∨ st = 2))) (fun (u : Unit) => [(h0, .inr (2, [.ref hr, .ref hc, va_rf pu, .int (nI st), .int (nI sl)]))]) 0 0 := by
  refine xe_i (cc := cX2_holdsLog) (maxL := 1) (ret := (some .boolean)) (by decide) rfl (Nat.le_of_ble_eq_true rfl) ?_
  intro zp ze s zm below meth zc A ls B
  obtain ⟨hx, hb, hml, hrt, hts, hown, hnm, hlk, hK, hP, hD, hA, hS, hN, hl⟩ := B
  have hown : s.vm.findClass RX2 = some zm.cls := hown
  have hl : lv_has ls 1 [(0, .ref h0)] := hl
  have hA : ∀ q, s.heap.size ≤ q → A q := hA
  refine lv_aload_n hx hb dX2_holdsLog_0 rfl (lv_at hl 0 rfl) ?_
  refine va_get (D := D) (ci := 2) (v := .int (nI st)) (C := RX2) (T := TX2) (N := 5) hx hb hts kX2_holdsLog_X2 hown hK hP 0 rfl rfl 3 (by decide) (hts _ kX2_holdsLog_f22) (fun _ h9 => h9) rfl dX2_holdsLog_1 ?_
  refine lv_iconst (v := nI 1) hx hb dX2_holdsLog_4 (by decide) ?_
  refine x_cmp_eq (tgt := 16) hx hb (nI_eq (a := st) (b := 1) (by omega) (by omega)) dX2_holdsLog_5 (by decide) (fun c5 => ?_) (fun c5 => ?_)
  · refine lv_iconst (v := nI 1) hx hb dX2_holdsLog_16 (by decide) ?_
    refine lv_goto (tgt := 21) hx hb dX2_holdsLog_17 (by decide) ?_
    exact x_ret_z hx hb hrt (by first | exact Or.inl rfl | exact Or.inr rfl) hlk hP hD hS dX2_holdsLog_21 ⟨by decide, by decide⟩ () (bI_d (by omega)).symm rfl
  · refine lv_aload_n hx hb dX2_holdsLog_8 rfl (lv_at hl 0 rfl) ?_
    refine va_get (D := D) (ci := 2) (v := .int (nI st)) (C := RX2) (T := TX2) (N := 5) hx hb hts kX2_holdsLog_X2 hown hK hP 0 rfl rfl 3 (by decide) (hts _ kX2_holdsLog_f22) (fun _ h9 => h9) rfl dX2_holdsLog_9 ?_
    refine lv_iconst (v := nI 2) hx hb dX2_holdsLog_12 (by decide) ?_
    refine x_cmp_ne (tgt := 20) hx hb (nI_eq (a := st) (b := 2) (by omega) (by omega)) dX2_holdsLog_13 (by decide) (fun c13 => ?_) (fun c13 => ?_)
    · refine lv_iconst (v := nI 0) hx hb dX2_holdsLog_20 (by decide) ?_
      exact x_ret_z hx hb hrt (by first | exact Or.inl rfl | exact Or.inr rfl) hlk hP hD hS dX2_holdsLog_21 ⟨by decide, by decide⟩ () (bI_n (by omega)).symm rfl
    · refine lv_iconst (v := nI 1) hx hb dX2_holdsLog_16 (by decide) ?_
      refine lv_goto (tgt := 21) hx hb dX2_holdsLog_17 (by decide) ?_
      exact x_ret_z hx hb hrt (by first | exact Or.inl rfl | exact Or.inr rfl) hlk hP hD hS dX2_holdsLog_21 ⟨by decide, by decide⟩ () (bI_d (by omega)).symm rfl

set_option maxRecDepth 20000 in
theorem kX2_commitsBehind_f26 : Cond.fieldLink RX2 26 "RowReplicator$Subscriber" "slot" "I" ∈ wsX2_commitsBehind := by decide +kernel
set_option maxRecDepth 20000 in
theorem kX2_commitsBehind_X2 : ∀ w ∈ wsX20, w ∈ wsX2_commitsBehind := by decide +kernel
set_option maxHeartbeats 4000000 in
set_option maxRecDepth 100000 in
theorem zX2_commitsBehind (l : Launch) (D : va_G) (cI cP cS cL : ClassId) (h0 hr hc : Nat) (pu : Option Nat) (st sl : Nat) (n : Nat) (hst : st ≤ 3) (hsl : sl ≤ n) (hn9 : n ≤ 50) : xMi l yX2_commitsBehind wsX2_commitsBehind (rmD 1 0 0) D [(cI, .int), (cP, .object RX0), (cS, .object RX2)] [.ref h0, .int (nI n)] [(h0, .inr (2, [.ref hr, .ref hc, va_rf pu, .int (nI st), .int (nI sl)]))] (fun (r : Int32) (u : Unit) => r = nI (qLag st sl n)) (fun (u : Unit) => [(h0, .inr (2, [.ref hr, .ref hc, va_rf pu, .int (nI st), .int (nI sl)]))]) 0 0 := by
  refine xe_i (cc := cX2_commitsBehind) (maxL := 2) (ret := (some .int)) (by decide) rfl (Nat.le_of_ble_eq_true rfl) ?_
  intro zp ze s zm below meth zc A ls B
  obtain ⟨hx, hb, hml, hrt, hts, hown, hnm, hlk, hK, hP, hD, hA, hS, hN, hl⟩ := B
  have hown : s.vm.findClass RX2 = some zm.cls := hown
  have hl : lv_has ls 2 [(0, .ref h0), (1, .int (nI n))] := hl
  have hA : ∀ q, s.heap.size ≤ q → A q := hA
  refine lv_aload_n hx hb dX2_commitsBehind_0 rfl (lv_at hl 0 rfl) ?_
  refine x_calli (w2 := fun (u : Unit) => [(h0, .inr (2, [.ref hr, .ref hc, va_rf pu, .int (nI st), .int (nI sl)]))]) (wr := []) (x_runV (n := 0) ⟨hx, hb, hml, hown, hts⟩ (zX2_holdsLog l D cI cP cS cL h0 hr hc pu st sl hst) gX2_commitsBehind_X2_holdsLog rfl rfl rfl (by decide +kernel) ⟨by decide, by decide⟩ hN hK hP hD [0] rfl rfl (ci := 2) (q0 := 0) rfl rfl rfl rfl hl.1 (rest := []) (As := []) rfl (Nat.le_of_ble_eq_true rfl) dX2_commitsBehind_1 ⟨by decide, by decide⟩) hP hD hS hA [0] [] [0] rfl rfl rfl (by decide) rfl (fun _ => rfl) (fun r1 u H locs hw hP hD hS => ?_)
  subst hw
  refine x_if_eq (tgt := 16) hx hb (bI_0 _) dX2_commitsBehind_4 (by decide) (fun c4 => ?_) (fun c4 => ?_)
  · refine lv_iconst (v := nI 0) hx hb dX2_commitsBehind_16 (by decide) ?_
    exact x_ret_i hx hb hrt hlk hP hD hS dX2_commitsBehind_17 ⟨by decide, by decide⟩ () (by unfold qLag; rw [if_neg (of_decide_eq_false c4)]) rfl
  · refine lv_iload_n hx hb dX2_commitsBehind_7 rfl (lv_at hl 1 rfl) ?_
    refine lv_aload_n hx hb dX2_commitsBehind_8 rfl (lv_at hl 0 rfl) ?_
    refine va_get (D := D) (ci := 2) (v := .int (nI sl)) (C := RX2) (T := TX2) (N := 5) hx hb hts kX2_commitsBehind_X2 hown hK hP 0 rfl rfl 4 (by decide) (hts _ kX2_commitsBehind_f26) (fun _ h9 => h9) rfl dX2_commitsBehind_9 ?_
    refine x_sub (k := n - sl) hx hb dX2_commitsBehind_12 (by omega) rfl ?_
    refine lv_goto (tgt := 17) hx hb dX2_commitsBehind_13 (by decide) ?_
    exact x_ret_i hx hb hrt hlk hP hD hS dX2_commitsBehind_17 ⟨by decide, by decide⟩ () (by unfold qLag; rw [if_pos (by cases h : decide (st = 1 ∨ st = 2) with | true => exact of_decide_eq_true h | false => exact absurd h c4)]) rfl

set_option maxRecDepth 20000 in
theorem kX2_takesChangesOf_f15 : Cond.fieldLink RX2 15 "RowReplicator$Subscriber" "copies" "[I" ∈ wsX2_takesChangesOf := by decide +kernel
set_option maxRecDepth 20000 in
theorem kX2_takesChangesOf_X2 : ∀ w ∈ wsX20, w ∈ wsX2_takesChangesOf := by decide +kernel
set_option maxHeartbeats 4000000 in
set_option maxRecDepth 100000 in
theorem zX2_takesChangesOf (l : Launch) (D : va_G) (cI cP cS cL : ClassId) (h0 hr hc : Nat) (pu : Option Nat) (st sl : Nat) (co : Nat → Int32) (t : Nat) (y : Int32) (ht : t < 2) : xMi l yX2_takesChangesOf wsX2_takesChangesOf (rmD 0 0 0) D [(cI, .int), (cP, .object RX0), (cS, .object RX2)] [.ref h0, .int (nI t), .int y] [(h0, .inr (2, [.ref hr, .ref hc, va_rf pu, .int (nI st), .int (nI sl)])), (hc, .inl (cI, 2, .inl co))] (fun (r : Int32) (u : Unit) => r = bI (qTk (co t) y)) (fun (u : Unit) => [(h0, .inr (2, [.ref hr, .ref hc, va_rf pu, .int (nI st), .int (nI sl)])), (hc, .inl (cI, 2, .inl co))]) 0 0 := by
  refine xe_i (cc := cX2_takesChangesOf) (maxL := 3) (ret := (some .boolean)) (by decide) rfl (Nat.le_of_ble_eq_true rfl) ?_
  intro zp ze s zm below meth zc A ls B
  obtain ⟨hx, hb, hml, hrt, hts, hown, hnm, hlk, hK, hP, hD, hA, hS, hN, hl⟩ := B
  have hown : s.vm.findClass RX2 = some zm.cls := hown
  have hl : lv_has ls 3 [(0, .ref h0), (1, .int (nI t)), (2, .int y)] := hl
  have hA : ∀ q, s.heap.size ≤ q → A q := hA
  refine lv_aload_n hx hb dX2_takesChangesOf_0 rfl (lv_at hl 0 rfl) ?_
  refine va_get (D := D) (ci := 2) (v := .ref hc) (C := RX2) (T := TX2) (N := 5) hx hb hts kX2_takesChangesOf_X2 hown hK hP 0 rfl rfl 1 (by decide) (hts _ kX2_takesChangesOf_f15) (fun _ h9 => h9) rfl dX2_takesChangesOf_1 ?_
  refine lv_iload_n hx hb dX2_takesChangesOf_4 rfl (lv_at hl 1 rfl) ?_
  refine x_ald (v := co t) hx hb hK hP 1 0 rfl rfl (by omega) (by omega) rfl dX2_takesChangesOf_5 ?_
  refine lv_iconst (v := -1) hx hb dX2_takesChangesOf_6 (by decide) ?_
  refine x_cmp_eq (tgt := 24) hx hb (Iff.rfl) dX2_takesChangesOf_7 (by decide) (fun c7 => ?_) (fun c7 => ?_)
  · refine lv_iconst (v := nI 0) hx hb dX2_takesChangesOf_24 (by decide) ?_
    exact x_ret_z hx hb hrt (by first | exact Or.inl rfl | exact Or.inr rfl) hlk hP hD hS dX2_takesChangesOf_25 ⟨by decide, by decide⟩ () (bI_n (fun q => by first | exact q.1 (by assumption) | exact absurd q.2 (Int32.not_lt.mpr (by assumption)))).symm rfl
  · refine lv_aload_n hx hb dX2_takesChangesOf_10 rfl (lv_at hl 0 rfl) ?_
    refine va_get (D := D) (ci := 2) (v := .ref hc) (C := RX2) (T := TX2) (N := 5) hx hb hts kX2_takesChangesOf_X2 hown hK hP 0 rfl rfl 1 (by decide) (hts _ kX2_takesChangesOf_f15) (fun _ h9 => h9) rfl dX2_takesChangesOf_11 ?_
    refine lv_iload_n hx hb dX2_takesChangesOf_14 rfl (lv_at hl 1 rfl) ?_
    refine x_ald (v := co t) hx hb hK hP 1 0 rfl rfl (by omega) (by omega) rfl dX2_takesChangesOf_15 ?_
    refine lv_iload_n hx hb dX2_takesChangesOf_16 rfl (lv_at hl 2 rfl) ?_
    refine x_cmp_ge (tgt := 24) hx hb (Iff.rfl) dX2_takesChangesOf_17 (by decide) (fun c17 => ?_) (fun c17 => ?_)
    · refine lv_iconst (v := nI 0) hx hb dX2_takesChangesOf_24 (by decide) ?_
      exact x_ret_z hx hb hrt (by first | exact Or.inl rfl | exact Or.inr rfl) hlk hP hD hS dX2_takesChangesOf_25 ⟨by decide, by decide⟩ () (bI_n (fun q => by first | exact q.1 (by assumption) | exact absurd q.2 (Int32.not_lt.mpr (by assumption)))).symm rfl
    · refine lv_iconst (v := nI 1) hx hb dX2_takesChangesOf_20 (by decide) ?_
      refine lv_goto (tgt := 25) hx hb dX2_takesChangesOf_21 (by decide) ?_
      exact x_ret_z hx hb hrt (by first | exact Or.inl rfl | exact Or.inr rfl) hlk hP hD hS dX2_takesChangesOf_25 ⟨by decide, by decide⟩ () (bI_d ⟨c7, Int32.not_le.mp c17⟩).symm rfl

set_option maxRecDepth 20000 in
theorem kX2_accept_f9 : Cond.fieldLink RX2 9 "RowReplicator$Subscriber" "rows" "[I" ∈ wsX2_accept := by decide +kernel
set_option maxRecDepth 20000 in
theorem kX2_accept_X2 : ∀ w ∈ wsX20, w ∈ wsX2_accept := by decide +kernel
set_option maxRecDepth 20000 in
theorem kX2_accept_a1 : Cond.methodLink RX2 36 arraycopyName ∈ wsX2_accept := by decide +kernel
set_option maxRecDepth 20000 in
theorem kX2_accept_a2 : Cond.native arraycopyName ∈ wsX2_accept := by decide +kernel
set_option maxRecDepth 20000 in
theorem kX2_accept_a3 : Cond.static arraycopyName ∈ wsX2_accept := by decide +kernel
set_option maxRecDepth 20000 in
theorem kX2_accept_a4 : Cond.initialized "java/lang/System" ∈ wsX2_accept := by decide +kernel
set_option maxRecDepth 20000 in
theorem kX2_accept_f26 : Cond.fieldLink RX2 26 "RowReplicator$Subscriber" "slot" "I" ∈ wsX2_accept := by decide +kernel
set_option maxHeartbeats 4000000 in
set_option maxRecDepth 100000 in
theorem zX2_accept (l : Launch) (D : va_G) (cI cP cS cL : ClassId) (h0 hr hc : Nat) (pu : Option Nat) (st sl : Nat) (rows g : Nat → Int32) (ha : Nat)  : xMv l yX2_accept wsX2_accept (rmD 2 0 0) D [(cI, .int), (cP, .object RX0), (cS, .object RX2)] [.ref h0, .ref ha] [(h0, .inr (2, [.ref hr, .ref hc, va_rf pu, .int (nI st), .int (nI sl)])), (hr, .inl (cI, 24, .inl rows)), (ha, .inl (cI, 24, .inl g))] (fun (u : Unit) => True) (fun (u : Unit) => [(h0, .inr (2, [.ref hr, .ref hc, va_rf pu, .int (nI st), .int (nI (sl + 1))])), (hr, .inl (cI, 24, .inl (va_cpy g rows 0 0 24))), (ha, .inl (cI, 24, .inl g))]) 0 0 := by
  refine xe_v (cc := cX2_accept) (maxL := 2) (ret := none) (by decide) rfl (Nat.le_of_ble_eq_true rfl) ?_
  intro zp ze s zm below meth zc A ls B
  obtain ⟨hx, hb, hml, hrt, hts, hown, hnm, hlk, hK, hP, hD, hA, hS, hN, hl⟩ := B
  have hown : s.vm.findClass RX2 = some zm.cls := hown
  have hl : lv_has ls 2 [(0, .ref h0), (1, .ref ha)] := hl
  have hA : ∀ q, s.heap.size ≤ q → A q := hA
  refine lv_aload_n hx hb dX2_accept_0 rfl (lv_at hl 1 rfl) ?_
  refine lv_iconst (v := nI 0) hx hb dX2_accept_1 (by decide) ?_
  refine lv_aload_n hx hb dX2_accept_2 rfl (lv_at hl 0 rfl) ?_
  refine va_get (D := D) (ci := 2) (v := .ref hr) (C := RX2) (T := TX2) (N := 5) hx hb hts kX2_accept_X2 hown hK hP 0 rfl rfl 0 (by decide) (hts _ kX2_accept_f9) (fun _ h9 => h9) rfl dX2_accept_3 ?_
  refine lv_iconst (v := nI 0) hx hb dX2_accept_6 (by decide) ?_
  refine lv_bipush (v := nI 24) hx hb dX2_accept_7 (by decide) ?_
  refine x_cpy (g := va_cpy g rows 0 0 24) (ws' := [(h0, .inr (2, [.ref hr, .ref hc, va_rf pu, .int (nI st), .int (nI sl)])), (hr, .inl (cI, 24, .inl (va_cpy g rows 0 0 24))), (ha, .inl (cI, 24, .inl g))]) hx hb (hml.trans hl.1.symm) hown (hts _ kX2_accept_a1) (hts _ kX2_accept_a2) (hts _ kX2_accept_a3) (hts _ kX2_accept_a4) hK hP hD hS 2 1 0 0 rfl rfl rfl rfl (by omega) (by omega) (by omega) (by omega) (by omega) (rfl) rfl (by decide) (by decide) dX2_accept_9 (fun H locs hP hD hS => ?_)
  refine lv_aload_n hx hb dX2_accept_12 rfl (lv_at hl 0 rfl) ?_
  refine lv_dup hx hb dX2_accept_13 rfl ?_
  refine va_get (D := D) (ci := 2) (v := .int (nI sl)) (C := RX2) (T := TX2) (N := 5) hx hb hts kX2_accept_X2 hown hK hP 0 rfl rfl 4 (by decide) (hts _ kX2_accept_f26) (fun _ h9 => h9) rfl dX2_accept_14 ?_
  refine lv_iconst (v := nI 1) hx hb dX2_accept_17 (by decide) ?_
  refine x_add (k := sl + 1) hx hb dX2_accept_18 rfl ?_
  refine x_put (fs' := [.ref hr, .ref hc, va_rf pu, .int (nI st), .int (nI (sl + 1))]) (ws' := [(h0, .inr (2, [.ref hr, .ref hc, va_rf pu, .int (nI st), .int (nI (sl + 1))])), (hr, .inl (cI, 24, .inl (va_cpy g rows 0 0 24))), (ha, .inl (cI, 24, .inl g))]) (v := .int (nI (sl + 1))) (ty := .int) (C := RX2) (T := TX2) (N := 5) (ci := 2) hx hb hts kX2_accept_X2 tyX2 tyX2_ok nmX2 hown hK hP hD hS 0 rfl rfl 4 (by decide) (hts _ kX2_accept_f26) (fun _ h9 => h9) rfl (by decide +kernel) rfl rfl (Nat.le_of_ble_eq_true rfl) rfl rfl dX2_accept_19 (fun H locs hP hD hS => ?_)
  exact x_ret_v hx hb hrt hlk hP hD hS dX2_accept_22 ⟨by decide, by decide⟩ () trivial rfl
