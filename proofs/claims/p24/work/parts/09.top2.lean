set_option maxRecDepth 20000 in
theorem kX4_truncate_f12 : Cond.fieldLink RX4 12 "RowReplicator" "publisher" "LRowReplicator$Publisher;" ∈ wsX4_truncate := by decide +kernel
set_option maxRecDepth 20000 in
theorem kX4_truncate_X4 : ∀ w ∈ wsX40, w ∈ wsX4_truncate := by decide +kernel
set_option maxRecDepth 20000 in
theorem kX4_truncate_X1 : ∀ w ∈ wsX10, w ∈ wsX4_truncate := by decide +kernel
set_option maxHeartbeats 4000000 in
set_option maxRecDepth 100000 in
theorem zX4_truncate (l : Launch) (D : va_G) (cI cP cS cL : ClassId) (hfl : l.stackTraces = false) (x0 pb pa sa g0 lim : Nat) (b1 b2 b3 b4 b5 b6 n cn : Nat) (rows cc ct ck nr : Nat → Int32) (tx : Int32) (hn9 : n ≤ 50) (hcc : cc n = nI cn) (hcn : cn ≤ 12) : xXi l yX4_truncate wsX4_truncate (rmD 7 2 12) D [(cI, .int), (cP, .object RX0), (cS, .object RX2)] [.ref x0, .int tx] [(x0, .inr (4, [.ref pb, .ref pa, .ref sa, .ref g0, .int (nI lim)])), (pb, .inr (1, [.ref b1, .int (nI n), .ref b2, .ref b3, .ref b4, .ref b5, .ref b6])), (b1, .inl (cI, 24, .inl rows)), (b2, .inl (cI, 51, .inl cc)), (b3, .inl (cI, 612, .inl ct)), (b4, .inl (cI, 612, .inl ck)), (b5, .inl (cI, 612, .inl nr))] (fun (r : Int32) (u : Nat) => match u with | tn => (tx = nI tn ∧ tn < 2 ∧ cn < 12 ∧ r = nI (qCnt rows (tn * 12) 12))) (fun (u : Nat) => match u with | tn => [(x0, .inr (4, [.ref pb, .ref pa, .ref sa, .ref g0, .int (nI lim)])), (pb, .inr (1, [.ref b1, .int (nI n), .ref b2, .ref b3, .ref b4, .ref b5, .ref b6])), (b1, .inl (cI, 24, .inl (qFill rows (tn * 12) 12 (-1)))), (b2, .inl (cI, 51, .inl (upd cc n (nI (cn + 1))))), (b3, .inl (cI, 612, .inl (upd ct (n * 12 + cn) (nI tn)))), (b4, .inl (cI, 612, .inl (upd ck (n * 12 + cn) (-1)))), (b5, .inl (cI, 612, .inl (upd nr (n * 12 + cn) (-1))))]) (fun E => (E = nIO ∧ ¬ vp_in tx 2) ∨ (E = nIS ∧ vp_in tx 2 ∧ cn = 12)) 2 12 := by
  refine xe_Xi (cc := cX4_truncate) (maxL := 4) (ret := (some .int)) (by decide) rfl (Nat.le_of_ble_eq_true rfl) ?_
  intro zp ze s zm below meth zc A ls B htab hE
  obtain ⟨hx, hb, hml, hrt, hts, hown, hnm, hlk, hK, hP, hD, hA, hS, hN, hl⟩ := B
  have hown : s.vm.findClass RX4 = some zm.cls := hown
  have hl : lv_has ls 4 [(0, .ref x0), (1, .int tx)] := hl
  have hA : ∀ q, s.heap.size ≤ q → A q := hA
  refine lv_iload_n hx hb dX4_truncate_0 rfl (lv_at hl 1 rfl) ?_
  refine x_callXv (w2 := fun (u : Nat) => match u with | tn => [(x0, .inr (4, [.ref pb, .ref pa, .ref sa, .ref g0, .int (nI lim)])), (pb, .inr (1, [.ref b1, .int (nI n), .ref b2, .ref b3, .ref b4, .ref b5, .ref b6])), (b1, .inl (cI, 24, .inl rows)), (b2, .inl (cI, 51, .inl cc)), (b3, .inl (cI, 612, .inl ct)), (b4, .inl (cI, 612, .inl ck)), (b5, .inl (cI, 612, .inl nr))]) (wr := [(x0, .inr (4, [.ref pb, .ref pa, .ref sa, .ref g0, .int (nI lim)])), (pb, .inr (1, [.ref b1, .int (nI n), .ref b2, .ref b3, .ref b4, .ref b5, .ref b6])), (b1, .inl (cI, 24, .inl rows)), (b2, .inl (cI, 51, .inl cc)), (b3, .inl (cI, 612, .inl ct)), (b4, .inl (cI, 612, .inl ck)), (b5, .inl (cI, 612, .inl nr))]) (x_runXS (n := 1) ⟨hx, hb, hml, hown, hts⟩ (zX4_checkTable l D cI cP cS cL hfl tx) gX4_truncate_X4_checkTable rfl rfl rfl (by decide +kernel) ⟨by decide, by decide⟩ hN hK hP hD hS hA hE [] rfl rfl rfl hl.1 (rest := []) (As := [.int tx]) rfl (Nat.le_of_ble_eq_true rfl) dX4_truncate_1 ⟨by decide, by decide⟩) htab hlk (fun _ h => Or.inl h) ⟨by decide, by decide⟩ hP hD hS hA [] [0, 1, 2, 3, 4, 5, 6] [0, 1, 2, 3, 4, 5, 6] [0, 1, 2, 3, 4, 5, 6] rfl rfl rfl (by decide) rfl rfl rfl (fun _ => rfl) (fun u H locs hw hP hD hS => ?_)
  obtain ⟨tn, h9⟩ : ∃ z, z = u := ⟨u, rfl⟩
  subst h9
  have hP : va_P D vwCl [(x0, .inr (4, [.ref pb, .ref pa, .ref sa, .ref g0, .int (nI lim)])), (pb, .inr (1, [.ref b1, .int (nI n), .ref b2, .ref b3, .ref b4, .ref b5, .ref b6])), (b1, .inl (cI, 24, .inl rows)), (b2, .inl (cI, 51, .inl cc)), (b3, .inl (cI, 612, .inl ct)), (b4, .inl (cI, 612, .inl ck)), (b5, .inl (cI, 612, .inl nr))] H := hP
  have hD : va_D A [(x0, .inr (4, [.ref pb, .ref pa, .ref sa, .ref g0, .int (nI lim)])), (pb, .inr (1, [.ref b1, .int (nI n), .ref b2, .ref b3, .ref b4, .ref b5, .ref b6])), (b1, .inl (cI, 24, .inl rows)), (b2, .inl (cI, 51, .inl cc)), (b3, .inl (cI, 612, .inl ct)), (b4, .inl (cI, 612, .inl ck)), (b5, .inl (cI, 612, .inl nr))] := hD
  obtain ⟨rfl, ht2⟩ := hw
  have hv : vp_in (nI tn) 2 := vp_in_nI ht2 (by decide)
  refine lv_aload_n hx hb dX4_truncate_4 rfl (lv_at hl 0 rfl) ?_
  refine x_callXv (w2 := fun (u : Unit) => [(x0, .inr (4, [.ref pb, .ref pa, .ref sa, .ref g0, .int (nI lim)])), (pb, .inr (1, [.ref b1, .int (nI n), .ref b2, .ref b3, .ref b4, .ref b5, .ref b6])), (b1, .inl (cI, 24, .inl rows)), (b2, .inl (cI, 51, .inl cc)), (b3, .inl (cI, 612, .inl ct)), (b4, .inl (cI, 612, .inl ck)), (b5, .inl (cI, 612, .inl nr))]) (wr := [(b1, .inl (cI, 24, .inl rows)), (b3, .inl (cI, 612, .inl ct)), (b4, .inl (cI, 612, .inl ck)), (b5, .inl (cI, 612, .inl nr))]) (x_runXV (n := 0) ⟨hx, hb, hml, hown, hts⟩ (zX4_checkRoomForChange l D cI cP cS cL hfl x0 pb pa sa g0 lim b1 b2 b3 b4 b5 b6 n cn cc hn9 hcc hcn) gX4_truncate_X4_checkRoomForChange rfl rfl rfl (by decide +kernel) ⟨by decide, by decide⟩ hN hK hP hD hS hA hE [0, 1, 3] rfl rfl (ci := 4) (q0 := 0) rfl rfl rfl rfl hl.1 (rest := []) (As := []) rfl (Nat.le_of_ble_eq_true rfl) dX4_truncate_5 ⟨by decide, by decide⟩) htab hlk (fun _ h => Or.inr ⟨h.1, hv, h.2⟩) ⟨by decide, by decide⟩ hP hD hS hA [0, 1, 3] [2, 4, 5, 6] [4, 5, 0, 6, 1, 2, 3] [4, 5, 0, 6, 1, 2, 3] rfl rfl rfl (by decide) rfl rfl rfl (fun _ => rfl) (fun u H locs hw hP hD hS => ?_)
  have hw9 : cn < 12 := hw
  refine lv_iconst (v := nI 0) hx hb dX4_truncate_8 (by decide) ?_
  refine lv_istore_n (lv' := [(2, .int (nI 0)), (0, .ref x0), (1, .int (nI tn))]) hx hb dX4_truncate_9 rfl hl (by decide) rfl (fun ls hl => ?_)
  refine lv_iconst (v := nI 0) hx hb dX4_truncate_10 (by decide) ?_
  refine lv_istore_n (lv' := [(3, .int (nI 0)), (2, .int (nI 0)), (0, .ref x0), (1, .int (nI tn))]) hx hb dX4_truncate_11 rfl hl (by decide) rfl (fun ls hl => ?_)
  refine x_loop (nL := 4) (fun (x : Nat × Nat) => match x with | (j, cq) => j ≤ 12 ∧ cq = qCnt rows (tn * 12) j) (fun (x : Nat × Nat) => match x with | (j, cq) => 12 - j) (fun (x : Nat × Nat) => match x with | (j, cq) => [(x0, .inr (4, [.ref pb, .ref pa, .ref sa, .ref g0, .int (nI lim)])), (pb, .inr (1, [.ref b1, .int (nI n), .ref b2, .ref b3, .ref b4, .ref b5, .ref b6])), (b1, .inl (cI, 24, .inl rows)), (b2, .inl (cI, 51, .inl cc)), (b3, .inl (cI, 612, .inl ct)), (b4, .inl (cI, 612, .inl ck)), (b5, .inl (cI, 612, .inl nr))]) (fun (x : Nat × Nat) => match x with | (j, cq) => [(0, .ref x0), (1, .int (nI tn)), (2, .int (nI cq)), (3, .int (nI j))]) (fun (x : Nat × Nat) => match x with | (j, cq) => []) ?_ (0, 0) ⟨by omega, rfl⟩ hP hD hS (lv_sub hl [2, 3, 1, 0] rfl)
  intro x9 hI12 ih12 H locs ls hP hD hS hl
  obtain ⟨j, cq⟩ := x9
  have hP : va_P D vwCl [(x0, .inr (4, [.ref pb, .ref pa, .ref sa, .ref g0, .int (nI lim)])), (pb, .inr (1, [.ref b1, .int (nI n), .ref b2, .ref b3, .ref b4, .ref b5, .ref b6])), (b1, .inl (cI, 24, .inl rows)), (b2, .inl (cI, 51, .inl cc)), (b3, .inl (cI, 612, .inl ct)), (b4, .inl (cI, 612, .inl ck)), (b5, .inl (cI, 612, .inl nr))] H := hP
  have hD : va_D A [(x0, .inr (4, [.ref pb, .ref pa, .ref sa, .ref g0, .int (nI lim)])), (pb, .inr (1, [.ref b1, .int (nI n), .ref b2, .ref b3, .ref b4, .ref b5, .ref b6])), (b1, .inl (cI, 24, .inl rows)), (b2, .inl (cI, 51, .inl cc)), (b3, .inl (cI, 612, .inl ct)), (b4, .inl (cI, 612, .inl ck)), (b5, .inl (cI, 612, .inl nr))] := hD
  have hl : lv_has ls 4 [(0, .ref x0), (1, .int (nI tn)), (2, .int (nI cq)), (3, .int (nI j))] := hl
  obtain ⟨hj, hq⟩ := hI12
  refine lv_iload_n hx hb dX4_truncate_12 rfl (lv_at hl 3 rfl) ?_
  refine lv_bipush (v := nI 12) hx hb dX4_truncate_13 (by decide) ?_
  refine x_cmp_ge (tgt := 44) hx hb (nI_leI (a := 12) (b := j) (by omega) (by omega)) dX4_truncate_15 (by decide) (fun c15 => ?_) (fun c15 => ?_)
  · obtain rfl : j = 12 := by omega
    refine lv_aload_n hx hb dX4_truncate_44 rfl (lv_at hl 0 rfl) ?_
    refine va_get (D := D) (ci := 4) (v := .ref pb) (C := RX4) (T := TX4) (N := 5) hx hb hts kX4_truncate_X4 hown hK hP 0 rfl rfl 0 (by decide) (hts _ kX4_truncate_f12) (fun _ h9 => h9) rfl dX4_truncate_45 ?_
    refine lv_iload_n hx hb dX4_truncate_48 rfl (lv_at hl 1 rfl) ?_
    refine lv_iconst (v := -1) hx hb dX4_truncate_49 (by decide) ?_
    refine lv_iconst (v := -1) hx hb dX4_truncate_50 (by decide) ?_
    refine x_callv (w2 := fun (u : Unit) => [(x0, .inr (4, [.ref pb, .ref pa, .ref sa, .ref g0, .int (nI lim)])), (pb, .inr (1, [.ref b1, .int (nI n), .ref b2, .ref b3, .ref b4, .ref b5, .ref b6])), (b1, .inl (cI, 24, .inl (qFill rows (tn * 12) 12 ((-1))))), (b2, .inl (cI, 51, .inl (upd cc n (nI (cn + 1))))), (b3, .inl (cI, 612, .inl (upd ct (n * 12 + cn) (nI tn)))), (b4, .inl (cI, 612, .inl (upd ck (n * 12 + cn) (-1)))), (b5, .inl (cI, 612, .inl (upd nr (n * 12 + cn) ((-1)))))]) (wr := [(x0, .inr (4, [.ref pb, .ref pa, .ref sa, .ref g0, .int (nI lim)]))]) (x_runV (n := 3) ⟨hx, hb, hml, hown, hts⟩ (zX1_changeAll l D cI cP cS cL pb b1 b2 b3 b4 b5 b6 n cn tn (-1) rows cc ct ck nr hn9 hcc hw9 ht2) gX4_truncate_X1_change rfl rfl rfl (by decide +kernel) ⟨by decide, by decide⟩ hN hK hP hD [1, 2, 3, 4, 5, 6] rfl rfl (ci := 1) (q0 := 1) rfl rfl rfl rfl hl.1 (rest := []) (As := [.int (nI tn), .int (-1), .int (-1)]) rfl (Nat.le_of_ble_eq_true rfl) dX4_truncate_51 ⟨by decide, by decide⟩) hP hD hS hA [1, 2, 3, 4, 5, 6] [0] [0, 1, 2, 3, 4, 5, 6] rfl rfl rfl (by decide) rfl (fun _ => rfl) (fun u H locs hw hP hD hS => ?_)
    refine lv_iload_n hx hb dX4_truncate_54 rfl (lv_at hl 2 rfl) ?_
    exact vx_ret (x_ret_i hx hb hrt hlk hP hD hS dX4_truncate_55 ⟨by decide, by decide⟩ tn ⟨rfl, ht2, hw9, (by rw [hq])⟩ rfl)
  · refine lv_aload_n hx hb dX4_truncate_18 rfl (lv_at hl 0 rfl) ?_
    refine va_get (D := D) (ci := 4) (v := .ref pb) (C := RX4) (T := TX4) (N := 5) hx hb hts kX4_truncate_X4 hown hK hP 0 rfl rfl 0 (by decide) (hts _ kX4_truncate_f12) (fun _ h9 => h9) rfl dX4_truncate_19 ?_
    refine x_getN (D := D) (ci := 1) (v := .ref b1) (C := RX1) (T := TX1) (N := 7) (ref := "RowReplicator$Publisher") hx hb hts kX4_truncate_X1 hown hN hK hP 1 rfl rfl 0 (by decide) (by decide +kernel) (fun _ h9 => h9) rfl dX4_truncate_22 ?_
    refine lv_iload_n hx hb dX4_truncate_25 rfl (lv_at hl 1 rfl) ?_
    refine lv_iload_n hx hb dX4_truncate_26 rfl (lv_at hl 3 rfl) ?_
    refine x_calli (w2 := fun (u : Unit) => [(x0, .inr (4, [.ref pb, .ref pa, .ref sa, .ref g0, .int (nI lim)])), (pb, .inr (1, [.ref b1, .int (nI n), .ref b2, .ref b3, .ref b4, .ref b5, .ref b6])), (b1, .inl (cI, 24, .inl rows)), (b2, .inl (cI, 51, .inl cc)), (b3, .inl (cI, 612, .inl ct)), (b4, .inl (cI, 612, .inl ck)), (b5, .inl (cI, 612, .inl nr))]) (wr := [(x0, .inr (4, [.ref pb, .ref pa, .ref sa, .ref g0, .int (nI lim)])), (pb, .inr (1, [.ref b1, .int (nI n), .ref b2, .ref b3, .ref b4, .ref b5, .ref b6])), (b1, .inl (cI, 24, .inl rows)), (b2, .inl (cI, 51, .inl cc)), (b3, .inl (cI, 612, .inl ct)), (b4, .inl (cI, 612, .inl ck)), (b5, .inl (cI, 612, .inl nr))]) (x_runS (n := 2) ⟨hx, hb, hml, hown, hts⟩ (zX4_placeOf l D cI cP cS cL tn j) gX4_truncate_X4_placeOf rfl rfl rfl (by decide +kernel) ⟨by decide, by decide⟩ hN hK hP hD [] rfl rfl rfl hl.1 (rest := [.ref b1]) (As := [.int (nI tn), .int (nI j)]) rfl (Nat.le_of_ble_eq_true rfl) dX4_truncate_27 ⟨by decide, by decide⟩) hP hD hS hA [] [0, 1, 2, 3, 4, 5, 6] [0, 1, 2, 3, 4, 5, 6] rfl rfl rfl (by decide) rfl (fun _ => rfl) (fun r27 u H locs hw hP hD hS => ?_)
    subst hw
    refine x_ald (v := rows (tn * 12 + j)) hx hb hK hP 2 0 rfl rfl (by omega) (by omega) rfl dX4_truncate_30 ?_
    refine lv_iconst (v := -1) hx hb dX4_truncate_31 (by decide) ?_
    refine x_cmp_eq (tgt := 38) hx hb (Iff.rfl) dX4_truncate_32 (by decide) (fun c32 => ?_) (fun c32 => ?_)
    · refine x_iinc (k := 3) (o := 1) (v := j + 1) (lv' := [(3, .int (nI (j + 1))), (0, .ref x0), (1, .int (nI tn)), (2, .int (nI cq))]) hx hb dX4_truncate_38 hl rfl rfl rfl (by decide) rfl (fun ls hl => ?_)
      refine lv_goto (tgt := 12) hx hb dX4_truncate_41 (by decide) ?_
      exact ih12 (j + 1, cq) ⟨by omega, (by rw [hq]; exact (qCnt_y c32).symm)⟩ (by show 12 - (j + 1) < 12 - j; omega) _ _ _ hP hD hS (lv_sub hl [1, 2, 3, 0] rfl)
    · refine x_iinc (k := 2) (o := 1) (v := cq + 1) (lv' := [(2, .int (nI (cq + 1))), (0, .ref x0), (1, .int (nI tn)), (3, .int (nI j))]) hx hb dX4_truncate_35 hl rfl rfl rfl (by decide) rfl (fun ls hl => ?_)
      refine x_iinc (k := 3) (o := 1) (v := j + 1) (lv' := [(3, .int (nI (j + 1))), (2, .int (nI (cq + 1))), (0, .ref x0), (1, .int (nI tn))]) hx hb dX4_truncate_38 hl rfl rfl rfl (by decide) rfl (fun ls hl => ?_)
      refine lv_goto (tgt := 12) hx hb dX4_truncate_41 (by decide) ?_
      exact ih12 (j + 1, cq + 1) ⟨by omega, (by rw [hq]; exact (qCnt_n c32).symm)⟩ (by show 12 - (j + 1) < 12 - j; omega) _ _ _ hP hD hS (lv_sub hl [2, 3, 1, 0] rfl)

set_option maxRecDepth 20000 in
theorem kX4_cutLaggards_f24 : Cond.fieldLink RX4 24 "RowReplicator" "subscribers" "[LRowReplicator$Subscriber;" ∈ wsX4_cutLaggards := by decide +kernel
set_option maxRecDepth 20000 in
theorem kX4_cutLaggards_X4 : ∀ w ∈ wsX40, w ∈ wsX4_cutLaggards := by decide +kernel
set_option maxRecDepth 20000 in
theorem kX4_cutLaggards_f12 : Cond.fieldLink RX4 12 "RowReplicator" "publisher" "LRowReplicator$Publisher;" ∈ wsX4_cutLaggards := by decide +kernel
set_option maxRecDepth 20000 in
theorem kX4_cutLaggards_X1 : ∀ w ∈ wsX10, w ∈ wsX4_cutLaggards := by decide +kernel
set_option maxRecDepth 20000 in
theorem kX4_cutLaggards_f35 : Cond.fieldLink RX4 35 "RowReplicator" "limit" "I" ∈ wsX4_cutLaggards := by decide +kernel
set_option maxRecDepth 20000 in
theorem kX4_cutLaggards_X2 : ∀ w ∈ wsX20, w ∈ wsX4_cutLaggards := by decide +kernel
set_option maxHeartbeats 4000000 in
set_option maxRecDepth 100000 in
theorem zX4_cutLaggards (l : Launch) (D : va_G) (cI cP cS cL : ClassId) (x0 pb pa sa g0 lim : Nat) (b1 b2 b3 b4 b5 b6 n : Nat) (aS aS1 aS2 : Nat → Nat) (pu : Nat → Option Nat) (st sl : Nat → Nat) (hn9 : n ≤ 50) (hlim : lim ≤ 50) (hst : ∀ i, i < 3 → st i ≤ 3) (hsl : ∀ i, i < 3 → sl i ≤ n) : xMi l yX4_cutLaggards wsX4_cutLaggards (rmD 2 0 0) D [(cI, .int), (cP, .object RX0), (cS, .object RX2)] [.ref x0] [(x0, .inr (4, [.ref pb, .ref pa, .ref sa, .ref g0, .int (nI lim)])), (pb, .inr (1, [.ref b1, .int (nI n), .ref b2, .ref b3, .ref b4, .ref b5, .ref b6])), (sa, .inl (cS, 3, .inr (.inr (.inr (.inr ((fun j => some (aS j)))))))), (aS 0, .inr (2, [.ref (aS1 0), .ref (aS2 0), va_rf (pu 0), .int (nI (st 0)), .int (nI (sl 0))])), (aS 1, .inr (2, [.ref (aS1 1), .ref (aS2 1), va_rf (pu 1), .int (nI (st 1)), .int (nI (sl 1))])), (aS 2, .inr (2, [.ref (aS1 2), .ref (aS2 2), va_rf (pu 2), .int (nI (st 2)), .int (nI (sl 2))]))] (fun (r : Int32) (u : Unit) => r = nI (qCutN lim (st 0) (sl 0) n + qCutN lim (st 1) (sl 1) n + qCutN lim (st 2) (sl 2) n)) (fun (u : Unit) => [(x0, .inr (4, [.ref pb, .ref pa, .ref sa, .ref g0, .int (nI lim)])), (pb, .inr (1, [.ref b1, .int (nI n), .ref b2, .ref b3, .ref b4, .ref b5, .ref b6])), (sa, .inl (cS, 3, .inr (.inr (.inr (.inr ((fun j => some (aS j)))))))), (aS 0, .inr (2, [.ref (aS1 0), .ref (aS2 0), va_rf (pu 0), .int (nI (qCut lim (st 0) (sl 0) n)), .int (nI (sl 0))])), (aS 1, .inr (2, [.ref (aS1 1), .ref (aS2 1), va_rf (pu 1), .int (nI (qCut lim (st 1) (sl 1) n)), .int (nI (sl 1))])), (aS 2, .inr (2, [.ref (aS1 2), .ref (aS2 2), va_rf (pu 2), .int (nI (qCut lim (st 2) (sl 2) n)), .int (nI (sl 2))]))]) 0 0 := by
  refine xe_i (cc := cX4_cutLaggards) (maxL := 3) (ret := (some .int)) (by decide) rfl (Nat.le_of_ble_eq_true rfl) ?_
  intro zp ze s zm below meth zc A ls B
  obtain ⟨hx, hb, hml, hrt, hts, hown, hnm, hlk, hK, hP, hD, hA, hS, hN, hl⟩ := B
  have hown : s.vm.findClass RX4 = some zm.cls := hown
  have hl : lv_has ls 3 [(0, .ref x0)] := hl
  have hA : ∀ q, s.heap.size ≤ q → A q := hA
  refine lv_iconst (v := nI 0) hx hb dX4_cutLaggards_0 (by decide) ?_
  refine lv_istore_n (lv' := [(1, .int (nI 0)), (0, .ref x0)]) hx hb dX4_cutLaggards_1 rfl hl (by decide) rfl (fun ls hl => ?_)
  refine lv_iconst (v := nI 0) hx hb dX4_cutLaggards_2 (by decide) ?_
  refine lv_istore_n (lv' := [(2, .int (nI 0)), (1, .int (nI 0)), (0, .ref x0)]) hx hb dX4_cutLaggards_3 rfl hl (by decide) rfl (fun ls hl => ?_)
  refine x_loop (nL := 3) (fun (x : Nat × Nat × Nat × Nat × Nat) => match x with | (i, cq, a0, a1, a2) => (i = 0 ∧ cq = 0 ∧ a0 = st 0 ∧ a1 = st 1 ∧ a2 = st 2) ∨ (i = 1 ∧ cq = qCutN lim (st 0) (sl 0) n ∧ a0 = qCut lim (st 0) (sl 0) n ∧ a1 = st 1 ∧ a2 = st 2) ∨ (i = 2 ∧ cq = qCutN lim (st 0) (sl 0) n + qCutN lim (st 1) (sl 1) n ∧ a0 = qCut lim (st 0) (sl 0) n ∧ a1 = qCut lim (st 1) (sl 1) n ∧ a2 = st 2) ∨ (i = 3 ∧ cq = qCutN lim (st 0) (sl 0) n + qCutN lim (st 1) (sl 1) n + qCutN lim (st 2) (sl 2) n ∧ a0 = qCut lim (st 0) (sl 0) n ∧ a1 = qCut lim (st 1) (sl 1) n ∧ a2 = qCut lim (st 2) (sl 2) n)) (fun (x : Nat × Nat × Nat × Nat × Nat) => match x with | (i, cq, a0, a1, a2) => 3 - i) (fun (x : Nat × Nat × Nat × Nat × Nat) => match x with | (i, cq, a0, a1, a2) => [(x0, .inr (4, [.ref pb, .ref pa, .ref sa, .ref g0, .int (nI lim)])), (pb, .inr (1, [.ref b1, .int (nI n), .ref b2, .ref b3, .ref b4, .ref b5, .ref b6])), (sa, .inl (cS, 3, .inr (.inr (.inr (.inr ((fun j => some (aS j)))))))), (aS 0, .inr (2, [.ref (aS1 0), .ref (aS2 0), va_rf (pu 0), .int (nI a0), .int (nI (sl 0))])), (aS 1, .inr (2, [.ref (aS1 1), .ref (aS2 1), va_rf (pu 1), .int (nI a1), .int (nI (sl 1))])), (aS 2, .inr (2, [.ref (aS1 2), .ref (aS2 2), va_rf (pu 2), .int (nI a2), .int (nI (sl 2))]))]) (fun (x : Nat × Nat × Nat × Nat × Nat) => match x with | (i, cq, a0, a1, a2) => [(0, .ref x0), (1, .int (nI cq)), (2, .int (nI i))]) (fun (x : Nat × Nat × Nat × Nat × Nat) => match x with | (i, cq, a0, a1, a2) => []) ?_ (0, 0, st 0, st 1, st 2) (Or.inl ⟨rfl, rfl, rfl, rfl, rfl⟩) hP hD hS (lv_sub hl [2, 1, 0] rfl)
  intro x9 hI4 ih4 H locs ls hP hD hS hl
  obtain ⟨i, cq, a0, a1, a2⟩ := x9
  have hP : va_P D vwCl [(x0, .inr (4, [.ref pb, .ref pa, .ref sa, .ref g0, .int (nI lim)])), (pb, .inr (1, [.ref b1, .int (nI n), .ref b2, .ref b3, .ref b4, .ref b5, .ref b6])), (sa, .inl (cS, 3, .inr (.inr (.inr (.inr ((fun j => some (aS j)))))))), (aS 0, .inr (2, [.ref (aS1 0), .ref (aS2 0), va_rf (pu 0), .int (nI a0), .int (nI (sl 0))])), (aS 1, .inr (2, [.ref (aS1 1), .ref (aS2 1), va_rf (pu 1), .int (nI a1), .int (nI (sl 1))])), (aS 2, .inr (2, [.ref (aS1 2), .ref (aS2 2), va_rf (pu 2), .int (nI a2), .int (nI (sl 2))]))] H := hP
  have hD : va_D A [(x0, .inr (4, [.ref pb, .ref pa, .ref sa, .ref g0, .int (nI lim)])), (pb, .inr (1, [.ref b1, .int (nI n), .ref b2, .ref b3, .ref b4, .ref b5, .ref b6])), (sa, .inl (cS, 3, .inr (.inr (.inr (.inr ((fun j => some (aS j)))))))), (aS 0, .inr (2, [.ref (aS1 0), .ref (aS2 0), va_rf (pu 0), .int (nI a0), .int (nI (sl 0))])), (aS 1, .inr (2, [.ref (aS1 1), .ref (aS2 1), va_rf (pu 1), .int (nI a1), .int (nI (sl 1))])), (aS 2, .inr (2, [.ref (aS1 2), .ref (aS2 2), va_rf (pu 2), .int (nI a2), .int (nI (sl 2))]))] := hD
  have hl : lv_has ls 3 [(0, .ref x0), (1, .int (nI cq)), (2, .int (nI i))] := hl
  have hC := hI4
  rcases hC with ⟨rfl, rfl, rfl, rfl, rfl⟩ | ⟨rfl, rfl, rfl, rfl, rfl⟩ | ⟨rfl, rfl, rfl, rfl, rfl⟩ | ⟨rfl, rfl, rfl, rfl, rfl⟩
  · have hl : lv_has ls 3 [(0, .ref x0), (1, .int (nI 0)), (2, .int (nI 0))] := hl
    refine lv_iload_n hx hb dX4_cutLaggards_4 rfl (lv_at hl 2 rfl) ?_
    refine lv_iconst (v := nI 3) hx hb dX4_cutLaggards_5 (by decide) ?_
    refine x_cmp_ge (tgt := 51) hx hb (nI_leI (a := 3) (b := 0) (by omega) (by omega)) dX4_cutLaggards_6 (by decide) (fun c6 => ?_) (fun c6 => ?_)
    · exfalso; omega
    · refine lv_aload_n hx hb dX4_cutLaggards_9 rfl (lv_at hl 0 rfl) ?_
      refine va_get (D := D) (ci := 4) (v := .ref sa) (C := RX4) (T := TX4) (N := 5) hx hb hts kX4_cutLaggards_X4 hown hK hP 0 rfl rfl 2 (by decide) (hts _ kX4_cutLaggards_f24) (fun _ h9 => h9) rfl dX4_cutLaggards_10 ?_
      refine lv_iload_n hx hb dX4_cutLaggards_13 rfl (lv_at hl 2 rfl) ?_
      refine x_aldq (b := aS 0) (C := RX2) hx hb hK hP 2 2 rfl rfl (by omega) (by omega) rfl dX4_cutLaggards_14 ?_
      refine lv_aload_n hx hb dX4_cutLaggards_15 rfl (lv_at hl 0 rfl) ?_
      refine va_get (D := D) (ci := 4) (v := .ref pb) (C := RX4) (T := TX4) (N := 5) hx hb hts kX4_cutLaggards_X4 hown hK hP 0 rfl rfl 0 (by decide) (hts _ kX4_cutLaggards_f12) (fun _ h9 => h9) rfl dX4_cutLaggards_16 ?_
      refine x_getN (D := D) (ci := 1) (v := .int (nI n)) (C := RX1) (T := TX1) (N := 7) (ref := "RowReplicator$Publisher") hx hb hts kX4_cutLaggards_X1 hown hN hK hP 1 rfl rfl 1 (by decide) (by decide +kernel) (fun _ h9 => h9) rfl dX4_cutLaggards_19 ?_
      refine x_calli (w2 := fun (u : Unit) => [(x0, .inr (4, [.ref pb, .ref pa, .ref sa, .ref g0, .int (nI lim)])), (pb, .inr (1, [.ref b1, .int (nI n), .ref b2, .ref b3, .ref b4, .ref b5, .ref b6])), (sa, .inl (cS, 3, .inr (.inr (.inr (.inr ((fun j => some (aS j)))))))), (aS 0, .inr (2, [.ref (aS1 0), .ref (aS2 0), va_rf (pu 0), .int (nI (st 0)), .int (nI (sl 0))])), (aS 1, .inr (2, [.ref (aS1 1), .ref (aS2 1), va_rf (pu 1), .int (nI (st 1)), .int (nI (sl 1))])), (aS 2, .inr (2, [.ref (aS1 2), .ref (aS2 2), va_rf (pu 2), .int (nI (st 2)), .int (nI (sl 2))]))]) (wr := [(x0, .inr (4, [.ref pb, .ref pa, .ref sa, .ref g0, .int (nI lim)])), (pb, .inr (1, [.ref b1, .int (nI n), .ref b2, .ref b3, .ref b4, .ref b5, .ref b6])), (sa, .inl (cS, 3, .inr (.inr (.inr (.inr ((fun j => some (aS j)))))))), (aS 1, .inr (2, [.ref (aS1 1), .ref (aS2 1), va_rf (pu 1), .int (nI (st 1)), .int (nI (sl 1))])), (aS 2, .inr (2, [.ref (aS1 2), .ref (aS2 2), va_rf (pu 2), .int (nI (st 2)), .int (nI (sl 2))]))]) (x_runV (n := 1) ⟨hx, hb, hml, hown, hts⟩ (zX2_commitsBehind l D cI cP cS cL (aS 0) (aS1 0) (aS2 0) (pu 0) (st 0) (sl 0) n (hst 0 (by omega)) (hsl 0 (by omega)) hn9) gX4_cutLaggards_X2_commitsBehind rfl rfl rfl (by decide +kernel) ⟨by decide, by decide⟩ hN hK hP hD [3] rfl rfl (ci := 2) (q0 := 3) rfl rfl rfl rfl hl.1 (rest := []) (As := [.int (nI n)]) rfl (Nat.le_of_ble_eq_true rfl) dX4_cutLaggards_22 ⟨by decide, by decide⟩) hP hD hS hA [3] [0, 1, 2, 4, 5] [0, 1, 2, 5, 3, 4] rfl rfl rfl (by decide) rfl (fun _ => rfl) (fun r22 u H locs hw hP hD hS => ?_)
      subst hw
      have hq9 := qLag_le (st 0) (sl 0) n
      refine lv_aload_n hx hb dX4_cutLaggards_25 rfl (lv_at hl 0 rfl) ?_
      refine va_get (D := D) (ci := 4) (v := .int (nI lim)) (C := RX4) (T := TX4) (N := 5) hx hb hts kX4_cutLaggards_X4 hown hK hP 0 rfl rfl 4 (by decide) (hts _ kX4_cutLaggards_f35) (fun _ h9 => h9) rfl dX4_cutLaggards_26 ?_
      refine x_cmp_le (tgt := 45) hx hb (nI_leI (a := (qLag (st 0) (sl 0) n)) (b := lim) (by omega) (by omega)) dX4_cutLaggards_29 (by decide) (fun c29 => ?_) (fun c29 => ?_)
      · refine x_iinc (k := 2) (o := 1) (v := 1) (lv' := [(2, .int (nI 1)), (0, .ref x0), (1, .int (nI 0))]) hx hb dX4_cutLaggards_45 hl rfl rfl rfl (by decide) rfl (fun ls hl => ?_)
        refine lv_goto (tgt := 4) hx hb dX4_cutLaggards_48 (by decide) ?_
        exact ih4 (1, 0, st 0, st 1, st 2) (Or.inr (Or.inl ⟨rfl, (by rw [qCutN_n c29] <;> rfl), (by rw [qCut_n c29]), rfl, rfl⟩)) (by show 3 - 1 < 3 - 0; omega) _ _ _ hP hD hS (lv_sub hl [1, 2, 0] rfl)
      · refine lv_aload_n hx hb dX4_cutLaggards_32 rfl (lv_at hl 0 rfl) ?_
        refine va_get (D := D) (ci := 4) (v := .ref sa) (C := RX4) (T := TX4) (N := 5) hx hb hts kX4_cutLaggards_X4 hown hK hP 0 rfl rfl 2 (by decide) (hts _ kX4_cutLaggards_f24) (fun _ h9 => h9) rfl dX4_cutLaggards_33 ?_
        refine lv_iload_n hx hb dX4_cutLaggards_36 rfl (lv_at hl 2 rfl) ?_
        refine x_aldq (b := aS 0) (C := RX2) hx hb hK hP 2 2 rfl rfl (by omega) (by omega) rfl dX4_cutLaggards_37 ?_
        refine lv_iconst (v := nI 3) hx hb dX4_cutLaggards_38 (by decide) ?_
        refine x_putN (fs' := [.ref (aS1 0), .ref (aS2 0), va_rf (pu 0), .int (nI 3), .int (nI (sl 0))]) (w' := [(x0, .inr (4, [.ref pb, .ref pa, .ref sa, .ref g0, .int (nI lim)])), (pb, .inr (1, [.ref b1, .int (nI n), .ref b2, .ref b3, .ref b4, .ref b5, .ref b6])), (sa, .inl (cS, 3, .inr (.inr (.inr (.inr ((fun j => some (aS j)))))))), (aS 0, .inr (2, [.ref (aS1 0), .ref (aS2 0), va_rf (pu 0), .int (nI 3), .int (nI (sl 0))])), (aS 1, .inr (2, [.ref (aS1 1), .ref (aS2 1), va_rf (pu 1), .int (nI (st 1)), .int (nI (sl 1))])), (aS 2, .inr (2, [.ref (aS1 2), .ref (aS2 2), va_rf (pu 2), .int (nI (st 2)), .int (nI (sl 2))]))]) (v := .int (nI 3)) (ty := .int) (C := RX2) (T := TX2) (N := 5) (ci := 2) (ref := "RowReplicator$Subscriber") hx hb hts kX4_cutLaggards_X2 tyX2 tyX2_ok nmX2 hown hN hK hP hD hS 3 rfl rfl 3 (by decide) (by decide +kernel) (fun _ h9 => h9) rfl (by decide +kernel) rfl rfl (Nat.le_of_ble_eq_true rfl) rfl rfl dX4_cutLaggards_39 (fun H locs hP hD hS => ?_)
        refine x_iinc (k := 1) (o := 1) (v := 1) (lv' := [(1, .int (nI 1)), (0, .ref x0), (2, .int (nI 0))]) hx hb dX4_cutLaggards_42 hl rfl rfl rfl (by decide) rfl (fun ls hl => ?_)
        refine x_iinc (k := 2) (o := 1) (v := 1) (lv' := [(2, .int (nI 1)), (1, .int (nI 1)), (0, .ref x0)]) hx hb dX4_cutLaggards_45 hl rfl rfl rfl (by decide) rfl (fun ls hl => ?_)
        refine lv_goto (tgt := 4) hx hb dX4_cutLaggards_48 (by decide) ?_
        exact ih4 (1, 1, 3, st 1, st 2) (Or.inr (Or.inl ⟨rfl, (by rw [qCutN_y c29] <;> rfl), (by rw [qCut_y c29]), rfl, rfl⟩)) (by show 3 - 1 < 3 - 0; omega) _ _ _ hP hD hS (lv_sub hl [2, 1, 0] rfl)
  · have hl : lv_has ls 3 [(0, .ref x0), (1, .int (nI (qCutN lim (st 0) (sl 0) n))), (2, .int (nI 1))] := hl
    refine lv_iload_n hx hb dX4_cutLaggards_4 rfl (lv_at hl 2 rfl) ?_
    refine lv_iconst (v := nI 3) hx hb dX4_cutLaggards_5 (by decide) ?_
    refine x_cmp_ge (tgt := 51) hx hb (nI_leI (a := 3) (b := 1) (by omega) (by omega)) dX4_cutLaggards_6 (by decide) (fun c6 => ?_) (fun c6 => ?_)
    · exfalso; omega
    · refine lv_aload_n hx hb dX4_cutLaggards_9 rfl (lv_at hl 0 rfl) ?_
      refine va_get (D := D) (ci := 4) (v := .ref sa) (C := RX4) (T := TX4) (N := 5) hx hb hts kX4_cutLaggards_X4 hown hK hP 0 rfl rfl 2 (by decide) (hts _ kX4_cutLaggards_f24) (fun _ h9 => h9) rfl dX4_cutLaggards_10 ?_
      refine lv_iload_n hx hb dX4_cutLaggards_13 rfl (lv_at hl 2 rfl) ?_
      refine x_aldq (b := aS 1) (C := RX2) hx hb hK hP 2 2 rfl rfl (by omega) (by omega) rfl dX4_cutLaggards_14 ?_
      refine lv_aload_n hx hb dX4_cutLaggards_15 rfl (lv_at hl 0 rfl) ?_
      refine va_get (D := D) (ci := 4) (v := .ref pb) (C := RX4) (T := TX4) (N := 5) hx hb hts kX4_cutLaggards_X4 hown hK hP 0 rfl rfl 0 (by decide) (hts _ kX4_cutLaggards_f12) (fun _ h9 => h9) rfl dX4_cutLaggards_16 ?_
      refine x_getN (D := D) (ci := 1) (v := .int (nI n)) (C := RX1) (T := TX1) (N := 7) (ref := "RowReplicator$Publisher") hx hb hts kX4_cutLaggards_X1 hown hN hK hP 1 rfl rfl 1 (by decide) (by decide +kernel) (fun _ h9 => h9) rfl dX4_cutLaggards_19 ?_
      refine x_calli (w2 := fun (u : Unit) => [(x0, .inr (4, [.ref pb, .ref pa, .ref sa, .ref g0, .int (nI lim)])), (pb, .inr (1, [.ref b1, .int (nI n), .ref b2, .ref b3, .ref b4, .ref b5, .ref b6])), (sa, .inl (cS, 3, .inr (.inr (.inr (.inr ((fun j => some (aS j)))))))), (aS 0, .inr (2, [.ref (aS1 0), .ref (aS2 0), va_rf (pu 0), .int (nI (qCut lim (st 0) (sl 0) n)), .int (nI (sl 0))])), (aS 1, .inr (2, [.ref (aS1 1), .ref (aS2 1), va_rf (pu 1), .int (nI (st 1)), .int (nI (sl 1))])), (aS 2, .inr (2, [.ref (aS1 2), .ref (aS2 2), va_rf (pu 2), .int (nI (st 2)), .int (nI (sl 2))]))]) (wr := [(x0, .inr (4, [.ref pb, .ref pa, .ref sa, .ref g0, .int (nI lim)])), (pb, .inr (1, [.ref b1, .int (nI n), .ref b2, .ref b3, .ref b4, .ref b5, .ref b6])), (sa, .inl (cS, 3, .inr (.inr (.inr (.inr ((fun j => some (aS j)))))))), (aS 0, .inr (2, [.ref (aS1 0), .ref (aS2 0), va_rf (pu 0), .int (nI (qCut lim (st 0) (sl 0) n)), .int (nI (sl 0))])), (aS 2, .inr (2, [.ref (aS1 2), .ref (aS2 2), va_rf (pu 2), .int (nI (st 2)), .int (nI (sl 2))]))]) (x_runV (n := 1) ⟨hx, hb, hml, hown, hts⟩ (zX2_commitsBehind l D cI cP cS cL (aS 1) (aS1 1) (aS2 1) (pu 1) (st 1) (sl 1) n (hst 1 (by omega)) (hsl 1 (by omega)) hn9) gX4_cutLaggards_X2_commitsBehind rfl rfl rfl (by decide +kernel) ⟨by decide, by decide⟩ hN hK hP hD [4] rfl rfl (ci := 2) (q0 := 4) rfl rfl rfl rfl hl.1 (rest := []) (As := [.int (nI n)]) rfl (Nat.le_of_ble_eq_true rfl) dX4_cutLaggards_22 ⟨by decide, by decide⟩) hP hD hS hA [4] [0, 1, 2, 3, 5] [0, 1, 2, 3, 5, 4] rfl rfl rfl (by decide) rfl (fun _ => rfl) (fun r22 u H locs hw hP hD hS => ?_)
      subst hw
      have hq9 := qLag_le (st 1) (sl 1) n
      refine lv_aload_n hx hb dX4_cutLaggards_25 rfl (lv_at hl 0 rfl) ?_
      refine va_get (D := D) (ci := 4) (v := .int (nI lim)) (C := RX4) (T := TX4) (N := 5) hx hb hts kX4_cutLaggards_X4 hown hK hP 0 rfl rfl 4 (by decide) (hts _ kX4_cutLaggards_f35) (fun _ h9 => h9) rfl dX4_cutLaggards_26 ?_
      refine x_cmp_le (tgt := 45) hx hb (nI_leI (a := (qLag (st 1) (sl 1) n)) (b := lim) (by omega) (by omega)) dX4_cutLaggards_29 (by decide) (fun c29 => ?_) (fun c29 => ?_)
      · refine x_iinc (k := 2) (o := 1) (v := 2) (lv' := [(2, .int (nI 2)), (0, .ref x0), (1, .int (nI (qCutN lim (st 0) (sl 0) n)))]) hx hb dX4_cutLaggards_45 hl rfl rfl rfl (by decide) rfl (fun ls hl => ?_)
        refine lv_goto (tgt := 4) hx hb dX4_cutLaggards_48 (by decide) ?_
        exact ih4 (2, qCutN lim (st 0) (sl 0) n, qCut lim (st 0) (sl 0) n, st 1, st 2) (Or.inr (Or.inr (Or.inl ⟨rfl, (by rw [qCutN_n c29] <;> rfl), rfl, (by rw [qCut_n c29]), rfl⟩))) (by show 3 - 2 < 3 - 1; omega) _ _ _ hP hD hS (lv_sub hl [1, 2, 0] rfl)
      · refine lv_aload_n hx hb dX4_cutLaggards_32 rfl (lv_at hl 0 rfl) ?_
        refine va_get (D := D) (ci := 4) (v := .ref sa) (C := RX4) (T := TX4) (N := 5) hx hb hts kX4_cutLaggards_X4 hown hK hP 0 rfl rfl 2 (by decide) (hts _ kX4_cutLaggards_f24) (fun _ h9 => h9) rfl dX4_cutLaggards_33 ?_
        refine lv_iload_n hx hb dX4_cutLaggards_36 rfl (lv_at hl 2 rfl) ?_
        refine x_aldq (b := aS 1) (C := RX2) hx hb hK hP 2 2 rfl rfl (by omega) (by omega) rfl dX4_cutLaggards_37 ?_
        refine lv_iconst (v := nI 3) hx hb dX4_cutLaggards_38 (by decide) ?_
        refine x_putN (fs' := [.ref (aS1 1), .ref (aS2 1), va_rf (pu 1), .int (nI 3), .int (nI (sl 1))]) (w' := [(x0, .inr (4, [.ref pb, .ref pa, .ref sa, .ref g0, .int (nI lim)])), (pb, .inr (1, [.ref b1, .int (nI n), .ref b2, .ref b3, .ref b4, .ref b5, .ref b6])), (sa, .inl (cS, 3, .inr (.inr (.inr (.inr ((fun j => some (aS j)))))))), (aS 0, .inr (2, [.ref (aS1 0), .ref (aS2 0), va_rf (pu 0), .int (nI (qCut lim (st 0) (sl 0) n)), .int (nI (sl 0))])), (aS 1, .inr (2, [.ref (aS1 1), .ref (aS2 1), va_rf (pu 1), .int (nI 3), .int (nI (sl 1))])), (aS 2, .inr (2, [.ref (aS1 2), .ref (aS2 2), va_rf (pu 2), .int (nI (st 2)), .int (nI (sl 2))]))]) (v := .int (nI 3)) (ty := .int) (C := RX2) (T := TX2) (N := 5) (ci := 2) (ref := "RowReplicator$Subscriber") hx hb hts kX4_cutLaggards_X2 tyX2 tyX2_ok nmX2 hown hN hK hP hD hS 4 rfl rfl 3 (by decide) (by decide +kernel) (fun _ h9 => h9) rfl (by decide +kernel) rfl rfl (Nat.le_of_ble_eq_true rfl) rfl rfl dX4_cutLaggards_39 (fun H locs hP hD hS => ?_)
        refine x_iinc (k := 1) (o := 1) (v := (qCutN lim (st 0) (sl 0) n) + 1) (lv' := [(1, .int (nI ((qCutN lim (st 0) (sl 0) n) + 1))), (0, .ref x0), (2, .int (nI 1))]) hx hb dX4_cutLaggards_42 hl rfl rfl rfl (by decide) rfl (fun ls hl => ?_)
        refine x_iinc (k := 2) (o := 1) (v := 2) (lv' := [(2, .int (nI 2)), (1, .int (nI ((qCutN lim (st 0) (sl 0) n) + 1))), (0, .ref x0)]) hx hb dX4_cutLaggards_45 hl rfl rfl rfl (by decide) rfl (fun ls hl => ?_)
        refine lv_goto (tgt := 4) hx hb dX4_cutLaggards_48 (by decide) ?_
        exact ih4 (2, (qCutN lim (st 0) (sl 0) n) + 1, qCut lim (st 0) (sl 0) n, 3, st 2) (Or.inr (Or.inr (Or.inl ⟨rfl, (by rw [qCutN_y c29] <;> rfl), rfl, (by rw [qCut_y c29]), rfl⟩))) (by show 3 - 2 < 3 - 1; omega) _ _ _ hP hD hS (lv_sub hl [2, 1, 0] rfl)
  · have hl : lv_has ls 3 [(0, .ref x0), (1, .int (nI (qCutN lim (st 0) (sl 0) n + qCutN lim (st 1) (sl 1) n))), (2, .int (nI 2))] := hl
    refine lv_iload_n hx hb dX4_cutLaggards_4 rfl (lv_at hl 2 rfl) ?_
    refine lv_iconst (v := nI 3) hx hb dX4_cutLaggards_5 (by decide) ?_
    refine x_cmp_ge (tgt := 51) hx hb (nI_leI (a := 3) (b := 2) (by omega) (by omega)) dX4_cutLaggards_6 (by decide) (fun c6 => ?_) (fun c6 => ?_)
    · exfalso; omega
    · refine lv_aload_n hx hb dX4_cutLaggards_9 rfl (lv_at hl 0 rfl) ?_
      refine va_get (D := D) (ci := 4) (v := .ref sa) (C := RX4) (T := TX4) (N := 5) hx hb hts kX4_cutLaggards_X4 hown hK hP 0 rfl rfl 2 (by decide) (hts _ kX4_cutLaggards_f24) (fun _ h9 => h9) rfl dX4_cutLaggards_10 ?_
      refine lv_iload_n hx hb dX4_cutLaggards_13 rfl (lv_at hl 2 rfl) ?_
      refine x_aldq (b := aS 2) (C := RX2) hx hb hK hP 2 2 rfl rfl (by omega) (by omega) rfl dX4_cutLaggards_14 ?_
      refine lv_aload_n hx hb dX4_cutLaggards_15 rfl (lv_at hl 0 rfl) ?_
      refine va_get (D := D) (ci := 4) (v := .ref pb) (C := RX4) (T := TX4) (N := 5) hx hb hts kX4_cutLaggards_X4 hown hK hP 0 rfl rfl 0 (by decide) (hts _ kX4_cutLaggards_f12) (fun _ h9 => h9) rfl dX4_cutLaggards_16 ?_
      refine x_getN (D := D) (ci := 1) (v := .int (nI n)) (C := RX1) (T := TX1) (N := 7) (ref := "RowReplicator$Publisher") hx hb hts kX4_cutLaggards_X1 hown hN hK hP 1 rfl rfl 1 (by decide) (by decide +kernel) (fun _ h9 => h9) rfl dX4_cutLaggards_19 ?_
      refine x_calli (w2 := fun (u : Unit) => [(x0, .inr (4, [.ref pb, .ref pa, .ref sa, .ref g0, .int (nI lim)])), (pb, .inr (1, [.ref b1, .int (nI n), .ref b2, .ref b3, .ref b4, .ref b5, .ref b6])), (sa, .inl (cS, 3, .inr (.inr (.inr (.inr ((fun j => some (aS j)))))))), (aS 0, .inr (2, [.ref (aS1 0), .ref (aS2 0), va_rf (pu 0), .int (nI (qCut lim (st 0) (sl 0) n)), .int (nI (sl 0))])), (aS 1, .inr (2, [.ref (aS1 1), .ref (aS2 1), va_rf (pu 1), .int (nI (qCut lim (st 1) (sl 1) n)), .int (nI (sl 1))])), (aS 2, .inr (2, [.ref (aS1 2), .ref (aS2 2), va_rf (pu 2), .int (nI (st 2)), .int (nI (sl 2))]))]) (wr := [(x0, .inr (4, [.ref pb, .ref pa, .ref sa, .ref g0, .int (nI lim)])), (pb, .inr (1, [.ref b1, .int (nI n), .ref b2, .ref b3, .ref b4, .ref b5, .ref b6])), (sa, .inl (cS, 3, .inr (.inr (.inr (.inr ((fun j => some (aS j)))))))), (aS 0, .inr (2, [.ref (aS1 0), .ref (aS2 0), va_rf (pu 0), .int (nI (qCut lim (st 0) (sl 0) n)), .int (nI (sl 0))])), (aS 1, .inr (2, [.ref (aS1 1), .ref (aS2 1), va_rf (pu 1), .int (nI (qCut lim (st 1) (sl 1) n)), .int (nI (sl 1))]))]) (x_runV (n := 1) ⟨hx, hb, hml, hown, hts⟩ (zX2_commitsBehind l D cI cP cS cL (aS 2) (aS1 2) (aS2 2) (pu 2) (st 2) (sl 2) n (hst 2 (by omega)) (hsl 2 (by omega)) hn9) gX4_cutLaggards_X2_commitsBehind rfl rfl rfl (by decide +kernel) ⟨by decide, by decide⟩ hN hK hP hD [5] rfl rfl (ci := 2) (q0 := 5) rfl rfl rfl rfl hl.1 (rest := []) (As := [.int (nI n)]) rfl (Nat.le_of_ble_eq_true rfl) dX4_cutLaggards_22 ⟨by decide, by decide⟩) hP hD hS hA [5] [0, 1, 2, 3, 4] [0, 1, 2, 3, 4, 5] rfl rfl rfl (by decide) rfl (fun _ => rfl) (fun r22 u H locs hw hP hD hS => ?_)
      subst hw
      have hq9 := qLag_le (st 2) (sl 2) n
      refine lv_aload_n hx hb dX4_cutLaggards_25 rfl (lv_at hl 0 rfl) ?_
      refine va_get (D := D) (ci := 4) (v := .int (nI lim)) (C := RX4) (T := TX4) (N := 5) hx hb hts kX4_cutLaggards_X4 hown hK hP 0 rfl rfl 4 (by decide) (hts _ kX4_cutLaggards_f35) (fun _ h9 => h9) rfl dX4_cutLaggards_26 ?_
      refine x_cmp_le (tgt := 45) hx hb (nI_leI (a := (qLag (st 2) (sl 2) n)) (b := lim) (by omega) (by omega)) dX4_cutLaggards_29 (by decide) (fun c29 => ?_) (fun c29 => ?_)
      · refine x_iinc (k := 2) (o := 1) (v := 3) (lv' := [(2, .int (nI 3)), (0, .ref x0), (1, .int (nI (qCutN lim (st 0) (sl 0) n + qCutN lim (st 1) (sl 1) n)))]) hx hb dX4_cutLaggards_45 hl rfl rfl rfl (by decide) rfl (fun ls hl => ?_)
        refine lv_goto (tgt := 4) hx hb dX4_cutLaggards_48 (by decide) ?_
        exact ih4 (3, qCutN lim (st 0) (sl 0) n + qCutN lim (st 1) (sl 1) n, qCut lim (st 0) (sl 0) n, qCut lim (st 1) (sl 1) n, st 2) (Or.inr (Or.inr (Or.inr ⟨rfl, (by rw [qCutN_n c29] <;> rfl), rfl, rfl, (by rw [qCut_n c29])⟩))) (by show 3 - 3 < 3 - 2; omega) _ _ _ hP hD hS (lv_sub hl [1, 2, 0] rfl)
      · refine lv_aload_n hx hb dX4_cutLaggards_32 rfl (lv_at hl 0 rfl) ?_
        refine va_get (D := D) (ci := 4) (v := .ref sa) (C := RX4) (T := TX4) (N := 5) hx hb hts kX4_cutLaggards_X4 hown hK hP 0 rfl rfl 2 (by decide) (hts _ kX4_cutLaggards_f24) (fun _ h9 => h9) rfl dX4_cutLaggards_33 ?_
        refine lv_iload_n hx hb dX4_cutLaggards_36 rfl (lv_at hl 2 rfl) ?_
        refine x_aldq (b := aS 2) (C := RX2) hx hb hK hP 2 2 rfl rfl (by omega) (by omega) rfl dX4_cutLaggards_37 ?_
        refine lv_iconst (v := nI 3) hx hb dX4_cutLaggards_38 (by decide) ?_
        refine x_putN (fs' := [.ref (aS1 2), .ref (aS2 2), va_rf (pu 2), .int (nI 3), .int (nI (sl 2))]) (w' := [(x0, .inr (4, [.ref pb, .ref pa, .ref sa, .ref g0, .int (nI lim)])), (pb, .inr (1, [.ref b1, .int (nI n), .ref b2, .ref b3, .ref b4, .ref b5, .ref b6])), (sa, .inl (cS, 3, .inr (.inr (.inr (.inr ((fun j => some (aS j)))))))), (aS 0, .inr (2, [.ref (aS1 0), .ref (aS2 0), va_rf (pu 0), .int (nI (qCut lim (st 0) (sl 0) n)), .int (nI (sl 0))])), (aS 1, .inr (2, [.ref (aS1 1), .ref (aS2 1), va_rf (pu 1), .int (nI (qCut lim (st 1) (sl 1) n)), .int (nI (sl 1))])), (aS 2, .inr (2, [.ref (aS1 2), .ref (aS2 2), va_rf (pu 2), .int (nI 3), .int (nI (sl 2))]))]) (v := .int (nI 3)) (ty := .int) (C := RX2) (T := TX2) (N := 5) (ci := 2) (ref := "RowReplicator$Subscriber") hx hb hts kX4_cutLaggards_X2 tyX2 tyX2_ok nmX2 hown hN hK hP hD hS 5 rfl rfl 3 (by decide) (by decide +kernel) (fun _ h9 => h9) rfl (by decide +kernel) rfl rfl (Nat.le_of_ble_eq_true rfl) rfl rfl dX4_cutLaggards_39 (fun H locs hP hD hS => ?_)
        refine x_iinc (k := 1) (o := 1) (v := (qCutN lim (st 0) (sl 0) n + qCutN lim (st 1) (sl 1) n) + 1) (lv' := [(1, .int (nI ((qCutN lim (st 0) (sl 0) n + qCutN lim (st 1) (sl 1) n) + 1))), (0, .ref x0), (2, .int (nI 2))]) hx hb dX4_cutLaggards_42 hl rfl rfl rfl (by decide) rfl (fun ls hl => ?_)
        refine x_iinc (k := 2) (o := 1) (v := 3) (lv' := [(2, .int (nI 3)), (1, .int (nI ((qCutN lim (st 0) (sl 0) n + qCutN lim (st 1) (sl 1) n) + 1))), (0, .ref x0)]) hx hb dX4_cutLaggards_45 hl rfl rfl rfl (by decide) rfl (fun ls hl => ?_)
        refine lv_goto (tgt := 4) hx hb dX4_cutLaggards_48 (by decide) ?_
        exact ih4 (3, (qCutN lim (st 0) (sl 0) n + qCutN lim (st 1) (sl 1) n) + 1, qCut lim (st 0) (sl 0) n, qCut lim (st 1) (sl 1) n, 3) (Or.inr (Or.inr (Or.inr ⟨rfl, (by rw [qCutN_y c29] <;> rfl), rfl, rfl, (by rw [qCut_y c29])⟩))) (by show 3 - 3 < 3 - 2; omega) _ _ _ hP hD hS (lv_sub hl [2, 1, 0] rfl)
  · have hl : lv_has ls 3 [(0, .ref x0), (1, .int (nI (qCutN lim (st 0) (sl 0) n + qCutN lim (st 1) (sl 1) n + qCutN lim (st 2) (sl 2) n))), (2, .int (nI 3))] := hl
    refine lv_iload_n hx hb dX4_cutLaggards_4 rfl (lv_at hl 2 rfl) ?_
    refine lv_iconst (v := nI 3) hx hb dX4_cutLaggards_5 (by decide) ?_
    refine x_cmp_ge (tgt := 51) hx hb (nI_leI (a := 3) (b := 3) (by omega) (by omega)) dX4_cutLaggards_6 (by decide) (fun c6 => ?_) (fun c6 => ?_)
    · refine lv_iload_n hx hb dX4_cutLaggards_51 rfl (lv_at hl 1 rfl) ?_
      exact x_ret_i hx hb hrt hlk hP hD hS dX4_cutLaggards_52 ⟨by decide, by decide⟩ () rfl rfl
    · exfalso; omega

set_option maxRecDepth 20000 in
theorem kX4_commit_f12 : Cond.fieldLink RX4 12 "RowReplicator" "publisher" "LRowReplicator$Publisher;" ∈ wsX4_commit := by decide +kernel
set_option maxRecDepth 20000 in
theorem kX4_commit_X4 : ∀ w ∈ wsX40, w ∈ wsX4_commit := by decide +kernel
set_option maxRecDepth 20000 in
theorem kX4_commit_X1 : ∀ w ∈ wsX10, w ∈ wsX4_commit := by decide +kernel
set_option maxRecDepth 20000 in
theorem kX4_commit_c68 : Cond.classLink RX4 68 "java/lang/IllegalStateException" ∈ wsX4_commit := by decide +kernel
set_option maxRecDepth 20000 in
theorem kX4_commit_inIS : Cond.initialized "java/lang/IllegalStateException" ∈ wsX4_commit := by decide +kernel
set_option maxRecDepth 20000 in
theorem kX4_commit_t72 : ∀ w ∈ (vx_atS RX4 72 "java/lang/IllegalStateException" ["java/lang/RuntimeException", "java/lang/Exception"]).filter goodWord, w ∈ wsX4_commit := fun _ h => List.mem_cons_of_mem _ (List.mem_append_right _ h)
set_option maxHeartbeats 4000000 in
set_option maxRecDepth 100000 in
theorem zX4_commit (l : Launch) (D : va_G) (cI cP cS cL : ClassId) (hfl : l.stackTraces = false) (x0 pb pa sa g0 lim : Nat) (b1 b2 b3 b4 b5 b6 n : Nat) (rows cr : Nat → Int32) (aS aS1 aS2 : Nat → Nat) (pu : Nat → Option Nat) (st sl : Nat → Nat) (hn9 : n ≤ 50) (hlim : lim ≤ 50) (hst : ∀ i, i < 3 → st i ≤ 3) (hsl : ∀ i, i < 3 → sl i ≤ n) : xXi l yX4_commit wsX4_commit (rmD 6 1 6) D [(cI, .int), (cP, .object RX0), (cS, .object RX2)] [.ref x0] [(x0, .inr (4, [.ref pb, .ref pa, .ref sa, .ref g0, .int (nI lim)])), (pb, .inr (1, [.ref b1, .int (nI n), .ref b2, .ref b3, .ref b4, .ref b5, .ref b6])), (b1, .inl (cI, 24, .inl rows)), (b6, .inl (cI, 1224, .inl cr)), (sa, .inl (cS, 3, .inr (.inr (.inr (.inr ((fun j => some (aS j)))))))), (aS 0, .inr (2, [.ref (aS1 0), .ref (aS2 0), va_rf (pu 0), .int (nI (st 0)), .int (nI (sl 0))])), (aS 1, .inr (2, [.ref (aS1 1), .ref (aS2 1), va_rf (pu 1), .int (nI (st 1)), .int (nI (sl 1))])), (aS 2, .inr (2, [.ref (aS1 2), .ref (aS2 2), va_rf (pu 2), .int (nI (st 2)), .int (nI (sl 2))]))] (fun (r : Int32) (u : Unit) => n < 50 ∧ r = nI (n + 1)) (fun (u : Unit) => [(x0, .inr (4, [.ref pb, .ref pa, .ref sa, .ref g0, .int (nI lim)])), (pb, .inr (1, [.ref b1, .int (nI (n + 1)), .ref b2, .ref b3, .ref b4, .ref b5, .ref b6])), (b1, .inl (cI, 24, .inl rows)), (b6, .inl (cI, 1224, .inl (va_cpy rows cr 0 ((n + 1) * 24) 24))), (sa, .inl (cS, 3, .inr (.inr (.inr (.inr ((fun j => some (aS j)))))))), (aS 0, .inr (2, [.ref (aS1 0), .ref (aS2 0), va_rf (pu 0), .int (nI (qCut lim (st 0) (sl 0) (n + 1))), .int (nI (sl 0))])), (aS 1, .inr (2, [.ref (aS1 1), .ref (aS2 1), va_rf (pu 1), .int (nI (qCut lim (st 1) (sl 1) (n + 1))), .int (nI (sl 1))])), (aS 2, .inr (2, [.ref (aS1 2), .ref (aS2 2), va_rf (pu 2), .int (nI (qCut lim (st 2) (sl 2) (n + 1))), .int (nI (sl 2))]))]) (fun E => E = nIS ∧ n = 50) 1 6 := by
  refine xe_Xi (cc := cX4_commit) (maxL := 1) (ret := (some .int)) (by decide) rfl (Nat.le_of_ble_eq_true rfl) ?_
  intro zp ze s zm below meth zc A ls B htab hE
  obtain ⟨hx, hb, hml, hrt, hts, hown, hnm, hlk, hK, hP, hD, hA, hS, hN, hl⟩ := B
  have hown : s.vm.findClass RX4 = some zm.cls := hown
  have hl : lv_has ls 1 [(0, .ref x0)] := hl
  have hA : ∀ q, s.heap.size ≤ q → A q := hA
  refine lv_aload_n hx hb dX4_commit_0 rfl (lv_at hl 0 rfl) ?_
  refine va_get (D := D) (ci := 4) (v := .ref pb) (C := RX4) (T := TX4) (N := 5) hx hb hts kX4_commit_X4 hown hK hP 0 rfl rfl 0 (by decide) (hts _ kX4_commit_f12) (fun _ h9 => h9) rfl dX4_commit_1 ?_
  refine x_getN (D := D) (ci := 1) (v := .int (nI n)) (C := RX1) (T := TX1) (N := 7) (ref := "RowReplicator$Publisher") hx hb hts kX4_commit_X1 hown hN hK hP 1 rfl rfl 1 (by decide) (by decide +kernel) (fun _ h9 => h9) rfl dX4_commit_4 ?_
  refine lv_bipush (v := nI 50) hx hb dX4_commit_7 (by decide) ?_
  refine x_cmp_lt (tgt := 22) hx hb (nI_ltI (a := n) (b := 50) (by omega) (by omega)) dX4_commit_9 (by decide) (fun c9 => ?_) (fun c9 => ?_)
  · have c9 : n < 50 := by omega
    refine lv_aload_n hx hb dX4_commit_22 rfl (lv_at hl 0 rfl) ?_
    refine va_get (D := D) (ci := 4) (v := .ref pb) (C := RX4) (T := TX4) (N := 5) hx hb hts kX4_commit_X4 hown hK hP 0 rfl rfl 0 (by decide) (hts _ kX4_commit_f12) (fun _ h9 => h9) rfl dX4_commit_23 ?_
    refine x_callv (w2 := fun (u : Unit) => [(x0, .inr (4, [.ref pb, .ref pa, .ref sa, .ref g0, .int (nI lim)])), (pb, .inr (1, [.ref b1, .int (nI (n + 1)), .ref b2, .ref b3, .ref b4, .ref b5, .ref b6])), (b1, .inl (cI, 24, .inl rows)), (b6, .inl (cI, 1224, .inl (va_cpy rows cr 0 ((n + 1) * 24) 24))), (sa, .inl (cS, 3, .inr (.inr (.inr (.inr ((fun j => some (aS j)))))))), (aS 0, .inr (2, [.ref (aS1 0), .ref (aS2 0), va_rf (pu 0), .int (nI (st 0)), .int (nI (sl 0))])), (aS 1, .inr (2, [.ref (aS1 1), .ref (aS2 1), va_rf (pu 1), .int (nI (st 1)), .int (nI (sl 1))])), (aS 2, .inr (2, [.ref (aS1 2), .ref (aS2 2), va_rf (pu 2), .int (nI (st 2)), .int (nI (sl 2))]))]) (wr := [(x0, .inr (4, [.ref pb, .ref pa, .ref sa, .ref g0, .int (nI lim)])), (sa, .inl (cS, 3, .inr (.inr (.inr (.inr ((fun j => some (aS j)))))))), (aS 0, .inr (2, [.ref (aS1 0), .ref (aS2 0), va_rf (pu 0), .int (nI (st 0)), .int (nI (sl 0))])), (aS 1, .inr (2, [.ref (aS1 1), .ref (aS2 1), va_rf (pu 1), .int (nI (st 1)), .int (nI (sl 1))])), (aS 2, .inr (2, [.ref (aS1 2), .ref (aS2 2), va_rf (pu 2), .int (nI (st 2)), .int (nI (sl 2))]))]) (x_runV (n := 0) ⟨hx, hb, hml, hown, hts⟩ (zX1_close l D cI cP cS cL pb b1 b2 b3 b4 b5 b6 n rows cr c9) gX4_commit_X1_close rfl rfl rfl (by decide +kernel) ⟨by decide, by decide⟩ hN hK hP hD [1, 2, 3] rfl rfl (ci := 1) (q0 := 1) rfl rfl rfl rfl hl.1 (rest := []) (As := []) rfl (Nat.le_of_ble_eq_true rfl) dX4_commit_26 ⟨by decide, by decide⟩) hP hD hS hA [1, 2, 3] [0, 4, 5, 6, 7] [0, 5, 6, 7, 1, 2, 3, 4] rfl rfl rfl (by decide) rfl (fun _ => rfl) (fun u H locs hw hP hD hS => ?_)
    refine lv_aload_n hx hb dX4_commit_29 rfl (lv_at hl 0 rfl) ?_
    refine x_calli (w2 := fun (u : Unit) => [(x0, .inr (4, [.ref pb, .ref pa, .ref sa, .ref g0, .int (nI lim)])), (pb, .inr (1, [.ref b1, .int (nI (n + 1)), .ref b2, .ref b3, .ref b4, .ref b5, .ref b6])), (b1, .inl (cI, 24, .inl rows)), (b6, .inl (cI, 1224, .inl (va_cpy rows cr 0 ((n + 1) * 24) 24))), (sa, .inl (cS, 3, .inr (.inr (.inr (.inr (fun j => some (aS j))))))), (aS 0, .inr (2, [.ref (aS1 0), .ref (aS2 0), va_rf (pu 0), .int (nI (qCut lim (st 0) (sl 0) (n + 1))), .int (nI (sl 0))])), (aS 1, .inr (2, [.ref (aS1 1), .ref (aS2 1), va_rf (pu 1), .int (nI (qCut lim (st 1) (sl 1) (n + 1))), .int (nI (sl 1))])), (aS 2, .inr (2, [.ref (aS1 2), .ref (aS2 2), va_rf (pu 2), .int (nI (qCut lim (st 2) (sl 2) (n + 1))), .int (nI (sl 2))]))]) (wr := [(b1, .inl (cI, 24, .inl rows)), (b6, .inl (cI, 1224, .inl (va_cpy rows cr 0 ((n + 1) * 24) 24)))]) (x_runV (n := 0) ⟨hx, hb, hml, hown, hts⟩ (zX4_cutLaggards l D cI cP cS cL x0 pb pa sa g0 lim b1 b2 b3 b4 b5 b6 (n + 1) aS aS1 aS2 pu st sl (by omega) hlim hst (fun i hi => Nat.le_succ_of_le (hsl i hi))) gX4_commit_X4_cutLaggards rfl rfl rfl (by decide +kernel) ⟨by decide, by decide⟩ hN hK hP hD [0, 1, 4, 5, 6, 7] rfl rfl (ci := 4) (q0 := 0) rfl rfl rfl rfl hl.1 (rest := []) (As := []) rfl (Nat.le_of_ble_eq_true rfl) dX4_commit_30 ⟨by decide, by decide⟩) hP hD hS hA [0, 1, 4, 5, 6, 7] [2, 3] [2, 3, 0, 1, 4, 5, 6, 7] rfl rfl rfl (by decide) rfl (fun _ => rfl) (fun r30 u H locs hw hP hD hS => ?_)
    refine lv_pop hx hb dX4_commit_33 rfl ?_
    refine lv_aload_n hx hb dX4_commit_34 rfl (lv_at hl 0 rfl) ?_
    refine va_get (D := D) (ci := 4) (v := .ref pb) (C := RX4) (T := TX4) (N := 5) hx hb hts kX4_commit_X4 hown hK hP 0 rfl rfl 0 (by decide) (hts _ kX4_commit_f12) (fun _ h9 => h9) rfl dX4_commit_35 ?_
    refine x_getN (D := D) (ci := 1) (v := .int (nI (n + 1))) (C := RX1) (T := TX1) (N := 7) (ref := "RowReplicator$Publisher") hx hb hts kX4_commit_X1 hown hN hK hP 1 rfl rfl 1 (by decide) (by decide +kernel) (fun _ h9 => h9) rfl dX4_commit_38 ?_
    exact vx_ret (x_ret_i hx hb hrt hlk hP hD hS dX4_commit_41 ⟨by decide, by decide⟩ () ⟨by omega, rfl⟩ rfl)
  · exact x_throw (text := "there are 50 commits") hx hb hml hfl htab hlk hown hts (by decide) kX4_commit_c68 kX4_commit_inIS kX4_commit_t72 xg_72_nIS_n xg_72_nIS_g (by decide) hE hP hD hS hl.1 dX4_commit_12 dX4_commit_15 dX4_commit_16 dX4_commit_18 dX4_commit_21 ⟨by decide, by decide, by decide, by decide⟩ ⟨by decide, by decide⟩ ⟨rfl, by omega⟩

set_option maxRecDepth 20000 in
theorem kX4_rollBack_f12 : Cond.fieldLink RX4 12 "RowReplicator" "publisher" "LRowReplicator$Publisher;" ∈ wsX4_rollBack := by decide +kernel
set_option maxRecDepth 20000 in
theorem kX4_rollBack_X4 : ∀ w ∈ wsX40, w ∈ wsX4_rollBack := by decide +kernel
set_option maxHeartbeats 4000000 in
set_option maxRecDepth 100000 in
theorem zX4_rollBack (l : Launch) (D : va_G) (cI cP cS cL : ClassId) (x0 pb pa sa g0 lim : Nat) (b1 b2 b3 b4 b5 b6 n cn : Nat) (rows cc cr : Nat → Int32) (hn9 : n ≤ 50) (hcc : cc n = nI cn) (hcn : cn ≤ 12) : xMi l yX4_rollBack wsX4_rollBack (rmD 3 0 0) D [(cI, .int), (cP, .object RX0), (cS, .object RX2)] [.ref x0] [(x0, .inr (4, [.ref pb, .ref pa, .ref sa, .ref g0, .int (nI lim)])), (pb, .inr (1, [.ref b1, .int (nI n), .ref b2, .ref b3, .ref b4, .ref b5, .ref b6])), (b1, .inl (cI, 24, .inl rows)), (b2, .inl (cI, 51, .inl cc)), (b6, .inl (cI, 1224, .inl cr))] (fun (r : Int32) (u : Unit) => r = nI cn) (fun (u : Unit) => [(x0, .inr (4, [.ref pb, .ref pa, .ref sa, .ref g0, .int (nI lim)])), (pb, .inr (1, [.ref b1, .int (nI n), .ref b2, .ref b3, .ref b4, .ref b5, .ref b6])), (b1, .inl (cI, 24, .inl (va_cpy cr rows (n * 24) 0 24))), (b2, .inl (cI, 51, .inl (upd cc n (nI 0)))), (b6, .inl (cI, 1224, .inl cr))]) 0 0 := by
  refine xe_i (cc := cX4_rollBack) (maxL := 2) (ret := (some .int)) (by decide) rfl (Nat.le_of_ble_eq_true rfl) ?_
  intro zp ze s zm below meth zc A ls B
  obtain ⟨hx, hb, hml, hrt, hts, hown, hnm, hlk, hK, hP, hD, hA, hS, hN, hl⟩ := B
  have hown : s.vm.findClass RX4 = some zm.cls := hown
  have hl : lv_has ls 2 [(0, .ref x0)] := hl
  have hA : ∀ q, s.heap.size ≤ q → A q := hA
  refine lv_aload_n hx hb dX4_rollBack_0 rfl (lv_at hl 0 rfl) ?_
  refine va_get (D := D) (ci := 4) (v := .ref pb) (C := RX4) (T := TX4) (N := 5) hx hb hts kX4_rollBack_X4 hown hK hP 0 rfl rfl 0 (by decide) (hts _ kX4_rollBack_f12) (fun _ h9 => h9) rfl dX4_rollBack_1 ?_
  refine x_calli (w2 := fun (u : Unit) => [(x0, .inr (4, [.ref pb, .ref pa, .ref sa, .ref g0, .int (nI lim)])), (pb, .inr (1, [.ref b1, .int (nI n), .ref b2, .ref b3, .ref b4, .ref b5, .ref b6])), (b1, .inl (cI, 24, .inl rows)), (b2, .inl (cI, 51, .inl cc)), (b6, .inl (cI, 1224, .inl cr))]) (wr := [(x0, .inr (4, [.ref pb, .ref pa, .ref sa, .ref g0, .int (nI lim)])), (b1, .inl (cI, 24, .inl rows)), (b6, .inl (cI, 1224, .inl cr))]) (x_runV (n := 0) ⟨hx, hb, hml, hown, hts⟩ (zX1_openChanges l D cI cP cS cL pb b1 b2 b3 b4 b5 b6 n cc hn9) gX4_rollBack_X1_openChanges rfl rfl rfl (by decide +kernel) ⟨by decide, by decide⟩ hN hK hP hD [1, 3] rfl rfl (ci := 1) (q0 := 1) rfl rfl rfl rfl hl.1 (rest := []) (As := []) rfl (Nat.le_of_ble_eq_true rfl) dX4_rollBack_4 ⟨by decide, by decide⟩) hP hD hS hA [1, 3] [0, 2, 4] [0, 3, 1, 4, 2] rfl rfl rfl (by decide) rfl (fun _ => rfl) (fun r4 u H locs hw hP hD hS => ?_)
  rw [hcc] at hw
  subst hw
  refine lv_istore_n (lv' := [(1, .int (nI cn)), (0, .ref x0)]) hx hb dX4_rollBack_7 rfl hl (by decide) rfl (fun ls hl => ?_)
  refine lv_aload_n hx hb dX4_rollBack_8 rfl (lv_at hl 1 rfl) ?_
  refine va_get (D := D) (ci := 4) (v := .ref pb) (C := RX4) (T := TX4) (N := 5) hx hb hts kX4_rollBack_X4 hown hK hP 0 rfl rfl 0 (by decide) (hts _ kX4_rollBack_f12) (fun _ h9 => h9) rfl dX4_rollBack_9 ?_
  refine x_callv (w2 := fun (u : Unit) => [(x0, .inr (4, [.ref pb, .ref pa, .ref sa, .ref g0, .int (nI lim)])), (pb, .inr (1, [.ref b1, .int (nI n), .ref b2, .ref b3, .ref b4, .ref b5, .ref b6])), (b1, .inl (cI, 24, .inl (va_cpy cr rows (n * 24) 0 24))), (b2, .inl (cI, 51, .inl (upd cc n (nI 0)))), (b6, .inl (cI, 1224, .inl cr))]) (wr := [(x0, .inr (4, [.ref pb, .ref pa, .ref sa, .ref g0, .int (nI lim)]))]) (x_runV (n := 0) ⟨hx, hb, hml, hown, hts⟩ (zX1_undo l D cI cP cS cL pb b1 b2 b3 b4 b5 b6 n rows cc cr hn9) gX4_rollBack_X1_undo rfl rfl rfl (by decide +kernel) ⟨by decide, by decide⟩ hN hK hP hD [1, 2, 3, 4] rfl rfl (ci := 1) (q0 := 1) rfl rfl rfl rfl hl.1 (rest := []) (As := []) rfl (Nat.le_of_ble_eq_true rfl) dX4_rollBack_12 ⟨by decide, by decide⟩) hP hD hS hA [1, 2, 3, 4] [0] [0, 1, 2, 3, 4] rfl rfl rfl (by decide) rfl (fun _ => rfl) (fun u H locs hw hP hD hS => ?_)
  refine lv_iload_n hx hb dX4_rollBack_15 rfl (lv_at hl 0 rfl) ?_
  exact x_ret_i hx hb hrt hlk hP hD hS dX4_rollBack_16 ⟨by decide, by decide⟩ () rfl rfl

set_option maxRecDepth 20000 in
theorem kX4_at_f12 : Cond.fieldLink RX4 12 "RowReplicator" "publisher" "LRowReplicator$Publisher;" ∈ wsX4_at := by decide +kernel
set_option maxRecDepth 20000 in
theorem kX4_at_X4 : ∀ w ∈ wsX40, w ∈ wsX4_at := by decide +kernel
set_option maxRecDepth 20000 in
theorem kX4_at_X1 : ∀ w ∈ wsX10, w ∈ wsX4_at := by decide +kernel
set_option maxHeartbeats 4000000 in
set_option maxRecDepth 100000 in
theorem zX4_at (l : Launch) (D : va_G) (cI cP cS cL : ClassId) (hfl : l.stackTraces = false) (x0 pb pa sa g0 lim : Nat) (b1 b2 b3 b4 b5 b6 n : Nat) (rows : Nat → Int32) (tx kx cx : Int32)  : xXi l yX4_at wsX4_at (rmD 8 3 18) D [(cI, .int), (cP, .object RX0), (cS, .object RX2)] [.ref x0, .int tx, .int kx, .int cx] [(x0, .inr (4, [.ref pb, .ref pa, .ref sa, .ref g0, .int (nI lim)])), (pb, .inr (1, [.ref b1, .int (nI n), .ref b2, .ref b3, .ref b4, .ref b5, .ref b6])), (b1, .inl (cI, 24, .inl rows))] (fun (r : Int32) (u : Nat × Nat) => match u with | (tn, kn) => (tx = nI tn ∧ tn < 2 ∧ kx = nI kn ∧ kn < 12 ∧ vp_in cx 3 ∧ r = qNum (rows (tn * 12 + kn)) cx)) (fun (u : Nat × Nat) => match u with | (tn, kn) => [(x0, .inr (4, [.ref pb, .ref pa, .ref sa, .ref g0, .int (nI lim)])), (pb, .inr (1, [.ref b1, .int (nI n), .ref b2, .ref b3, .ref b4, .ref b5, .ref b6])), (b1, .inl (cI, 24, .inl rows))]) (fun E => E = nIO ∧ ¬ (vp_in tx 2 ∧ vp_in kx 12 ∧ vp_in cx 3)) 3 18 := by
  refine xe_Xi (cc := cX4_at) (maxL := 4) (ret := (some .int)) (by decide) rfl (Nat.le_of_ble_eq_true rfl) ?_
  intro zp ze s zm below meth zc A ls B htab hE
  obtain ⟨hx, hb, hml, hrt, hts, hown, hnm, hlk, hK, hP, hD, hA, hS, hN, hl⟩ := B
  have hown : s.vm.findClass RX4 = some zm.cls := hown
  have hl : lv_has ls 4 [(0, .ref x0), (1, .int tx), (2, .int kx), (3, .int cx)] := hl
  have hA : ∀ q, s.heap.size ≤ q → A q := hA
  refine lv_iload_n hx hb dX4_at_0 rfl (lv_at hl 1 rfl) ?_
  refine lv_iload_n hx hb dX4_at_1 rfl (lv_at hl 2 rfl) ?_
  refine x_callXv (w2 := fun (u : Nat × Nat) => match u with | (tn, kn) => [(x0, .inr (4, [.ref pb, .ref pa, .ref sa, .ref g0, .int (nI lim)])), (pb, .inr (1, [.ref b1, .int (nI n), .ref b2, .ref b3, .ref b4, .ref b5, .ref b6])), (b1, .inl (cI, 24, .inl rows))]) (wr := [(x0, .inr (4, [.ref pb, .ref pa, .ref sa, .ref g0, .int (nI lim)])), (pb, .inr (1, [.ref b1, .int (nI n), .ref b2, .ref b3, .ref b4, .ref b5, .ref b6])), (b1, .inl (cI, 24, .inl rows))]) (x_runXS (n := 2) ⟨hx, hb, hml, hown, hts⟩ (zX4_checkKey l D cI cP cS cL hfl tx kx) gX4_at_X4_checkKey rfl rfl rfl (by decide +kernel) ⟨by decide, by decide⟩ hN hK hP hD hS hA hE [] rfl rfl rfl hl.1 (rest := []) (As := [.int tx, .int kx]) rfl (Nat.le_of_ble_eq_true rfl) dX4_at_2 ⟨by decide, by decide⟩) htab hlk (fun _ h => ⟨h.1, fun q => h.2 ⟨q.1, q.2.1⟩⟩) ⟨by decide, by decide⟩ hP hD hS hA [] [0, 1, 2] [0, 1, 2] [0, 1, 2] rfl rfl rfl (by decide) rfl rfl rfl (fun _ => rfl) (fun u H locs hw hP hD hS => ?_)
  obtain ⟨tn, kn⟩ := u
  have hP : va_P D vwCl [(x0, .inr (4, [.ref pb, .ref pa, .ref sa, .ref g0, .int (nI lim)])), (pb, .inr (1, [.ref b1, .int (nI n), .ref b2, .ref b3, .ref b4, .ref b5, .ref b6])), (b1, .inl (cI, 24, .inl rows))] H := hP
  have hD : va_D A [(x0, .inr (4, [.ref pb, .ref pa, .ref sa, .ref g0, .int (nI lim)])), (pb, .inr (1, [.ref b1, .int (nI n), .ref b2, .ref b3, .ref b4, .ref b5, .ref b6])), (b1, .inl (cI, 24, .inl rows))] := hD
  obtain ⟨rfl, ht2, rfl, hk2⟩ := hw
  have hv : vp_in (nI tn) 2 ∧ vp_in (nI kn) 12 := ⟨vp_in_nI ht2 (by decide), vp_in_nI hk2 (by decide)⟩
  refine lv_iload_n hx hb dX4_at_5 rfl (lv_at hl 3 rfl) ?_
  refine x_callXv (w2 := fun (u : Nat) => match u with | yc => [(x0, .inr (4, [.ref pb, .ref pa, .ref sa, .ref g0, .int (nI lim)])), (pb, .inr (1, [.ref b1, .int (nI n), .ref b2, .ref b3, .ref b4, .ref b5, .ref b6])), (b1, .inl (cI, 24, .inl rows))]) (wr := [(x0, .inr (4, [.ref pb, .ref pa, .ref sa, .ref g0, .int (nI lim)])), (pb, .inr (1, [.ref b1, .int (nI n), .ref b2, .ref b3, .ref b4, .ref b5, .ref b6])), (b1, .inl (cI, 24, .inl rows))]) (x_runXS (n := 1) ⟨hx, hb, hml, hown, hts⟩ (zX4_checkColumn l D cI cP cS cL hfl cx) gX4_at_X4_checkColumn rfl rfl rfl (by decide +kernel) ⟨by decide, by decide⟩ hN hK hP hD hS hA hE [] rfl rfl rfl hl.1 (rest := []) (As := [.int cx]) rfl (Nat.le_of_ble_eq_true rfl) dX4_at_6 ⟨by decide, by decide⟩) htab hlk (fun _ h => ⟨h.1, fun q => h.2 q.2.2⟩) ⟨by decide, by decide⟩ hP hD hS hA [] [0, 1, 2] [0, 1, 2] [0, 1, 2] rfl rfl rfl (by decide) rfl rfl rfl (fun _ => rfl) (fun u H locs hw hP hD hS => ?_)
  obtain ⟨yc, h9⟩ : ∃ z, z = u := ⟨u, rfl⟩
  subst h9
  have hP : va_P D vwCl [(x0, .inr (4, [.ref pb, .ref pa, .ref sa, .ref g0, .int (nI lim)])), (pb, .inr (1, [.ref b1, .int (nI n), .ref b2, .ref b3, .ref b4, .ref b5, .ref b6])), (b1, .inl (cI, 24, .inl rows))] H := hP
  have hD : va_D A [(x0, .inr (4, [.ref pb, .ref pa, .ref sa, .ref g0, .int (nI lim)])), (pb, .inr (1, [.ref b1, .int (nI n), .ref b2, .ref b3, .ref b4, .ref b5, .ref b6])), (b1, .inl (cI, 24, .inl rows))] := hD
  have hc3 : vp_in cx 3 := by rw [hw.1]; exact vp_in_nI hw.2 (by decide)
  refine lv_aload_n hx hb dX4_at_9 rfl (lv_at hl 0 rfl) ?_
  refine va_get (D := D) (ci := 4) (v := .ref pb) (C := RX4) (T := TX4) (N := 5) hx hb hts kX4_at_X4 hown hK hP 0 rfl rfl 0 (by decide) (hts _ kX4_at_f12) (fun _ h9 => h9) rfl dX4_at_10 ?_
  refine x_getN (D := D) (ci := 1) (v := .ref b1) (C := RX1) (T := TX1) (N := 7) (ref := "RowReplicator$Publisher") hx hb hts kX4_at_X1 hown hN hK hP 1 rfl rfl 0 (by decide) (by decide +kernel) (fun _ h9 => h9) rfl dX4_at_13 ?_
  refine lv_iload_n hx hb dX4_at_16 rfl (lv_at hl 1 rfl) ?_
  refine lv_iload_n hx hb dX4_at_17 rfl (lv_at hl 2 rfl) ?_
  refine x_calli (w2 := fun (u : Unit) => [(x0, .inr (4, [.ref pb, .ref pa, .ref sa, .ref g0, .int (nI lim)])), (pb, .inr (1, [.ref b1, .int (nI n), .ref b2, .ref b3, .ref b4, .ref b5, .ref b6])), (b1, .inl (cI, 24, .inl rows))]) (wr := [(x0, .inr (4, [.ref pb, .ref pa, .ref sa, .ref g0, .int (nI lim)])), (pb, .inr (1, [.ref b1, .int (nI n), .ref b2, .ref b3, .ref b4, .ref b5, .ref b6])), (b1, .inl (cI, 24, .inl rows))]) (x_runS (n := 2) ⟨hx, hb, hml, hown, hts⟩ (zX4_placeOf l D cI cP cS cL tn kn) gX4_at_X4_placeOf rfl rfl rfl (by decide +kernel) ⟨by decide, by decide⟩ hN hK hP hD [] rfl rfl rfl hl.1 (rest := [.ref b1]) (As := [.int (nI tn), .int (nI kn)]) rfl (Nat.le_of_ble_eq_true rfl) dX4_at_18 ⟨by decide, by decide⟩) hP hD hS hA [] [0, 1, 2] [0, 1, 2] rfl rfl rfl (by decide) rfl (fun _ => rfl) (fun r18 u H locs hw hP hD hS => ?_)
  subst hw
  refine x_ald (v := rows (tn * 12 + kn)) hx hb hK hP 2 0 rfl rfl (by omega) (by omega) rfl dX4_at_21 ?_
  refine lv_iload_n hx hb dX4_at_22 rfl (lv_at hl 3 rfl) ?_
  refine x_calli (w2 := fun (u : Unit) => [(x0, .inr (4, [.ref pb, .ref pa, .ref sa, .ref g0, .int (nI lim)])), (pb, .inr (1, [.ref b1, .int (nI n), .ref b2, .ref b3, .ref b4, .ref b5, .ref b6])), (b1, .inl (cI, 24, .inl rows))]) (wr := [(x0, .inr (4, [.ref pb, .ref pa, .ref sa, .ref g0, .int (nI lim)])), (pb, .inr (1, [.ref b1, .int (nI n), .ref b2, .ref b3, .ref b4, .ref b5, .ref b6])), (b1, .inl (cI, 24, .inl rows))]) (x_runS (n := 2) ⟨hx, hb, hml, hown, hts⟩ (zX4_numberIn l D cI cP cS cL (rows (tn * 12 + kn)) cx) gX4_at_X4_numberIn rfl rfl rfl (by decide +kernel) ⟨by decide, by decide⟩ hN hK hP hD [] rfl rfl rfl hl.1 (rest := []) (As := [.int (rows (tn * 12 + kn)), .int cx]) rfl (Nat.le_of_ble_eq_true rfl) dX4_at_23 ⟨by decide, by decide⟩) hP hD hS hA [] [0, 1, 2] [0, 1, 2] rfl rfl rfl (by decide) rfl (fun _ => rfl) (fun r23 u H locs hw hP hD hS => ?_)
  subst hw
  exact vx_ret (x_ret_i hx hb hrt hlk hP hD hS dX4_at_26 ⟨by decide, by decide⟩ (tn, kn) ⟨rfl, ht2, rfl, hk2, hc3, rfl⟩ rfl)

set_option maxRecDepth 20000 in
theorem kX4_commits_f12 : Cond.fieldLink RX4 12 "RowReplicator" "publisher" "LRowReplicator$Publisher;" ∈ wsX4_commits := by decide +kernel
set_option maxRecDepth 20000 in
theorem kX4_commits_X4 : ∀ w ∈ wsX40, w ∈ wsX4_commits := by decide +kernel
set_option maxRecDepth 20000 in
theorem kX4_commits_X1 : ∀ w ∈ wsX10, w ∈ wsX4_commits := by decide +kernel
set_option maxHeartbeats 4000000 in
set_option maxRecDepth 100000 in
theorem zX4_commits (l : Launch) (D : va_G) (cI cP cS cL : ClassId) (x0 pb pa sa g0 lim : Nat) (b1 b2 b3 b4 b5 b6 n : Nat)  : xMi l yX4_commits wsX4_commits (rmD 0 0 0) D [(cI, .int), (cP, .object RX0), (cS, .object RX2)] [.ref x0] [(x0, .inr (4, [.ref pb, .ref pa, .ref sa, .ref g0, .int (nI lim)])), (pb, .inr (1, [.ref b1, .int (nI n), .ref b2, .ref b3, .ref b4, .ref b5, .ref b6]))] (fun (r : Int32) (u : Unit) => r = nI n) (fun (u : Unit) => [(x0, .inr (4, [.ref pb, .ref pa, .ref sa, .ref g0, .int (nI lim)])), (pb, .inr (1, [.ref b1, .int (nI n), .ref b2, .ref b3, .ref b4, .ref b5, .ref b6]))]) 0 0 := by
  refine xe_i (cc := cX4_commits) (maxL := 1) (ret := (some .int)) (by decide) rfl (Nat.le_of_ble_eq_true rfl) ?_
  intro zp ze s zm below meth zc A ls B
  obtain ⟨hx, hb, hml, hrt, hts, hown, hnm, hlk, hK, hP, hD, hA, hS, hN, hl⟩ := B
  have hown : s.vm.findClass RX4 = some zm.cls := hown
  have hl : lv_has ls 1 [(0, .ref x0)] := hl
  have hA : ∀ q, s.heap.size ≤ q → A q := hA
  refine lv_aload_n hx hb dX4_commits_0 rfl (lv_at hl 0 rfl) ?_
  refine va_get (D := D) (ci := 4) (v := .ref pb) (C := RX4) (T := TX4) (N := 5) hx hb hts kX4_commits_X4 hown hK hP 0 rfl rfl 0 (by decide) (hts _ kX4_commits_f12) (fun _ h9 => h9) rfl dX4_commits_1 ?_
  refine x_getN (D := D) (ci := 1) (v := .int (nI n)) (C := RX1) (T := TX1) (N := 7) (ref := "RowReplicator$Publisher") hx hb hts kX4_commits_X1 hown hN hK hP 1 rfl rfl 1 (by decide) (by decide +kernel) (fun _ h9 => h9) rfl dX4_commits_4 ?_
  exact x_ret_i hx hb hrt hlk hP hD hS dX4_commits_7 ⟨by decide, by decide⟩ () rfl rfl

set_option maxRecDepth 20000 in
theorem kX4_setLimit_c102 : Cond.classLink RX4 102 "java/lang/IllegalArgumentException" ∈ wsX4_setLimit := by decide +kernel
set_option maxRecDepth 20000 in
theorem kX4_setLimit_inIA : Cond.initialized "java/lang/IllegalArgumentException" ∈ wsX4_setLimit := by decide +kernel
set_option maxRecDepth 20000 in
theorem kX4_setLimit_t106 : ∀ w ∈ (vx_atS RX4 106 "java/lang/IllegalArgumentException" ["java/lang/RuntimeException", "java/lang/Exception"]).filter goodWord, w ∈ wsX4_setLimit := fun _ h => List.mem_cons_of_mem _ (List.mem_append_right _ h)
set_option maxRecDepth 20000 in
theorem kX4_setLimit_f35 : Cond.fieldLink RX4 35 "RowReplicator" "limit" "I" ∈ wsX4_setLimit := by decide +kernel
set_option maxRecDepth 20000 in
theorem kX4_setLimit_X4 : ∀ w ∈ wsX40, w ∈ wsX4_setLimit := by decide +kernel
set_option maxHeartbeats 4000000 in
set_option maxRecDepth 100000 in
theorem zX4_setLimit (l : Launch) (D : va_G) (cI cP cS cL : ClassId) (hfl : l.stackTraces = false) (x0 pb pa sa g0 lim : Nat) (b1 b2 b3 b4 b5 b6 n : Nat) (aS aS1 aS2 : Nat → Nat) (pu : Nat → Option Nat) (st sl : Nat → Nat) (vx : Int32) (hn9 : n ≤ 50) (hst : ∀ i, i < 3 → st i ≤ 3) (hsl : ∀ i, i < 3 → sl i ≤ n) : xXi l yX4_setLimit wsX4_setLimit (rmD 6 1 6) D [(cI, .int), (cP, .object RX0), (cS, .object RX2)] [.ref x0, .int vx] [(x0, .inr (4, [.ref pb, .ref pa, .ref sa, .ref g0, .int (nI lim)])), (pb, .inr (1, [.ref b1, .int (nI n), .ref b2, .ref b3, .ref b4, .ref b5, .ref b6])), (sa, .inl (cS, 3, .inr (.inr (.inr (.inr ((fun j => some (aS j)))))))), (aS 0, .inr (2, [.ref (aS1 0), .ref (aS2 0), va_rf (pu 0), .int (nI (st 0)), .int (nI (sl 0))])), (aS 1, .inr (2, [.ref (aS1 1), .ref (aS2 1), va_rf (pu 1), .int (nI (st 1)), .int (nI (sl 1))])), (aS 2, .inr (2, [.ref (aS1 2), .ref (aS2 2), va_rf (pu 2), .int (nI (st 2)), .int (nI (sl 2))]))] (fun (r : Int32) (u : Nat) => match u with | vn => (vx = nI vn ∧ vn < 51 ∧ r = nI (qCutN vn (st 0) (sl 0) n + qCutN vn (st 1) (sl 1) n + qCutN vn (st 2) (sl 2) n))) (fun (u : Nat) => match u with | vn => [(x0, .inr (4, [.ref pb, .ref pa, .ref sa, .ref g0, .int (nI vn)])), (pb, .inr (1, [.ref b1, .int (nI n), .ref b2, .ref b3, .ref b4, .ref b5, .ref b6])), (sa, .inl (cS, 3, .inr (.inr (.inr (.inr ((fun j => some (aS j)))))))), (aS 0, .inr (2, [.ref (aS1 0), .ref (aS2 0), va_rf (pu 0), .int (nI (qCut vn (st 0) (sl 0) n)), .int (nI (sl 0))])), (aS 1, .inr (2, [.ref (aS1 1), .ref (aS2 1), va_rf (pu 1), .int (nI (qCut vn (st 1) (sl 1) n)), .int (nI (sl 1))])), (aS 2, .inr (2, [.ref (aS1 2), .ref (aS2 2), va_rf (pu 2), .int (nI (qCut vn (st 2) (sl 2) n)), .int (nI (sl 2))]))]) (fun E => E = nIA ∧ ¬ vp_in vx 51) 1 6 := by
  refine xe_Xi (cc := cX4_setLimit) (maxL := 2) (ret := (some .int)) (by decide) rfl (Nat.le_of_ble_eq_true rfl) ?_
  intro zp ze s zm below meth zc A ls B htab hE
  obtain ⟨hx, hb, hml, hrt, hts, hown, hnm, hlk, hK, hP, hD, hA, hS, hN, hl⟩ := B
  have hown : s.vm.findClass RX4 = some zm.cls := hown
  have hl : lv_has ls 2 [(0, .ref x0), (1, .int vx)] := hl
  have hA : ∀ q, s.heap.size ≤ q → A q := hA
  refine lv_iload_n hx hb dX4_setLimit_0 rfl (lv_at hl 1 rfl) ?_
  refine x_if_lt (tgt := 10) hx hb (Iff.rfl) dX4_setLimit_1 (by decide) (fun c1 => ?_) (fun c1 => ?_)
  · exact x_throw (text := "the limit is 0 to 50") hx hb hml hfl htab hlk hown hts (by decide) kX4_setLimit_c102 kX4_setLimit_inIA kX4_setLimit_t106 xg_106_nIA_n xg_106_nIA_g (by decide) hE hP hD hS hl.1 dX4_setLimit_10 dX4_setLimit_13 dX4_setLimit_14 dX4_setLimit_16 dX4_setLimit_19 ⟨by decide, by decide, by decide, by decide⟩ ⟨by decide, by decide⟩ ⟨rfl, in_neg c1⟩
  · refine lv_iload_n hx hb dX4_setLimit_4 rfl (lv_at hl 1 rfl) ?_
    refine lv_bipush (v := nI 50) hx hb dX4_setLimit_5 (by decide) ?_
    refine x_cmp_le (tgt := 20) hx hb (Iff.rfl) dX4_setLimit_7 (by decide) (fun c7 => ?_) (fun c7 => ?_)
    · obtain ⟨vn, hvn, rfl⟩ := vp_in_of (n := 51) ((in_and (by decide)).mp ⟨(by rw [nI_0]; exact Int32.not_lt.mp c1), c7⟩) (by decide)
      refine lv_aload_n hx hb dX4_setLimit_20 rfl (lv_at hl 0 rfl) ?_
      refine lv_iload_n hx hb dX4_setLimit_21 rfl (lv_at hl 1 rfl) ?_
      refine x_put (fs' := [.ref pb, .ref pa, .ref sa, .ref g0, .int (nI vn)]) (ws' := [(x0, .inr (4, [.ref pb, .ref pa, .ref sa, .ref g0, .int (nI vn)])), (pb, .inr (1, [.ref b1, .int (nI n), .ref b2, .ref b3, .ref b4, .ref b5, .ref b6])), (sa, .inl (cS, 3, .inr (.inr (.inr (.inr ((fun j => some (aS j)))))))), (aS 0, .inr (2, [.ref (aS1 0), .ref (aS2 0), va_rf (pu 0), .int (nI (st 0)), .int (nI (sl 0))])), (aS 1, .inr (2, [.ref (aS1 1), .ref (aS2 1), va_rf (pu 1), .int (nI (st 1)), .int (nI (sl 1))])), (aS 2, .inr (2, [.ref (aS1 2), .ref (aS2 2), va_rf (pu 2), .int (nI (st 2)), .int (nI (sl 2))]))]) (v := .int (nI vn)) (ty := .int) (C := RX4) (T := TX4) (N := 5) (ci := 4) hx hb hts kX4_setLimit_X4 tyX4 tyX4_ok nmX4 hown hK hP hD hS 0 rfl rfl 4 (by decide) (hts _ kX4_setLimit_f35) (fun _ h9 => h9) rfl (by decide +kernel) rfl rfl (Nat.le_of_ble_eq_true rfl) rfl rfl dX4_setLimit_22 (fun H locs hP hD hS => ?_)
      refine lv_aload_n hx hb dX4_setLimit_25 rfl (lv_at hl 0 rfl) ?_
      refine x_calli (w2 := fun (u : Unit) => [(x0, .inr (4, [.ref pb, .ref pa, .ref sa, .ref g0, .int (nI vn)])), (pb, .inr (1, [.ref b1, .int (nI n), .ref b2, .ref b3, .ref b4, .ref b5, .ref b6])), (sa, .inl (cS, 3, .inr (.inr (.inr (.inr (fun j => some (aS j))))))), (aS 0, .inr (2, [.ref (aS1 0), .ref (aS2 0), va_rf (pu 0), .int (nI (qCut vn (st 0) (sl 0) n)), .int (nI (sl 0))])), (aS 1, .inr (2, [.ref (aS1 1), .ref (aS2 1), va_rf (pu 1), .int (nI (qCut vn (st 1) (sl 1) n)), .int (nI (sl 1))])), (aS 2, .inr (2, [.ref (aS1 2), .ref (aS2 2), va_rf (pu 2), .int (nI (qCut vn (st 2) (sl 2) n)), .int (nI (sl 2))]))]) (wr := []) (x_runV (n := 0) ⟨hx, hb, hml, hown, hts⟩ (zX4_cutLaggards l D cI cP cS cL x0 pb pa sa g0 vn b1 b2 b3 b4 b5 b6 n aS aS1 aS2 pu st sl hn9 (by omega) hst hsl) gX4_setLimit_X4_cutLaggards rfl rfl rfl (by decide +kernel) ⟨by decide, by decide⟩ hN hK hP hD [0, 1, 2, 3, 4, 5] rfl rfl (ci := 4) (q0 := 0) rfl rfl rfl rfl hl.1 (rest := []) (As := []) rfl (Nat.le_of_ble_eq_true rfl) dX4_setLimit_26 ⟨by decide, by decide⟩) hP hD hS hA [0, 1, 2, 3, 4, 5] [] [0, 1, 2, 3, 4, 5] rfl rfl rfl (by decide) rfl (fun _ => rfl) (fun r26 u H locs hw hP hD hS => ?_)
      subst hw
      exact vx_ret (x_ret_i hx hb hrt hlk hP hD hS dX4_setLimit_29 ⟨by decide, by decide⟩ vn ⟨rfl, hvn, rfl⟩ rfl)
    · exact x_throw (text := "the limit is 0 to 50") hx hb hml hfl htab hlk hown hts (by decide) kX4_setLimit_c102 kX4_setLimit_inIA kX4_setLimit_t106 xg_106_nIA_n xg_106_nIA_g (by decide) hE hP hD hS hl.1 dX4_setLimit_10 dX4_setLimit_13 dX4_setLimit_14 dX4_setLimit_16 dX4_setLimit_19 ⟨by decide, by decide, by decide, by decide⟩ ⟨by decide, by decide⟩ ⟨rfl, fun q => c7 ((in_and (n := 50) (by decide)).mpr q).2⟩
