/-! The law's cases. -/
def lwB (p : Program) (l : Launch) (s : State) (m : MethodId) (c : Code) (D : va_G) (cI cP cS cL : ClassId) (A : Nat → Prop) (b L : Nat) (xs : Nat → Int32) : Prop := p.tables.exec = Jvm.exec ∧ c.code = cL_law ∧ c.maxLocals = 7 ∧ s.vm.findClass RL = some m.cls ∧ (∀ w ∈ wsL_law, w.before #[Value.ref b] s = true) ∧ l.stackTraces = false ∧ va_K D vwCl [(cI, .int), (cP, .object RX0), (cS, .object RX2), (cL, .long)] s ∧ xN s ∧ XE A s s.heap ∧ (∀ q, s.heap.size ≤ q → A q) ∧ ¬ A b ∧ b < s.heap.size ∧ va_X b L xs s s.heap ∧ L ≤ 3072
set_option maxHeartbeats 8000000 in
set_option maxRecDepth 100000 in
theorem lC_put {p : Program} {l : Launch} {e : Env} {s : State} {m : MethodId} {below : List Frame} {meth : Method} {c : Code} {H : Heap} {locs : List Loc} {cells slots : Nat} {Q : State → Prop} {ls : Array Slot} {D : va_G} {cI cP cS cL : ClassId} {A : Nat → Prop} {ad bd bk : Nat → Nat} {ho b L i : Nat} {xs : Nat → Int32} {out : Nat → Int64} {lim n : Nat} {rows cc ct ck nr cr old rw : qF} {co re nu ma sr cp : Nat → qF} {pu : Nat → Option Nat} {st sl : Nat → Nat} {th : Int32} {row kept chg tab key frs col rel num lis boo sta slo cop see the her : qF} (B : lwB p l s m c D cI cP cS cL A b L xs) (hinj : ∀ x y, x < 3 → y < 3 → ad (13 + 5 * x) = ad (13 + 5 * y) → x = y) (hi : i + 6 ≤ L) (hf : cells + 100 ≤ 601024 ∧ slots + 1000 ≤ 7293034) (hR : RR ad bk lim n rows cc ct ck nr cr co re nu ma sr cp pu st sl row kept chg tab key frs col rel num lis boo sta slo cop see) (hP : va_P D vwCl (LWd cI cP cS cL ad bd ho (lim, n, rows, cc, ct, ck, nr, cr, old, rw, co, re, nu, ma, sr, cp, pu, st, sl) out (th, n, lim, row, kept, chg, tab, key, frs, col, rel, num, lis, boo, sta, slo, cop, see, the, her)) H) (hD : va_D A (LWd cI cP cS cL ad bd ho (lim, n, rows, cc, ct, ck, nr, cr, old, rw, co, re, nu, ma, sr, cp, pu, st, sl) out (th, n, lim, row, kept, chg, tab, key, frs, col, rel, num, lis, boo, sta, slo, cop, see, the, her))) (hS : va_S A s.heap H locs) (hl : lv_has ls 7 [(0, .ref b), (1, .ref (ad 0)), (2, .ref (bd 0)), (3, .ref ho), (4, .int (nI i))]) (kk : ∀ (s4 : S4) (out : Nat → Int64) (s5 : S5) (H : Heap) (locs : List Loc) (ls : Array Slot), (∃ bk, RRt ad bk s4 s5) → va_P D vwCl (LWd cI cP cS cL ad bd ho s4 out s5) H → va_D A (LWd cI cP cS cL ad bd ho s4 out s5) → va_S A s.heap H locs → lv_has ls 7 [(0, .ref b), (1, .ref (ad 0)), (2, .ref (bd 0)), (3, .ref ho), (4, .int (nI i))] → W p l e room_1 s m #[Value.ref b] below meth c H locs (cells + 8) (slots + 40) Q (F0 m 1535 ls [])) : W p l e room_1 s m #[Value.ref b] below meth c H locs cells slots Q (F0 m 140 ls []) := by
  obtain ⟨hx, hb, hml, hown, hts, hfl, hK, hN, hE, hA, hbA, hbl, hX, hL⟩ := B
  obtain ⟨cn, hcn, hcc, hcn0⟩ := RR_cn hR
  have hlim := hR.1
  have hn9 := hR.2.1
  refine lv_aload_n hx hb dL_law_140 rfl (lv_at hl 1 rfl) ?_
  refine lv_aload_n hx hb dL_law_141 rfl (lv_at hl 0 rfl) ?_
  refine lv_iload hx hb dL_law_142 (lv_at hl 4 rfl) ?_
  refine lv_iconst (v := nI 1) hx hb dL_law_144 (by decide) ?_
  refine x_add (k := i + 1) hx hb dL_law_145 rfl ?_
  refine x_sld (k := i + 1) hx hb hX hbl hbA hS (by omega) hL dL_law_146 ?_
  refine lv_aload_n hx hb dL_law_147 rfl (lv_at hl 0 rfl) ?_
  refine lv_iload hx hb dL_law_148 (lv_at hl 4 rfl) ?_
  refine lv_iconst (v := nI 2) hx hb dL_law_150 (by decide) ?_
  refine x_add (k := i + 2) hx hb dL_law_151 rfl ?_
  refine x_sld (k := i + 2) hx hb hX hbl hbA hS (by omega) hL dL_law_152 ?_
  refine lv_aload_n hx hb dL_law_153 rfl (lv_at hl 0 rfl) ?_
  refine lv_iload hx hb dL_law_154 (lv_at hl 4 rfl) ?_
  refine lv_iconst (v := nI 3) hx hb dL_law_156 (by decide) ?_
  refine x_add (k := i + 3) hx hb dL_law_157 rfl ?_
  refine x_sld (k := i + 3) hx hb hX hbl hbA hS (by omega) hL dL_law_158 ?_
  refine lv_aload_n hx hb dL_law_159 rfl (lv_at hl 0 rfl) ?_
  refine lv_iload hx hb dL_law_160 (lv_at hl 4 rfl) ?_
  refine lv_iconst (v := nI 4) hx hb dL_law_162 (by decide) ?_
  refine x_add (k := i + 4) hx hb dL_law_163 rfl ?_
  refine x_sld (k := i + 4) hx hb hX hbl hbA hS (by omega) hL dL_law_164 ?_
  refine lv_aload_n hx hb dL_law_165 rfl (lv_at hl 0 rfl) ?_
  refine lv_iload hx hb dL_law_166 (lv_at hl 4 rfl) ?_
  refine lv_iconst (v := nI 5) hx hb dL_law_168 (by decide) ?_
  refine x_add (k := i + 5) hx hb dL_law_169 rfl ?_
  refine x_sld (k := i + 5) hx hb hX hbl hbA hS (by omega) hL dL_law_170 ?_
  refine lv_aload_n hx hb dL_law_171 rfl (lv_at hl 3 rfl) ?_
  refine x_calli (w2 := fun (u : S4 × (Nat → Int64)) => LWd cI cP cS cL ad bd ho u.1 u.2 (th, n, lim, row, kept, chg, tab, key, frs, col, rel, num, lis, boo, sta, slo, cop, see, the, her)) (wr := W5 cI bd (th, n, lim, row, kept, chg, tab, key, frs, col, rel, num, lis, boo, sta, slo, cop, see, the, her)) (x_runL (n := 7) ⟨hx, hb, hml, hown, hts⟩ (fL_put l D cI cP cS cL hfl ad ho out lim n rows cc ct ck nr cr old rw co re nu ma sr cp pu st sl   cn (xs (i + 1)) (xs (i + 2)) (xs (i + 3)) (xs (i + 4)) (xs (i + 5)) hn9 hcc hcn) gL_law_L_put rfl rfl rfl (by decide +kernel) ⟨by decide, by decide⟩ hN hK hP hD hS hA hE iLb rfl rfl rfl hl.1 (rest := []) (As := [.ref (ad 0), .int (xs (i + 1)), .int (xs (i + 2)), .int (xs (i + 3)), .int (xs (i + 4)), .int (xs (i + 5)), .ref ho]) rfl (Nat.le_of_ble_eq_true rfl) dL_law_172 ⟨by show _ ≤ 601024; omega, by show _ ≤ 7293034; omega⟩) hP hD hS hA iLb iLm iL2b rfl rfl rfl (by decide) rfl (fun _ => rfl) (fun k9 u H locs hw1 hP hD hS => ?_)
  refine lv_istore (lv' := [(5, .int k9), (0, .ref b), (1, .ref (ad 0)), (2, .ref (bd 0)), (3, .ref ho), (4, .int (nI i))]) hx hb dL_law_175 hl (by decide) rfl (fun ls hl => ?_)
  refine lv_aload_n hx hb dL_law_177 rfl (lv_at hl 3 rfl) ?_
  refine lv_aload_n hx hb dL_law_178 rfl (lv_at hl 1 rfl) ?_
  refine lv_iload hx hb dL_law_179 (lv_at hl 5 rfl) ?_
  refine lv_iconst (v := nI 1) hx hb dL_law_181 (by decide) ?_
  refine x_add (k := i + 1) hx hb dL_law_182 rfl ?_
  refine x_sld (k := i + 1) hx hb hX hbl hbA hS (by omega) hL dL_law_183 ?_
  refine lv_aload_n hx hb dL_law_184 rfl (lv_at hl 1 rfl) ?_
  refine lv_iload hx hb dL_law_185 (lv_at hl 5 rfl) ?_
  refine lv_iconst (v := nI 2) hx hb dL_law_187 (by decide) ?_
  refine x_add (k := i + 2) hx hb dL_law_188 rfl ?_
  refine x_sld (k := i + 2) hx hb hX hbl hbA hS (by omega) hL dL_law_189 ?_
  refine lv_aload_n hx hb dL_law_190 rfl (lv_at hl 1 rfl) ?_
  refine lv_iload hx hb dL_law_191 (lv_at hl 5 rfl) ?_
  refine lv_iconst (v := nI 3) hx hb dL_law_193 (by decide) ?_
  refine x_add (k := i + 3) hx hb dL_law_194 rfl ?_
  refine x_sld (k := i + 3) hx hb hX hbl hbA hS (by omega) hL dL_law_195 ?_
  refine lv_aload_n hx hb dL_law_196 rfl (lv_at hl 1 rfl) ?_
  refine lv_iload hx hb dL_law_197 (lv_at hl 5 rfl) ?_
  refine lv_iconst (v := nI 4) hx hb dL_law_199 (by decide) ?_
  refine x_add (k := i + 4) hx hb dL_law_200 rfl ?_
  refine x_sld (k := i + 4) hx hb hX hbl hbA hS (by omega) hL dL_law_201 ?_
  refine lv_aload_n hx hb dL_law_202 rfl (lv_at hl 1 rfl) ?_
  refine lv_iload hx hb dL_law_203 (lv_at hl 5 rfl) ?_
  refine lv_iconst (v := nI 5) hx hb dL_law_205 (by decide) ?_
  refine x_add (k := i + 5) hx hb dL_law_206 rfl ?_
  refine x_sld (k := i + 5) hx hb hX hbl hbA hS (by omega) hL dL_law_207 ?_
  refine x_calli (w2 := fun (u2 : S5) => LWd cI cP cS cL ad bd ho u.1 u.2 u2) (wr := W4 cI cP cS ad u.1 ++ WO cL ho u.2) (x_runV (n := 5) ⟨hx, hb, hml, hown, hts⟩ (fX5_put l D cI cP cS cL bd th n lim row kept chg tab key frs col rel num lis boo sta slo cop see the her cn (xs (i + 1)) (xs (i + 2)) (xs (i + 3)) (xs (i + 4)) (xs (i + 5)) hn9 hcn0 hcn) gL_law_X5_put rfl rfl rfl (by decide +kernel) ⟨by decide, by decide⟩ hN hK hP hD iLm rfl rfl (ci := 5) (q0 := 38) rfl rfl rfl rfl hl.1 (rest := []) (As := [.int (xs (i + 1)), .int (xs (i + 2)), .int (xs (i + 3)), .int (xs (i + 4)), .int (xs (i + 5))]) rfl (Nat.le_of_ble_eq_true rfl) dL_law_208 ⟨by show _ ≤ 601024; omega, by show _ ≤ 7293034; omega⟩) hP hD hS hA iLm iLb iL2m rfl rfl rfl (by decide) rfl (fun _ => rfl) (fun r9 u2 H locs hw2 hP hD hS => ?_)
  obtain ⟨th2, n2, lim2, row2, kept2, chg2, tab2, key2, frs2, col2, rel2, num2, lis2, boo2, sta2, slo2, cop2, see2, the2, her2⟩ := u2
  refine lv_istore (lv' := [(6, .int r9), (5, .int k9), (0, .ref b), (1, .ref (ad 0)), (2, .ref (bd 0)), (3, .ref ho), (4, .int (nI i))]) hx hb dL_law_211 hl (by decide) rfl (fun ls hl => ?_)
  refine lv_aload_n hx hb dL_law_213 rfl (lv_at hl 4 rfl) ?_
  refine x_calli (w2 := fun (u3 : S5) => LWd cI cP cS cL ad bd ho u.1 u.2 u3) (wr := W4 cI cP cS ad u.1 ++ WO cL ho u.2) (x_runV (n := 0) ⟨hx, hb, hml, hown, hts⟩ (fX5_thrown l D cI cP cS cL bd th2 n2 lim2 row2 kept2 chg2 tab2 key2 frs2 col2 rel2 num2 lis2 boo2 sta2 slo2 cop2 see2 the2 her2) gL_law_X5_thrown rfl rfl rfl (by decide +kernel) ⟨by decide, by decide⟩ hN hK hP hD iLm rfl rfl (ci := 5) (q0 := 38) rfl rfl rfl rfl hl.1 (rest := []) (As := []) rfl (Nat.le_of_ble_eq_true rfl) dL_law_214 ⟨by show _ ≤ 601024; omega, by show _ ≤ 7293034; omega⟩) hP hD hS hA iLm iLb iL2m rfl rfl rfl (by decide) rfl (fun _ => rfl) (fun t9 u3 H locs hw3 hP hD hS => ?_)
  obtain ⟨rfl, rfl⟩ := hw3
  obtain ⟨e1, e2, bk9, hRR⟩ := sM_put hR hcc hcn hw1 hw2
  refine lv_iload hx hb dL_law_217 (lv_at hl 1 rfl) ?_
  refine x_cmp_eq (tgt := 224) hx hb (Iff.rfl) dL_law_219 (by decide) (fun c9 => ?_) (fun c9 => absurd e1 c9)
  refine lv_iload hx hb dL_law_224 (lv_at hl 1 rfl) ?_
  refine x_if_ne (tgt := 248) hx hb (Iff.rfl) dL_law_226 (by decide) (fun c9 => ?_) (fun c9 => ?_)
  · refine lv_goto (tgt := 1535) hx hb dL_law_248 (by decide) ?_
    exact W.widen (by omega) (by omega) (kk u.1 u.2 (t9, n2, lim2, row2, kept2, chg2, tab2, key2, frs2, col2, rel2, num2, lis2, boo2, sta2, slo2, cop2, see2, the2, her2) H locs ls ⟨bk9, hRR⟩ hP hD hS (lv_sub hl [2, 3, 4, 5, 6] rfl))
  have e4 := e2 (by rw [c9, nI_0])
  refine lv_aload_n hx hb dL_law_229 rfl (lv_at hl 5 rfl) ?_
  refine lv_iconst (v := nI 0) hx hb dL_law_230 (by decide) ?_
  refine x_lald (v := u.2 0) hx hb hK hP 37 3 rfl rfl (by omega) (by omega) rfl dL_law_231 ?_
  refine lv_iload hx hb dL_law_232 (lv_at hl 0 rfl) ?_
  refine x_if_eq (tgt := 241) hx hb (Iff.rfl) dL_law_234 (by decide) (fun c8 => ?_) (fun c8 => ?_)
  · refine lv_lconst (v := 0) hx hb dL_law_241 (by decide) ?_
    refine x_lcmp0 hx hb (e4.trans (cB_y c8)) dL_law_242 ?_
    refine x_if_eq (tgt := 248) hx hb (Iff.rfl) dL_law_243 (by decide) (fun c9 => ?_) (fun c9 => absurd nI_0 c9)
    refine lv_goto (tgt := 1535) hx hb dL_law_248 (by decide) ?_
    exact W.widen (by omega) (by omega) (kk u.1 u.2 (t9, n2, lim2, row2, kept2, chg2, tab2, key2, frs2, col2, rel2, num2, lis2, boo2, sta2, slo2, cop2, see2, the2, her2) H locs ls ⟨bk9, hRR⟩ hP hD hS (lv_sub hl [2, 3, 4, 5, 6] rfl))
  refine lv_lconst (v := 1) hx hb dL_law_237 (by decide) ?_
  refine lv_goto (tgt := 242) hx hb dL_law_238 (by decide) ?_
  refine x_lcmp0 hx hb (e4.trans (cB_n c8)) dL_law_242 ?_
  refine x_if_eq (tgt := 248) hx hb (Iff.rfl) dL_law_243 (by decide) (fun c9 => ?_) (fun c9 => absurd nI_0 c9)
  refine lv_goto (tgt := 1535) hx hb dL_law_248 (by decide) ?_
  exact W.widen (by omega) (by omega) (kk u.1 u.2 (t9, n2, lim2, row2, kept2, chg2, tab2, key2, frs2, col2, rel2, num2, lis2, boo2, sta2, slo2, cop2, see2, the2, her2) H locs ls ⟨bk9, hRR⟩ hP hD hS (lv_sub hl [2, 3, 4, 5, 6] rfl))

set_option maxHeartbeats 8000000 in
set_option maxRecDepth 100000 in
theorem lC_take {p : Program} {l : Launch} {e : Env} {s : State} {m : MethodId} {below : List Frame} {meth : Method} {c : Code} {H : Heap} {locs : List Loc} {cells slots : Nat} {Q : State → Prop} {ls : Array Slot} {D : va_G} {cI cP cS cL : ClassId} {A : Nat → Prop} {ad bd bk : Nat → Nat} {ho b L i : Nat} {xs : Nat → Int32} {out : Nat → Int64} {lim n : Nat} {rows cc ct ck nr cr old rw : qF} {co re nu ma sr cp : Nat → qF} {pu : Nat → Option Nat} {st sl : Nat → Nat} {th : Int32} {row kept chg tab key frs col rel num lis boo sta slo cop see the her : qF} (B : lwB p l s m c D cI cP cS cL A b L xs) (hinj : ∀ x y, x < 3 → y < 3 → ad (13 + 5 * x) = ad (13 + 5 * y) → x = y) (hi : i + 6 ≤ L) (hf : cells + 100 ≤ 601024 ∧ slots + 1000 ≤ 7293034) (hR : RR ad bk lim n rows cc ct ck nr cr co re nu ma sr cp pu st sl row kept chg tab key frs col rel num lis boo sta slo cop see) (hP : va_P D vwCl (LWd cI cP cS cL ad bd ho (lim, n, rows, cc, ct, ck, nr, cr, old, rw, co, re, nu, ma, sr, cp, pu, st, sl) out (th, n, lim, row, kept, chg, tab, key, frs, col, rel, num, lis, boo, sta, slo, cop, see, the, her)) H) (hD : va_D A (LWd cI cP cS cL ad bd ho (lim, n, rows, cc, ct, ck, nr, cr, old, rw, co, re, nu, ma, sr, cp, pu, st, sl) out (th, n, lim, row, kept, chg, tab, key, frs, col, rel, num, lis, boo, sta, slo, cop, see, the, her))) (hS : va_S A s.heap H locs) (hl : lv_has ls 7 [(0, .ref b), (1, .ref (ad 0)), (2, .ref (bd 0)), (3, .ref ho), (4, .int (nI i))]) (kk : ∀ (s4 : S4) (out : Nat → Int64) (s5 : S5) (H : Heap) (locs : List Loc) (ls : Array Slot), (∃ bk, RRt ad bk s4 s5) → va_P D vwCl (LWd cI cP cS cL ad bd ho s4 out s5) H → va_D A (LWd cI cP cS cL ad bd ho s4 out s5) → va_S A s.heap H locs → lv_has ls 7 [(0, .ref b), (1, .ref (ad 0)), (2, .ref (bd 0)), (3, .ref ho), (4, .int (nI i))] → W p l e room_1 s m #[Value.ref b] below meth c H locs (cells + 8) (slots + 40) Q (F0 m 1535 ls [])) : W p l e room_1 s m #[Value.ref b] below meth c H locs cells slots Q (F0 m 251 ls []) := by
  obtain ⟨hx, hb, hml, hown, hts, hfl, hK, hN, hE, hA, hbA, hbl, hX, hL⟩ := B
  obtain ⟨cn, hcn, hcc, hcn0⟩ := RR_cn hR
  have hlim := hR.1
  have hn9 := hR.2.1
  refine lv_aload_n hx hb dL_law_251 rfl (lv_at hl 1 rfl) ?_
  refine lv_aload_n hx hb dL_law_252 rfl (lv_at hl 0 rfl) ?_
  refine lv_iload hx hb dL_law_253 (lv_at hl 4 rfl) ?_
  refine lv_iconst (v := nI 1) hx hb dL_law_255 (by decide) ?_
  refine x_add (k := i + 1) hx hb dL_law_256 rfl ?_
  refine x_sld (k := i + 1) hx hb hX hbl hbA hS (by omega) hL dL_law_257 ?_
  refine lv_aload_n hx hb dL_law_258 rfl (lv_at hl 0 rfl) ?_
  refine lv_iload hx hb dL_law_259 (lv_at hl 4 rfl) ?_
  refine lv_iconst (v := nI 2) hx hb dL_law_261 (by decide) ?_
  refine x_add (k := i + 2) hx hb dL_law_262 rfl ?_
  refine x_sld (k := i + 2) hx hb hX hbl hbA hS (by omega) hL dL_law_263 ?_
  refine x_calli (w2 := fun (u : S4) => LWd cI cP cS cL ad bd ho u out (th, n, lim, row, kept, chg, tab, key, frs, col, rel, num, lis, boo, sta, slo, cop, see, the, her)) (wr := WO cL ho out ++ W5 cI bd (th, n, lim, row, kept, chg, tab, key, frs, col, rel, num, lis, boo, sta, slo, cop, see, the, her)) (x_runL (n := 3) ⟨hx, hb, hml, hown, hts⟩ (fL_take l D cI cP cS cL hfl ad lim n rows cc ct ck nr cr old rw co re nu ma sr cp pu st sl   cn (xs (i + 1)) (xs (i + 2)) hn9 hcc hcn) gL_law_L_take rfl rfl rfl (by decide +kernel) ⟨by decide, by decide⟩ hN hK hP hD hS hA hE iLa rfl rfl rfl hl.1 (rest := []) (As := [.ref (ad 0), .int (xs (i + 1)), .int (xs (i + 2))]) rfl (Nat.le_of_ble_eq_true rfl) dL_law_264 ⟨by show _ ≤ 601024; omega, by show _ ≤ 7293034; omega⟩) hP hD hS hA iLa iLo iL2a rfl rfl rfl (by decide) rfl (fun _ => rfl) (fun k9 u H locs hw1 hP hD hS => ?_)
  refine lv_istore (lv' := [(5, .int k9), (0, .ref b), (1, .ref (ad 0)), (2, .ref (bd 0)), (3, .ref ho), (4, .int (nI i))]) hx hb dL_law_267 hl (by decide) rfl (fun ls hl => ?_)
  refine lv_aload_n hx hb dL_law_269 rfl (lv_at hl 3 rfl) ?_
  refine lv_aload_n hx hb dL_law_270 rfl (lv_at hl 1 rfl) ?_
  refine lv_iload hx hb dL_law_271 (lv_at hl 5 rfl) ?_
  refine lv_iconst (v := nI 1) hx hb dL_law_273 (by decide) ?_
  refine x_add (k := i + 1) hx hb dL_law_274 rfl ?_
  refine x_sld (k := i + 1) hx hb hX hbl hbA hS (by omega) hL dL_law_275 ?_
  refine lv_aload_n hx hb dL_law_276 rfl (lv_at hl 1 rfl) ?_
  refine lv_iload hx hb dL_law_277 (lv_at hl 5 rfl) ?_
  refine lv_iconst (v := nI 2) hx hb dL_law_279 (by decide) ?_
  refine x_add (k := i + 2) hx hb dL_law_280 rfl ?_
  refine x_sld (k := i + 2) hx hb hX hbl hbA hS (by omega) hL dL_law_281 ?_
  refine x_callv (w2 := fun (u2 : S5) => LWd cI cP cS cL ad bd ho u out u2) (wr := W4 cI cP cS ad u ++ WO cL ho out) (x_runV (n := 2) ⟨hx, hb, hml, hown, hts⟩ (fX5_take l D cI cP cS cL bd th n lim row kept chg tab key frs col rel num lis boo sta slo cop see the her cn (xs (i + 1)) (xs (i + 2)) hn9 hcn0 hcn) gL_law_X5_take rfl rfl rfl (by decide +kernel) ⟨by decide, by decide⟩ hN hK hP hD iLm rfl rfl (ci := 5) (q0 := 38) rfl rfl rfl rfl hl.1 (rest := []) (As := [.int (xs (i + 1)), .int (xs (i + 2))]) rfl (Nat.le_of_ble_eq_true rfl) dL_law_282 ⟨by show _ ≤ 601024; omega, by show _ ≤ 7293034; omega⟩) hP hD hS hA iLm iLb iL2m rfl rfl rfl (by decide) rfl (fun _ => rfl) (fun u2 H locs hw2 hP hD hS => ?_)
  obtain ⟨th2, n2, lim2, row2, kept2, chg2, tab2, key2, frs2, col2, rel2, num2, lis2, boo2, sta2, slo2, cop2, see2, the2, her2⟩ := u2
  refine lv_aload_n hx hb dL_law_285 rfl (lv_at hl 3 rfl) ?_
  refine x_calli (w2 := fun (u3 : S5) => LWd cI cP cS cL ad bd ho u out u3) (wr := W4 cI cP cS ad u ++ WO cL ho out) (x_runV (n := 0) ⟨hx, hb, hml, hown, hts⟩ (fX5_thrown l D cI cP cS cL bd th2 n2 lim2 row2 kept2 chg2 tab2 key2 frs2 col2 rel2 num2 lis2 boo2 sta2 slo2 cop2 see2 the2 her2) gL_law_X5_thrown rfl rfl rfl (by decide +kernel) ⟨by decide, by decide⟩ hN hK hP hD iLm rfl rfl (ci := 5) (q0 := 38) rfl rfl rfl rfl hl.1 (rest := []) (As := []) rfl (Nat.le_of_ble_eq_true rfl) dL_law_286 ⟨by show _ ≤ 601024; omega, by show _ ≤ 7293034; omega⟩) hP hD hS hA iLm iLb iL2m rfl rfl rfl (by decide) rfl (fun _ => rfl) (fun t9 u3 H locs hw3 hP hD hS => ?_)
  obtain ⟨rfl, rfl⟩ := hw3
  obtain ⟨e1, bk9, hRR⟩ := sM_take hR hcc hcn hw1 hw2
  refine lv_iload hx hb dL_law_289 (lv_at hl 0 rfl) ?_
  refine x_cmp_eq (tgt := 296) hx hb (Iff.rfl) dL_law_291 (by decide) (fun c9 => ?_) (fun c9 => absurd e1 c9)
  refine lv_goto (tgt := 1535) hx hb dL_law_296 (by decide) ?_
  exact W.widen (by omega) (by omega) (kk u out (t9, n2, lim2, row2, kept2, chg2, tab2, key2, frs2, col2, rel2, num2, lis2, boo2, sta2, slo2, cop2, see2, the2, her2) H locs ls ⟨bk9, hRR⟩ hP hD hS (lv_sub hl [1, 2, 3, 4, 5] rfl))

set_option maxHeartbeats 8000000 in
set_option maxRecDepth 100000 in
theorem lC_truncate {p : Program} {l : Launch} {e : Env} {s : State} {m : MethodId} {below : List Frame} {meth : Method} {c : Code} {H : Heap} {locs : List Loc} {cells slots : Nat} {Q : State → Prop} {ls : Array Slot} {D : va_G} {cI cP cS cL : ClassId} {A : Nat → Prop} {ad bd bk : Nat → Nat} {ho b L i : Nat} {xs : Nat → Int32} {out : Nat → Int64} {lim n : Nat} {rows cc ct ck nr cr old rw : qF} {co re nu ma sr cp : Nat → qF} {pu : Nat → Option Nat} {st sl : Nat → Nat} {th : Int32} {row kept chg tab key frs col rel num lis boo sta slo cop see the her : qF} (B : lwB p l s m c D cI cP cS cL A b L xs) (hinj : ∀ x y, x < 3 → y < 3 → ad (13 + 5 * x) = ad (13 + 5 * y) → x = y) (hi : i + 6 ≤ L) (hf : cells + 100 ≤ 601024 ∧ slots + 1000 ≤ 7293034) (hR : RR ad bk lim n rows cc ct ck nr cr co re nu ma sr cp pu st sl row kept chg tab key frs col rel num lis boo sta slo cop see) (hP : va_P D vwCl (LWd cI cP cS cL ad bd ho (lim, n, rows, cc, ct, ck, nr, cr, old, rw, co, re, nu, ma, sr, cp, pu, st, sl) out (th, n, lim, row, kept, chg, tab, key, frs, col, rel, num, lis, boo, sta, slo, cop, see, the, her)) H) (hD : va_D A (LWd cI cP cS cL ad bd ho (lim, n, rows, cc, ct, ck, nr, cr, old, rw, co, re, nu, ma, sr, cp, pu, st, sl) out (th, n, lim, row, kept, chg, tab, key, frs, col, rel, num, lis, boo, sta, slo, cop, see, the, her))) (hS : va_S A s.heap H locs) (hl : lv_has ls 7 [(0, .ref b), (1, .ref (ad 0)), (2, .ref (bd 0)), (3, .ref ho), (4, .int (nI i))]) (kk : ∀ (s4 : S4) (out : Nat → Int64) (s5 : S5) (H : Heap) (locs : List Loc) (ls : Array Slot), (∃ bk, RRt ad bk s4 s5) → va_P D vwCl (LWd cI cP cS cL ad bd ho s4 out s5) H → va_D A (LWd cI cP cS cL ad bd ho s4 out s5) → va_S A s.heap H locs → lv_has ls 7 [(0, .ref b), (1, .ref (ad 0)), (2, .ref (bd 0)), (3, .ref ho), (4, .int (nI i))] → W p l e room_1 s m #[Value.ref b] below meth c H locs (cells + 8) (slots + 40) Q (F0 m 1535 ls [])) : W p l e room_1 s m #[Value.ref b] below meth c H locs cells slots Q (F0 m 299 ls []) := by
  obtain ⟨hx, hb, hml, hown, hts, hfl, hK, hN, hE, hA, hbA, hbl, hX, hL⟩ := B
  obtain ⟨cn, hcn, hcc, hcn0⟩ := RR_cn hR
  have hlim := hR.1
  have hn9 := hR.2.1
  refine lv_aload_n hx hb dL_law_299 rfl (lv_at hl 1 rfl) ?_
  refine lv_aload_n hx hb dL_law_300 rfl (lv_at hl 0 rfl) ?_
  refine lv_iload hx hb dL_law_301 (lv_at hl 4 rfl) ?_
  refine lv_iconst (v := nI 1) hx hb dL_law_303 (by decide) ?_
  refine x_add (k := i + 1) hx hb dL_law_304 rfl ?_
  refine x_sld (k := i + 1) hx hb hX hbl hbA hS (by omega) hL dL_law_305 ?_
  refine lv_aload_n hx hb dL_law_306 rfl (lv_at hl 3 rfl) ?_
  refine x_calli (w2 := fun (u : S4 × (Nat → Int64)) => LWd cI cP cS cL ad bd ho u.1 u.2 (th, n, lim, row, kept, chg, tab, key, frs, col, rel, num, lis, boo, sta, slo, cop, see, the, her)) (wr := W5 cI bd (th, n, lim, row, kept, chg, tab, key, frs, col, rel, num, lis, boo, sta, slo, cop, see, the, her)) (x_runL (n := 3) ⟨hx, hb, hml, hown, hts⟩ (fL_truncate l D cI cP cS cL hfl ad ho out lim n rows cc ct ck nr cr old rw co re nu ma sr cp pu st sl   cn (xs (i + 1)) hn9 hcc hcn) gL_law_L_truncate rfl rfl rfl (by decide +kernel) ⟨by decide, by decide⟩ hN hK hP hD hS hA hE iLb rfl rfl rfl hl.1 (rest := []) (As := [.ref (ad 0), .int (xs (i + 1)), .ref ho]) rfl (Nat.le_of_ble_eq_true rfl) dL_law_307 ⟨by show _ ≤ 601024; omega, by show _ ≤ 7293034; omega⟩) hP hD hS hA iLb iLm iL2b rfl rfl rfl (by decide) rfl (fun _ => rfl) (fun k9 u H locs hw1 hP hD hS => ?_)
  refine lv_istore (lv' := [(5, .int k9), (0, .ref b), (1, .ref (ad 0)), (2, .ref (bd 0)), (3, .ref ho), (4, .int (nI i))]) hx hb dL_law_310 hl (by decide) rfl (fun ls hl => ?_)
  refine lv_aload_n hx hb dL_law_312 rfl (lv_at hl 3 rfl) ?_
  refine lv_aload_n hx hb dL_law_313 rfl (lv_at hl 1 rfl) ?_
  refine lv_iload hx hb dL_law_314 (lv_at hl 5 rfl) ?_
  refine lv_iconst (v := nI 1) hx hb dL_law_316 (by decide) ?_
  refine x_add (k := i + 1) hx hb dL_law_317 rfl ?_
  refine x_sld (k := i + 1) hx hb hX hbl hbA hS (by omega) hL dL_law_318 ?_
  refine x_calli (w2 := fun (u2 : S5) => LWd cI cP cS cL ad bd ho u.1 u.2 u2) (wr := W4 cI cP cS ad u.1 ++ WO cL ho u.2) (x_runV (n := 1) ⟨hx, hb, hml, hown, hts⟩ (fX5_truncate l D cI cP cS cL bd th n lim row kept chg tab key frs col rel num lis boo sta slo cop see the her cn (xs (i + 1)) hn9 hcn0 hcn) gL_law_X5_truncate rfl rfl rfl (by decide +kernel) ⟨by decide, by decide⟩ hN hK hP hD iLm rfl rfl (ci := 5) (q0 := 38) rfl rfl rfl rfl hl.1 (rest := []) (As := [.int (xs (i + 1))]) rfl (Nat.le_of_ble_eq_true rfl) dL_law_319 ⟨by show _ ≤ 601024; omega, by show _ ≤ 7293034; omega⟩) hP hD hS hA iLm iLb iL2m rfl rfl rfl (by decide) rfl (fun _ => rfl) (fun r9 u2 H locs hw2 hP hD hS => ?_)
  obtain ⟨th2, n2, lim2, row2, kept2, chg2, tab2, key2, frs2, col2, rel2, num2, lis2, boo2, sta2, slo2, cop2, see2, the2, her2⟩ := u2
  refine lv_istore (lv' := [(6, .int r9), (5, .int k9), (0, .ref b), (1, .ref (ad 0)), (2, .ref (bd 0)), (3, .ref ho), (4, .int (nI i))]) hx hb dL_law_322 hl (by decide) rfl (fun ls hl => ?_)
  refine lv_aload_n hx hb dL_law_324 rfl (lv_at hl 4 rfl) ?_
  refine x_calli (w2 := fun (u3 : S5) => LWd cI cP cS cL ad bd ho u.1 u.2 u3) (wr := W4 cI cP cS ad u.1 ++ WO cL ho u.2) (x_runV (n := 0) ⟨hx, hb, hml, hown, hts⟩ (fX5_thrown l D cI cP cS cL bd th2 n2 lim2 row2 kept2 chg2 tab2 key2 frs2 col2 rel2 num2 lis2 boo2 sta2 slo2 cop2 see2 the2 her2) gL_law_X5_thrown rfl rfl rfl (by decide +kernel) ⟨by decide, by decide⟩ hN hK hP hD iLm rfl rfl (ci := 5) (q0 := 38) rfl rfl rfl rfl hl.1 (rest := []) (As := []) rfl (Nat.le_of_ble_eq_true rfl) dL_law_325 ⟨by show _ ≤ 601024; omega, by show _ ≤ 7293034; omega⟩) hP hD hS hA iLm iLb iL2m rfl rfl rfl (by decide) rfl (fun _ => rfl) (fun t9 u3 H locs hw3 hP hD hS => ?_)
  obtain ⟨rfl, rfl⟩ := hw3
  obtain ⟨e1, e2, bk9, hRR⟩ := sM_truncate hR hcc hcn hw1 hw2
  refine lv_iload hx hb dL_law_328 (lv_at hl 1 rfl) ?_
  refine x_cmp_eq (tgt := 335) hx hb (Iff.rfl) dL_law_330 (by decide) (fun c9 => ?_) (fun c9 => absurd e1 c9)
  refine lv_iload hx hb dL_law_335 (lv_at hl 1 rfl) ?_
  refine x_if_ne (tgt := 352) hx hb (Iff.rfl) dL_law_337 (by decide) (fun c9 => ?_) (fun c9 => ?_)
  · refine lv_goto (tgt := 1535) hx hb dL_law_352 (by decide) ?_
    exact W.widen (by omega) (by omega) (kk u.1 u.2 (t9, n2, lim2, row2, kept2, chg2, tab2, key2, frs2, col2, rel2, num2, lis2, boo2, sta2, slo2, cop2, see2, the2, her2) H locs ls ⟨bk9, hRR⟩ hP hD hS (lv_sub hl [2, 3, 4, 5, 6] rfl))
  have e4 := e2 (by rw [c9, nI_0])
  refine lv_aload_n hx hb dL_law_340 rfl (lv_at hl 5 rfl) ?_
  refine lv_iconst (v := nI 0) hx hb dL_law_341 (by decide) ?_
  refine x_lald (v := u.2 0) hx hb hK hP 37 3 rfl rfl (by omega) (by omega) rfl dL_law_342 ?_
  refine lv_iload hx hb dL_law_343 (lv_at hl 0 rfl) ?_
  refine lv_i2l (v := r9.toInt64) hx hb dL_law_345 rfl ?_
  refine x_lcmp0 hx hb e4 dL_law_346 ?_
  refine x_if_eq (tgt := 352) hx hb (Iff.rfl) dL_law_347 (by decide) (fun c9 => ?_) (fun c9 => absurd nI_0 c9)
  refine lv_goto (tgt := 1535) hx hb dL_law_352 (by decide) ?_
  exact W.widen (by omega) (by omega) (kk u.1 u.2 (t9, n2, lim2, row2, kept2, chg2, tab2, key2, frs2, col2, rel2, num2, lis2, boo2, sta2, slo2, cop2, see2, the2, her2) H locs ls ⟨bk9, hRR⟩ hP hD hS (lv_sub hl [2, 3, 4, 5, 6] rfl))

set_option maxHeartbeats 8000000 in
set_option maxRecDepth 100000 in
theorem lC_commit {p : Program} {l : Launch} {e : Env} {s : State} {m : MethodId} {below : List Frame} {meth : Method} {c : Code} {H : Heap} {locs : List Loc} {cells slots : Nat} {Q : State → Prop} {ls : Array Slot} {D : va_G} {cI cP cS cL : ClassId} {A : Nat → Prop} {ad bd bk : Nat → Nat} {ho b L i : Nat} {xs : Nat → Int32} {out : Nat → Int64} {lim n : Nat} {rows cc ct ck nr cr old rw : qF} {co re nu ma sr cp : Nat → qF} {pu : Nat → Option Nat} {st sl : Nat → Nat} {th : Int32} {row kept chg tab key frs col rel num lis boo sta slo cop see the her : qF} (B : lwB p l s m c D cI cP cS cL A b L xs) (hinj : ∀ x y, x < 3 → y < 3 → ad (13 + 5 * x) = ad (13 + 5 * y) → x = y) (hi : i + 6 ≤ L) (hf : cells + 100 ≤ 601024 ∧ slots + 1000 ≤ 7293034) (hR : RR ad bk lim n rows cc ct ck nr cr co re nu ma sr cp pu st sl row kept chg tab key frs col rel num lis boo sta slo cop see) (hP : va_P D vwCl (LWd cI cP cS cL ad bd ho (lim, n, rows, cc, ct, ck, nr, cr, old, rw, co, re, nu, ma, sr, cp, pu, st, sl) out (th, n, lim, row, kept, chg, tab, key, frs, col, rel, num, lis, boo, sta, slo, cop, see, the, her)) H) (hD : va_D A (LWd cI cP cS cL ad bd ho (lim, n, rows, cc, ct, ck, nr, cr, old, rw, co, re, nu, ma, sr, cp, pu, st, sl) out (th, n, lim, row, kept, chg, tab, key, frs, col, rel, num, lis, boo, sta, slo, cop, see, the, her))) (hS : va_S A s.heap H locs) (hl : lv_has ls 7 [(0, .ref b), (1, .ref (ad 0)), (2, .ref (bd 0)), (3, .ref ho), (4, .int (nI i))]) (kk : ∀ (s4 : S4) (out : Nat → Int64) (s5 : S5) (H : Heap) (locs : List Loc) (ls : Array Slot), (∃ bk, RRt ad bk s4 s5) → va_P D vwCl (LWd cI cP cS cL ad bd ho s4 out s5) H → va_D A (LWd cI cP cS cL ad bd ho s4 out s5) → va_S A s.heap H locs → lv_has ls 7 [(0, .ref b), (1, .ref (ad 0)), (2, .ref (bd 0)), (3, .ref ho), (4, .int (nI i))] → W p l e room_1 s m #[Value.ref b] below meth c H locs (cells + 8) (slots + 40) Q (F0 m 1535 ls [])) : W p l e room_1 s m #[Value.ref b] below meth c H locs cells slots Q (F0 m 355 ls []) := by
  obtain ⟨hx, hb, hml, hown, hts, hfl, hK, hN, hE, hA, hbA, hbl, hX, hL⟩ := B
  obtain ⟨cn, hcn, hcc, hcn0⟩ := RR_cn hR
  have hlim := hR.1
  have hn9 := hR.2.1
  refine lv_aload_n hx hb dL_law_355 rfl (lv_at hl 1 rfl) ?_
  refine lv_aload_n hx hb dL_law_356 rfl (lv_at hl 3 rfl) ?_
  refine x_calli (w2 := fun (u : S4 × (Nat → Int64)) => LWd cI cP cS cL ad bd ho u.1 u.2 (th, n, lim, row, kept, chg, tab, key, frs, col, rel, num, lis, boo, sta, slo, cop, see, the, her)) (wr := W5 cI bd (th, n, lim, row, kept, chg, tab, key, frs, col, rel, num, lis, boo, sta, slo, cop, see, the, her)) (x_runL (n := 2) ⟨hx, hb, hml, hown, hts⟩ (fL_commit l D cI cP cS cL hfl ad ho out lim n rows cc ct ck nr cr old rw co re nu ma sr cp pu st sl    hn9 hlim (RR_st3 hR) (RR_sl hR)) gL_law_L_commit rfl rfl rfl (by decide +kernel) ⟨by decide, by decide⟩ hN hK hP hD hS hA hE iLb rfl rfl rfl hl.1 (rest := []) (As := [.ref (ad 0), .ref ho]) rfl (Nat.le_of_ble_eq_true rfl) dL_law_357 ⟨by show _ ≤ 601024; omega, by show _ ≤ 7293034; omega⟩) hP hD hS hA iLb iLm iL2b rfl rfl rfl (by decide) rfl (fun _ => rfl) (fun k9 u H locs hw1 hP hD hS => ?_)
  refine lv_istore (lv' := [(5, .int k9), (0, .ref b), (1, .ref (ad 0)), (2, .ref (bd 0)), (3, .ref ho), (4, .int (nI i))]) hx hb dL_law_360 hl (by decide) rfl (fun ls hl => ?_)
  refine lv_aload_n hx hb dL_law_362 rfl (lv_at hl 3 rfl) ?_
  refine x_calli (w2 := fun (u2 : S5) => LWd cI cP cS cL ad bd ho u.1 u.2 u2) (wr := W4 cI cP cS ad u.1 ++ WO cL ho u.2) (x_runV (n := 0) ⟨hx, hb, hml, hown, hts⟩ (fX5_commit l D cI cP cS cL bd th n lim row kept chg tab key frs col rel num lis boo sta slo cop see the her st sl hlim (RR_sta hR) (RR_st3 hR) (RR_slo hR) (RR_sl hR) hn9) gL_law_X5_commit rfl rfl rfl (by decide +kernel) ⟨by decide, by decide⟩ hN hK hP hD iLm rfl rfl (ci := 5) (q0 := 38) rfl rfl rfl rfl hl.1 (rest := []) (As := []) rfl (Nat.le_of_ble_eq_true rfl) dL_law_363 ⟨by show _ ≤ 601024; omega, by show _ ≤ 7293034; omega⟩) hP hD hS hA iLm iLb iL2m rfl rfl rfl (by decide) rfl (fun _ => rfl) (fun r9 u2 H locs hw2 hP hD hS => ?_)
  obtain ⟨th2, n2, lim2, row2, kept2, chg2, tab2, key2, frs2, col2, rel2, num2, lis2, boo2, sta2, slo2, cop2, see2, the2, her2⟩ := u2
  refine lv_istore (lv' := [(6, .int r9), (5, .int k9), (0, .ref b), (1, .ref (ad 0)), (2, .ref (bd 0)), (3, .ref ho), (4, .int (nI i))]) hx hb dL_law_366 hl (by decide) rfl (fun ls hl => ?_)
  refine lv_aload_n hx hb dL_law_368 rfl (lv_at hl 4 rfl) ?_
  refine x_calli (w2 := fun (u3 : S5) => LWd cI cP cS cL ad bd ho u.1 u.2 u3) (wr := W4 cI cP cS ad u.1 ++ WO cL ho u.2) (x_runV (n := 0) ⟨hx, hb, hml, hown, hts⟩ (fX5_thrown l D cI cP cS cL bd th2 n2 lim2 row2 kept2 chg2 tab2 key2 frs2 col2 rel2 num2 lis2 boo2 sta2 slo2 cop2 see2 the2 her2) gL_law_X5_thrown rfl rfl rfl (by decide +kernel) ⟨by decide, by decide⟩ hN hK hP hD iLm rfl rfl (ci := 5) (q0 := 38) rfl rfl rfl rfl hl.1 (rest := []) (As := []) rfl (Nat.le_of_ble_eq_true rfl) dL_law_369 ⟨by show _ ≤ 601024; omega, by show _ ≤ 7293034; omega⟩) hP hD hS hA iLm iLb iL2m rfl rfl rfl (by decide) rfl (fun _ => rfl) (fun t9 u3 H locs hw3 hP hD hS => ?_)
  obtain ⟨rfl, rfl⟩ := hw3
  obtain ⟨e1, e2, bk9, hRR⟩ := sM_commit hR hw1 hw2
  refine lv_iload hx hb dL_law_372 (lv_at hl 1 rfl) ?_
  refine x_cmp_eq (tgt := 379) hx hb (Iff.rfl) dL_law_374 (by decide) (fun c9 => ?_) (fun c9 => absurd e1 c9)
  refine lv_iload hx hb dL_law_379 (lv_at hl 1 rfl) ?_
  refine x_if_ne (tgt := 396) hx hb (Iff.rfl) dL_law_381 (by decide) (fun c9 => ?_) (fun c9 => ?_)
  · refine lv_goto (tgt := 1535) hx hb dL_law_396 (by decide) ?_
    exact W.widen (by omega) (by omega) (kk u.1 u.2 (t9, n2, lim2, row2, kept2, chg2, tab2, key2, frs2, col2, rel2, num2, lis2, boo2, sta2, slo2, cop2, see2, the2, her2) H locs ls ⟨bk9, hRR⟩ hP hD hS (lv_sub hl [2, 3, 4, 5, 6] rfl))
  have e4 := e2 (by rw [c9, nI_0])
  refine lv_aload_n hx hb dL_law_384 rfl (lv_at hl 5 rfl) ?_
  refine lv_iconst (v := nI 0) hx hb dL_law_385 (by decide) ?_
  refine x_lald (v := u.2 0) hx hb hK hP 37 3 rfl rfl (by omega) (by omega) rfl dL_law_386 ?_
  refine lv_iload hx hb dL_law_387 (lv_at hl 0 rfl) ?_
  refine lv_i2l (v := r9.toInt64) hx hb dL_law_389 rfl ?_
  refine x_lcmp0 hx hb e4 dL_law_390 ?_
  refine x_if_eq (tgt := 396) hx hb (Iff.rfl) dL_law_391 (by decide) (fun c9 => ?_) (fun c9 => absurd nI_0 c9)
  refine lv_goto (tgt := 1535) hx hb dL_law_396 (by decide) ?_
  exact W.widen (by omega) (by omega) (kk u.1 u.2 (t9, n2, lim2, row2, kept2, chg2, tab2, key2, frs2, col2, rel2, num2, lis2, boo2, sta2, slo2, cop2, see2, the2, her2) H locs ls ⟨bk9, hRR⟩ hP hD hS (lv_sub hl [2, 3, 4, 5, 6] rfl))

set_option maxHeartbeats 8000000 in
set_option maxRecDepth 100000 in
theorem lC_rollBack {p : Program} {l : Launch} {e : Env} {s : State} {m : MethodId} {below : List Frame} {meth : Method} {c : Code} {H : Heap} {locs : List Loc} {cells slots : Nat} {Q : State → Prop} {ls : Array Slot} {D : va_G} {cI cP cS cL : ClassId} {A : Nat → Prop} {ad bd bk : Nat → Nat} {ho b L i : Nat} {xs : Nat → Int32} {out : Nat → Int64} {lim n : Nat} {rows cc ct ck nr cr old rw : qF} {co re nu ma sr cp : Nat → qF} {pu : Nat → Option Nat} {st sl : Nat → Nat} {th : Int32} {row kept chg tab key frs col rel num lis boo sta slo cop see the her : qF} (B : lwB p l s m c D cI cP cS cL A b L xs) (hinj : ∀ x y, x < 3 → y < 3 → ad (13 + 5 * x) = ad (13 + 5 * y) → x = y) (hi : i + 6 ≤ L) (hf : cells + 100 ≤ 601024 ∧ slots + 1000 ≤ 7293034) (hR : RR ad bk lim n rows cc ct ck nr cr co re nu ma sr cp pu st sl row kept chg tab key frs col rel num lis boo sta slo cop see) (hP : va_P D vwCl (LWd cI cP cS cL ad bd ho (lim, n, rows, cc, ct, ck, nr, cr, old, rw, co, re, nu, ma, sr, cp, pu, st, sl) out (th, n, lim, row, kept, chg, tab, key, frs, col, rel, num, lis, boo, sta, slo, cop, see, the, her)) H) (hD : va_D A (LWd cI cP cS cL ad bd ho (lim, n, rows, cc, ct, ck, nr, cr, old, rw, co, re, nu, ma, sr, cp, pu, st, sl) out (th, n, lim, row, kept, chg, tab, key, frs, col, rel, num, lis, boo, sta, slo, cop, see, the, her))) (hS : va_S A s.heap H locs) (hl : lv_has ls 7 [(0, .ref b), (1, .ref (ad 0)), (2, .ref (bd 0)), (3, .ref ho), (4, .int (nI i))]) (kk : ∀ (s4 : S4) (out : Nat → Int64) (s5 : S5) (H : Heap) (locs : List Loc) (ls : Array Slot), (∃ bk, RRt ad bk s4 s5) → va_P D vwCl (LWd cI cP cS cL ad bd ho s4 out s5) H → va_D A (LWd cI cP cS cL ad bd ho s4 out s5) → va_S A s.heap H locs → lv_has ls 7 [(0, .ref b), (1, .ref (ad 0)), (2, .ref (bd 0)), (3, .ref ho), (4, .int (nI i))] → W p l e room_1 s m #[Value.ref b] below meth c H locs (cells + 8) (slots + 40) Q (F0 m 1535 ls [])) : W p l e room_1 s m #[Value.ref b] below meth c H locs cells slots Q (F0 m 399 ls []) := by
  obtain ⟨hx, hb, hml, hown, hts, hfl, hK, hN, hE, hA, hbA, hbl, hX, hL⟩ := B
  obtain ⟨cn, hcn, hcc, hcn0⟩ := RR_cn hR
  have hlim := hR.1
  have hn9 := hR.2.1
  refine lv_aload_n hx hb dL_law_399 rfl (lv_at hl 1 rfl) ?_
  refine x_calli (w2 := fun (u : S4) => LWd cI cP cS cL ad bd ho u out (th, n, lim, row, kept, chg, tab, key, frs, col, rel, num, lis, boo, sta, slo, cop, see, the, her)) (wr := WO cL ho out ++ W5 cI bd (th, n, lim, row, kept, chg, tab, key, frs, col, rel, num, lis, boo, sta, slo, cop, see, the, her)) (x_runV (n := 0) ⟨hx, hb, hml, hown, hts⟩ (fL_rollBack l D cI cP cS cL ad lim n rows cc ct ck nr cr old rw co re nu ma sr cp pu st sl   cn hn9 hcc hcn) gL_law_X4_rollBack rfl rfl rfl (by decide +kernel) ⟨by decide, by decide⟩ hN hK hP hD iLa rfl rfl (ci := 4) (q0 := 0) rfl rfl rfl rfl hl.1 (rest := []) (As := []) rfl (Nat.le_of_ble_eq_true rfl) dL_law_400 ⟨by show _ ≤ 601024; omega, by show _ ≤ 7293034; omega⟩) hP hD hS hA iLa iLo iL2a rfl rfl rfl (by decide) rfl (fun _ => rfl) (fun k9 u H locs hw1 hP hD hS => ?_)
  refine lv_aload_n hx hb dL_law_403 rfl (lv_at hl 2 rfl) ?_
  refine x_calli (w2 := fun (u2 : S5) => LWd cI cP cS cL ad bd ho u out u2) (wr := W4 cI cP cS ad u ++ WO cL ho out) (x_runV (n := 0) ⟨hx, hb, hml, hown, hts⟩ (fX5_rollBack l D cI cP cS cL bd th n lim row kept chg tab key frs col rel num lis boo sta slo cop see the her cn hn9 hcn0 hcn) gL_law_X5_rollBack rfl rfl rfl (by decide +kernel) ⟨by decide, by decide⟩ hN hK hP hD iLm rfl rfl (ci := 5) (q0 := 38) rfl rfl rfl rfl hl.1 (rest := [.int k9]) (As := []) rfl (Nat.le_of_ble_eq_true rfl) dL_law_404 ⟨by show _ ≤ 601024; omega, by show _ ≤ 7293034; omega⟩) hP hD hS hA iLm iLb iL2m rfl rfl rfl (by decide) rfl (fun _ => rfl) (fun r9 u2 H locs hw2 hP hD hS => ?_)
  obtain ⟨th2, n2, lim2, row2, kept2, chg2, tab2, key2, frs2, col2, rel2, num2, lis2, boo2, sta2, slo2, cop2, see2, the2, her2⟩ := u2
  obtain ⟨e1, bk9, hRR⟩ := sM_rollBack hR hw1 hw2
  refine x_cmp_eq (tgt := 1535) hx hb (Iff.rfl) dL_law_407 (by decide) (fun c9 => ?_) (fun c9 => absurd e1 c9)
  exact W.widen (by omega) (by omega) (kk u out (th2, n2, lim2, row2, kept2, chg2, tab2, key2, frs2, col2, rel2, num2, lis2, boo2, sta2, slo2, cop2, see2, the2, her2) H locs ls ⟨bk9, hRR⟩ hP hD hS (lv_sub hl [0, 1, 2, 3, 4] rfl))

set_option maxHeartbeats 8000000 in
set_option maxRecDepth 100000 in
theorem lC_at {p : Program} {l : Launch} {e : Env} {s : State} {m : MethodId} {below : List Frame} {meth : Method} {c : Code} {H : Heap} {locs : List Loc} {cells slots : Nat} {Q : State → Prop} {ls : Array Slot} {D : va_G} {cI cP cS cL : ClassId} {A : Nat → Prop} {ad bd bk : Nat → Nat} {ho b L i : Nat} {xs : Nat → Int32} {out : Nat → Int64} {lim n : Nat} {rows cc ct ck nr cr old rw : qF} {co re nu ma sr cp : Nat → qF} {pu : Nat → Option Nat} {st sl : Nat → Nat} {th : Int32} {row kept chg tab key frs col rel num lis boo sta slo cop see the her : qF} (B : lwB p l s m c D cI cP cS cL A b L xs) (hinj : ∀ x y, x < 3 → y < 3 → ad (13 + 5 * x) = ad (13 + 5 * y) → x = y) (hi : i + 6 ≤ L) (hf : cells + 100 ≤ 601024 ∧ slots + 1000 ≤ 7293034) (hR : RR ad bk lim n rows cc ct ck nr cr co re nu ma sr cp pu st sl row kept chg tab key frs col rel num lis boo sta slo cop see) (hP : va_P D vwCl (LWd cI cP cS cL ad bd ho (lim, n, rows, cc, ct, ck, nr, cr, old, rw, co, re, nu, ma, sr, cp, pu, st, sl) out (th, n, lim, row, kept, chg, tab, key, frs, col, rel, num, lis, boo, sta, slo, cop, see, the, her)) H) (hD : va_D A (LWd cI cP cS cL ad bd ho (lim, n, rows, cc, ct, ck, nr, cr, old, rw, co, re, nu, ma, sr, cp, pu, st, sl) out (th, n, lim, row, kept, chg, tab, key, frs, col, rel, num, lis, boo, sta, slo, cop, see, the, her))) (hS : va_S A s.heap H locs) (hl : lv_has ls 7 [(0, .ref b), (1, .ref (ad 0)), (2, .ref (bd 0)), (3, .ref ho), (4, .int (nI i))]) (kk : ∀ (s4 : S4) (out : Nat → Int64) (s5 : S5) (H : Heap) (locs : List Loc) (ls : Array Slot), (∃ bk, RRt ad bk s4 s5) → va_P D vwCl (LWd cI cP cS cL ad bd ho s4 out s5) H → va_D A (LWd cI cP cS cL ad bd ho s4 out s5) → va_S A s.heap H locs → lv_has ls 7 [(0, .ref b), (1, .ref (ad 0)), (2, .ref (bd 0)), (3, .ref ho), (4, .int (nI i))] → W p l e room_1 s m #[Value.ref b] below meth c H locs (cells + 8) (slots + 40) Q (F0 m 1535 ls [])) : W p l e room_1 s m #[Value.ref b] below meth c H locs cells slots Q (F0 m 412 ls []) := by
  obtain ⟨hx, hb, hml, hown, hts, hfl, hK, hN, hE, hA, hbA, hbl, hX, hL⟩ := B
  obtain ⟨cn, hcn, hcc, hcn0⟩ := RR_cn hR
  have hlim := hR.1
  have hn9 := hR.2.1
  refine lv_aload_n hx hb dL_law_412 rfl (lv_at hl 1 rfl) ?_
  refine lv_aload_n hx hb dL_law_413 rfl (lv_at hl 0 rfl) ?_
  refine lv_iload hx hb dL_law_414 (lv_at hl 4 rfl) ?_
  refine lv_iconst (v := nI 1) hx hb dL_law_416 (by decide) ?_
  refine x_add (k := i + 1) hx hb dL_law_417 rfl ?_
  refine x_sld (k := i + 1) hx hb hX hbl hbA hS (by omega) hL dL_law_418 ?_
  refine lv_aload_n hx hb dL_law_419 rfl (lv_at hl 0 rfl) ?_
  refine lv_iload hx hb dL_law_420 (lv_at hl 4 rfl) ?_
  refine lv_iconst (v := nI 2) hx hb dL_law_422 (by decide) ?_
  refine x_add (k := i + 2) hx hb dL_law_423 rfl ?_
  refine x_sld (k := i + 2) hx hb hX hbl hbA hS (by omega) hL dL_law_424 ?_
  refine lv_aload_n hx hb dL_law_425 rfl (lv_at hl 0 rfl) ?_
  refine lv_iload hx hb dL_law_426 (lv_at hl 4 rfl) ?_
  refine lv_iconst (v := nI 3) hx hb dL_law_428 (by decide) ?_
  refine x_add (k := i + 3) hx hb dL_law_429 rfl ?_
  refine x_sld (k := i + 3) hx hb hX hbl hbA hS (by omega) hL dL_law_430 ?_
  refine lv_aload_n hx hb dL_law_431 rfl (lv_at hl 3 rfl) ?_
  refine x_calli (w2 := fun (u : S4 × (Nat → Int64)) => LWd cI cP cS cL ad bd ho u.1 u.2 (th, n, lim, row, kept, chg, tab, key, frs, col, rel, num, lis, boo, sta, slo, cop, see, the, her)) (wr := W5 cI bd (th, n, lim, row, kept, chg, tab, key, frs, col, rel, num, lis, boo, sta, slo, cop, see, the, her)) (x_runL (n := 5) ⟨hx, hb, hml, hown, hts⟩ (fL_at l D cI cP cS cL hfl ad ho out lim n rows cc ct ck nr cr old rw co re nu ma sr cp pu st sl   (xs (i + 1)) (xs (i + 2)) (xs (i + 3)) ) gL_law_L_at rfl rfl rfl (by decide +kernel) ⟨by decide, by decide⟩ hN hK hP hD hS hA hE iLb rfl rfl rfl hl.1 (rest := []) (As := [.ref (ad 0), .int (xs (i + 1)), .int (xs (i + 2)), .int (xs (i + 3)), .ref ho]) rfl (Nat.le_of_ble_eq_true rfl) dL_law_432 ⟨by show _ ≤ 601024; omega, by show _ ≤ 7293034; omega⟩) hP hD hS hA iLb iLm iL2b rfl rfl rfl (by decide) rfl (fun _ => rfl) (fun k9 u H locs hw1 hP hD hS => ?_)
  refine lv_istore (lv' := [(5, .int k9), (0, .ref b), (1, .ref (ad 0)), (2, .ref (bd 0)), (3, .ref ho), (4, .int (nI i))]) hx hb dL_law_435 hl (by decide) rfl (fun ls hl => ?_)
  refine lv_aload_n hx hb dL_law_437 rfl (lv_at hl 3 rfl) ?_
  refine lv_aload_n hx hb dL_law_438 rfl (lv_at hl 1 rfl) ?_
  refine lv_iload hx hb dL_law_439 (lv_at hl 5 rfl) ?_
  refine lv_iconst (v := nI 1) hx hb dL_law_441 (by decide) ?_
  refine x_add (k := i + 1) hx hb dL_law_442 rfl ?_
  refine x_sld (k := i + 1) hx hb hX hbl hbA hS (by omega) hL dL_law_443 ?_
  refine lv_aload_n hx hb dL_law_444 rfl (lv_at hl 1 rfl) ?_
  refine lv_iload hx hb dL_law_445 (lv_at hl 5 rfl) ?_
  refine lv_iconst (v := nI 2) hx hb dL_law_447 (by decide) ?_
  refine x_add (k := i + 2) hx hb dL_law_448 rfl ?_
  refine x_sld (k := i + 2) hx hb hX hbl hbA hS (by omega) hL dL_law_449 ?_
  refine lv_aload_n hx hb dL_law_450 rfl (lv_at hl 1 rfl) ?_
  refine lv_iload hx hb dL_law_451 (lv_at hl 5 rfl) ?_
  refine lv_iconst (v := nI 3) hx hb dL_law_453 (by decide) ?_
  refine x_add (k := i + 3) hx hb dL_law_454 rfl ?_
  refine x_sld (k := i + 3) hx hb hX hbl hbA hS (by omega) hL dL_law_455 ?_
  refine x_calli (w2 := fun (u2 : S5) => LWd cI cP cS cL ad bd ho u.1 u.2 u2) (wr := W4 cI cP cS ad u.1 ++ WO cL ho u.2) (x_runV (n := 3) ⟨hx, hb, hml, hown, hts⟩ (fX5_at l D cI cP cS cL bd th n lim row kept chg tab key frs col rel num lis boo sta slo cop see the her (xs (i + 1)) (xs (i + 2)) (xs (i + 3)) ) gL_law_X5_at rfl rfl rfl (by decide +kernel) ⟨by decide, by decide⟩ hN hK hP hD iLm rfl rfl (ci := 5) (q0 := 38) rfl rfl rfl rfl hl.1 (rest := []) (As := [.int (xs (i + 1)), .int (xs (i + 2)), .int (xs (i + 3))]) rfl (Nat.le_of_ble_eq_true rfl) dL_law_456 ⟨by show _ ≤ 601024; omega, by show _ ≤ 7293034; omega⟩) hP hD hS hA iLm iLb iL2m rfl rfl rfl (by decide) rfl (fun _ => rfl) (fun r9 u2 H locs hw2 hP hD hS => ?_)
  obtain ⟨th2, n2, lim2, row2, kept2, chg2, tab2, key2, frs2, col2, rel2, num2, lis2, boo2, sta2, slo2, cop2, see2, the2, her2⟩ := u2
  refine lv_istore (lv' := [(6, .int r9), (5, .int k9), (0, .ref b), (1, .ref (ad 0)), (2, .ref (bd 0)), (3, .ref ho), (4, .int (nI i))]) hx hb dL_law_459 hl (by decide) rfl (fun ls hl => ?_)
  refine lv_aload_n hx hb dL_law_461 rfl (lv_at hl 4 rfl) ?_
  refine x_calli (w2 := fun (u3 : S5) => LWd cI cP cS cL ad bd ho u.1 u.2 u3) (wr := W4 cI cP cS ad u.1 ++ WO cL ho u.2) (x_runV (n := 0) ⟨hx, hb, hml, hown, hts⟩ (fX5_thrown l D cI cP cS cL bd th2 n2 lim2 row2 kept2 chg2 tab2 key2 frs2 col2 rel2 num2 lis2 boo2 sta2 slo2 cop2 see2 the2 her2) gL_law_X5_thrown rfl rfl rfl (by decide +kernel) ⟨by decide, by decide⟩ hN hK hP hD iLm rfl rfl (ci := 5) (q0 := 38) rfl rfl rfl rfl hl.1 (rest := []) (As := []) rfl (Nat.le_of_ble_eq_true rfl) dL_law_462 ⟨by show _ ≤ 601024; omega, by show _ ≤ 7293034; omega⟩) hP hD hS hA iLm iLb iL2m rfl rfl rfl (by decide) rfl (fun _ => rfl) (fun t9 u3 H locs hw3 hP hD hS => ?_)
  obtain ⟨rfl, rfl⟩ := hw3
  obtain ⟨e1, e2, bk9, hRR⟩ := sM_at hR hw1 hw2
  refine lv_iload hx hb dL_law_465 (lv_at hl 1 rfl) ?_
  refine x_cmp_eq (tgt := 472) hx hb (Iff.rfl) dL_law_467 (by decide) (fun c9 => ?_) (fun c9 => absurd e1 c9)
  refine lv_iload hx hb dL_law_472 (lv_at hl 1 rfl) ?_
  refine x_if_ne (tgt := 489) hx hb (Iff.rfl) dL_law_474 (by decide) (fun c9 => ?_) (fun c9 => ?_)
  · refine lv_goto (tgt := 1535) hx hb dL_law_489 (by decide) ?_
    exact W.widen (by omega) (by omega) (kk u.1 u.2 (t9, n2, lim2, row2, kept2, chg2, tab2, key2, frs2, col2, rel2, num2, lis2, boo2, sta2, slo2, cop2, see2, the2, her2) H locs ls ⟨bk9, hRR⟩ hP hD hS (lv_sub hl [2, 3, 4, 5, 6] rfl))
  have e4 := e2 (by rw [c9, nI_0])
  refine lv_aload_n hx hb dL_law_477 rfl (lv_at hl 5 rfl) ?_
  refine lv_iconst (v := nI 0) hx hb dL_law_478 (by decide) ?_
  refine x_lald (v := u.2 0) hx hb hK hP 37 3 rfl rfl (by omega) (by omega) rfl dL_law_479 ?_
  refine lv_iload hx hb dL_law_480 (lv_at hl 0 rfl) ?_
  refine lv_i2l (v := r9.toInt64) hx hb dL_law_482 rfl ?_
  refine x_lcmp0 hx hb e4 dL_law_483 ?_
  refine x_if_eq (tgt := 489) hx hb (Iff.rfl) dL_law_484 (by decide) (fun c9 => ?_) (fun c9 => absurd nI_0 c9)
  refine lv_goto (tgt := 1535) hx hb dL_law_489 (by decide) ?_
  exact W.widen (by omega) (by omega) (kk u.1 u.2 (t9, n2, lim2, row2, kept2, chg2, tab2, key2, frs2, col2, rel2, num2, lis2, boo2, sta2, slo2, cop2, see2, the2, her2) H locs ls ⟨bk9, hRR⟩ hP hD hS (lv_sub hl [2, 3, 4, 5, 6] rfl))

set_option maxHeartbeats 8000000 in
set_option maxRecDepth 100000 in
theorem lC_commits {p : Program} {l : Launch} {e : Env} {s : State} {m : MethodId} {below : List Frame} {meth : Method} {c : Code} {H : Heap} {locs : List Loc} {cells slots : Nat} {Q : State → Prop} {ls : Array Slot} {D : va_G} {cI cP cS cL : ClassId} {A : Nat → Prop} {ad bd bk : Nat → Nat} {ho b L i : Nat} {xs : Nat → Int32} {out : Nat → Int64} {lim n : Nat} {rows cc ct ck nr cr old rw : qF} {co re nu ma sr cp : Nat → qF} {pu : Nat → Option Nat} {st sl : Nat → Nat} {th : Int32} {row kept chg tab key frs col rel num lis boo sta slo cop see the her : qF} (B : lwB p l s m c D cI cP cS cL A b L xs) (hinj : ∀ x y, x < 3 → y < 3 → ad (13 + 5 * x) = ad (13 + 5 * y) → x = y) (hi : i + 6 ≤ L) (hf : cells + 100 ≤ 601024 ∧ slots + 1000 ≤ 7293034) (hR : RR ad bk lim n rows cc ct ck nr cr co re nu ma sr cp pu st sl row kept chg tab key frs col rel num lis boo sta slo cop see) (hP : va_P D vwCl (LWd cI cP cS cL ad bd ho (lim, n, rows, cc, ct, ck, nr, cr, old, rw, co, re, nu, ma, sr, cp, pu, st, sl) out (th, n, lim, row, kept, chg, tab, key, frs, col, rel, num, lis, boo, sta, slo, cop, see, the, her)) H) (hD : va_D A (LWd cI cP cS cL ad bd ho (lim, n, rows, cc, ct, ck, nr, cr, old, rw, co, re, nu, ma, sr, cp, pu, st, sl) out (th, n, lim, row, kept, chg, tab, key, frs, col, rel, num, lis, boo, sta, slo, cop, see, the, her))) (hS : va_S A s.heap H locs) (hl : lv_has ls 7 [(0, .ref b), (1, .ref (ad 0)), (2, .ref (bd 0)), (3, .ref ho), (4, .int (nI i))]) (kk : ∀ (s4 : S4) (out : Nat → Int64) (s5 : S5) (H : Heap) (locs : List Loc) (ls : Array Slot), (∃ bk, RRt ad bk s4 s5) → va_P D vwCl (LWd cI cP cS cL ad bd ho s4 out s5) H → va_D A (LWd cI cP cS cL ad bd ho s4 out s5) → va_S A s.heap H locs → lv_has ls 7 [(0, .ref b), (1, .ref (ad 0)), (2, .ref (bd 0)), (3, .ref ho), (4, .int (nI i))] → W p l e room_1 s m #[Value.ref b] below meth c H locs (cells + 8) (slots + 40) Q (F0 m 1535 ls [])) : W p l e room_1 s m #[Value.ref b] below meth c H locs cells slots Q (F0 m 492 ls []) := by
  obtain ⟨hx, hb, hml, hown, hts, hfl, hK, hN, hE, hA, hbA, hbl, hX, hL⟩ := B
  obtain ⟨cn, hcn, hcc, hcn0⟩ := RR_cn hR
  have hlim := hR.1
  have hn9 := hR.2.1
  refine lv_aload_n hx hb dL_law_492 rfl (lv_at hl 1 rfl) ?_
  refine x_calli (w2 := fun (u : S4) => LWd cI cP cS cL ad bd ho u out (th, n, lim, row, kept, chg, tab, key, frs, col, rel, num, lis, boo, sta, slo, cop, see, the, her)) (wr := WO cL ho out ++ W5 cI bd (th, n, lim, row, kept, chg, tab, key, frs, col, rel, num, lis, boo, sta, slo, cop, see, the, her)) (x_runV (n := 0) ⟨hx, hb, hml, hown, hts⟩ (fL_commits l D cI cP cS cL ad lim n rows cc ct ck nr cr old rw co re nu ma sr cp pu st sl    ) gL_law_X4_commits rfl rfl rfl (by decide +kernel) ⟨by decide, by decide⟩ hN hK hP hD iLa rfl rfl (ci := 4) (q0 := 0) rfl rfl rfl rfl hl.1 (rest := []) (As := []) rfl (Nat.le_of_ble_eq_true rfl) dL_law_493 ⟨by show _ ≤ 601024; omega, by show _ ≤ 7293034; omega⟩) hP hD hS hA iLa iLo iL2a rfl rfl rfl (by decide) rfl (fun _ => rfl) (fun k9 u H locs hw1 hP hD hS => ?_)
  refine lv_aload_n hx hb dL_law_496 rfl (lv_at hl 2 rfl) ?_
  refine x_calli (w2 := fun (u2 : S5) => LWd cI cP cS cL ad bd ho u out u2) (wr := W4 cI cP cS ad u ++ WO cL ho out) (x_runV (n := 0) ⟨hx, hb, hml, hown, hts⟩ (fX5_commits l D cI cP cS cL bd th n lim row kept chg tab key frs col rel num lis boo sta slo cop see the her  ) gL_law_X5_commits rfl rfl rfl (by decide +kernel) ⟨by decide, by decide⟩ hN hK hP hD iLm rfl rfl (ci := 5) (q0 := 38) rfl rfl rfl rfl hl.1 (rest := [.int k9]) (As := []) rfl (Nat.le_of_ble_eq_true rfl) dL_law_497 ⟨by show _ ≤ 601024; omega, by show _ ≤ 7293034; omega⟩) hP hD hS hA iLm iLb iL2m rfl rfl rfl (by decide) rfl (fun _ => rfl) (fun r9 u2 H locs hw2 hP hD hS => ?_)
  obtain ⟨th2, n2, lim2, row2, kept2, chg2, tab2, key2, frs2, col2, rel2, num2, lis2, boo2, sta2, slo2, cop2, see2, the2, her2⟩ := u2
  obtain ⟨e1, bk9, hRR⟩ := sM_commits hR hw1 hw2
  refine x_cmp_eq (tgt := 1535) hx hb (Iff.rfl) dL_law_500 (by decide) (fun c9 => ?_) (fun c9 => absurd e1 c9)
  exact W.widen (by omega) (by omega) (kk u out (th2, n2, lim2, row2, kept2, chg2, tab2, key2, frs2, col2, rel2, num2, lis2, boo2, sta2, slo2, cop2, see2, the2, her2) H locs ls ⟨bk9, hRR⟩ hP hD hS (lv_sub hl [0, 1, 2, 3, 4] rfl))

set_option maxHeartbeats 8000000 in
set_option maxRecDepth 100000 in
theorem lC_setLimit {p : Program} {l : Launch} {e : Env} {s : State} {m : MethodId} {below : List Frame} {meth : Method} {c : Code} {H : Heap} {locs : List Loc} {cells slots : Nat} {Q : State → Prop} {ls : Array Slot} {D : va_G} {cI cP cS cL : ClassId} {A : Nat → Prop} {ad bd bk : Nat → Nat} {ho b L i : Nat} {xs : Nat → Int32} {out : Nat → Int64} {lim n : Nat} {rows cc ct ck nr cr old rw : qF} {co re nu ma sr cp : Nat → qF} {pu : Nat → Option Nat} {st sl : Nat → Nat} {th : Int32} {row kept chg tab key frs col rel num lis boo sta slo cop see the her : qF} (B : lwB p l s m c D cI cP cS cL A b L xs) (hinj : ∀ x y, x < 3 → y < 3 → ad (13 + 5 * x) = ad (13 + 5 * y) → x = y) (hi : i + 6 ≤ L) (hf : cells + 100 ≤ 601024 ∧ slots + 1000 ≤ 7293034) (hR : RR ad bk lim n rows cc ct ck nr cr co re nu ma sr cp pu st sl row kept chg tab key frs col rel num lis boo sta slo cop see) (hP : va_P D vwCl (LWd cI cP cS cL ad bd ho (lim, n, rows, cc, ct, ck, nr, cr, old, rw, co, re, nu, ma, sr, cp, pu, st, sl) out (th, n, lim, row, kept, chg, tab, key, frs, col, rel, num, lis, boo, sta, slo, cop, see, the, her)) H) (hD : va_D A (LWd cI cP cS cL ad bd ho (lim, n, rows, cc, ct, ck, nr, cr, old, rw, co, re, nu, ma, sr, cp, pu, st, sl) out (th, n, lim, row, kept, chg, tab, key, frs, col, rel, num, lis, boo, sta, slo, cop, see, the, her))) (hS : va_S A s.heap H locs) (hl : lv_has ls 7 [(0, .ref b), (1, .ref (ad 0)), (2, .ref (bd 0)), (3, .ref ho), (4, .int (nI i))]) (kk : ∀ (s4 : S4) (out : Nat → Int64) (s5 : S5) (H : Heap) (locs : List Loc) (ls : Array Slot), (∃ bk, RRt ad bk s4 s5) → va_P D vwCl (LWd cI cP cS cL ad bd ho s4 out s5) H → va_D A (LWd cI cP cS cL ad bd ho s4 out s5) → va_S A s.heap H locs → lv_has ls 7 [(0, .ref b), (1, .ref (ad 0)), (2, .ref (bd 0)), (3, .ref ho), (4, .int (nI i))] → W p l e room_1 s m #[Value.ref b] below meth c H locs (cells + 8) (slots + 40) Q (F0 m 1535 ls [])) : W p l e room_1 s m #[Value.ref b] below meth c H locs cells slots Q (F0 m 505 ls []) := by
  obtain ⟨hx, hb, hml, hown, hts, hfl, hK, hN, hE, hA, hbA, hbl, hX, hL⟩ := B
  obtain ⟨cn, hcn, hcc, hcn0⟩ := RR_cn hR
  have hlim := hR.1
  have hn9 := hR.2.1
  refine lv_aload_n hx hb dL_law_505 rfl (lv_at hl 1 rfl) ?_
  refine lv_aload_n hx hb dL_law_506 rfl (lv_at hl 0 rfl) ?_
  refine lv_iload hx hb dL_law_507 (lv_at hl 4 rfl) ?_
  refine lv_iconst (v := nI 1) hx hb dL_law_509 (by decide) ?_
  refine x_add (k := i + 1) hx hb dL_law_510 rfl ?_
  refine x_sld (k := i + 1) hx hb hX hbl hbA hS (by omega) hL dL_law_511 ?_
  refine lv_aload_n hx hb dL_law_512 rfl (lv_at hl 3 rfl) ?_
  refine x_calli (w2 := fun (u : S4 × (Nat → Int64)) => LWd cI cP cS cL ad bd ho u.1 u.2 (th, n, lim, row, kept, chg, tab, key, frs, col, rel, num, lis, boo, sta, slo, cop, see, the, her)) (wr := W5 cI bd (th, n, lim, row, kept, chg, tab, key, frs, col, rel, num, lis, boo, sta, slo, cop, see, the, her)) (x_runL (n := 3) ⟨hx, hb, hml, hown, hts⟩ (fL_setLimit l D cI cP cS cL hfl ad ho out lim n rows cc ct ck nr cr old rw co re nu ma sr cp pu st sl   (xs (i + 1)) hn9 (RR_st3 hR) (RR_sl hR)) gL_law_L_setLimit rfl rfl rfl (by decide +kernel) ⟨by decide, by decide⟩ hN hK hP hD hS hA hE iLb rfl rfl rfl hl.1 (rest := []) (As := [.ref (ad 0), .int (xs (i + 1)), .ref ho]) rfl (Nat.le_of_ble_eq_true rfl) dL_law_513 ⟨by show _ ≤ 601024; omega, by show _ ≤ 7293034; omega⟩) hP hD hS hA iLb iLm iL2b rfl rfl rfl (by decide) rfl (fun _ => rfl) (fun k9 u H locs hw1 hP hD hS => ?_)
  refine lv_istore (lv' := [(5, .int k9), (0, .ref b), (1, .ref (ad 0)), (2, .ref (bd 0)), (3, .ref ho), (4, .int (nI i))]) hx hb dL_law_516 hl (by decide) rfl (fun ls hl => ?_)
  refine lv_aload_n hx hb dL_law_518 rfl (lv_at hl 3 rfl) ?_
  refine lv_aload_n hx hb dL_law_519 rfl (lv_at hl 1 rfl) ?_
  refine lv_iload hx hb dL_law_520 (lv_at hl 5 rfl) ?_
  refine lv_iconst (v := nI 1) hx hb dL_law_522 (by decide) ?_
  refine x_add (k := i + 1) hx hb dL_law_523 rfl ?_
  refine x_sld (k := i + 1) hx hb hX hbl hbA hS (by omega) hL dL_law_524 ?_
  refine x_calli (w2 := fun (u2 : S5) => LWd cI cP cS cL ad bd ho u.1 u.2 u2) (wr := W4 cI cP cS ad u.1 ++ WO cL ho u.2) (x_runV (n := 1) ⟨hx, hb, hml, hown, hts⟩ (fX5_setLimit l D cI cP cS cL bd th n lim row kept chg tab key frs col rel num lis boo sta slo cop see the her st sl (xs (i + 1)) (RR_sta hR) (RR_st3 hR) (RR_slo hR) (RR_sl hR) hn9) gL_law_X5_setLimit rfl rfl rfl (by decide +kernel) ⟨by decide, by decide⟩ hN hK hP hD iLm rfl rfl (ci := 5) (q0 := 38) rfl rfl rfl rfl hl.1 (rest := []) (As := [.int (xs (i + 1))]) rfl (Nat.le_of_ble_eq_true rfl) dL_law_525 ⟨by show _ ≤ 601024; omega, by show _ ≤ 7293034; omega⟩) hP hD hS hA iLm iLb iL2m rfl rfl rfl (by decide) rfl (fun _ => rfl) (fun r9 u2 H locs hw2 hP hD hS => ?_)
  obtain ⟨th2, n2, lim2, row2, kept2, chg2, tab2, key2, frs2, col2, rel2, num2, lis2, boo2, sta2, slo2, cop2, see2, the2, her2⟩ := u2
  refine lv_istore (lv' := [(6, .int r9), (5, .int k9), (0, .ref b), (1, .ref (ad 0)), (2, .ref (bd 0)), (3, .ref ho), (4, .int (nI i))]) hx hb dL_law_528 hl (by decide) rfl (fun ls hl => ?_)
  refine lv_aload_n hx hb dL_law_530 rfl (lv_at hl 4 rfl) ?_
  refine x_calli (w2 := fun (u3 : S5) => LWd cI cP cS cL ad bd ho u.1 u.2 u3) (wr := W4 cI cP cS ad u.1 ++ WO cL ho u.2) (x_runV (n := 0) ⟨hx, hb, hml, hown, hts⟩ (fX5_thrown l D cI cP cS cL bd th2 n2 lim2 row2 kept2 chg2 tab2 key2 frs2 col2 rel2 num2 lis2 boo2 sta2 slo2 cop2 see2 the2 her2) gL_law_X5_thrown rfl rfl rfl (by decide +kernel) ⟨by decide, by decide⟩ hN hK hP hD iLm rfl rfl (ci := 5) (q0 := 38) rfl rfl rfl rfl hl.1 (rest := []) (As := []) rfl (Nat.le_of_ble_eq_true rfl) dL_law_531 ⟨by show _ ≤ 601024; omega, by show _ ≤ 7293034; omega⟩) hP hD hS hA iLm iLb iL2m rfl rfl rfl (by decide) rfl (fun _ => rfl) (fun t9 u3 H locs hw3 hP hD hS => ?_)
  obtain ⟨rfl, rfl⟩ := hw3
  obtain ⟨e1, e2, bk9, hRR⟩ := sM_setLimit hR hw1 hw2
  refine lv_iload hx hb dL_law_534 (lv_at hl 1 rfl) ?_
  refine x_cmp_eq (tgt := 541) hx hb (Iff.rfl) dL_law_536 (by decide) (fun c9 => ?_) (fun c9 => absurd e1 c9)
  refine lv_iload hx hb dL_law_541 (lv_at hl 1 rfl) ?_
  refine x_if_ne (tgt := 558) hx hb (Iff.rfl) dL_law_543 (by decide) (fun c9 => ?_) (fun c9 => ?_)
  · refine lv_goto (tgt := 1535) hx hb dL_law_558 (by decide) ?_
    exact W.widen (by omega) (by omega) (kk u.1 u.2 (t9, n2, lim2, row2, kept2, chg2, tab2, key2, frs2, col2, rel2, num2, lis2, boo2, sta2, slo2, cop2, see2, the2, her2) H locs ls ⟨bk9, hRR⟩ hP hD hS (lv_sub hl [2, 3, 4, 5, 6] rfl))
  have e4 := e2 (by rw [c9, nI_0])
  refine lv_aload_n hx hb dL_law_546 rfl (lv_at hl 5 rfl) ?_
  refine lv_iconst (v := nI 0) hx hb dL_law_547 (by decide) ?_
  refine x_lald (v := u.2 0) hx hb hK hP 37 3 rfl rfl (by omega) (by omega) rfl dL_law_548 ?_
  refine lv_iload hx hb dL_law_549 (lv_at hl 0 rfl) ?_
  refine lv_i2l (v := r9.toInt64) hx hb dL_law_551 rfl ?_
  refine x_lcmp0 hx hb e4 dL_law_552 ?_
  refine x_if_eq (tgt := 558) hx hb (Iff.rfl) dL_law_553 (by decide) (fun c9 => ?_) (fun c9 => absurd nI_0 c9)
  refine lv_goto (tgt := 1535) hx hb dL_law_558 (by decide) ?_
  exact W.widen (by omega) (by omega) (kk u.1 u.2 (t9, n2, lim2, row2, kept2, chg2, tab2, key2, frs2, col2, rel2, num2, lis2, boo2, sta2, slo2, cop2, see2, the2, her2) H locs ls ⟨bk9, hRR⟩ hP hD hS (lv_sub hl [2, 3, 4, 5, 6] rfl))

set_option maxHeartbeats 8000000 in
set_option maxRecDepth 100000 in
theorem lC_setCondition {p : Program} {l : Launch} {e : Env} {s : State} {m : MethodId} {below : List Frame} {meth : Method} {c : Code} {H : Heap} {locs : List Loc} {cells slots : Nat} {Q : State → Prop} {ls : Array Slot} {D : va_G} {cI cP cS cL : ClassId} {A : Nat → Prop} {ad bd bk : Nat → Nat} {ho b L i : Nat} {xs : Nat → Int32} {out : Nat → Int64} {lim n : Nat} {rows cc ct ck nr cr old rw : qF} {co re nu ma sr cp : Nat → qF} {pu : Nat → Option Nat} {st sl : Nat → Nat} {th : Int32} {row kept chg tab key frs col rel num lis boo sta slo cop see the her : qF} (B : lwB p l s m c D cI cP cS cL A b L xs) (hinj : ∀ x y, x < 3 → y < 3 → ad (13 + 5 * x) = ad (13 + 5 * y) → x = y) (hi : i + 6 ≤ L) (hf : cells + 100 ≤ 601024 ∧ slots + 1000 ≤ 7293034) (hR : RR ad bk lim n rows cc ct ck nr cr co re nu ma sr cp pu st sl row kept chg tab key frs col rel num lis boo sta slo cop see) (hP : va_P D vwCl (LWd cI cP cS cL ad bd ho (lim, n, rows, cc, ct, ck, nr, cr, old, rw, co, re, nu, ma, sr, cp, pu, st, sl) out (th, n, lim, row, kept, chg, tab, key, frs, col, rel, num, lis, boo, sta, slo, cop, see, the, her)) H) (hD : va_D A (LWd cI cP cS cL ad bd ho (lim, n, rows, cc, ct, ck, nr, cr, old, rw, co, re, nu, ma, sr, cp, pu, st, sl) out (th, n, lim, row, kept, chg, tab, key, frs, col, rel, num, lis, boo, sta, slo, cop, see, the, her))) (hS : va_S A s.heap H locs) (hl : lv_has ls 7 [(0, .ref b), (1, .ref (ad 0)), (2, .ref (bd 0)), (3, .ref ho), (4, .int (nI i))]) (kk : ∀ (s4 : S4) (out : Nat → Int64) (s5 : S5) (H : Heap) (locs : List Loc) (ls : Array Slot), (∃ bk, RRt ad bk s4 s5) → va_P D vwCl (LWd cI cP cS cL ad bd ho s4 out s5) H → va_D A (LWd cI cP cS cL ad bd ho s4 out s5) → va_S A s.heap H locs → lv_has ls 7 [(0, .ref b), (1, .ref (ad 0)), (2, .ref (bd 0)), (3, .ref ho), (4, .int (nI i))] → W p l e room_1 s m #[Value.ref b] below meth c H locs (cells + 8) (slots + 40) Q (F0 m 1535 ls [])) : W p l e room_1 s m #[Value.ref b] below meth c H locs cells slots Q (F0 m 561 ls []) := by
  obtain ⟨hx, hb, hml, hown, hts, hfl, hK, hN, hE, hA, hbA, hbl, hX, hL⟩ := B
  obtain ⟨cn, hcn, hcc, hcn0⟩ := RR_cn hR
  have hlim := hR.1
  have hn9 := hR.2.1
  refine lv_aload_n hx hb dL_law_561 rfl (lv_at hl 1 rfl) ?_
  refine lv_aload_n hx hb dL_law_562 rfl (lv_at hl 0 rfl) ?_
  refine lv_iload hx hb dL_law_563 (lv_at hl 4 rfl) ?_
  refine lv_iconst (v := nI 1) hx hb dL_law_565 (by decide) ?_
  refine x_add (k := i + 1) hx hb dL_law_566 rfl ?_
  refine x_sld (k := i + 1) hx hb hX hbl hbA hS (by omega) hL dL_law_567 ?_
  refine lv_aload_n hx hb dL_law_568 rfl (lv_at hl 0 rfl) ?_
  refine lv_iload hx hb dL_law_569 (lv_at hl 4 rfl) ?_
  refine lv_iconst (v := nI 2) hx hb dL_law_571 (by decide) ?_
  refine x_add (k := i + 2) hx hb dL_law_572 rfl ?_
  refine x_sld (k := i + 2) hx hb hX hbl hbA hS (by omega) hL dL_law_573 ?_
  refine lv_aload_n hx hb dL_law_574 rfl (lv_at hl 0 rfl) ?_
  refine lv_iload hx hb dL_law_575 (lv_at hl 4 rfl) ?_
  refine lv_iconst (v := nI 3) hx hb dL_law_577 (by decide) ?_
  refine x_add (k := i + 3) hx hb dL_law_578 rfl ?_
  refine x_sld (k := i + 3) hx hb hX hbl hbA hS (by omega) hL dL_law_579 ?_
  refine lv_aload_n hx hb dL_law_580 rfl (lv_at hl 0 rfl) ?_
  refine lv_iload hx hb dL_law_581 (lv_at hl 4 rfl) ?_
  refine lv_iconst (v := nI 4) hx hb dL_law_583 (by decide) ?_
  refine x_add (k := i + 4) hx hb dL_law_584 rfl ?_
  refine x_sld (k := i + 4) hx hb hX hbl hbA hS (by omega) hL dL_law_585 ?_
  refine lv_aload_n hx hb dL_law_586 rfl (lv_at hl 0 rfl) ?_
  refine lv_iload hx hb dL_law_587 (lv_at hl 4 rfl) ?_
  refine lv_iconst (v := nI 5) hx hb dL_law_589 (by decide) ?_
  refine x_add (k := i + 5) hx hb dL_law_590 rfl ?_
  refine x_sld (k := i + 5) hx hb hX hbl hbA hS (by omega) hL dL_law_591 ?_
  refine lv_aload_n hx hb dL_law_592 rfl (lv_at hl 3 rfl) ?_
  refine x_calli (w2 := fun (u : S4 × (Nat → Int64)) => LWd cI cP cS cL ad bd ho u.1 u.2 (th, n, lim, row, kept, chg, tab, key, frs, col, rel, num, lis, boo, sta, slo, cop, see, the, her)) (wr := W5 cI bd (th, n, lim, row, kept, chg, tab, key, frs, col, rel, num, lis, boo, sta, slo, cop, see, the, her)) (x_runL (n := 7) ⟨hx, hb, hml, hown, hts⟩ (fL_setCondition l D cI cP cS cL hfl ad ho out lim n rows cc ct ck nr cr old rw co re nu ma sr cp pu st sl  (iX (xs (i + 1))) (xs (i + 1)) (xs (i + 2)) (xs (i + 3)) (xs (i + 4)) (xs (i + 5)) (iX_lt _) (iX_sx _)) gL_law_L_setCondition rfl rfl rfl (by decide +kernel) ⟨by decide, by decide⟩ hN hK hP hD hS hA hE iLb rfl rfl rfl hl.1 (rest := []) (As := [.ref (ad 0), .int (xs (i + 1)), .int (xs (i + 2)), .int (xs (i + 3)), .int (xs (i + 4)), .int (xs (i + 5)), .ref ho]) rfl (Nat.le_of_ble_eq_true rfl) dL_law_593 ⟨by show _ ≤ 601024; omega, by show _ ≤ 7293034; omega⟩) hP hD hS hA iLb iLm iL2b rfl rfl rfl (by decide) rfl (fun _ => rfl) (fun k9 u H locs hw1 hP hD hS => ?_)
  refine lv_istore (lv' := [(5, .int k9), (0, .ref b), (1, .ref (ad 0)), (2, .ref (bd 0)), (3, .ref ho), (4, .int (nI i))]) hx hb dL_law_596 hl (by decide) rfl (fun ls hl => ?_)
  refine lv_aload_n hx hb dL_law_598 rfl (lv_at hl 3 rfl) ?_
  refine lv_aload_n hx hb dL_law_599 rfl (lv_at hl 1 rfl) ?_
  refine lv_iload hx hb dL_law_600 (lv_at hl 5 rfl) ?_
  refine lv_iconst (v := nI 1) hx hb dL_law_602 (by decide) ?_
  refine x_add (k := i + 1) hx hb dL_law_603 rfl ?_
  refine x_sld (k := i + 1) hx hb hX hbl hbA hS (by omega) hL dL_law_604 ?_
  refine lv_aload_n hx hb dL_law_605 rfl (lv_at hl 1 rfl) ?_
  refine lv_iload hx hb dL_law_606 (lv_at hl 5 rfl) ?_
  refine lv_iconst (v := nI 2) hx hb dL_law_608 (by decide) ?_
  refine x_add (k := i + 2) hx hb dL_law_609 rfl ?_
  refine x_sld (k := i + 2) hx hb hX hbl hbA hS (by omega) hL dL_law_610 ?_
  refine lv_aload_n hx hb dL_law_611 rfl (lv_at hl 1 rfl) ?_
  refine lv_iload hx hb dL_law_612 (lv_at hl 5 rfl) ?_
  refine lv_iconst (v := nI 3) hx hb dL_law_614 (by decide) ?_
  refine x_add (k := i + 3) hx hb dL_law_615 rfl ?_
  refine x_sld (k := i + 3) hx hb hX hbl hbA hS (by omega) hL dL_law_616 ?_
  refine lv_aload_n hx hb dL_law_617 rfl (lv_at hl 1 rfl) ?_
  refine lv_iload hx hb dL_law_618 (lv_at hl 5 rfl) ?_
  refine lv_iconst (v := nI 4) hx hb dL_law_620 (by decide) ?_
  refine x_add (k := i + 4) hx hb dL_law_621 rfl ?_
  refine x_sld (k := i + 4) hx hb hX hbl hbA hS (by omega) hL dL_law_622 ?_
  refine lv_aload_n hx hb dL_law_623 rfl (lv_at hl 1 rfl) ?_
  refine lv_iload hx hb dL_law_624 (lv_at hl 5 rfl) ?_
  refine lv_iconst (v := nI 5) hx hb dL_law_626 (by decide) ?_
  refine x_add (k := i + 5) hx hb dL_law_627 rfl ?_
  refine x_sld (k := i + 5) hx hb hX hbl hbA hS (by omega) hL dL_law_628 ?_
  refine x_calli (w2 := fun (u2 : S5) => LWd cI cP cS cL ad bd ho u.1 u.2 u2) (wr := W4 cI cP cS ad u.1 ++ WO cL ho u.2) (x_runV (n := 5) ⟨hx, hb, hml, hown, hts⟩ (fX5_setCondition l D cI cP cS cL bd th n lim row kept chg tab key frs col rel num lis boo sta slo cop see the her st bk (xs (i + 1)) (xs (i + 2)) (xs (i + 3)) (xs (i + 4)) (xs (i + 5)) (RR_sta hR) (RR_st3 hR) (RR_boo hR) (RR_bk hR)) gL_law_X5_setCondition rfl rfl rfl (by decide +kernel) ⟨by decide, by decide⟩ hN hK hP hD iLm rfl rfl (ci := 5) (q0 := 38) rfl rfl rfl rfl hl.1 (rest := []) (As := [.int (xs (i + 1)), .int (xs (i + 2)), .int (xs (i + 3)), .int (xs (i + 4)), .int (xs (i + 5))]) rfl (Nat.le_of_ble_eq_true rfl) dL_law_629 ⟨by show _ ≤ 601024; omega, by show _ ≤ 7293034; omega⟩) hP hD hS hA iLm iLb iL2m rfl rfl rfl (by decide) rfl (fun _ => rfl) (fun r9 u2 H locs hw2 hP hD hS => ?_)
  obtain ⟨th2, n2, lim2, row2, kept2, chg2, tab2, key2, frs2, col2, rel2, num2, lis2, boo2, sta2, slo2, cop2, see2, the2, her2⟩ := u2
  refine lv_istore (lv' := [(6, .int r9), (5, .int k9), (0, .ref b), (1, .ref (ad 0)), (2, .ref (bd 0)), (3, .ref ho), (4, .int (nI i))]) hx hb dL_law_632 hl (by decide) rfl (fun ls hl => ?_)
  refine lv_aload_n hx hb dL_law_634 rfl (lv_at hl 4 rfl) ?_
  refine x_calli (w2 := fun (u3 : S5) => LWd cI cP cS cL ad bd ho u.1 u.2 u3) (wr := W4 cI cP cS ad u.1 ++ WO cL ho u.2) (x_runV (n := 0) ⟨hx, hb, hml, hown, hts⟩ (fX5_thrown l D cI cP cS cL bd th2 n2 lim2 row2 kept2 chg2 tab2 key2 frs2 col2 rel2 num2 lis2 boo2 sta2 slo2 cop2 see2 the2 her2) gL_law_X5_thrown rfl rfl rfl (by decide +kernel) ⟨by decide, by decide⟩ hN hK hP hD iLm rfl rfl (ci := 5) (q0 := 38) rfl rfl rfl rfl hl.1 (rest := []) (As := []) rfl (Nat.le_of_ble_eq_true rfl) dL_law_635 ⟨by show _ ≤ 601024; omega, by show _ ≤ 7293034; omega⟩) hP hD hS hA iLm iLb iL2m rfl rfl rfl (by decide) rfl (fun _ => rfl) (fun t9 u3 H locs hw3 hP hD hS => ?_)
  obtain ⟨rfl, rfl⟩ := hw3
  obtain ⟨e1, e2, bk9, hRR⟩ := sM_setCondition hinj hR hw1 hw2
  refine lv_iload hx hb dL_law_638 (lv_at hl 1 rfl) ?_
  refine x_cmp_eq (tgt := 645) hx hb (Iff.rfl) dL_law_640 (by decide) (fun c9 => ?_) (fun c9 => absurd e1 c9)
  refine lv_iload hx hb dL_law_645 (lv_at hl 1 rfl) ?_
  refine x_if_ne (tgt := 662) hx hb (Iff.rfl) dL_law_647 (by decide) (fun c9 => ?_) (fun c9 => ?_)
  · refine lv_goto (tgt := 1535) hx hb dL_law_662 (by decide) ?_
    exact W.widen (by omega) (by omega) (kk u.1 u.2 (t9, n2, lim2, row2, kept2, chg2, tab2, key2, frs2, col2, rel2, num2, lis2, boo2, sta2, slo2, cop2, see2, the2, her2) H locs ls ⟨bk9, hRR⟩ hP hD hS (lv_sub hl [2, 3, 4, 5, 6] rfl))
  have e4 := e2 (by rw [c9, nI_0])
  refine lv_aload_n hx hb dL_law_650 rfl (lv_at hl 5 rfl) ?_
  refine lv_iconst (v := nI 0) hx hb dL_law_651 (by decide) ?_
  refine x_lald (v := u.2 0) hx hb hK hP 37 3 rfl rfl (by omega) (by omega) rfl dL_law_652 ?_
  refine lv_iload hx hb dL_law_653 (lv_at hl 0 rfl) ?_
  refine lv_i2l (v := r9.toInt64) hx hb dL_law_655 rfl ?_
  refine x_lcmp0 hx hb e4 dL_law_656 ?_
  refine x_if_eq (tgt := 662) hx hb (Iff.rfl) dL_law_657 (by decide) (fun c9 => ?_) (fun c9 => absurd nI_0 c9)
  refine lv_goto (tgt := 1535) hx hb dL_law_662 (by decide) ?_
  exact W.widen (by omega) (by omega) (kk u.1 u.2 (t9, n2, lim2, row2, kept2, chg2, tab2, key2, frs2, col2, rel2, num2, lis2, boo2, sta2, slo2, cop2, see2, the2, her2) H locs ls ⟨bk9, hRR⟩ hP hD hS (lv_sub hl [2, 3, 4, 5, 6] rfl))

set_option maxHeartbeats 8000000 in
set_option maxRecDepth 100000 in
theorem lC_setColumns {p : Program} {l : Launch} {e : Env} {s : State} {m : MethodId} {below : List Frame} {meth : Method} {c : Code} {H : Heap} {locs : List Loc} {cells slots : Nat} {Q : State → Prop} {ls : Array Slot} {D : va_G} {cI cP cS cL : ClassId} {A : Nat → Prop} {ad bd bk : Nat → Nat} {ho b L i : Nat} {xs : Nat → Int32} {out : Nat → Int64} {lim n : Nat} {rows cc ct ck nr cr old rw : qF} {co re nu ma sr cp : Nat → qF} {pu : Nat → Option Nat} {st sl : Nat → Nat} {th : Int32} {row kept chg tab key frs col rel num lis boo sta slo cop see the her : qF} (B : lwB p l s m c D cI cP cS cL A b L xs) (hinj : ∀ x y, x < 3 → y < 3 → ad (13 + 5 * x) = ad (13 + 5 * y) → x = y) (hi : i + 6 ≤ L) (hf : cells + 100 ≤ 601024 ∧ slots + 1000 ≤ 7293034) (hR : RR ad bk lim n rows cc ct ck nr cr co re nu ma sr cp pu st sl row kept chg tab key frs col rel num lis boo sta slo cop see) (hP : va_P D vwCl (LWd cI cP cS cL ad bd ho (lim, n, rows, cc, ct, ck, nr, cr, old, rw, co, re, nu, ma, sr, cp, pu, st, sl) out (th, n, lim, row, kept, chg, tab, key, frs, col, rel, num, lis, boo, sta, slo, cop, see, the, her)) H) (hD : va_D A (LWd cI cP cS cL ad bd ho (lim, n, rows, cc, ct, ck, nr, cr, old, rw, co, re, nu, ma, sr, cp, pu, st, sl) out (th, n, lim, row, kept, chg, tab, key, frs, col, rel, num, lis, boo, sta, slo, cop, see, the, her))) (hS : va_S A s.heap H locs) (hl : lv_has ls 7 [(0, .ref b), (1, .ref (ad 0)), (2, .ref (bd 0)), (3, .ref ho), (4, .int (nI i))]) (kk : ∀ (s4 : S4) (out : Nat → Int64) (s5 : S5) (H : Heap) (locs : List Loc) (ls : Array Slot), (∃ bk, RRt ad bk s4 s5) → va_P D vwCl (LWd cI cP cS cL ad bd ho s4 out s5) H → va_D A (LWd cI cP cS cL ad bd ho s4 out s5) → va_S A s.heap H locs → lv_has ls 7 [(0, .ref b), (1, .ref (ad 0)), (2, .ref (bd 0)), (3, .ref ho), (4, .int (nI i))] → W p l e room_1 s m #[Value.ref b] below meth c H locs (cells + 8) (slots + 40) Q (F0 m 1535 ls [])) : W p l e room_1 s m #[Value.ref b] below meth c H locs cells slots Q (F0 m 665 ls []) := by
  obtain ⟨hx, hb, hml, hown, hts, hfl, hK, hN, hE, hA, hbA, hbl, hX, hL⟩ := B
  obtain ⟨cn, hcn, hcc, hcn0⟩ := RR_cn hR
  have hlim := hR.1
  have hn9 := hR.2.1
  refine lv_aload_n hx hb dL_law_665 rfl (lv_at hl 1 rfl) ?_
  refine lv_aload_n hx hb dL_law_666 rfl (lv_at hl 0 rfl) ?_
  refine lv_iload hx hb dL_law_667 (lv_at hl 4 rfl) ?_
  refine lv_iconst (v := nI 1) hx hb dL_law_669 (by decide) ?_
  refine x_add (k := i + 1) hx hb dL_law_670 rfl ?_
  refine x_sld (k := i + 1) hx hb hX hbl hbA hS (by omega) hL dL_law_671 ?_
  refine lv_aload_n hx hb dL_law_672 rfl (lv_at hl 0 rfl) ?_
  refine lv_iload hx hb dL_law_673 (lv_at hl 4 rfl) ?_
  refine lv_iconst (v := nI 2) hx hb dL_law_675 (by decide) ?_
  refine x_add (k := i + 2) hx hb dL_law_676 rfl ?_
  refine x_sld (k := i + 2) hx hb hX hbl hbA hS (by omega) hL dL_law_677 ?_
  refine lv_aload_n hx hb dL_law_678 rfl (lv_at hl 0 rfl) ?_
  refine lv_iload hx hb dL_law_679 (lv_at hl 4 rfl) ?_
  refine lv_iconst (v := nI 3) hx hb dL_law_681 (by decide) ?_
  refine x_add (k := i + 3) hx hb dL_law_682 rfl ?_
  refine x_sld (k := i + 3) hx hb hX hbl hbA hS (by omega) hL dL_law_683 ?_
  refine lv_aload_n hx hb dL_law_684 rfl (lv_at hl 3 rfl) ?_
  refine x_calli (w2 := fun (u : S4 × (Nat → Int64)) => LWd cI cP cS cL ad bd ho u.1 u.2 (th, n, lim, row, kept, chg, tab, key, frs, col, rel, num, lis, boo, sta, slo, cop, see, the, her)) (wr := W5 cI bd (th, n, lim, row, kept, chg, tab, key, frs, col, rel, num, lis, boo, sta, slo, cop, see, the, her)) (x_runL (n := 5) ⟨hx, hb, hml, hown, hts⟩ (fL_setColumns l D cI cP cS cL hfl ad ho out lim n rows cc ct ck nr cr old rw co re nu ma sr cp pu st sl  (iX (xs (i + 1))) (xs (i + 1)) (xs (i + 2)) (xs (i + 3)) (iX_lt _) (iX_sx _)) gL_law_L_setColumns rfl rfl rfl (by decide +kernel) ⟨by decide, by decide⟩ hN hK hP hD hS hA hE iLb rfl rfl rfl hl.1 (rest := []) (As := [.ref (ad 0), .int (xs (i + 1)), .int (xs (i + 2)), .int (xs (i + 3)), .ref ho]) rfl (Nat.le_of_ble_eq_true rfl) dL_law_685 ⟨by show _ ≤ 601024; omega, by show _ ≤ 7293034; omega⟩) hP hD hS hA iLb iLm iL2b rfl rfl rfl (by decide) rfl (fun _ => rfl) (fun k9 u H locs hw1 hP hD hS => ?_)
  refine lv_istore (lv' := [(5, .int k9), (0, .ref b), (1, .ref (ad 0)), (2, .ref (bd 0)), (3, .ref ho), (4, .int (nI i))]) hx hb dL_law_688 hl (by decide) rfl (fun ls hl => ?_)
  refine lv_aload_n hx hb dL_law_690 rfl (lv_at hl 3 rfl) ?_
  refine lv_aload_n hx hb dL_law_691 rfl (lv_at hl 1 rfl) ?_
  refine lv_iload hx hb dL_law_692 (lv_at hl 5 rfl) ?_
  refine lv_iconst (v := nI 1) hx hb dL_law_694 (by decide) ?_
  refine x_add (k := i + 1) hx hb dL_law_695 rfl ?_
  refine x_sld (k := i + 1) hx hb hX hbl hbA hS (by omega) hL dL_law_696 ?_
  refine lv_aload_n hx hb dL_law_697 rfl (lv_at hl 1 rfl) ?_
  refine lv_iload hx hb dL_law_698 (lv_at hl 5 rfl) ?_
  refine lv_iconst (v := nI 2) hx hb dL_law_700 (by decide) ?_
  refine x_add (k := i + 2) hx hb dL_law_701 rfl ?_
  refine x_sld (k := i + 2) hx hb hX hbl hbA hS (by omega) hL dL_law_702 ?_
  refine lv_aload_n hx hb dL_law_703 rfl (lv_at hl 1 rfl) ?_
  refine lv_iload hx hb dL_law_704 (lv_at hl 5 rfl) ?_
  refine lv_iconst (v := nI 3) hx hb dL_law_706 (by decide) ?_
  refine x_add (k := i + 3) hx hb dL_law_707 rfl ?_
  refine x_sld (k := i + 3) hx hb hX hbl hbA hS (by omega) hL dL_law_708 ?_
  refine x_calli (w2 := fun (u2 : S5) => LWd cI cP cS cL ad bd ho u.1 u.2 u2) (wr := W4 cI cP cS ad u.1 ++ WO cL ho u.2) (x_runV (n := 3) ⟨hx, hb, hml, hown, hts⟩ (fX5_setColumns l D cI cP cS cL bd th n lim row kept chg tab key frs col rel num lis boo sta slo cop see the her st bk (xs (i + 1)) (xs (i + 2)) (xs (i + 3)) (RR_sta hR) (RR_st3 hR) (RR_boo hR) (RR_bk hR)) gL_law_X5_setColumns rfl rfl rfl (by decide +kernel) ⟨by decide, by decide⟩ hN hK hP hD iLm rfl rfl (ci := 5) (q0 := 38) rfl rfl rfl rfl hl.1 (rest := []) (As := [.int (xs (i + 1)), .int (xs (i + 2)), .int (xs (i + 3))]) rfl (Nat.le_of_ble_eq_true rfl) dL_law_709 ⟨by show _ ≤ 601024; omega, by show _ ≤ 7293034; omega⟩) hP hD hS hA iLm iLb iL2m rfl rfl rfl (by decide) rfl (fun _ => rfl) (fun r9 u2 H locs hw2 hP hD hS => ?_)
  obtain ⟨th2, n2, lim2, row2, kept2, chg2, tab2, key2, frs2, col2, rel2, num2, lis2, boo2, sta2, slo2, cop2, see2, the2, her2⟩ := u2
  refine lv_istore (lv' := [(6, .int r9), (5, .int k9), (0, .ref b), (1, .ref (ad 0)), (2, .ref (bd 0)), (3, .ref ho), (4, .int (nI i))]) hx hb dL_law_712 hl (by decide) rfl (fun ls hl => ?_)
  refine lv_aload_n hx hb dL_law_714 rfl (lv_at hl 4 rfl) ?_
  refine x_calli (w2 := fun (u3 : S5) => LWd cI cP cS cL ad bd ho u.1 u.2 u3) (wr := W4 cI cP cS ad u.1 ++ WO cL ho u.2) (x_runV (n := 0) ⟨hx, hb, hml, hown, hts⟩ (fX5_thrown l D cI cP cS cL bd th2 n2 lim2 row2 kept2 chg2 tab2 key2 frs2 col2 rel2 num2 lis2 boo2 sta2 slo2 cop2 see2 the2 her2) gL_law_X5_thrown rfl rfl rfl (by decide +kernel) ⟨by decide, by decide⟩ hN hK hP hD iLm rfl rfl (ci := 5) (q0 := 38) rfl rfl rfl rfl hl.1 (rest := []) (As := []) rfl (Nat.le_of_ble_eq_true rfl) dL_law_715 ⟨by show _ ≤ 601024; omega, by show _ ≤ 7293034; omega⟩) hP hD hS hA iLm iLb iL2m rfl rfl rfl (by decide) rfl (fun _ => rfl) (fun t9 u3 H locs hw3 hP hD hS => ?_)
  obtain ⟨rfl, rfl⟩ := hw3
  obtain ⟨e1, e2, bk9, hRR⟩ := sM_setColumns hinj hR hw1 hw2
  refine lv_iload hx hb dL_law_718 (lv_at hl 1 rfl) ?_
  refine x_cmp_eq (tgt := 725) hx hb (Iff.rfl) dL_law_720 (by decide) (fun c9 => ?_) (fun c9 => absurd e1 c9)
  refine lv_iload hx hb dL_law_725 (lv_at hl 1 rfl) ?_
  refine x_if_ne (tgt := 742) hx hb (Iff.rfl) dL_law_727 (by decide) (fun c9 => ?_) (fun c9 => ?_)
  · refine lv_goto (tgt := 1535) hx hb dL_law_742 (by decide) ?_
    exact W.widen (by omega) (by omega) (kk u.1 u.2 (t9, n2, lim2, row2, kept2, chg2, tab2, key2, frs2, col2, rel2, num2, lis2, boo2, sta2, slo2, cop2, see2, the2, her2) H locs ls ⟨bk9, hRR⟩ hP hD hS (lv_sub hl [2, 3, 4, 5, 6] rfl))
  have e4 := e2 (by rw [c9, nI_0])
  refine lv_aload_n hx hb dL_law_730 rfl (lv_at hl 5 rfl) ?_
  refine lv_iconst (v := nI 0) hx hb dL_law_731 (by decide) ?_
  refine x_lald (v := u.2 0) hx hb hK hP 37 3 rfl rfl (by omega) (by omega) rfl dL_law_732 ?_
  refine lv_iload hx hb dL_law_733 (lv_at hl 0 rfl) ?_
  refine lv_i2l (v := r9.toInt64) hx hb dL_law_735 rfl ?_
  refine x_lcmp0 hx hb e4 dL_law_736 ?_
  refine x_if_eq (tgt := 742) hx hb (Iff.rfl) dL_law_737 (by decide) (fun c9 => ?_) (fun c9 => absurd nI_0 c9)
  refine lv_goto (tgt := 1535) hx hb dL_law_742 (by decide) ?_
  exact W.widen (by omega) (by omega) (kk u.1 u.2 (t9, n2, lim2, row2, kept2, chg2, tab2, key2, frs2, col2, rel2, num2, lis2, boo2, sta2, slo2, cop2, see2, the2, her2) H locs ls ⟨bk9, hRR⟩ hP hD hS (lv_sub hl [2, 3, 4, 5, 6] rfl))

set_option maxHeartbeats 8000000 in
set_option maxRecDepth 100000 in
theorem lC_subscribe {p : Program} {l : Launch} {e : Env} {s : State} {m : MethodId} {below : List Frame} {meth : Method} {c : Code} {H : Heap} {locs : List Loc} {cells slots : Nat} {Q : State → Prop} {ls : Array Slot} {D : va_G} {cI cP cS cL : ClassId} {A : Nat → Prop} {ad bd bk : Nat → Nat} {ho b L i : Nat} {xs : Nat → Int32} {out : Nat → Int64} {lim n : Nat} {rows cc ct ck nr cr old rw : qF} {co re nu ma sr cp : Nat → qF} {pu : Nat → Option Nat} {st sl : Nat → Nat} {th : Int32} {row kept chg tab key frs col rel num lis boo sta slo cop see the her : qF} (B : lwB p l s m c D cI cP cS cL A b L xs) (hinj : ∀ x y, x < 3 → y < 3 → ad (13 + 5 * x) = ad (13 + 5 * y) → x = y) (hi : i + 6 ≤ L) (hf : cells + 100 ≤ 601024 ∧ slots + 1000 ≤ 7293034) (hR : RR ad bk lim n rows cc ct ck nr cr co re nu ma sr cp pu st sl row kept chg tab key frs col rel num lis boo sta slo cop see) (hP : va_P D vwCl (LWd cI cP cS cL ad bd ho (lim, n, rows, cc, ct, ck, nr, cr, old, rw, co, re, nu, ma, sr, cp, pu, st, sl) out (th, n, lim, row, kept, chg, tab, key, frs, col, rel, num, lis, boo, sta, slo, cop, see, the, her)) H) (hD : va_D A (LWd cI cP cS cL ad bd ho (lim, n, rows, cc, ct, ck, nr, cr, old, rw, co, re, nu, ma, sr, cp, pu, st, sl) out (th, n, lim, row, kept, chg, tab, key, frs, col, rel, num, lis, boo, sta, slo, cop, see, the, her))) (hS : va_S A s.heap H locs) (hl : lv_has ls 7 [(0, .ref b), (1, .ref (ad 0)), (2, .ref (bd 0)), (3, .ref ho), (4, .int (nI i))]) (kk : ∀ (s4 : S4) (out : Nat → Int64) (s5 : S5) (H : Heap) (locs : List Loc) (ls : Array Slot), (∃ bk, RRt ad bk s4 s5) → va_P D vwCl (LWd cI cP cS cL ad bd ho s4 out s5) H → va_D A (LWd cI cP cS cL ad bd ho s4 out s5) → va_S A s.heap H locs → lv_has ls 7 [(0, .ref b), (1, .ref (ad 0)), (2, .ref (bd 0)), (3, .ref ho), (4, .int (nI i))] → W p l e room_1 s m #[Value.ref b] below meth c H locs (cells + 8) (slots + 40) Q (F0 m 1535 ls [])) : W p l e room_1 s m #[Value.ref b] below meth c H locs cells slots Q (F0 m 745 ls []) := by
  obtain ⟨hx, hb, hml, hown, hts, hfl, hK, hN, hE, hA, hbA, hbl, hX, hL⟩ := B
  obtain ⟨cn, hcn, hcc, hcn0⟩ := RR_cn hR
  have hlim := hR.1
  have hn9 := hR.2.1
  refine lv_aload_n hx hb dL_law_745 rfl (lv_at hl 1 rfl) ?_
  refine lv_aload_n hx hb dL_law_746 rfl (lv_at hl 0 rfl) ?_
  refine lv_iload hx hb dL_law_747 (lv_at hl 4 rfl) ?_
  refine lv_iconst (v := nI 1) hx hb dL_law_749 (by decide) ?_
  refine x_add (k := i + 1) hx hb dL_law_750 rfl ?_
  refine x_sld (k := i + 1) hx hb hX hbl hbA hS (by omega) hL dL_law_751 ?_
  refine lv_aload_n hx hb dL_law_752 rfl (lv_at hl 0 rfl) ?_
  refine lv_iload hx hb dL_law_753 (lv_at hl 4 rfl) ?_
  refine lv_iconst (v := nI 2) hx hb dL_law_755 (by decide) ?_
  refine x_add (k := i + 2) hx hb dL_law_756 rfl ?_
  refine x_sld (k := i + 2) hx hb hX hbl hbA hS (by omega) hL dL_law_757 ?_
  refine lv_aload_n hx hb dL_law_758 rfl (lv_at hl 3 rfl) ?_
  have hsi : iX (xs (i + 1)) < 3 := iX_lt _
  refine x_calli (w2 := fun (u : S4 × (Nat → Int64)) => LWd cI cP cS cL ad bd ho u.1 u.2 (th, n, lim, row, kept, chg, tab, key, frs, col, rel, num, lis, boo, sta, slo, cop, see, the, her)) (wr := W5 cI bd (th, n, lim, row, kept, chg, tab, key, frs, col, rel, num, lis, boo, sta, slo, cop, see, the, her)) (x_runL (n := 4) ⟨hx, hb, hml, hown, hts⟩ (fL_subscribe l D cI cP cS cL hfl ad ho out lim n rows cc ct ck nr cr old rw co re nu ma sr cp pu st sl (iX (xs (i + 1)))  (xs (i + 1)) (xs (i + 2)) hsi (iX_sx _)) gL_law_L_subscribe rfl rfl rfl (by decide +kernel) ⟨by decide, by decide⟩ hN hK hP hD hS hA hE iLb rfl rfl rfl hl.1 (rest := []) (As := [.ref (ad 0), .int (xs (i + 1)), .int (xs (i + 2)), .ref ho]) rfl (Nat.le_of_ble_eq_true rfl) dL_law_759 ⟨by show _ ≤ 601024; omega, by show _ ≤ 7293034; omega⟩) hP hD hS hA iLb iLm iL2b rfl rfl rfl (by decide) rfl (fun _ => rfl) (fun k9 u H locs hw1 hP hD hS => ?_)
  refine lv_istore (lv' := [(5, .int k9), (0, .ref b), (1, .ref (ad 0)), (2, .ref (bd 0)), (3, .ref ho), (4, .int (nI i))]) hx hb dL_law_762 hl (by decide) rfl (fun ls hl => ?_)
  refine lv_aload_n hx hb dL_law_764 rfl (lv_at hl 3 rfl) ?_
  refine lv_aload_n hx hb dL_law_765 rfl (lv_at hl 1 rfl) ?_
  refine lv_iload hx hb dL_law_766 (lv_at hl 5 rfl) ?_
  refine lv_iconst (v := nI 1) hx hb dL_law_768 (by decide) ?_
  refine x_add (k := i + 1) hx hb dL_law_769 rfl ?_
  refine x_sld (k := i + 1) hx hb hX hbl hbA hS (by omega) hL dL_law_770 ?_
  refine lv_aload_n hx hb dL_law_771 rfl (lv_at hl 1 rfl) ?_
  refine lv_iload hx hb dL_law_772 (lv_at hl 5 rfl) ?_
  refine lv_iconst (v := nI 2) hx hb dL_law_774 (by decide) ?_
  refine x_add (k := i + 2) hx hb dL_law_775 rfl ?_
  refine x_sld (k := i + 2) hx hb hX hbl hbA hS (by omega) hL dL_law_776 ?_
  refine x_calli (w2 := fun (u2 : S5) => LWd cI cP cS cL ad bd ho u.1 u.2 u2) (wr := W4 cI cP cS ad u.1 ++ WO cL ho u.2) (x_runV (n := 2) ⟨hx, hb, hml, hown, hts⟩ (fX5_subscribe l D cI cP cS cL bd th n lim row kept chg tab key frs col rel num lis boo sta slo cop see the her st (xs (i + 1)) (xs (i + 2)) (RR_sta hR)) gL_law_X5_subscribe rfl rfl rfl (by decide +kernel) ⟨by decide, by decide⟩ hN hK hP hD iLm rfl rfl (ci := 5) (q0 := 38) rfl rfl rfl rfl hl.1 (rest := []) (As := [.int (xs (i + 1)), .int (xs (i + 2))]) rfl (Nat.le_of_ble_eq_true rfl) dL_law_777 ⟨by show _ ≤ 601024; omega, by show _ ≤ 7293034; omega⟩) hP hD hS hA iLm iLb iL2m rfl rfl rfl (by decide) rfl (fun _ => rfl) (fun r9 u2 H locs hw2 hP hD hS => ?_)
  obtain ⟨th2, n2, lim2, row2, kept2, chg2, tab2, key2, frs2, col2, rel2, num2, lis2, boo2, sta2, slo2, cop2, see2, the2, her2⟩ := u2
  refine lv_istore (lv' := [(6, .int r9), (5, .int k9), (0, .ref b), (1, .ref (ad 0)), (2, .ref (bd 0)), (3, .ref ho), (4, .int (nI i))]) hx hb dL_law_780 hl (by decide) rfl (fun ls hl => ?_)
  refine lv_aload_n hx hb dL_law_782 rfl (lv_at hl 4 rfl) ?_
  refine x_calli (w2 := fun (u3 : S5) => LWd cI cP cS cL ad bd ho u.1 u.2 u3) (wr := W4 cI cP cS ad u.1 ++ WO cL ho u.2) (x_runV (n := 0) ⟨hx, hb, hml, hown, hts⟩ (fX5_thrown l D cI cP cS cL bd th2 n2 lim2 row2 kept2 chg2 tab2 key2 frs2 col2 rel2 num2 lis2 boo2 sta2 slo2 cop2 see2 the2 her2) gL_law_X5_thrown rfl rfl rfl (by decide +kernel) ⟨by decide, by decide⟩ hN hK hP hD iLm rfl rfl (ci := 5) (q0 := 38) rfl rfl rfl rfl hl.1 (rest := []) (As := []) rfl (Nat.le_of_ble_eq_true rfl) dL_law_783 ⟨by show _ ≤ 601024; omega, by show _ ≤ 7293034; omega⟩) hP hD hS hA iLm iLb iL2m rfl rfl rfl (by decide) rfl (fun _ => rfl) (fun t9 u3 H locs hw3 hP hD hS => ?_)
  obtain ⟨rfl, rfl⟩ := hw3
  obtain ⟨e1, e2, bk9, hRR⟩ := sM_subscribe hR hw1 hw2
  refine lv_iload hx hb dL_law_786 (lv_at hl 1 rfl) ?_
  refine x_cmp_eq (tgt := 793) hx hb (Iff.rfl) dL_law_788 (by decide) (fun c9 => ?_) (fun c9 => absurd e1 c9)
  refine lv_iload hx hb dL_law_793 (lv_at hl 1 rfl) ?_
  refine x_if_ne (tgt := 810) hx hb (Iff.rfl) dL_law_795 (by decide) (fun c9 => ?_) (fun c9 => ?_)
  · refine lv_goto (tgt := 1535) hx hb dL_law_810 (by decide) ?_
    exact W.widen (by omega) (by omega) (kk u.1 u.2 (t9, n2, lim2, row2, kept2, chg2, tab2, key2, frs2, col2, rel2, num2, lis2, boo2, sta2, slo2, cop2, see2, the2, her2) H locs ls ⟨bk9, hRR⟩ hP hD hS (lv_sub hl [2, 3, 4, 5, 6] rfl))
  have e4 := e2 (by rw [c9, nI_0])
  refine lv_aload_n hx hb dL_law_798 rfl (lv_at hl 5 rfl) ?_
  refine lv_iconst (v := nI 0) hx hb dL_law_799 (by decide) ?_
  refine x_lald (v := u.2 0) hx hb hK hP 37 3 rfl rfl (by omega) (by omega) rfl dL_law_800 ?_
  refine lv_iload hx hb dL_law_801 (lv_at hl 0 rfl) ?_
  refine lv_i2l (v := r9.toInt64) hx hb dL_law_803 rfl ?_
  refine x_lcmp0 hx hb e4 dL_law_804 ?_
  refine x_if_eq (tgt := 810) hx hb (Iff.rfl) dL_law_805 (by decide) (fun c9 => ?_) (fun c9 => absurd nI_0 c9)
  refine lv_goto (tgt := 1535) hx hb dL_law_810 (by decide) ?_
  exact W.widen (by omega) (by omega) (kk u.1 u.2 (t9, n2, lim2, row2, kept2, chg2, tab2, key2, frs2, col2, rel2, num2, lis2, boo2, sta2, slo2, cop2, see2, the2, her2) H locs ls ⟨bk9, hRR⟩ hP hD hS (lv_sub hl [2, 3, 4, 5, 6] rfl))

set_option maxHeartbeats 8000000 in
set_option maxRecDepth 100000 in
theorem lC_drop {p : Program} {l : Launch} {e : Env} {s : State} {m : MethodId} {below : List Frame} {meth : Method} {c : Code} {H : Heap} {locs : List Loc} {cells slots : Nat} {Q : State → Prop} {ls : Array Slot} {D : va_G} {cI cP cS cL : ClassId} {A : Nat → Prop} {ad bd bk : Nat → Nat} {ho b L i : Nat} {xs : Nat → Int32} {out : Nat → Int64} {lim n : Nat} {rows cc ct ck nr cr old rw : qF} {co re nu ma sr cp : Nat → qF} {pu : Nat → Option Nat} {st sl : Nat → Nat} {th : Int32} {row kept chg tab key frs col rel num lis boo sta slo cop see the her : qF} (B : lwB p l s m c D cI cP cS cL A b L xs) (hinj : ∀ x y, x < 3 → y < 3 → ad (13 + 5 * x) = ad (13 + 5 * y) → x = y) (hi : i + 6 ≤ L) (hf : cells + 100 ≤ 601024 ∧ slots + 1000 ≤ 7293034) (hR : RR ad bk lim n rows cc ct ck nr cr co re nu ma sr cp pu st sl row kept chg tab key frs col rel num lis boo sta slo cop see) (hP : va_P D vwCl (LWd cI cP cS cL ad bd ho (lim, n, rows, cc, ct, ck, nr, cr, old, rw, co, re, nu, ma, sr, cp, pu, st, sl) out (th, n, lim, row, kept, chg, tab, key, frs, col, rel, num, lis, boo, sta, slo, cop, see, the, her)) H) (hD : va_D A (LWd cI cP cS cL ad bd ho (lim, n, rows, cc, ct, ck, nr, cr, old, rw, co, re, nu, ma, sr, cp, pu, st, sl) out (th, n, lim, row, kept, chg, tab, key, frs, col, rel, num, lis, boo, sta, slo, cop, see, the, her))) (hS : va_S A s.heap H locs) (hl : lv_has ls 7 [(0, .ref b), (1, .ref (ad 0)), (2, .ref (bd 0)), (3, .ref ho), (4, .int (nI i))]) (kk : ∀ (s4 : S4) (out : Nat → Int64) (s5 : S5) (H : Heap) (locs : List Loc) (ls : Array Slot), (∃ bk, RRt ad bk s4 s5) → va_P D vwCl (LWd cI cP cS cL ad bd ho s4 out s5) H → va_D A (LWd cI cP cS cL ad bd ho s4 out s5) → va_S A s.heap H locs → lv_has ls 7 [(0, .ref b), (1, .ref (ad 0)), (2, .ref (bd 0)), (3, .ref ho), (4, .int (nI i))] → W p l e room_1 s m #[Value.ref b] below meth c H locs (cells + 8) (slots + 40) Q (F0 m 1535 ls [])) : W p l e room_1 s m #[Value.ref b] below meth c H locs cells slots Q (F0 m 813 ls []) := by
  obtain ⟨hx, hb, hml, hown, hts, hfl, hK, hN, hE, hA, hbA, hbl, hX, hL⟩ := B
  obtain ⟨cn, hcn, hcc, hcn0⟩ := RR_cn hR
  have hlim := hR.1
  have hn9 := hR.2.1
  refine lv_aload_n hx hb dL_law_813 rfl (lv_at hl 1 rfl) ?_
  refine lv_aload_n hx hb dL_law_814 rfl (lv_at hl 0 rfl) ?_
  refine lv_iload hx hb dL_law_815 (lv_at hl 4 rfl) ?_
  refine lv_iconst (v := nI 1) hx hb dL_law_817 (by decide) ?_
  refine x_add (k := i + 1) hx hb dL_law_818 rfl ?_
  refine x_sld (k := i + 1) hx hb hX hbl hbA hS (by omega) hL dL_law_819 ?_
  refine lv_aload_n hx hb dL_law_820 rfl (lv_at hl 3 rfl) ?_
  have hsi : iX (xs (i + 1)) < 3 := iX_lt _
  refine x_calli (w2 := fun (u : S4 × (Nat → Int64)) => LWd cI cP cS cL ad bd ho u.1 u.2 (th, n, lim, row, kept, chg, tab, key, frs, col, rel, num, lis, boo, sta, slo, cop, see, the, her)) (wr := W5 cI bd (th, n, lim, row, kept, chg, tab, key, frs, col, rel, num, lis, boo, sta, slo, cop, see, the, her)) (x_runL (n := 3) ⟨hx, hb, hml, hown, hts⟩ (fL_drop l D cI cP cS cL hfl ad ho out lim n rows cc ct ck nr cr old rw co re nu ma sr cp pu st sl (iX (xs (i + 1)))  (xs (i + 1)) hsi (iX_sx _)) gL_law_L_drop rfl rfl rfl (by decide +kernel) ⟨by decide, by decide⟩ hN hK hP hD hS hA hE iLb rfl rfl rfl hl.1 (rest := []) (As := [.ref (ad 0), .int (xs (i + 1)), .ref ho]) rfl (Nat.le_of_ble_eq_true rfl) dL_law_821 ⟨by show _ ≤ 601024; omega, by show _ ≤ 7293034; omega⟩) hP hD hS hA iLb iLm iL2b rfl rfl rfl (by decide) rfl (fun _ => rfl) (fun k9 u H locs hw1 hP hD hS => ?_)
  refine lv_istore (lv' := [(5, .int k9), (0, .ref b), (1, .ref (ad 0)), (2, .ref (bd 0)), (3, .ref ho), (4, .int (nI i))]) hx hb dL_law_824 hl (by decide) rfl (fun ls hl => ?_)
  refine lv_aload_n hx hb dL_law_826 rfl (lv_at hl 3 rfl) ?_
  refine lv_aload_n hx hb dL_law_827 rfl (lv_at hl 1 rfl) ?_
  refine lv_iload hx hb dL_law_828 (lv_at hl 5 rfl) ?_
  refine lv_iconst (v := nI 1) hx hb dL_law_830 (by decide) ?_
  refine x_add (k := i + 1) hx hb dL_law_831 rfl ?_
  refine x_sld (k := i + 1) hx hb hX hbl hbA hS (by omega) hL dL_law_832 ?_
  refine x_calli (w2 := fun (u2 : S5) => LWd cI cP cS cL ad bd ho u.1 u.2 u2) (wr := W4 cI cP cS ad u.1 ++ WO cL ho u.2) (x_runV (n := 1) ⟨hx, hb, hml, hown, hts⟩ (fX5_drop l D cI cP cS cL bd th n lim row kept chg tab key frs col rel num lis boo sta slo cop see the her st (xs (i + 1)) (RR_sta hR)) gL_law_X5_drop rfl rfl rfl (by decide +kernel) ⟨by decide, by decide⟩ hN hK hP hD iLm rfl rfl (ci := 5) (q0 := 38) rfl rfl rfl rfl hl.1 (rest := []) (As := [.int (xs (i + 1))]) rfl (Nat.le_of_ble_eq_true rfl) dL_law_833 ⟨by show _ ≤ 601024; omega, by show _ ≤ 7293034; omega⟩) hP hD hS hA iLm iLb iL2m rfl rfl rfl (by decide) rfl (fun _ => rfl) (fun r9 u2 H locs hw2 hP hD hS => ?_)
  obtain ⟨th2, n2, lim2, row2, kept2, chg2, tab2, key2, frs2, col2, rel2, num2, lis2, boo2, sta2, slo2, cop2, see2, the2, her2⟩ := u2
  refine lv_istore (lv' := [(6, .int r9), (5, .int k9), (0, .ref b), (1, .ref (ad 0)), (2, .ref (bd 0)), (3, .ref ho), (4, .int (nI i))]) hx hb dL_law_836 hl (by decide) rfl (fun ls hl => ?_)
  refine lv_aload_n hx hb dL_law_838 rfl (lv_at hl 4 rfl) ?_
  refine x_calli (w2 := fun (u3 : S5) => LWd cI cP cS cL ad bd ho u.1 u.2 u3) (wr := W4 cI cP cS ad u.1 ++ WO cL ho u.2) (x_runV (n := 0) ⟨hx, hb, hml, hown, hts⟩ (fX5_thrown l D cI cP cS cL bd th2 n2 lim2 row2 kept2 chg2 tab2 key2 frs2 col2 rel2 num2 lis2 boo2 sta2 slo2 cop2 see2 the2 her2) gL_law_X5_thrown rfl rfl rfl (by decide +kernel) ⟨by decide, by decide⟩ hN hK hP hD iLm rfl rfl (ci := 5) (q0 := 38) rfl rfl rfl rfl hl.1 (rest := []) (As := []) rfl (Nat.le_of_ble_eq_true rfl) dL_law_839 ⟨by show _ ≤ 601024; omega, by show _ ≤ 7293034; omega⟩) hP hD hS hA iLm iLb iL2m rfl rfl rfl (by decide) rfl (fun _ => rfl) (fun t9 u3 H locs hw3 hP hD hS => ?_)
  obtain ⟨rfl, rfl⟩ := hw3
  obtain ⟨e1, e2, bk9, hRR⟩ := sM_drop hR hw1 hw2
  refine lv_iload hx hb dL_law_842 (lv_at hl 1 rfl) ?_
  refine x_cmp_eq (tgt := 849) hx hb (Iff.rfl) dL_law_844 (by decide) (fun c9 => ?_) (fun c9 => absurd e1 c9)
  refine lv_iload hx hb dL_law_849 (lv_at hl 1 rfl) ?_
  refine x_if_ne (tgt := 866) hx hb (Iff.rfl) dL_law_851 (by decide) (fun c9 => ?_) (fun c9 => ?_)
  · refine lv_goto (tgt := 1535) hx hb dL_law_866 (by decide) ?_
    exact W.widen (by omega) (by omega) (kk u.1 u.2 (t9, n2, lim2, row2, kept2, chg2, tab2, key2, frs2, col2, rel2, num2, lis2, boo2, sta2, slo2, cop2, see2, the2, her2) H locs ls ⟨bk9, hRR⟩ hP hD hS (lv_sub hl [2, 3, 4, 5, 6] rfl))
  have e4 := e2 (by rw [c9, nI_0])
  refine lv_aload_n hx hb dL_law_854 rfl (lv_at hl 5 rfl) ?_
  refine lv_iconst (v := nI 0) hx hb dL_law_855 (by decide) ?_
  refine x_lald (v := u.2 0) hx hb hK hP 37 3 rfl rfl (by omega) (by omega) rfl dL_law_856 ?_
  refine lv_iload hx hb dL_law_857 (lv_at hl 0 rfl) ?_
  refine lv_i2l (v := r9.toInt64) hx hb dL_law_859 rfl ?_
  refine x_lcmp0 hx hb e4 dL_law_860 ?_
  refine x_if_eq (tgt := 866) hx hb (Iff.rfl) dL_law_861 (by decide) (fun c9 => ?_) (fun c9 => absurd nI_0 c9)
  refine lv_goto (tgt := 1535) hx hb dL_law_866 (by decide) ?_
  exact W.widen (by omega) (by omega) (kk u.1 u.2 (t9, n2, lim2, row2, kept2, chg2, tab2, key2, frs2, col2, rel2, num2, lis2, boo2, sta2, slo2, cop2, see2, the2, her2) H locs ls ⟨bk9, hRR⟩ hP hD hS (lv_sub hl [2, 3, 4, 5, 6] rfl))

set_option maxHeartbeats 8000000 in
set_option maxRecDepth 100000 in
theorem lC_copy {p : Program} {l : Launch} {e : Env} {s : State} {m : MethodId} {below : List Frame} {meth : Method} {c : Code} {H : Heap} {locs : List Loc} {cells slots : Nat} {Q : State → Prop} {ls : Array Slot} {D : va_G} {cI cP cS cL : ClassId} {A : Nat → Prop} {ad bd bk : Nat → Nat} {ho b L i : Nat} {xs : Nat → Int32} {out : Nat → Int64} {lim n : Nat} {rows cc ct ck nr cr old rw : qF} {co re nu ma sr cp : Nat → qF} {pu : Nat → Option Nat} {st sl : Nat → Nat} {th : Int32} {row kept chg tab key frs col rel num lis boo sta slo cop see the her : qF} (B : lwB p l s m c D cI cP cS cL A b L xs) (hinj : ∀ x y, x < 3 → y < 3 → ad (13 + 5 * x) = ad (13 + 5 * y) → x = y) (hi : i + 6 ≤ L) (hf : cells + 100 ≤ 601024 ∧ slots + 1000 ≤ 7293034) (hR : RR ad bk lim n rows cc ct ck nr cr co re nu ma sr cp pu st sl row kept chg tab key frs col rel num lis boo sta slo cop see) (hP : va_P D vwCl (LWd cI cP cS cL ad bd ho (lim, n, rows, cc, ct, ck, nr, cr, old, rw, co, re, nu, ma, sr, cp, pu, st, sl) out (th, n, lim, row, kept, chg, tab, key, frs, col, rel, num, lis, boo, sta, slo, cop, see, the, her)) H) (hD : va_D A (LWd cI cP cS cL ad bd ho (lim, n, rows, cc, ct, ck, nr, cr, old, rw, co, re, nu, ma, sr, cp, pu, st, sl) out (th, n, lim, row, kept, chg, tab, key, frs, col, rel, num, lis, boo, sta, slo, cop, see, the, her))) (hS : va_S A s.heap H locs) (hl : lv_has ls 7 [(0, .ref b), (1, .ref (ad 0)), (2, .ref (bd 0)), (3, .ref ho), (4, .int (nI i))]) (kk : ∀ (s4 : S4) (out : Nat → Int64) (s5 : S5) (H : Heap) (locs : List Loc) (ls : Array Slot), (∃ bk, RRt ad bk s4 s5) → va_P D vwCl (LWd cI cP cS cL ad bd ho s4 out s5) H → va_D A (LWd cI cP cS cL ad bd ho s4 out s5) → va_S A s.heap H locs → lv_has ls 7 [(0, .ref b), (1, .ref (ad 0)), (2, .ref (bd 0)), (3, .ref ho), (4, .int (nI i))] → W p l e room_1 s m #[Value.ref b] below meth c H locs (cells + 8) (slots + 40) Q (F0 m 1535 ls [])) : W p l e room_1 s m #[Value.ref b] below meth c H locs cells slots Q (F0 m 869 ls []) := by
  obtain ⟨hx, hb, hml, hown, hts, hfl, hK, hN, hE, hA, hbA, hbl, hX, hL⟩ := B
  obtain ⟨cn, hcn, hcc, hcn0⟩ := RR_cn hR
  have hlim := hR.1
  have hn9 := hR.2.1
  refine lv_aload_n hx hb dL_law_869 rfl (lv_at hl 1 rfl) ?_
  refine lv_aload_n hx hb dL_law_870 rfl (lv_at hl 0 rfl) ?_
  refine lv_iload hx hb dL_law_871 (lv_at hl 4 rfl) ?_
  refine lv_iconst (v := nI 1) hx hb dL_law_873 (by decide) ?_
  refine x_add (k := i + 1) hx hb dL_law_874 rfl ?_
  refine x_sld (k := i + 1) hx hb hX hbl hbA hS (by omega) hL dL_law_875 ?_
  refine lv_aload_n hx hb dL_law_876 rfl (lv_at hl 0 rfl) ?_
  refine lv_iload hx hb dL_law_877 (lv_at hl 4 rfl) ?_
  refine lv_iconst (v := nI 2) hx hb dL_law_879 (by decide) ?_
  refine x_add (k := i + 2) hx hb dL_law_880 rfl ?_
  refine x_sld (k := i + 2) hx hb hX hbl hbA hS (by omega) hL dL_law_881 ?_
  refine lv_aload_n hx hb dL_law_882 rfl (lv_at hl 3 rfl) ?_
  have hsi : iX (xs (i + 1)) < 3 := iX_lt _
  refine x_calli (w2 := fun (u : S4 × (Nat → Int64)) => LWd cI cP cS cL ad bd ho u.1 u.2 (th, n, lim, row, kept, chg, tab, key, frs, col, rel, num, lis, boo, sta, slo, cop, see, the, her)) (wr := W5 cI bd (th, n, lim, row, kept, chg, tab, key, frs, col, rel, num, lis, boo, sta, slo, cop, see, the, her)) (x_runL (n := 4) ⟨hx, hb, hml, hown, hts⟩ (fL_copy l D cI cP cS cL hfl ad ho out lim n rows cc ct ck nr cr old rw co re nu ma sr cp pu st sl (iX (xs (i + 1))) (bk (iX (xs (i + 1)))) cn (xs (i + 1)) (xs (i + 2)) hsi (RR_bk hR _ hsi) hn9 hcc hcn (iX_sx _) (RR_st3 hR _ hsi) (RR_pu hR _ hsi)) gL_law_L_copy rfl rfl rfl (by decide +kernel) ⟨by decide, by decide⟩ hN hK hP hD hS hA hE iLb rfl rfl rfl hl.1 (rest := []) (As := [.ref (ad 0), .int (xs (i + 1)), .int (xs (i + 2)), .ref ho]) rfl (Nat.le_of_ble_eq_true rfl) dL_law_883 ⟨by show _ ≤ 601024; omega, by show _ ≤ 7293034; omega⟩) hP hD hS hA iLb iLm iL2b rfl rfl rfl (by decide) rfl (fun _ => rfl) (fun k9 u H locs hw1 hP hD hS => ?_)
  refine lv_istore (lv' := [(5, .int k9), (0, .ref b), (1, .ref (ad 0)), (2, .ref (bd 0)), (3, .ref ho), (4, .int (nI i))]) hx hb dL_law_886 hl (by decide) rfl (fun ls hl => ?_)
  refine lv_aload_n hx hb dL_law_888 rfl (lv_at hl 3 rfl) ?_
  refine lv_aload_n hx hb dL_law_889 rfl (lv_at hl 1 rfl) ?_
  refine lv_iload hx hb dL_law_890 (lv_at hl 5 rfl) ?_
  refine lv_iconst (v := nI 1) hx hb dL_law_892 (by decide) ?_
  refine x_add (k := i + 1) hx hb dL_law_893 rfl ?_
  refine x_sld (k := i + 1) hx hb hX hbl hbA hS (by omega) hL dL_law_894 ?_
  refine lv_aload_n hx hb dL_law_895 rfl (lv_at hl 1 rfl) ?_
  refine lv_iload hx hb dL_law_896 (lv_at hl 5 rfl) ?_
  refine lv_iconst (v := nI 2) hx hb dL_law_898 (by decide) ?_
  refine x_add (k := i + 2) hx hb dL_law_899 rfl ?_
  refine x_sld (k := i + 2) hx hb hX hbl hbA hS (by omega) hL dL_law_900 ?_
  refine x_calli (w2 := fun (u2 : S5) => LWd cI cP cS cL ad bd ho u.1 u.2 u2) (wr := W4 cI cP cS ad u.1 ++ WO cL ho u.2) (x_runV (n := 2) ⟨hx, hb, hml, hown, hts⟩ (fX5_copy l D cI cP cS cL bd th n lim row kept chg tab key frs col rel num lis boo sta slo cop see the her cn st bk (xs (i + 1)) (xs (i + 2)) hn9 hcn0 hcn (RR_sta hR) (RR_st3 hR) (RR_boo hR) (RR_bk hR)) gL_law_X5_copy rfl rfl rfl (by decide +kernel) ⟨by decide, by decide⟩ hN hK hP hD iLm rfl rfl (ci := 5) (q0 := 38) rfl rfl rfl rfl hl.1 (rest := []) (As := [.int (xs (i + 1)), .int (xs (i + 2))]) rfl (Nat.le_of_ble_eq_true rfl) dL_law_901 ⟨by show _ ≤ 601024; omega, by show _ ≤ 7293034; omega⟩) hP hD hS hA iLm iLb iL2m rfl rfl rfl (by decide) rfl (fun _ => rfl) (fun r9 u2 H locs hw2 hP hD hS => ?_)
  obtain ⟨th2, n2, lim2, row2, kept2, chg2, tab2, key2, frs2, col2, rel2, num2, lis2, boo2, sta2, slo2, cop2, see2, the2, her2⟩ := u2
  refine lv_istore (lv' := [(6, .int r9), (5, .int k9), (0, .ref b), (1, .ref (ad 0)), (2, .ref (bd 0)), (3, .ref ho), (4, .int (nI i))]) hx hb dL_law_904 hl (by decide) rfl (fun ls hl => ?_)
  refine lv_aload_n hx hb dL_law_906 rfl (lv_at hl 4 rfl) ?_
  refine x_calli (w2 := fun (u3 : S5) => LWd cI cP cS cL ad bd ho u.1 u.2 u3) (wr := W4 cI cP cS ad u.1 ++ WO cL ho u.2) (x_runV (n := 0) ⟨hx, hb, hml, hown, hts⟩ (fX5_thrown l D cI cP cS cL bd th2 n2 lim2 row2 kept2 chg2 tab2 key2 frs2 col2 rel2 num2 lis2 boo2 sta2 slo2 cop2 see2 the2 her2) gL_law_X5_thrown rfl rfl rfl (by decide +kernel) ⟨by decide, by decide⟩ hN hK hP hD iLm rfl rfl (ci := 5) (q0 := 38) rfl rfl rfl rfl hl.1 (rest := []) (As := []) rfl (Nat.le_of_ble_eq_true rfl) dL_law_907 ⟨by show _ ≤ 601024; omega, by show _ ≤ 7293034; omega⟩) hP hD hS hA iLm iLb iL2m rfl rfl rfl (by decide) rfl (fun _ => rfl) (fun t9 u3 H locs hw3 hP hD hS => ?_)
  obtain ⟨rfl, rfl⟩ := hw3
  obtain ⟨e1, e2, bk9, hRR⟩ := sM_copy (iX_sx _) hR hcc hw1 hw2
  refine lv_iload hx hb dL_law_910 (lv_at hl 1 rfl) ?_
  refine x_cmp_eq (tgt := 917) hx hb (Iff.rfl) dL_law_912 (by decide) (fun c9 => ?_) (fun c9 => absurd e1 c9)
  refine lv_iload hx hb dL_law_917 (lv_at hl 1 rfl) ?_
  refine x_if_ne (tgt := 934) hx hb (Iff.rfl) dL_law_919 (by decide) (fun c9 => ?_) (fun c9 => ?_)
  · refine lv_goto (tgt := 1535) hx hb dL_law_934 (by decide) ?_
    exact W.widen (by omega) (by omega) (kk u.1 u.2 (t9, n2, lim2, row2, kept2, chg2, tab2, key2, frs2, col2, rel2, num2, lis2, boo2, sta2, slo2, cop2, see2, the2, her2) H locs ls ⟨bk9, hRR⟩ hP hD hS (lv_sub hl [2, 3, 4, 5, 6] rfl))
  have e4 := e2 (by rw [c9, nI_0])
  refine lv_aload_n hx hb dL_law_922 rfl (lv_at hl 5 rfl) ?_
  refine lv_iconst (v := nI 0) hx hb dL_law_923 (by decide) ?_
  refine x_lald (v := u.2 0) hx hb hK hP 37 3 rfl rfl (by omega) (by omega) rfl dL_law_924 ?_
  refine lv_iload hx hb dL_law_925 (lv_at hl 0 rfl) ?_
  refine lv_i2l (v := r9.toInt64) hx hb dL_law_927 rfl ?_
  refine x_lcmp0 hx hb e4 dL_law_928 ?_
  refine x_if_eq (tgt := 934) hx hb (Iff.rfl) dL_law_929 (by decide) (fun c9 => ?_) (fun c9 => absurd nI_0 c9)
  refine lv_goto (tgt := 1535) hx hb dL_law_934 (by decide) ?_
  exact W.widen (by omega) (by omega) (kk u.1 u.2 (t9, n2, lim2, row2, kept2, chg2, tab2, key2, frs2, col2, rel2, num2, lis2, boo2, sta2, slo2, cop2, see2, the2, her2) H locs ls ⟨bk9, hRR⟩ hP hD hS (lv_sub hl [2, 3, 4, 5, 6] rfl))

set_option maxHeartbeats 8000000 in
set_option maxRecDepth 100000 in
theorem lC_receive {p : Program} {l : Launch} {e : Env} {s : State} {m : MethodId} {below : List Frame} {meth : Method} {c : Code} {H : Heap} {locs : List Loc} {cells slots : Nat} {Q : State → Prop} {ls : Array Slot} {D : va_G} {cI cP cS cL : ClassId} {A : Nat → Prop} {ad bd bk : Nat → Nat} {ho b L i : Nat} {xs : Nat → Int32} {out : Nat → Int64} {lim n : Nat} {rows cc ct ck nr cr old rw : qF} {co re nu ma sr cp : Nat → qF} {pu : Nat → Option Nat} {st sl : Nat → Nat} {th : Int32} {row kept chg tab key frs col rel num lis boo sta slo cop see the her : qF} (B : lwB p l s m c D cI cP cS cL A b L xs) (hinj : ∀ x y, x < 3 → y < 3 → ad (13 + 5 * x) = ad (13 + 5 * y) → x = y) (hi : i + 6 ≤ L) (hf : cells + 100 ≤ 601024 ∧ slots + 1000 ≤ 7293034) (hR : RR ad bk lim n rows cc ct ck nr cr co re nu ma sr cp pu st sl row kept chg tab key frs col rel num lis boo sta slo cop see) (hP : va_P D vwCl (LWd cI cP cS cL ad bd ho (lim, n, rows, cc, ct, ck, nr, cr, old, rw, co, re, nu, ma, sr, cp, pu, st, sl) out (th, n, lim, row, kept, chg, tab, key, frs, col, rel, num, lis, boo, sta, slo, cop, see, the, her)) H) (hD : va_D A (LWd cI cP cS cL ad bd ho (lim, n, rows, cc, ct, ck, nr, cr, old, rw, co, re, nu, ma, sr, cp, pu, st, sl) out (th, n, lim, row, kept, chg, tab, key, frs, col, rel, num, lis, boo, sta, slo, cop, see, the, her))) (hS : va_S A s.heap H locs) (hl : lv_has ls 7 [(0, .ref b), (1, .ref (ad 0)), (2, .ref (bd 0)), (3, .ref ho), (4, .int (nI i))]) (kk : ∀ (s4 : S4) (out : Nat → Int64) (s5 : S5) (H : Heap) (locs : List Loc) (ls : Array Slot), (∃ bk, RRt ad bk s4 s5) → va_P D vwCl (LWd cI cP cS cL ad bd ho s4 out s5) H → va_D A (LWd cI cP cS cL ad bd ho s4 out s5) → va_S A s.heap H locs → lv_has ls 7 [(0, .ref b), (1, .ref (ad 0)), (2, .ref (bd 0)), (3, .ref ho), (4, .int (nI i))] → W p l e room_1 s m #[Value.ref b] below meth c H locs (cells + 8) (slots + 40) Q (F0 m 1535 ls [])) : W p l e room_1 s m #[Value.ref b] below meth c H locs cells slots Q (F0 m 937 ls []) := by
  obtain ⟨hx, hb, hml, hown, hts, hfl, hK, hN, hE, hA, hbA, hbl, hX, hL⟩ := B
  obtain ⟨cn, hcn, hcc, hcn0⟩ := RR_cn hR
  have hlim := hR.1
  have hn9 := hR.2.1
  refine lv_aload_n hx hb dL_law_937 rfl (lv_at hl 1 rfl) ?_
  refine lv_aload_n hx hb dL_law_938 rfl (lv_at hl 0 rfl) ?_
  refine lv_iload hx hb dL_law_939 (lv_at hl 4 rfl) ?_
  refine lv_iconst (v := nI 1) hx hb dL_law_941 (by decide) ?_
  refine x_add (k := i + 1) hx hb dL_law_942 rfl ?_
  refine x_sld (k := i + 1) hx hb hX hbl hbA hS (by omega) hL dL_law_943 ?_
  refine lv_aload_n hx hb dL_law_944 rfl (lv_at hl 0 rfl) ?_
  refine lv_iload hx hb dL_law_945 (lv_at hl 4 rfl) ?_
  refine lv_iconst (v := nI 2) hx hb dL_law_947 (by decide) ?_
  refine x_add (k := i + 2) hx hb dL_law_948 rfl ?_
  refine x_sld (k := i + 2) hx hb hX hbl hbA hS (by omega) hL dL_law_949 ?_
  refine lv_aload_n hx hb dL_law_950 rfl (lv_at hl 3 rfl) ?_
  have hsi : iX (xs (i + 1)) < 3 := iX_lt _
  refine x_calli (w2 := fun (u : S4 × (Nat → Int64)) => LWd cI cP cS cL ad bd ho u.1 u.2 (th, n, lim, row, kept, chg, tab, key, frs, col, rel, num, lis, boo, sta, slo, cop, see, the, her)) (wr := W5 cI bd (th, n, lim, row, kept, chg, tab, key, frs, col, rel, num, lis, boo, sta, slo, cop, see, the, her)) (x_runL (n := 4) ⟨hx, hb, hml, hown, hts⟩ (fL_receive l D cI cP cS cL hfl ad ho out lim n rows cc ct ck nr cr old rw co re nu ma sr cp pu st sl (iX (xs (i + 1))) (bk (iX (xs (i + 1)))) (xs (i + 1)) (xs (i + 2)) hsi (RR_bk hR _ hsi) (iX_sx _) hn9 (RR_st3 hR _ hsi) (RR_sl hR _ hsi) (RR_pu hR _ hsi) (RR_clog hR)) gL_law_L_receive rfl rfl rfl (by decide +kernel) ⟨by decide, by decide⟩ hN hK hP hD hS hA hE iLb rfl rfl rfl hl.1 (rest := []) (As := [.ref (ad 0), .int (xs (i + 1)), .int (xs (i + 2)), .ref ho]) rfl (Nat.le_of_ble_eq_true rfl) dL_law_951 ⟨by show _ ≤ 601024; omega, by show _ ≤ 7293034; omega⟩) hP hD hS hA iLb iLm iL2b rfl rfl rfl (by decide) rfl (fun _ => rfl) (fun k9 u H locs hw1 hP hD hS => ?_)
  refine lv_istore (lv' := [(5, .int k9), (0, .ref b), (1, .ref (ad 0)), (2, .ref (bd 0)), (3, .ref ho), (4, .int (nI i))]) hx hb dL_law_954 hl (by decide) rfl (fun ls hl => ?_)
  refine lv_aload_n hx hb dL_law_956 rfl (lv_at hl 3 rfl) ?_
  refine lv_aload_n hx hb dL_law_957 rfl (lv_at hl 1 rfl) ?_
  refine lv_iload hx hb dL_law_958 (lv_at hl 5 rfl) ?_
  refine lv_iconst (v := nI 1) hx hb dL_law_960 (by decide) ?_
  refine x_add (k := i + 1) hx hb dL_law_961 rfl ?_
  refine x_sld (k := i + 1) hx hb hX hbl hbA hS (by omega) hL dL_law_962 ?_
  refine lv_aload_n hx hb dL_law_963 rfl (lv_at hl 1 rfl) ?_
  refine lv_iload hx hb dL_law_964 (lv_at hl 5 rfl) ?_
  refine lv_iconst (v := nI 2) hx hb dL_law_966 (by decide) ?_
  refine x_add (k := i + 2) hx hb dL_law_967 rfl ?_
  refine x_sld (k := i + 2) hx hb hX hbl hbA hS (by omega) hL dL_law_968 ?_
  refine x_calli (w2 := fun (u2 : S5) => LWd cI cP cS cL ad bd ho u.1 u.2 u2) (wr := W4 cI cP cS ad u.1 ++ WO cL ho u.2) (x_runV (n := 2) ⟨hx, hb, hml, hown, hts⟩ (fX5_receive l D cI cP cS cL bd th n lim row kept chg tab key frs col rel num lis boo sta slo cop see the her st sl bk (xs (i + 1)) (xs (i + 2)) (RR_sta hR) (RR_st3 hR) (RR_boo hR) (RR_bk hR) (RR_slo hR) (RR_sl hR) hn9 (RR_mlog hR)) gL_law_X5_receive rfl rfl rfl (by decide +kernel) ⟨by decide, by decide⟩ hN hK hP hD iLm rfl rfl (ci := 5) (q0 := 38) rfl rfl rfl rfl hl.1 (rest := []) (As := [.int (xs (i + 1)), .int (xs (i + 2))]) rfl (Nat.le_of_ble_eq_true rfl) dL_law_969 ⟨by show _ ≤ 601024; omega, by show _ ≤ 7293034; omega⟩) hP hD hS hA iLm iLb iL2m rfl rfl rfl (by decide) rfl (fun _ => rfl) (fun r9 u2 H locs hw2 hP hD hS => ?_)
  obtain ⟨th2, n2, lim2, row2, kept2, chg2, tab2, key2, frs2, col2, rel2, num2, lis2, boo2, sta2, slo2, cop2, see2, the2, her2⟩ := u2
  refine lv_istore (lv' := [(6, .int r9), (5, .int k9), (0, .ref b), (1, .ref (ad 0)), (2, .ref (bd 0)), (3, .ref ho), (4, .int (nI i))]) hx hb dL_law_972 hl (by decide) rfl (fun ls hl => ?_)
  refine lv_aload_n hx hb dL_law_974 rfl (lv_at hl 4 rfl) ?_
  refine x_calli (w2 := fun (u3 : S5) => LWd cI cP cS cL ad bd ho u.1 u.2 u3) (wr := W4 cI cP cS ad u.1 ++ WO cL ho u.2) (x_runV (n := 0) ⟨hx, hb, hml, hown, hts⟩ (fX5_thrown l D cI cP cS cL bd th2 n2 lim2 row2 kept2 chg2 tab2 key2 frs2 col2 rel2 num2 lis2 boo2 sta2 slo2 cop2 see2 the2 her2) gL_law_X5_thrown rfl rfl rfl (by decide +kernel) ⟨by decide, by decide⟩ hN hK hP hD iLm rfl rfl (ci := 5) (q0 := 38) rfl rfl rfl rfl hl.1 (rest := []) (As := []) rfl (Nat.le_of_ble_eq_true rfl) dL_law_975 ⟨by show _ ≤ 601024; omega, by show _ ≤ 7293034; omega⟩) hP hD hS hA iLm iLb iL2m rfl rfl rfl (by decide) rfl (fun _ => rfl) (fun t9 u3 H locs hw3 hP hD hS => ?_)
  obtain ⟨rfl, rfl⟩ := hw3
  obtain ⟨e1, e2, bk9, hRR⟩ := sM_receive (iX_sx _) hR hw1 hw2
  refine lv_iload hx hb dL_law_978 (lv_at hl 1 rfl) ?_
  refine x_cmp_eq (tgt := 985) hx hb (Iff.rfl) dL_law_980 (by decide) (fun c9 => ?_) (fun c9 => absurd e1 c9)
  refine lv_iload hx hb dL_law_985 (lv_at hl 1 rfl) ?_
  refine x_if_ne (tgt := 1002) hx hb (Iff.rfl) dL_law_987 (by decide) (fun c9 => ?_) (fun c9 => ?_)
  · refine lv_goto (tgt := 1535) hx hb dL_law_1002 (by decide) ?_
    exact W.widen (by omega) (by omega) (kk u.1 u.2 (t9, n2, lim2, row2, kept2, chg2, tab2, key2, frs2, col2, rel2, num2, lis2, boo2, sta2, slo2, cop2, see2, the2, her2) H locs ls ⟨bk9, hRR⟩ hP hD hS (lv_sub hl [2, 3, 4, 5, 6] rfl))
  have e4 := e2 (by rw [c9, nI_0])
  refine lv_aload_n hx hb dL_law_990 rfl (lv_at hl 5 rfl) ?_
  refine lv_iconst (v := nI 0) hx hb dL_law_991 (by decide) ?_
  refine x_lald (v := u.2 0) hx hb hK hP 37 3 rfl rfl (by omega) (by omega) rfl dL_law_992 ?_
  refine lv_iload hx hb dL_law_993 (lv_at hl 0 rfl) ?_
  refine lv_i2l (v := r9.toInt64) hx hb dL_law_995 rfl ?_
  refine x_lcmp0 hx hb e4 dL_law_996 ?_
  refine x_if_eq (tgt := 1002) hx hb (Iff.rfl) dL_law_997 (by decide) (fun c9 => ?_) (fun c9 => absurd nI_0 c9)
  refine lv_goto (tgt := 1535) hx hb dL_law_1002 (by decide) ?_
  exact W.widen (by omega) (by omega) (kk u.1 u.2 (t9, n2, lim2, row2, kept2, chg2, tab2, key2, frs2, col2, rel2, num2, lis2, boo2, sta2, slo2, cop2, see2, the2, her2) H locs ls ⟨bk9, hRR⟩ hP hD hS (lv_sub hl [2, 3, 4, 5, 6] rfl))

set_option maxHeartbeats 8000000 in
set_option maxRecDepth 100000 in
theorem lC_goOn {p : Program} {l : Launch} {e : Env} {s : State} {m : MethodId} {below : List Frame} {meth : Method} {c : Code} {H : Heap} {locs : List Loc} {cells slots : Nat} {Q : State → Prop} {ls : Array Slot} {D : va_G} {cI cP cS cL : ClassId} {A : Nat → Prop} {ad bd bk : Nat → Nat} {ho b L i : Nat} {xs : Nat → Int32} {out : Nat → Int64} {lim n : Nat} {rows cc ct ck nr cr old rw : qF} {co re nu ma sr cp : Nat → qF} {pu : Nat → Option Nat} {st sl : Nat → Nat} {th : Int32} {row kept chg tab key frs col rel num lis boo sta slo cop see the her : qF} (B : lwB p l s m c D cI cP cS cL A b L xs) (hinj : ∀ x y, x < 3 → y < 3 → ad (13 + 5 * x) = ad (13 + 5 * y) → x = y) (hi : i + 6 ≤ L) (hf : cells + 100 ≤ 601024 ∧ slots + 1000 ≤ 7293034) (hR : RR ad bk lim n rows cc ct ck nr cr co re nu ma sr cp pu st sl row kept chg tab key frs col rel num lis boo sta slo cop see) (hP : va_P D vwCl (LWd cI cP cS cL ad bd ho (lim, n, rows, cc, ct, ck, nr, cr, old, rw, co, re, nu, ma, sr, cp, pu, st, sl) out (th, n, lim, row, kept, chg, tab, key, frs, col, rel, num, lis, boo, sta, slo, cop, see, the, her)) H) (hD : va_D A (LWd cI cP cS cL ad bd ho (lim, n, rows, cc, ct, ck, nr, cr, old, rw, co, re, nu, ma, sr, cp, pu, st, sl) out (th, n, lim, row, kept, chg, tab, key, frs, col, rel, num, lis, boo, sta, slo, cop, see, the, her))) (hS : va_S A s.heap H locs) (hl : lv_has ls 7 [(0, .ref b), (1, .ref (ad 0)), (2, .ref (bd 0)), (3, .ref ho), (4, .int (nI i))]) (kk : ∀ (s4 : S4) (out : Nat → Int64) (s5 : S5) (H : Heap) (locs : List Loc) (ls : Array Slot), (∃ bk, RRt ad bk s4 s5) → va_P D vwCl (LWd cI cP cS cL ad bd ho s4 out s5) H → va_D A (LWd cI cP cS cL ad bd ho s4 out s5) → va_S A s.heap H locs → lv_has ls 7 [(0, .ref b), (1, .ref (ad 0)), (2, .ref (bd 0)), (3, .ref ho), (4, .int (nI i))] → W p l e room_1 s m #[Value.ref b] below meth c H locs (cells + 8) (slots + 40) Q (F0 m 1535 ls [])) : W p l e room_1 s m #[Value.ref b] below meth c H locs cells slots Q (F0 m 1005 ls []) := by
  obtain ⟨hx, hb, hml, hown, hts, hfl, hK, hN, hE, hA, hbA, hbl, hX, hL⟩ := B
  obtain ⟨cn, hcn, hcc, hcn0⟩ := RR_cn hR
  have hlim := hR.1
  have hn9 := hR.2.1
  rcases Classical.em (xs (i + 2) = 0) with z9 | z9
  · refine lv_aload_n hx hb dL_law_1005 rfl (lv_at hl 1 rfl) ?_
    refine lv_aload_n hx hb dL_law_1006 rfl (lv_at hl 0 rfl) ?_
    refine lv_iload hx hb dL_law_1007 (lv_at hl 4 rfl) ?_
    refine lv_iconst (v := nI 1) hx hb dL_law_1009 (by decide) ?_
    refine x_add (k := i + 1) hx hb dL_law_1010 rfl ?_
    refine x_sld (k := i + 1) hx hb hX hbl hbA hS (by omega) hL dL_law_1011 ?_
    refine lv_aload_n hx hb dL_law_1012 rfl (lv_at hl 0 rfl) ?_
    refine lv_iload hx hb dL_law_1013 (lv_at hl 4 rfl) ?_
    refine lv_iconst (v := nI 2) hx hb dL_law_1015 (by decide) ?_
    refine x_add (k := i + 2) hx hb dL_law_1016 rfl ?_
    refine x_sld (k := i + 2) hx hb hX hbl hbA hS (by omega) hL dL_law_1017 ?_
    refine x_if_eq (tgt := 1025) hx hb (Iff.rfl) dL_law_1018 (by decide) (fun c9 => ?_) (fun c9 => absurd z9 c9)
    refine lv_iconst (v := nI 0) hx hb dL_law_1025 (by decide) ?_
    refine lv_aload_n hx hb dL_law_1026 rfl (lv_at hl 3 rfl) ?_
    have hsi : iX (xs (i + 1)) < 3 := iX_lt _
    refine x_calli (w2 := fun (u : S4 × (Nat → Int64)) => LWd cI cP cS cL ad bd ho u.1 u.2 (th, n, lim, row, kept, chg, tab, key, frs, col, rel, num, lis, boo, sta, slo, cop, see, the, her)) (wr := W5 cI bd (th, n, lim, row, kept, chg, tab, key, frs, col, rel, num, lis, boo, sta, slo, cop, see, the, her)) (x_runL (n := 4) ⟨hx, hb, hml, hown, hts⟩ (fL_goOn l D cI cP cS cL hfl ad ho out lim n rows cc ct ck nr cr old rw co re nu ma sr cp pu st sl (iX (xs (i + 1)))  (xs (i + 1)) (nI 0) hsi (iX_sx _) (RR_st3 hR _ hsi) (RR_sl hR _ hsi) hn9 (RR_s2 hR _ hsi)) gL_law_L_goOn rfl rfl rfl (by decide +kernel) ⟨by decide, by decide⟩ hN hK hP hD hS hA hE iLb rfl rfl rfl hl.1 (rest := []) (As := [.ref (ad 0), .int (xs (i + 1)), .int (nI 0), .ref ho]) rfl (Nat.le_of_ble_eq_true rfl) dL_law_1027 ⟨by show _ ≤ 601024; omega, by show _ ≤ 7293034; omega⟩) hP hD hS hA iLb iLm iL2b rfl rfl rfl (by decide) rfl (fun _ => rfl) (fun k9 u H locs hw1 hP hD hS => ?_)
    refine lv_istore (lv' := [(5, .int k9), (0, .ref b), (1, .ref (ad 0)), (2, .ref (bd 0)), (3, .ref ho), (4, .int (nI i))]) hx hb dL_law_1030 hl (by decide) rfl (fun ls hl => ?_)
    refine lv_aload_n hx hb dL_law_1032 rfl (lv_at hl 3 rfl) ?_
    refine lv_aload_n hx hb dL_law_1033 rfl (lv_at hl 1 rfl) ?_
    refine lv_iload hx hb dL_law_1034 (lv_at hl 5 rfl) ?_
    refine lv_iconst (v := nI 1) hx hb dL_law_1036 (by decide) ?_
    refine x_add (k := i + 1) hx hb dL_law_1037 rfl ?_
    refine x_sld (k := i + 1) hx hb hX hbl hbA hS (by omega) hL dL_law_1038 ?_
    refine lv_aload_n hx hb dL_law_1039 rfl (lv_at hl 1 rfl) ?_
    refine lv_iload hx hb dL_law_1040 (lv_at hl 5 rfl) ?_
    refine lv_iconst (v := nI 2) hx hb dL_law_1042 (by decide) ?_
    refine x_add (k := i + 2) hx hb dL_law_1043 rfl ?_
    refine x_sld (k := i + 2) hx hb hX hbl hbA hS (by omega) hL dL_law_1044 ?_
    refine x_if_eq (tgt := 1052) hx hb (Iff.rfl) dL_law_1045 (by decide) (fun c9 => ?_) (fun c9 => absurd z9 c9)
    refine lv_iconst (v := nI 0) hx hb dL_law_1052 (by decide) ?_
    refine x_calli (w2 := fun (u2 : S5) => LWd cI cP cS cL ad bd ho u.1 u.2 u2) (wr := W4 cI cP cS ad u.1 ++ WO cL ho u.2) (x_runV (n := 2) ⟨hx, hb, hml, hown, hts⟩ (fX5_goOn l D cI cP cS cL bd th n lim row kept chg tab key frs col rel num lis boo sta slo cop see the her st sl (xs (i + 1)) (nI 0) (RR_sta hR) (RR_st3 hR) (RR_slo hR)) gL_law_X5_goOn rfl rfl rfl (by decide +kernel) ⟨by decide, by decide⟩ hN hK hP hD iLm rfl rfl (ci := 5) (q0 := 38) rfl rfl rfl rfl hl.1 (rest := []) (As := [.int (xs (i + 1)), .int (nI 0)]) rfl (Nat.le_of_ble_eq_true rfl) dL_law_1053 ⟨by show _ ≤ 601024; omega, by show _ ≤ 7293034; omega⟩) hP hD hS hA iLm iLb iL2m rfl rfl rfl (by decide) rfl (fun _ => rfl) (fun r9 u2 H locs hw2 hP hD hS => ?_)
    obtain ⟨th2, n2, lim2, row2, kept2, chg2, tab2, key2, frs2, col2, rel2, num2, lis2, boo2, sta2, slo2, cop2, see2, the2, her2⟩ := u2
    refine lv_istore (lv' := [(6, .int r9), (5, .int k9), (0, .ref b), (1, .ref (ad 0)), (2, .ref (bd 0)), (3, .ref ho), (4, .int (nI i))]) hx hb dL_law_1056 hl (by decide) rfl (fun ls hl => ?_)
    refine lv_aload_n hx hb dL_law_1058 rfl (lv_at hl 4 rfl) ?_
    refine x_calli (w2 := fun (u3 : S5) => LWd cI cP cS cL ad bd ho u.1 u.2 u3) (wr := W4 cI cP cS ad u.1 ++ WO cL ho u.2) (x_runV (n := 0) ⟨hx, hb, hml, hown, hts⟩ (fX5_thrown l D cI cP cS cL bd th2 n2 lim2 row2 kept2 chg2 tab2 key2 frs2 col2 rel2 num2 lis2 boo2 sta2 slo2 cop2 see2 the2 her2) gL_law_X5_thrown rfl rfl rfl (by decide +kernel) ⟨by decide, by decide⟩ hN hK hP hD iLm rfl rfl (ci := 5) (q0 := 38) rfl rfl rfl rfl hl.1 (rest := []) (As := []) rfl (Nat.le_of_ble_eq_true rfl) dL_law_1059 ⟨by show _ ≤ 601024; omega, by show _ ≤ 7293034; omega⟩) hP hD hS hA iLm iLb iL2m rfl rfl rfl (by decide) rfl (fun _ => rfl) (fun t9 u3 H locs hw3 hP hD hS => ?_)
    obtain ⟨rfl, rfl⟩ := hw3
    obtain ⟨e1, e2, bk9, hRR⟩ := sM_goOn (iX_sx _) hR hw1 hw2
    refine lv_iload hx hb dL_law_1062 (lv_at hl 1 rfl) ?_
    refine x_cmp_eq (tgt := 1069) hx hb (Iff.rfl) dL_law_1064 (by decide) (fun c9 => ?_) (fun c9 => absurd e1 c9)
    refine lv_iload hx hb dL_law_1069 (lv_at hl 1 rfl) ?_
    refine x_if_ne (tgt := 1086) hx hb (Iff.rfl) dL_law_1071 (by decide) (fun c9 => ?_) (fun c9 => ?_)
    · refine lv_goto (tgt := 1535) hx hb dL_law_1086 (by decide) ?_
      exact W.widen (by omega) (by omega) (kk u.1 u.2 (t9, n2, lim2, row2, kept2, chg2, tab2, key2, frs2, col2, rel2, num2, lis2, boo2, sta2, slo2, cop2, see2, the2, her2) H locs ls ⟨bk9, hRR⟩ hP hD hS (lv_sub hl [2, 3, 4, 5, 6] rfl))
    have e4 := e2 (by rw [c9, nI_0])
    refine lv_aload_n hx hb dL_law_1074 rfl (lv_at hl 5 rfl) ?_
    refine lv_iconst (v := nI 0) hx hb dL_law_1075 (by decide) ?_
    refine x_lald (v := u.2 0) hx hb hK hP 37 3 rfl rfl (by omega) (by omega) rfl dL_law_1076 ?_
    refine lv_iload hx hb dL_law_1077 (lv_at hl 0 rfl) ?_
    refine lv_i2l (v := r9.toInt64) hx hb dL_law_1079 rfl ?_
    refine x_lcmp0 hx hb e4 dL_law_1080 ?_
    refine x_if_eq (tgt := 1086) hx hb (Iff.rfl) dL_law_1081 (by decide) (fun c9 => ?_) (fun c9 => absurd nI_0 c9)
    refine lv_goto (tgt := 1535) hx hb dL_law_1086 (by decide) ?_
    exact W.widen (by omega) (by omega) (kk u.1 u.2 (t9, n2, lim2, row2, kept2, chg2, tab2, key2, frs2, col2, rel2, num2, lis2, boo2, sta2, slo2, cop2, see2, the2, her2) H locs ls ⟨bk9, hRR⟩ hP hD hS (lv_sub hl [2, 3, 4, 5, 6] rfl))
  · refine lv_aload_n hx hb dL_law_1005 rfl (lv_at hl 1 rfl) ?_
    refine lv_aload_n hx hb dL_law_1006 rfl (lv_at hl 0 rfl) ?_
    refine lv_iload hx hb dL_law_1007 (lv_at hl 4 rfl) ?_
    refine lv_iconst (v := nI 1) hx hb dL_law_1009 (by decide) ?_
    refine x_add (k := i + 1) hx hb dL_law_1010 rfl ?_
    refine x_sld (k := i + 1) hx hb hX hbl hbA hS (by omega) hL dL_law_1011 ?_
    refine lv_aload_n hx hb dL_law_1012 rfl (lv_at hl 0 rfl) ?_
    refine lv_iload hx hb dL_law_1013 (lv_at hl 4 rfl) ?_
    refine lv_iconst (v := nI 2) hx hb dL_law_1015 (by decide) ?_
    refine x_add (k := i + 2) hx hb dL_law_1016 rfl ?_
    refine x_sld (k := i + 2) hx hb hX hbl hbA hS (by omega) hL dL_law_1017 ?_
    refine x_if_eq (tgt := 1025) hx hb (Iff.rfl) dL_law_1018 (by decide) (fun c9 => absurd c9 z9) (fun c9 => ?_)
    refine lv_iconst (v := nI 1) hx hb dL_law_1021 (by decide) ?_
    refine lv_goto (tgt := 1026) hx hb dL_law_1022 (by decide) ?_
    refine lv_aload_n hx hb dL_law_1026 rfl (lv_at hl 3 rfl) ?_
    have hsi : iX (xs (i + 1)) < 3 := iX_lt _
    refine x_calli (w2 := fun (u : S4 × (Nat → Int64)) => LWd cI cP cS cL ad bd ho u.1 u.2 (th, n, lim, row, kept, chg, tab, key, frs, col, rel, num, lis, boo, sta, slo, cop, see, the, her)) (wr := W5 cI bd (th, n, lim, row, kept, chg, tab, key, frs, col, rel, num, lis, boo, sta, slo, cop, see, the, her)) (x_runL (n := 4) ⟨hx, hb, hml, hown, hts⟩ (fL_goOn l D cI cP cS cL hfl ad ho out lim n rows cc ct ck nr cr old rw co re nu ma sr cp pu st sl (iX (xs (i + 1)))  (xs (i + 1)) (nI 1) hsi (iX_sx _) (RR_st3 hR _ hsi) (RR_sl hR _ hsi) hn9 (RR_s2 hR _ hsi)) gL_law_L_goOn rfl rfl rfl (by decide +kernel) ⟨by decide, by decide⟩ hN hK hP hD hS hA hE iLb rfl rfl rfl hl.1 (rest := []) (As := [.ref (ad 0), .int (xs (i + 1)), .int (nI 1), .ref ho]) rfl (Nat.le_of_ble_eq_true rfl) dL_law_1027 ⟨by show _ ≤ 601024; omega, by show _ ≤ 7293034; omega⟩) hP hD hS hA iLb iLm iL2b rfl rfl rfl (by decide) rfl (fun _ => rfl) (fun k9 u H locs hw1 hP hD hS => ?_)
    refine lv_istore (lv' := [(5, .int k9), (0, .ref b), (1, .ref (ad 0)), (2, .ref (bd 0)), (3, .ref ho), (4, .int (nI i))]) hx hb dL_law_1030 hl (by decide) rfl (fun ls hl => ?_)
    refine lv_aload_n hx hb dL_law_1032 rfl (lv_at hl 3 rfl) ?_
    refine lv_aload_n hx hb dL_law_1033 rfl (lv_at hl 1 rfl) ?_
    refine lv_iload hx hb dL_law_1034 (lv_at hl 5 rfl) ?_
    refine lv_iconst (v := nI 1) hx hb dL_law_1036 (by decide) ?_
    refine x_add (k := i + 1) hx hb dL_law_1037 rfl ?_
    refine x_sld (k := i + 1) hx hb hX hbl hbA hS (by omega) hL dL_law_1038 ?_
    refine lv_aload_n hx hb dL_law_1039 rfl (lv_at hl 1 rfl) ?_
    refine lv_iload hx hb dL_law_1040 (lv_at hl 5 rfl) ?_
    refine lv_iconst (v := nI 2) hx hb dL_law_1042 (by decide) ?_
    refine x_add (k := i + 2) hx hb dL_law_1043 rfl ?_
    refine x_sld (k := i + 2) hx hb hX hbl hbA hS (by omega) hL dL_law_1044 ?_
    refine x_if_eq (tgt := 1052) hx hb (Iff.rfl) dL_law_1045 (by decide) (fun c9 => absurd c9 z9) (fun c9 => ?_)
    refine lv_iconst (v := nI 1) hx hb dL_law_1048 (by decide) ?_
    refine lv_goto (tgt := 1053) hx hb dL_law_1049 (by decide) ?_
    refine x_calli (w2 := fun (u2 : S5) => LWd cI cP cS cL ad bd ho u.1 u.2 u2) (wr := W4 cI cP cS ad u.1 ++ WO cL ho u.2) (x_runV (n := 2) ⟨hx, hb, hml, hown, hts⟩ (fX5_goOn l D cI cP cS cL bd th n lim row kept chg tab key frs col rel num lis boo sta slo cop see the her st sl (xs (i + 1)) (nI 1) (RR_sta hR) (RR_st3 hR) (RR_slo hR)) gL_law_X5_goOn rfl rfl rfl (by decide +kernel) ⟨by decide, by decide⟩ hN hK hP hD iLm rfl rfl (ci := 5) (q0 := 38) rfl rfl rfl rfl hl.1 (rest := []) (As := [.int (xs (i + 1)), .int (nI 1)]) rfl (Nat.le_of_ble_eq_true rfl) dL_law_1053 ⟨by show _ ≤ 601024; omega, by show _ ≤ 7293034; omega⟩) hP hD hS hA iLm iLb iL2m rfl rfl rfl (by decide) rfl (fun _ => rfl) (fun r9 u2 H locs hw2 hP hD hS => ?_)
    obtain ⟨th2, n2, lim2, row2, kept2, chg2, tab2, key2, frs2, col2, rel2, num2, lis2, boo2, sta2, slo2, cop2, see2, the2, her2⟩ := u2
    refine lv_istore (lv' := [(6, .int r9), (5, .int k9), (0, .ref b), (1, .ref (ad 0)), (2, .ref (bd 0)), (3, .ref ho), (4, .int (nI i))]) hx hb dL_law_1056 hl (by decide) rfl (fun ls hl => ?_)
    refine lv_aload_n hx hb dL_law_1058 rfl (lv_at hl 4 rfl) ?_
    refine x_calli (w2 := fun (u3 : S5) => LWd cI cP cS cL ad bd ho u.1 u.2 u3) (wr := W4 cI cP cS ad u.1 ++ WO cL ho u.2) (x_runV (n := 0) ⟨hx, hb, hml, hown, hts⟩ (fX5_thrown l D cI cP cS cL bd th2 n2 lim2 row2 kept2 chg2 tab2 key2 frs2 col2 rel2 num2 lis2 boo2 sta2 slo2 cop2 see2 the2 her2) gL_law_X5_thrown rfl rfl rfl (by decide +kernel) ⟨by decide, by decide⟩ hN hK hP hD iLm rfl rfl (ci := 5) (q0 := 38) rfl rfl rfl rfl hl.1 (rest := []) (As := []) rfl (Nat.le_of_ble_eq_true rfl) dL_law_1059 ⟨by show _ ≤ 601024; omega, by show _ ≤ 7293034; omega⟩) hP hD hS hA iLm iLb iL2m rfl rfl rfl (by decide) rfl (fun _ => rfl) (fun t9 u3 H locs hw3 hP hD hS => ?_)
    obtain ⟨rfl, rfl⟩ := hw3
    obtain ⟨e1, e2, bk9, hRR⟩ := sM_goOn (iX_sx _) hR hw1 hw2
    refine lv_iload hx hb dL_law_1062 (lv_at hl 1 rfl) ?_
    refine x_cmp_eq (tgt := 1069) hx hb (Iff.rfl) dL_law_1064 (by decide) (fun c9 => ?_) (fun c9 => absurd e1 c9)
    refine lv_iload hx hb dL_law_1069 (lv_at hl 1 rfl) ?_
    refine x_if_ne (tgt := 1086) hx hb (Iff.rfl) dL_law_1071 (by decide) (fun c9 => ?_) (fun c9 => ?_)
    · refine lv_goto (tgt := 1535) hx hb dL_law_1086 (by decide) ?_
      exact W.widen (by omega) (by omega) (kk u.1 u.2 (t9, n2, lim2, row2, kept2, chg2, tab2, key2, frs2, col2, rel2, num2, lis2, boo2, sta2, slo2, cop2, see2, the2, her2) H locs ls ⟨bk9, hRR⟩ hP hD hS (lv_sub hl [2, 3, 4, 5, 6] rfl))
    have e4 := e2 (by rw [c9, nI_0])
    refine lv_aload_n hx hb dL_law_1074 rfl (lv_at hl 5 rfl) ?_
    refine lv_iconst (v := nI 0) hx hb dL_law_1075 (by decide) ?_
    refine x_lald (v := u.2 0) hx hb hK hP 37 3 rfl rfl (by omega) (by omega) rfl dL_law_1076 ?_
    refine lv_iload hx hb dL_law_1077 (lv_at hl 0 rfl) ?_
    refine lv_i2l (v := r9.toInt64) hx hb dL_law_1079 rfl ?_
    refine x_lcmp0 hx hb e4 dL_law_1080 ?_
    refine x_if_eq (tgt := 1086) hx hb (Iff.rfl) dL_law_1081 (by decide) (fun c9 => ?_) (fun c9 => absurd nI_0 c9)
    refine lv_goto (tgt := 1535) hx hb dL_law_1086 (by decide) ?_
    exact W.widen (by omega) (by omega) (kk u.1 u.2 (t9, n2, lim2, row2, kept2, chg2, tab2, key2, frs2, col2, rel2, num2, lis2, boo2, sta2, slo2, cop2, see2, the2, her2) H locs ls ⟨bk9, hRR⟩ hP hD hS (lv_sub hl [2, 3, 4, 5, 6] rfl))

set_option maxHeartbeats 8000000 in
set_option maxRecDepth 100000 in
theorem lC_own {p : Program} {l : Launch} {e : Env} {s : State} {m : MethodId} {below : List Frame} {meth : Method} {c : Code} {H : Heap} {locs : List Loc} {cells slots : Nat} {Q : State → Prop} {ls : Array Slot} {D : va_G} {cI cP cS cL : ClassId} {A : Nat → Prop} {ad bd bk : Nat → Nat} {ho b L i : Nat} {xs : Nat → Int32} {out : Nat → Int64} {lim n : Nat} {rows cc ct ck nr cr old rw : qF} {co re nu ma sr cp : Nat → qF} {pu : Nat → Option Nat} {st sl : Nat → Nat} {th : Int32} {row kept chg tab key frs col rel num lis boo sta slo cop see the her : qF} (B : lwB p l s m c D cI cP cS cL A b L xs) (hinj : ∀ x y, x < 3 → y < 3 → ad (13 + 5 * x) = ad (13 + 5 * y) → x = y) (hi : i + 6 ≤ L) (hf : cells + 100 ≤ 601024 ∧ slots + 1000 ≤ 7293034) (hR : RR ad bk lim n rows cc ct ck nr cr co re nu ma sr cp pu st sl row kept chg tab key frs col rel num lis boo sta slo cop see) (hP : va_P D vwCl (LWd cI cP cS cL ad bd ho (lim, n, rows, cc, ct, ck, nr, cr, old, rw, co, re, nu, ma, sr, cp, pu, st, sl) out (th, n, lim, row, kept, chg, tab, key, frs, col, rel, num, lis, boo, sta, slo, cop, see, the, her)) H) (hD : va_D A (LWd cI cP cS cL ad bd ho (lim, n, rows, cc, ct, ck, nr, cr, old, rw, co, re, nu, ma, sr, cp, pu, st, sl) out (th, n, lim, row, kept, chg, tab, key, frs, col, rel, num, lis, boo, sta, slo, cop, see, the, her))) (hS : va_S A s.heap H locs) (hl : lv_has ls 7 [(0, .ref b), (1, .ref (ad 0)), (2, .ref (bd 0)), (3, .ref ho), (4, .int (nI i))]) (kk : ∀ (s4 : S4) (out : Nat → Int64) (s5 : S5) (H : Heap) (locs : List Loc) (ls : Array Slot), (∃ bk, RRt ad bk s4 s5) → va_P D vwCl (LWd cI cP cS cL ad bd ho s4 out s5) H → va_D A (LWd cI cP cS cL ad bd ho s4 out s5) → va_S A s.heap H locs → lv_has ls 7 [(0, .ref b), (1, .ref (ad 0)), (2, .ref (bd 0)), (3, .ref ho), (4, .int (nI i))] → W p l e room_1 s m #[Value.ref b] below meth c H locs (cells + 8) (slots + 40) Q (F0 m 1535 ls [])) : W p l e room_1 s m #[Value.ref b] below meth c H locs cells slots Q (F0 m 1089 ls []) := by
  obtain ⟨hx, hb, hml, hown, hts, hfl, hK, hN, hE, hA, hbA, hbl, hX, hL⟩ := B
  obtain ⟨cn, hcn, hcc, hcn0⟩ := RR_cn hR
  have hlim := hR.1
  have hn9 := hR.2.1
  refine lv_aload_n hx hb dL_law_1089 rfl (lv_at hl 1 rfl) ?_
  refine lv_aload_n hx hb dL_law_1090 rfl (lv_at hl 0 rfl) ?_
  refine lv_iload hx hb dL_law_1091 (lv_at hl 4 rfl) ?_
  refine lv_iconst (v := nI 1) hx hb dL_law_1093 (by decide) ?_
  refine x_add (k := i + 1) hx hb dL_law_1094 rfl ?_
  refine x_sld (k := i + 1) hx hb hX hbl hbA hS (by omega) hL dL_law_1095 ?_
  refine lv_aload_n hx hb dL_law_1096 rfl (lv_at hl 0 rfl) ?_
  refine lv_iload hx hb dL_law_1097 (lv_at hl 4 rfl) ?_
  refine lv_iconst (v := nI 2) hx hb dL_law_1099 (by decide) ?_
  refine x_add (k := i + 2) hx hb dL_law_1100 rfl ?_
  refine x_sld (k := i + 2) hx hb hX hbl hbA hS (by omega) hL dL_law_1101 ?_
  refine lv_aload_n hx hb dL_law_1102 rfl (lv_at hl 0 rfl) ?_
  refine lv_iload hx hb dL_law_1103 (lv_at hl 4 rfl) ?_
  refine lv_iconst (v := nI 3) hx hb dL_law_1105 (by decide) ?_
  refine x_add (k := i + 3) hx hb dL_law_1106 rfl ?_
  refine x_sld (k := i + 3) hx hb hX hbl hbA hS (by omega) hL dL_law_1107 ?_
  refine lv_aload_n hx hb dL_law_1108 rfl (lv_at hl 0 rfl) ?_
  refine lv_iload hx hb dL_law_1109 (lv_at hl 4 rfl) ?_
  refine lv_iconst (v := nI 4) hx hb dL_law_1111 (by decide) ?_
  refine x_add (k := i + 4) hx hb dL_law_1112 rfl ?_
  refine x_sld (k := i + 4) hx hb hX hbl hbA hS (by omega) hL dL_law_1113 ?_
  refine lv_aload_n hx hb dL_law_1114 rfl (lv_at hl 3 rfl) ?_
  have hsi : iX (xs (i + 1)) < 3 := iX_lt _
  refine x_calli (w2 := fun (u : S4 × (Nat → Int64)) => LWd cI cP cS cL ad bd ho u.1 u.2 (th, n, lim, row, kept, chg, tab, key, frs, col, rel, num, lis, boo, sta, slo, cop, see, the, her)) (wr := W5 cI bd (th, n, lim, row, kept, chg, tab, key, frs, col, rel, num, lis, boo, sta, slo, cop, see, the, her)) (x_runL (n := 6) ⟨hx, hb, hml, hown, hts⟩ (fL_own l D cI cP cS cL hfl ad ho out lim n rows cc ct ck nr cr old rw co re nu ma sr cp pu st sl (iX (xs (i + 1)))  (xs (i + 1)) (xs (i + 2)) (xs (i + 3)) (xs (i + 4)) hsi (iX_sx _)) gL_law_L_own rfl rfl rfl (by decide +kernel) ⟨by decide, by decide⟩ hN hK hP hD hS hA hE iLb rfl rfl rfl hl.1 (rest := []) (As := [.ref (ad 0), .int (xs (i + 1)), .int (xs (i + 2)), .int (xs (i + 3)), .int (xs (i + 4)), .ref ho]) rfl (Nat.le_of_ble_eq_true rfl) dL_law_1115 ⟨by show _ ≤ 601024; omega, by show _ ≤ 7293034; omega⟩) hP hD hS hA iLb iLm iL2b rfl rfl rfl (by decide) rfl (fun _ => rfl) (fun k9 u H locs hw1 hP hD hS => ?_)
  refine lv_istore (lv' := [(5, .int k9), (0, .ref b), (1, .ref (ad 0)), (2, .ref (bd 0)), (3, .ref ho), (4, .int (nI i))]) hx hb dL_law_1118 hl (by decide) rfl (fun ls hl => ?_)
  refine lv_aload_n hx hb dL_law_1120 rfl (lv_at hl 3 rfl) ?_
  refine lv_aload_n hx hb dL_law_1121 rfl (lv_at hl 1 rfl) ?_
  refine lv_iload hx hb dL_law_1122 (lv_at hl 5 rfl) ?_
  refine lv_iconst (v := nI 1) hx hb dL_law_1124 (by decide) ?_
  refine x_add (k := i + 1) hx hb dL_law_1125 rfl ?_
  refine x_sld (k := i + 1) hx hb hX hbl hbA hS (by omega) hL dL_law_1126 ?_
  refine lv_aload_n hx hb dL_law_1127 rfl (lv_at hl 1 rfl) ?_
  refine lv_iload hx hb dL_law_1128 (lv_at hl 5 rfl) ?_
  refine lv_iconst (v := nI 2) hx hb dL_law_1130 (by decide) ?_
  refine x_add (k := i + 2) hx hb dL_law_1131 rfl ?_
  refine x_sld (k := i + 2) hx hb hX hbl hbA hS (by omega) hL dL_law_1132 ?_
  refine lv_aload_n hx hb dL_law_1133 rfl (lv_at hl 1 rfl) ?_
  refine lv_iload hx hb dL_law_1134 (lv_at hl 5 rfl) ?_
  refine lv_iconst (v := nI 3) hx hb dL_law_1136 (by decide) ?_
  refine x_add (k := i + 3) hx hb dL_law_1137 rfl ?_
  refine x_sld (k := i + 3) hx hb hX hbl hbA hS (by omega) hL dL_law_1138 ?_
  refine lv_aload_n hx hb dL_law_1139 rfl (lv_at hl 1 rfl) ?_
  refine lv_iload hx hb dL_law_1140 (lv_at hl 5 rfl) ?_
  refine lv_iconst (v := nI 4) hx hb dL_law_1142 (by decide) ?_
  refine x_add (k := i + 4) hx hb dL_law_1143 rfl ?_
  refine x_sld (k := i + 4) hx hb hX hbl hbA hS (by omega) hL dL_law_1144 ?_
  refine x_calli (w2 := fun (u2 : S5) => LWd cI cP cS cL ad bd ho u.1 u.2 u2) (wr := W4 cI cP cS ad u.1 ++ WO cL ho u.2) (x_runV (n := 4) ⟨hx, hb, hml, hown, hts⟩ (fX5_own l D cI cP cS cL bd th n lim row kept chg tab key frs col rel num lis boo sta slo cop see the her (xs (i + 1)) (xs (i + 2)) (xs (i + 3)) (xs (i + 4)) ) gL_law_X5_own rfl rfl rfl (by decide +kernel) ⟨by decide, by decide⟩ hN hK hP hD iLm rfl rfl (ci := 5) (q0 := 38) rfl rfl rfl rfl hl.1 (rest := []) (As := [.int (xs (i + 1)), .int (xs (i + 2)), .int (xs (i + 3)), .int (xs (i + 4))]) rfl (Nat.le_of_ble_eq_true rfl) dL_law_1145 ⟨by show _ ≤ 601024; omega, by show _ ≤ 7293034; omega⟩) hP hD hS hA iLm iLb iL2m rfl rfl rfl (by decide) rfl (fun _ => rfl) (fun r9 u2 H locs hw2 hP hD hS => ?_)
  obtain ⟨th2, n2, lim2, row2, kept2, chg2, tab2, key2, frs2, col2, rel2, num2, lis2, boo2, sta2, slo2, cop2, see2, the2, her2⟩ := u2
  refine lv_istore (lv' := [(6, .int r9), (5, .int k9), (0, .ref b), (1, .ref (ad 0)), (2, .ref (bd 0)), (3, .ref ho), (4, .int (nI i))]) hx hb dL_law_1148 hl (by decide) rfl (fun ls hl => ?_)
  refine lv_aload_n hx hb dL_law_1150 rfl (lv_at hl 4 rfl) ?_
  refine x_calli (w2 := fun (u3 : S5) => LWd cI cP cS cL ad bd ho u.1 u.2 u3) (wr := W4 cI cP cS ad u.1 ++ WO cL ho u.2) (x_runV (n := 0) ⟨hx, hb, hml, hown, hts⟩ (fX5_thrown l D cI cP cS cL bd th2 n2 lim2 row2 kept2 chg2 tab2 key2 frs2 col2 rel2 num2 lis2 boo2 sta2 slo2 cop2 see2 the2 her2) gL_law_X5_thrown rfl rfl rfl (by decide +kernel) ⟨by decide, by decide⟩ hN hK hP hD iLm rfl rfl (ci := 5) (q0 := 38) rfl rfl rfl rfl hl.1 (rest := []) (As := []) rfl (Nat.le_of_ble_eq_true rfl) dL_law_1151 ⟨by show _ ≤ 601024; omega, by show _ ≤ 7293034; omega⟩) hP hD hS hA iLm iLb iL2m rfl rfl rfl (by decide) rfl (fun _ => rfl) (fun t9 u3 H locs hw3 hP hD hS => ?_)
  obtain ⟨rfl, rfl⟩ := hw3
  obtain ⟨e1, e2, bk9, hRR⟩ := sM_own hR hw1 hw2
  refine lv_iload hx hb dL_law_1154 (lv_at hl 1 rfl) ?_
  refine x_cmp_eq (tgt := 1161) hx hb (Iff.rfl) dL_law_1156 (by decide) (fun c9 => ?_) (fun c9 => absurd e1 c9)
  refine lv_iload hx hb dL_law_1161 (lv_at hl 1 rfl) ?_
  refine x_if_ne (tgt := 1185) hx hb (Iff.rfl) dL_law_1163 (by decide) (fun c9 => ?_) (fun c9 => ?_)
  · refine lv_goto (tgt := 1535) hx hb dL_law_1185 (by decide) ?_
    exact W.widen (by omega) (by omega) (kk u.1 u.2 (t9, n2, lim2, row2, kept2, chg2, tab2, key2, frs2, col2, rel2, num2, lis2, boo2, sta2, slo2, cop2, see2, the2, her2) H locs ls ⟨bk9, hRR⟩ hP hD hS (lv_sub hl [2, 3, 4, 5, 6] rfl))
  have e4 := e2 (by rw [c9, nI_0])
  refine lv_aload_n hx hb dL_law_1166 rfl (lv_at hl 5 rfl) ?_
  refine lv_iconst (v := nI 0) hx hb dL_law_1167 (by decide) ?_
  refine x_lald (v := u.2 0) hx hb hK hP 37 3 rfl rfl (by omega) (by omega) rfl dL_law_1168 ?_
  refine lv_iload hx hb dL_law_1169 (lv_at hl 0 rfl) ?_
  refine x_if_eq (tgt := 1178) hx hb (Iff.rfl) dL_law_1171 (by decide) (fun c8 => ?_) (fun c8 => ?_)
  · refine lv_lconst (v := 0) hx hb dL_law_1178 (by decide) ?_
    refine x_lcmp0 hx hb (e4.trans (cB_y c8)) dL_law_1179 ?_
    refine x_if_eq (tgt := 1185) hx hb (Iff.rfl) dL_law_1180 (by decide) (fun c9 => ?_) (fun c9 => absurd nI_0 c9)
    refine lv_goto (tgt := 1535) hx hb dL_law_1185 (by decide) ?_
    exact W.widen (by omega) (by omega) (kk u.1 u.2 (t9, n2, lim2, row2, kept2, chg2, tab2, key2, frs2, col2, rel2, num2, lis2, boo2, sta2, slo2, cop2, see2, the2, her2) H locs ls ⟨bk9, hRR⟩ hP hD hS (lv_sub hl [2, 3, 4, 5, 6] rfl))
  refine lv_lconst (v := 1) hx hb dL_law_1174 (by decide) ?_
  refine lv_goto (tgt := 1179) hx hb dL_law_1175 (by decide) ?_
  refine x_lcmp0 hx hb (e4.trans (cB_n c8)) dL_law_1179 ?_
  refine x_if_eq (tgt := 1185) hx hb (Iff.rfl) dL_law_1180 (by decide) (fun c9 => ?_) (fun c9 => absurd nI_0 c9)
  refine lv_goto (tgt := 1535) hx hb dL_law_1185 (by decide) ?_
  exact W.widen (by omega) (by omega) (kk u.1 u.2 (t9, n2, lim2, row2, kept2, chg2, tab2, key2, frs2, col2, rel2, num2, lis2, boo2, sta2, slo2, cop2, see2, the2, her2) H locs ls ⟨bk9, hRR⟩ hP hD hS (lv_sub hl [2, 3, 4, 5, 6] rfl))

set_option maxHeartbeats 8000000 in
set_option maxRecDepth 100000 in
theorem lC_state {p : Program} {l : Launch} {e : Env} {s : State} {m : MethodId} {below : List Frame} {meth : Method} {c : Code} {H : Heap} {locs : List Loc} {cells slots : Nat} {Q : State → Prop} {ls : Array Slot} {D : va_G} {cI cP cS cL : ClassId} {A : Nat → Prop} {ad bd bk : Nat → Nat} {ho b L i : Nat} {xs : Nat → Int32} {out : Nat → Int64} {lim n : Nat} {rows cc ct ck nr cr old rw : qF} {co re nu ma sr cp : Nat → qF} {pu : Nat → Option Nat} {st sl : Nat → Nat} {th : Int32} {row kept chg tab key frs col rel num lis boo sta slo cop see the her : qF} (B : lwB p l s m c D cI cP cS cL A b L xs) (hinj : ∀ x y, x < 3 → y < 3 → ad (13 + 5 * x) = ad (13 + 5 * y) → x = y) (hi : i + 6 ≤ L) (hf : cells + 100 ≤ 601024 ∧ slots + 1000 ≤ 7293034) (hR : RR ad bk lim n rows cc ct ck nr cr co re nu ma sr cp pu st sl row kept chg tab key frs col rel num lis boo sta slo cop see) (hP : va_P D vwCl (LWd cI cP cS cL ad bd ho (lim, n, rows, cc, ct, ck, nr, cr, old, rw, co, re, nu, ma, sr, cp, pu, st, sl) out (th, n, lim, row, kept, chg, tab, key, frs, col, rel, num, lis, boo, sta, slo, cop, see, the, her)) H) (hD : va_D A (LWd cI cP cS cL ad bd ho (lim, n, rows, cc, ct, ck, nr, cr, old, rw, co, re, nu, ma, sr, cp, pu, st, sl) out (th, n, lim, row, kept, chg, tab, key, frs, col, rel, num, lis, boo, sta, slo, cop, see, the, her))) (hS : va_S A s.heap H locs) (hl : lv_has ls 7 [(0, .ref b), (1, .ref (ad 0)), (2, .ref (bd 0)), (3, .ref ho), (4, .int (nI i))]) (kk : ∀ (s4 : S4) (out : Nat → Int64) (s5 : S5) (H : Heap) (locs : List Loc) (ls : Array Slot), (∃ bk, RRt ad bk s4 s5) → va_P D vwCl (LWd cI cP cS cL ad bd ho s4 out s5) H → va_D A (LWd cI cP cS cL ad bd ho s4 out s5) → va_S A s.heap H locs → lv_has ls 7 [(0, .ref b), (1, .ref (ad 0)), (2, .ref (bd 0)), (3, .ref ho), (4, .int (nI i))] → W p l e room_1 s m #[Value.ref b] below meth c H locs (cells + 8) (slots + 40) Q (F0 m 1535 ls [])) : W p l e room_1 s m #[Value.ref b] below meth c H locs cells slots Q (F0 m 1188 ls []) := by
  obtain ⟨hx, hb, hml, hown, hts, hfl, hK, hN, hE, hA, hbA, hbl, hX, hL⟩ := B
  obtain ⟨cn, hcn, hcc, hcn0⟩ := RR_cn hR
  have hlim := hR.1
  have hn9 := hR.2.1
  refine lv_aload_n hx hb dL_law_1188 rfl (lv_at hl 1 rfl) ?_
  refine lv_aload_n hx hb dL_law_1189 rfl (lv_at hl 0 rfl) ?_
  refine lv_iload hx hb dL_law_1190 (lv_at hl 4 rfl) ?_
  refine lv_iconst (v := nI 1) hx hb dL_law_1192 (by decide) ?_
  refine x_add (k := i + 1) hx hb dL_law_1193 rfl ?_
  refine x_sld (k := i + 1) hx hb hX hbl hbA hS (by omega) hL dL_law_1194 ?_
  refine lv_aload_n hx hb dL_law_1195 rfl (lv_at hl 3 rfl) ?_
  have hsi : iX (xs (i + 1)) < 3 := iX_lt _
  refine x_calli (w2 := fun (u : S4 × (Nat → Int64)) => LWd cI cP cS cL ad bd ho u.1 u.2 (th, n, lim, row, kept, chg, tab, key, frs, col, rel, num, lis, boo, sta, slo, cop, see, the, her)) (wr := W5 cI bd (th, n, lim, row, kept, chg, tab, key, frs, col, rel, num, lis, boo, sta, slo, cop, see, the, her)) (x_runL (n := 3) ⟨hx, hb, hml, hown, hts⟩ (fL_state l D cI cP cS cL hfl ad ho out lim n rows cc ct ck nr cr old rw co re nu ma sr cp pu st sl (iX (xs (i + 1)))  (xs (i + 1)) hsi (iX_sx _)) gL_law_L_state rfl rfl rfl (by decide +kernel) ⟨by decide, by decide⟩ hN hK hP hD hS hA hE iLb rfl rfl rfl hl.1 (rest := []) (As := [.ref (ad 0), .int (xs (i + 1)), .ref ho]) rfl (Nat.le_of_ble_eq_true rfl) dL_law_1196 ⟨by show _ ≤ 601024; omega, by show _ ≤ 7293034; omega⟩) hP hD hS hA iLb iLm iL2b rfl rfl rfl (by decide) rfl (fun _ => rfl) (fun k9 u H locs hw1 hP hD hS => ?_)
  refine lv_istore (lv' := [(5, .int k9), (0, .ref b), (1, .ref (ad 0)), (2, .ref (bd 0)), (3, .ref ho), (4, .int (nI i))]) hx hb dL_law_1199 hl (by decide) rfl (fun ls hl => ?_)
  refine lv_aload_n hx hb dL_law_1201 rfl (lv_at hl 3 rfl) ?_
  refine lv_aload_n hx hb dL_law_1202 rfl (lv_at hl 1 rfl) ?_
  refine lv_iload hx hb dL_law_1203 (lv_at hl 5 rfl) ?_
  refine lv_iconst (v := nI 1) hx hb dL_law_1205 (by decide) ?_
  refine x_add (k := i + 1) hx hb dL_law_1206 rfl ?_
  refine x_sld (k := i + 1) hx hb hX hbl hbA hS (by omega) hL dL_law_1207 ?_
  refine x_calli (w2 := fun (u2 : S5) => LWd cI cP cS cL ad bd ho u.1 u.2 u2) (wr := W4 cI cP cS ad u.1 ++ WO cL ho u.2) (x_runV (n := 1) ⟨hx, hb, hml, hown, hts⟩ (fX5_state l D cI cP cS cL bd th n lim row kept chg tab key frs col rel num lis boo sta slo cop see the her st (xs (i + 1)) (RR_sta hR)) gL_law_X5_state rfl rfl rfl (by decide +kernel) ⟨by decide, by decide⟩ hN hK hP hD iLm rfl rfl (ci := 5) (q0 := 38) rfl rfl rfl rfl hl.1 (rest := []) (As := [.int (xs (i + 1))]) rfl (Nat.le_of_ble_eq_true rfl) dL_law_1208 ⟨by show _ ≤ 601024; omega, by show _ ≤ 7293034; omega⟩) hP hD hS hA iLm iLb iL2m rfl rfl rfl (by decide) rfl (fun _ => rfl) (fun r9 u2 H locs hw2 hP hD hS => ?_)
  obtain ⟨th2, n2, lim2, row2, kept2, chg2, tab2, key2, frs2, col2, rel2, num2, lis2, boo2, sta2, slo2, cop2, see2, the2, her2⟩ := u2
  refine lv_istore (lv' := [(6, .int r9), (5, .int k9), (0, .ref b), (1, .ref (ad 0)), (2, .ref (bd 0)), (3, .ref ho), (4, .int (nI i))]) hx hb dL_law_1211 hl (by decide) rfl (fun ls hl => ?_)
  refine lv_aload_n hx hb dL_law_1213 rfl (lv_at hl 4 rfl) ?_
  refine x_calli (w2 := fun (u3 : S5) => LWd cI cP cS cL ad bd ho u.1 u.2 u3) (wr := W4 cI cP cS ad u.1 ++ WO cL ho u.2) (x_runV (n := 0) ⟨hx, hb, hml, hown, hts⟩ (fX5_thrown l D cI cP cS cL bd th2 n2 lim2 row2 kept2 chg2 tab2 key2 frs2 col2 rel2 num2 lis2 boo2 sta2 slo2 cop2 see2 the2 her2) gL_law_X5_thrown rfl rfl rfl (by decide +kernel) ⟨by decide, by decide⟩ hN hK hP hD iLm rfl rfl (ci := 5) (q0 := 38) rfl rfl rfl rfl hl.1 (rest := []) (As := []) rfl (Nat.le_of_ble_eq_true rfl) dL_law_1214 ⟨by show _ ≤ 601024; omega, by show _ ≤ 7293034; omega⟩) hP hD hS hA iLm iLb iL2m rfl rfl rfl (by decide) rfl (fun _ => rfl) (fun t9 u3 H locs hw3 hP hD hS => ?_)
  obtain ⟨rfl, rfl⟩ := hw3
  obtain ⟨e1, e2, bk9, hRR⟩ := sM_state hR hw1 hw2
  refine lv_iload hx hb dL_law_1217 (lv_at hl 1 rfl) ?_
  refine x_cmp_eq (tgt := 1224) hx hb (Iff.rfl) dL_law_1219 (by decide) (fun c9 => ?_) (fun c9 => absurd e1 c9)
  refine lv_iload hx hb dL_law_1224 (lv_at hl 1 rfl) ?_
  refine x_if_ne (tgt := 1241) hx hb (Iff.rfl) dL_law_1226 (by decide) (fun c9 => ?_) (fun c9 => ?_)
  · refine lv_goto (tgt := 1535) hx hb dL_law_1241 (by decide) ?_
    exact W.widen (by omega) (by omega) (kk u.1 u.2 (t9, n2, lim2, row2, kept2, chg2, tab2, key2, frs2, col2, rel2, num2, lis2, boo2, sta2, slo2, cop2, see2, the2, her2) H locs ls ⟨bk9, hRR⟩ hP hD hS (lv_sub hl [2, 3, 4, 5, 6] rfl))
  have e4 := e2 (by rw [c9, nI_0])
  refine lv_aload_n hx hb dL_law_1229 rfl (lv_at hl 5 rfl) ?_
  refine lv_iconst (v := nI 0) hx hb dL_law_1230 (by decide) ?_
  refine x_lald (v := u.2 0) hx hb hK hP 37 3 rfl rfl (by omega) (by omega) rfl dL_law_1231 ?_
  refine lv_iload hx hb dL_law_1232 (lv_at hl 0 rfl) ?_
  refine lv_i2l (v := r9.toInt64) hx hb dL_law_1234 rfl ?_
  refine x_lcmp0 hx hb e4 dL_law_1235 ?_
  refine x_if_eq (tgt := 1241) hx hb (Iff.rfl) dL_law_1236 (by decide) (fun c9 => ?_) (fun c9 => absurd nI_0 c9)
  refine lv_goto (tgt := 1535) hx hb dL_law_1241 (by decide) ?_
  exact W.widen (by omega) (by omega) (kk u.1 u.2 (t9, n2, lim2, row2, kept2, chg2, tab2, key2, frs2, col2, rel2, num2, lis2, boo2, sta2, slo2, cop2, see2, the2, her2) H locs ls ⟨bk9, hRR⟩ hP hD hS (lv_sub hl [2, 3, 4, 5, 6] rfl))

set_option maxHeartbeats 8000000 in
set_option maxRecDepth 100000 in
theorem lC_lag {p : Program} {l : Launch} {e : Env} {s : State} {m : MethodId} {below : List Frame} {meth : Method} {c : Code} {H : Heap} {locs : List Loc} {cells slots : Nat} {Q : State → Prop} {ls : Array Slot} {D : va_G} {cI cP cS cL : ClassId} {A : Nat → Prop} {ad bd bk : Nat → Nat} {ho b L i : Nat} {xs : Nat → Int32} {out : Nat → Int64} {lim n : Nat} {rows cc ct ck nr cr old rw : qF} {co re nu ma sr cp : Nat → qF} {pu : Nat → Option Nat} {st sl : Nat → Nat} {th : Int32} {row kept chg tab key frs col rel num lis boo sta slo cop see the her : qF} (B : lwB p l s m c D cI cP cS cL A b L xs) (hinj : ∀ x y, x < 3 → y < 3 → ad (13 + 5 * x) = ad (13 + 5 * y) → x = y) (hi : i + 6 ≤ L) (hf : cells + 100 ≤ 601024 ∧ slots + 1000 ≤ 7293034) (hR : RR ad bk lim n rows cc ct ck nr cr co re nu ma sr cp pu st sl row kept chg tab key frs col rel num lis boo sta slo cop see) (hP : va_P D vwCl (LWd cI cP cS cL ad bd ho (lim, n, rows, cc, ct, ck, nr, cr, old, rw, co, re, nu, ma, sr, cp, pu, st, sl) out (th, n, lim, row, kept, chg, tab, key, frs, col, rel, num, lis, boo, sta, slo, cop, see, the, her)) H) (hD : va_D A (LWd cI cP cS cL ad bd ho (lim, n, rows, cc, ct, ck, nr, cr, old, rw, co, re, nu, ma, sr, cp, pu, st, sl) out (th, n, lim, row, kept, chg, tab, key, frs, col, rel, num, lis, boo, sta, slo, cop, see, the, her))) (hS : va_S A s.heap H locs) (hl : lv_has ls 7 [(0, .ref b), (1, .ref (ad 0)), (2, .ref (bd 0)), (3, .ref ho), (4, .int (nI i))]) (kk : ∀ (s4 : S4) (out : Nat → Int64) (s5 : S5) (H : Heap) (locs : List Loc) (ls : Array Slot), (∃ bk, RRt ad bk s4 s5) → va_P D vwCl (LWd cI cP cS cL ad bd ho s4 out s5) H → va_D A (LWd cI cP cS cL ad bd ho s4 out s5) → va_S A s.heap H locs → lv_has ls 7 [(0, .ref b), (1, .ref (ad 0)), (2, .ref (bd 0)), (3, .ref ho), (4, .int (nI i))] → W p l e room_1 s m #[Value.ref b] below meth c H locs (cells + 8) (slots + 40) Q (F0 m 1535 ls [])) : W p l e room_1 s m #[Value.ref b] below meth c H locs cells slots Q (F0 m 1244 ls []) := by
  obtain ⟨hx, hb, hml, hown, hts, hfl, hK, hN, hE, hA, hbA, hbl, hX, hL⟩ := B
  obtain ⟨cn, hcn, hcc, hcn0⟩ := RR_cn hR
  have hlim := hR.1
  have hn9 := hR.2.1
  refine lv_aload_n hx hb dL_law_1244 rfl (lv_at hl 1 rfl) ?_
  refine lv_aload_n hx hb dL_law_1245 rfl (lv_at hl 0 rfl) ?_
  refine lv_iload hx hb dL_law_1246 (lv_at hl 4 rfl) ?_
  refine lv_iconst (v := nI 1) hx hb dL_law_1248 (by decide) ?_
  refine x_add (k := i + 1) hx hb dL_law_1249 rfl ?_
  refine x_sld (k := i + 1) hx hb hX hbl hbA hS (by omega) hL dL_law_1250 ?_
  refine lv_aload_n hx hb dL_law_1251 rfl (lv_at hl 3 rfl) ?_
  have hsi : iX (xs (i + 1)) < 3 := iX_lt _
  refine x_calli (w2 := fun (u : S4 × (Nat → Int64)) => LWd cI cP cS cL ad bd ho u.1 u.2 (th, n, lim, row, kept, chg, tab, key, frs, col, rel, num, lis, boo, sta, slo, cop, see, the, her)) (wr := W5 cI bd (th, n, lim, row, kept, chg, tab, key, frs, col, rel, num, lis, boo, sta, slo, cop, see, the, her)) (x_runL (n := 3) ⟨hx, hb, hml, hown, hts⟩ (fL_lag l D cI cP cS cL hfl ad ho out lim n rows cc ct ck nr cr old rw co re nu ma sr cp pu st sl (iX (xs (i + 1)))  (xs (i + 1)) hsi (iX_sx _) (RR_st3 hR _ hsi) (RR_sl hR _ hsi) hn9) gL_law_L_lag rfl rfl rfl (by decide +kernel) ⟨by decide, by decide⟩ hN hK hP hD hS hA hE iLb rfl rfl rfl hl.1 (rest := []) (As := [.ref (ad 0), .int (xs (i + 1)), .ref ho]) rfl (Nat.le_of_ble_eq_true rfl) dL_law_1252 ⟨by show _ ≤ 601024; omega, by show _ ≤ 7293034; omega⟩) hP hD hS hA iLb iLm iL2b rfl rfl rfl (by decide) rfl (fun _ => rfl) (fun k9 u H locs hw1 hP hD hS => ?_)
  refine lv_istore (lv' := [(5, .int k9), (0, .ref b), (1, .ref (ad 0)), (2, .ref (bd 0)), (3, .ref ho), (4, .int (nI i))]) hx hb dL_law_1255 hl (by decide) rfl (fun ls hl => ?_)
  refine lv_aload_n hx hb dL_law_1257 rfl (lv_at hl 3 rfl) ?_
  refine lv_aload_n hx hb dL_law_1258 rfl (lv_at hl 1 rfl) ?_
  refine lv_iload hx hb dL_law_1259 (lv_at hl 5 rfl) ?_
  refine lv_iconst (v := nI 1) hx hb dL_law_1261 (by decide) ?_
  refine x_add (k := i + 1) hx hb dL_law_1262 rfl ?_
  refine x_sld (k := i + 1) hx hb hX hbl hbA hS (by omega) hL dL_law_1263 ?_
  refine x_calli (w2 := fun (u2 : S5) => LWd cI cP cS cL ad bd ho u.1 u.2 u2) (wr := W4 cI cP cS ad u.1 ++ WO cL ho u.2) (x_runV (n := 1) ⟨hx, hb, hml, hown, hts⟩ (fX5_lag l D cI cP cS cL bd th n lim row kept chg tab key frs col rel num lis boo sta slo cop see the her st sl (xs (i + 1)) (RR_sta hR) (RR_st3 hR) (RR_slo hR) (RR_sl hR) hn9) gL_law_X5_lag rfl rfl rfl (by decide +kernel) ⟨by decide, by decide⟩ hN hK hP hD iLm rfl rfl (ci := 5) (q0 := 38) rfl rfl rfl rfl hl.1 (rest := []) (As := [.int (xs (i + 1))]) rfl (Nat.le_of_ble_eq_true rfl) dL_law_1264 ⟨by show _ ≤ 601024; omega, by show _ ≤ 7293034; omega⟩) hP hD hS hA iLm iLb iL2m rfl rfl rfl (by decide) rfl (fun _ => rfl) (fun r9 u2 H locs hw2 hP hD hS => ?_)
  obtain ⟨th2, n2, lim2, row2, kept2, chg2, tab2, key2, frs2, col2, rel2, num2, lis2, boo2, sta2, slo2, cop2, see2, the2, her2⟩ := u2
  refine lv_istore (lv' := [(6, .int r9), (5, .int k9), (0, .ref b), (1, .ref (ad 0)), (2, .ref (bd 0)), (3, .ref ho), (4, .int (nI i))]) hx hb dL_law_1267 hl (by decide) rfl (fun ls hl => ?_)
  refine lv_aload_n hx hb dL_law_1269 rfl (lv_at hl 4 rfl) ?_
  refine x_calli (w2 := fun (u3 : S5) => LWd cI cP cS cL ad bd ho u.1 u.2 u3) (wr := W4 cI cP cS ad u.1 ++ WO cL ho u.2) (x_runV (n := 0) ⟨hx, hb, hml, hown, hts⟩ (fX5_thrown l D cI cP cS cL bd th2 n2 lim2 row2 kept2 chg2 tab2 key2 frs2 col2 rel2 num2 lis2 boo2 sta2 slo2 cop2 see2 the2 her2) gL_law_X5_thrown rfl rfl rfl (by decide +kernel) ⟨by decide, by decide⟩ hN hK hP hD iLm rfl rfl (ci := 5) (q0 := 38) rfl rfl rfl rfl hl.1 (rest := []) (As := []) rfl (Nat.le_of_ble_eq_true rfl) dL_law_1270 ⟨by show _ ≤ 601024; omega, by show _ ≤ 7293034; omega⟩) hP hD hS hA iLm iLb iL2m rfl rfl rfl (by decide) rfl (fun _ => rfl) (fun t9 u3 H locs hw3 hP hD hS => ?_)
  obtain ⟨rfl, rfl⟩ := hw3
  obtain ⟨e1, e2, bk9, hRR⟩ := sM_lag hR hw1 hw2
  refine lv_iload hx hb dL_law_1273 (lv_at hl 1 rfl) ?_
  refine x_cmp_eq (tgt := 1280) hx hb (Iff.rfl) dL_law_1275 (by decide) (fun c9 => ?_) (fun c9 => absurd e1 c9)
  refine lv_iload hx hb dL_law_1280 (lv_at hl 1 rfl) ?_
  refine x_if_ne (tgt := 1297) hx hb (Iff.rfl) dL_law_1282 (by decide) (fun c9 => ?_) (fun c9 => ?_)
  · refine lv_goto (tgt := 1535) hx hb dL_law_1297 (by decide) ?_
    exact W.widen (by omega) (by omega) (kk u.1 u.2 (t9, n2, lim2, row2, kept2, chg2, tab2, key2, frs2, col2, rel2, num2, lis2, boo2, sta2, slo2, cop2, see2, the2, her2) H locs ls ⟨bk9, hRR⟩ hP hD hS (lv_sub hl [2, 3, 4, 5, 6] rfl))
  have e4 := e2 (by rw [c9, nI_0])
  refine lv_aload_n hx hb dL_law_1285 rfl (lv_at hl 5 rfl) ?_
  refine lv_iconst (v := nI 0) hx hb dL_law_1286 (by decide) ?_
  refine x_lald (v := u.2 0) hx hb hK hP 37 3 rfl rfl (by omega) (by omega) rfl dL_law_1287 ?_
  refine lv_iload hx hb dL_law_1288 (lv_at hl 0 rfl) ?_
  refine lv_i2l (v := r9.toInt64) hx hb dL_law_1290 rfl ?_
  refine x_lcmp0 hx hb e4 dL_law_1291 ?_
  refine x_if_eq (tgt := 1297) hx hb (Iff.rfl) dL_law_1292 (by decide) (fun c9 => ?_) (fun c9 => absurd nI_0 c9)
  refine lv_goto (tgt := 1535) hx hb dL_law_1297 (by decide) ?_
  exact W.widen (by omega) (by omega) (kk u.1 u.2 (t9, n2, lim2, row2, kept2, chg2, tab2, key2, frs2, col2, rel2, num2, lis2, boo2, sta2, slo2, cop2, see2, the2, her2) H locs ls ⟨bk9, hRR⟩ hP hD hS (lv_sub hl [2, 3, 4, 5, 6] rfl))

set_option maxHeartbeats 8000000 in
set_option maxRecDepth 100000 in
theorem lC_copiedAt {p : Program} {l : Launch} {e : Env} {s : State} {m : MethodId} {below : List Frame} {meth : Method} {c : Code} {H : Heap} {locs : List Loc} {cells slots : Nat} {Q : State → Prop} {ls : Array Slot} {D : va_G} {cI cP cS cL : ClassId} {A : Nat → Prop} {ad bd bk : Nat → Nat} {ho b L i : Nat} {xs : Nat → Int32} {out : Nat → Int64} {lim n : Nat} {rows cc ct ck nr cr old rw : qF} {co re nu ma sr cp : Nat → qF} {pu : Nat → Option Nat} {st sl : Nat → Nat} {th : Int32} {row kept chg tab key frs col rel num lis boo sta slo cop see the her : qF} (B : lwB p l s m c D cI cP cS cL A b L xs) (hinj : ∀ x y, x < 3 → y < 3 → ad (13 + 5 * x) = ad (13 + 5 * y) → x = y) (hi : i + 6 ≤ L) (hf : cells + 100 ≤ 601024 ∧ slots + 1000 ≤ 7293034) (hR : RR ad bk lim n rows cc ct ck nr cr co re nu ma sr cp pu st sl row kept chg tab key frs col rel num lis boo sta slo cop see) (hP : va_P D vwCl (LWd cI cP cS cL ad bd ho (lim, n, rows, cc, ct, ck, nr, cr, old, rw, co, re, nu, ma, sr, cp, pu, st, sl) out (th, n, lim, row, kept, chg, tab, key, frs, col, rel, num, lis, boo, sta, slo, cop, see, the, her)) H) (hD : va_D A (LWd cI cP cS cL ad bd ho (lim, n, rows, cc, ct, ck, nr, cr, old, rw, co, re, nu, ma, sr, cp, pu, st, sl) out (th, n, lim, row, kept, chg, tab, key, frs, col, rel, num, lis, boo, sta, slo, cop, see, the, her))) (hS : va_S A s.heap H locs) (hl : lv_has ls 7 [(0, .ref b), (1, .ref (ad 0)), (2, .ref (bd 0)), (3, .ref ho), (4, .int (nI i))]) (kk : ∀ (s4 : S4) (out : Nat → Int64) (s5 : S5) (H : Heap) (locs : List Loc) (ls : Array Slot), (∃ bk, RRt ad bk s4 s5) → va_P D vwCl (LWd cI cP cS cL ad bd ho s4 out s5) H → va_D A (LWd cI cP cS cL ad bd ho s4 out s5) → va_S A s.heap H locs → lv_has ls 7 [(0, .ref b), (1, .ref (ad 0)), (2, .ref (bd 0)), (3, .ref ho), (4, .int (nI i))] → W p l e room_1 s m #[Value.ref b] below meth c H locs (cells + 8) (slots + 40) Q (F0 m 1535 ls [])) : W p l e room_1 s m #[Value.ref b] below meth c H locs cells slots Q (F0 m 1300 ls []) := by
  obtain ⟨hx, hb, hml, hown, hts, hfl, hK, hN, hE, hA, hbA, hbl, hX, hL⟩ := B
  obtain ⟨cn, hcn, hcc, hcn0⟩ := RR_cn hR
  have hlim := hR.1
  have hn9 := hR.2.1
  refine lv_aload_n hx hb dL_law_1300 rfl (lv_at hl 1 rfl) ?_
  refine lv_aload_n hx hb dL_law_1301 rfl (lv_at hl 0 rfl) ?_
  refine lv_iload hx hb dL_law_1302 (lv_at hl 4 rfl) ?_
  refine lv_iconst (v := nI 1) hx hb dL_law_1304 (by decide) ?_
  refine x_add (k := i + 1) hx hb dL_law_1305 rfl ?_
  refine x_sld (k := i + 1) hx hb hX hbl hbA hS (by omega) hL dL_law_1306 ?_
  refine lv_aload_n hx hb dL_law_1307 rfl (lv_at hl 0 rfl) ?_
  refine lv_iload hx hb dL_law_1308 (lv_at hl 4 rfl) ?_
  refine lv_iconst (v := nI 2) hx hb dL_law_1310 (by decide) ?_
  refine x_add (k := i + 2) hx hb dL_law_1311 rfl ?_
  refine x_sld (k := i + 2) hx hb hX hbl hbA hS (by omega) hL dL_law_1312 ?_
  refine lv_aload_n hx hb dL_law_1313 rfl (lv_at hl 3 rfl) ?_
  have hsi : iX (xs (i + 1)) < 3 := iX_lt _
  refine x_calli (w2 := fun (u : S4 × (Nat → Int64)) => LWd cI cP cS cL ad bd ho u.1 u.2 (th, n, lim, row, kept, chg, tab, key, frs, col, rel, num, lis, boo, sta, slo, cop, see, the, her)) (wr := W5 cI bd (th, n, lim, row, kept, chg, tab, key, frs, col, rel, num, lis, boo, sta, slo, cop, see, the, her)) (x_runL (n := 4) ⟨hx, hb, hml, hown, hts⟩ (fL_copiedAt l D cI cP cS cL hfl ad ho out lim n rows cc ct ck nr cr old rw co re nu ma sr cp pu st sl (iX (xs (i + 1)))  (xs (i + 1)) (xs (i + 2)) hsi (iX_sx _)) gL_law_L_copiedAt rfl rfl rfl (by decide +kernel) ⟨by decide, by decide⟩ hN hK hP hD hS hA hE iLb rfl rfl rfl hl.1 (rest := []) (As := [.ref (ad 0), .int (xs (i + 1)), .int (xs (i + 2)), .ref ho]) rfl (Nat.le_of_ble_eq_true rfl) dL_law_1314 ⟨by show _ ≤ 601024; omega, by show _ ≤ 7293034; omega⟩) hP hD hS hA iLb iLm iL2b rfl rfl rfl (by decide) rfl (fun _ => rfl) (fun k9 u H locs hw1 hP hD hS => ?_)
  refine lv_istore (lv' := [(5, .int k9), (0, .ref b), (1, .ref (ad 0)), (2, .ref (bd 0)), (3, .ref ho), (4, .int (nI i))]) hx hb dL_law_1317 hl (by decide) rfl (fun ls hl => ?_)
  refine lv_aload_n hx hb dL_law_1319 rfl (lv_at hl 3 rfl) ?_
  refine lv_aload_n hx hb dL_law_1320 rfl (lv_at hl 1 rfl) ?_
  refine lv_iload hx hb dL_law_1321 (lv_at hl 5 rfl) ?_
  refine lv_iconst (v := nI 1) hx hb dL_law_1323 (by decide) ?_
  refine x_add (k := i + 1) hx hb dL_law_1324 rfl ?_
  refine x_sld (k := i + 1) hx hb hX hbl hbA hS (by omega) hL dL_law_1325 ?_
  refine lv_aload_n hx hb dL_law_1326 rfl (lv_at hl 1 rfl) ?_
  refine lv_iload hx hb dL_law_1327 (lv_at hl 5 rfl) ?_
  refine lv_iconst (v := nI 2) hx hb dL_law_1329 (by decide) ?_
  refine x_add (k := i + 2) hx hb dL_law_1330 rfl ?_
  refine x_sld (k := i + 2) hx hb hX hbl hbA hS (by omega) hL dL_law_1331 ?_
  refine x_calli (w2 := fun (u2 : S5) => LWd cI cP cS cL ad bd ho u.1 u.2 u2) (wr := W4 cI cP cS ad u.1 ++ WO cL ho u.2) (x_runV (n := 2) ⟨hx, hb, hml, hown, hts⟩ (fX5_copiedAt l D cI cP cS cL bd th n lim row kept chg tab key frs col rel num lis boo sta slo cop see the her (xs (i + 1)) (xs (i + 2)) ) gL_law_X5_copiedAt rfl rfl rfl (by decide +kernel) ⟨by decide, by decide⟩ hN hK hP hD iLm rfl rfl (ci := 5) (q0 := 38) rfl rfl rfl rfl hl.1 (rest := []) (As := [.int (xs (i + 1)), .int (xs (i + 2))]) rfl (Nat.le_of_ble_eq_true rfl) dL_law_1332 ⟨by show _ ≤ 601024; omega, by show _ ≤ 7293034; omega⟩) hP hD hS hA iLm iLb iL2m rfl rfl rfl (by decide) rfl (fun _ => rfl) (fun r9 u2 H locs hw2 hP hD hS => ?_)
  obtain ⟨th2, n2, lim2, row2, kept2, chg2, tab2, key2, frs2, col2, rel2, num2, lis2, boo2, sta2, slo2, cop2, see2, the2, her2⟩ := u2
  refine lv_istore (lv' := [(6, .int r9), (5, .int k9), (0, .ref b), (1, .ref (ad 0)), (2, .ref (bd 0)), (3, .ref ho), (4, .int (nI i))]) hx hb dL_law_1335 hl (by decide) rfl (fun ls hl => ?_)
  refine lv_aload_n hx hb dL_law_1337 rfl (lv_at hl 4 rfl) ?_
  refine x_calli (w2 := fun (u3 : S5) => LWd cI cP cS cL ad bd ho u.1 u.2 u3) (wr := W4 cI cP cS ad u.1 ++ WO cL ho u.2) (x_runV (n := 0) ⟨hx, hb, hml, hown, hts⟩ (fX5_thrown l D cI cP cS cL bd th2 n2 lim2 row2 kept2 chg2 tab2 key2 frs2 col2 rel2 num2 lis2 boo2 sta2 slo2 cop2 see2 the2 her2) gL_law_X5_thrown rfl rfl rfl (by decide +kernel) ⟨by decide, by decide⟩ hN hK hP hD iLm rfl rfl (ci := 5) (q0 := 38) rfl rfl rfl rfl hl.1 (rest := []) (As := []) rfl (Nat.le_of_ble_eq_true rfl) dL_law_1338 ⟨by show _ ≤ 601024; omega, by show _ ≤ 7293034; omega⟩) hP hD hS hA iLm iLb iL2m rfl rfl rfl (by decide) rfl (fun _ => rfl) (fun t9 u3 H locs hw3 hP hD hS => ?_)
  obtain ⟨rfl, rfl⟩ := hw3
  obtain ⟨e1, e2, bk9, hRR⟩ := sM_copiedAt hR hw1 hw2
  refine lv_iload hx hb dL_law_1341 (lv_at hl 1 rfl) ?_
  refine x_cmp_eq (tgt := 1348) hx hb (Iff.rfl) dL_law_1343 (by decide) (fun c9 => ?_) (fun c9 => absurd e1 c9)
  refine lv_iload hx hb dL_law_1348 (lv_at hl 1 rfl) ?_
  refine x_if_ne (tgt := 1365) hx hb (Iff.rfl) dL_law_1350 (by decide) (fun c9 => ?_) (fun c9 => ?_)
  · refine lv_goto (tgt := 1535) hx hb dL_law_1365 (by decide) ?_
    exact W.widen (by omega) (by omega) (kk u.1 u.2 (t9, n2, lim2, row2, kept2, chg2, tab2, key2, frs2, col2, rel2, num2, lis2, boo2, sta2, slo2, cop2, see2, the2, her2) H locs ls ⟨bk9, hRR⟩ hP hD hS (lv_sub hl [2, 3, 4, 5, 6] rfl))
  have e4 := e2 (by rw [c9, nI_0])
  refine lv_aload_n hx hb dL_law_1353 rfl (lv_at hl 5 rfl) ?_
  refine lv_iconst (v := nI 0) hx hb dL_law_1354 (by decide) ?_
  refine x_lald (v := u.2 0) hx hb hK hP 37 3 rfl rfl (by omega) (by omega) rfl dL_law_1355 ?_
  refine lv_iload hx hb dL_law_1356 (lv_at hl 0 rfl) ?_
  refine lv_i2l (v := r9.toInt64) hx hb dL_law_1358 rfl ?_
  refine x_lcmp0 hx hb e4 dL_law_1359 ?_
  refine x_if_eq (tgt := 1365) hx hb (Iff.rfl) dL_law_1360 (by decide) (fun c9 => ?_) (fun c9 => absurd nI_0 c9)
  refine lv_goto (tgt := 1535) hx hb dL_law_1365 (by decide) ?_
  exact W.widen (by omega) (by omega) (kk u.1 u.2 (t9, n2, lim2, row2, kept2, chg2, tab2, key2, frs2, col2, rel2, num2, lis2, boo2, sta2, slo2, cop2, see2, the2, her2) H locs ls ⟨bk9, hRR⟩ hP hD hS (lv_sub hl [2, 3, 4, 5, 6] rfl))

set_option maxHeartbeats 8000000 in
set_option maxRecDepth 100000 in
theorem lC_seen {p : Program} {l : Launch} {e : Env} {s : State} {m : MethodId} {below : List Frame} {meth : Method} {c : Code} {H : Heap} {locs : List Loc} {cells slots : Nat} {Q : State → Prop} {ls : Array Slot} {D : va_G} {cI cP cS cL : ClassId} {A : Nat → Prop} {ad bd bk : Nat → Nat} {ho b L i : Nat} {xs : Nat → Int32} {out : Nat → Int64} {lim n : Nat} {rows cc ct ck nr cr old rw : qF} {co re nu ma sr cp : Nat → qF} {pu : Nat → Option Nat} {st sl : Nat → Nat} {th : Int32} {row kept chg tab key frs col rel num lis boo sta slo cop see the her : qF} (B : lwB p l s m c D cI cP cS cL A b L xs) (hinj : ∀ x y, x < 3 → y < 3 → ad (13 + 5 * x) = ad (13 + 5 * y) → x = y) (hi : i + 6 ≤ L) (hf : cells + 100 ≤ 601024 ∧ slots + 1000 ≤ 7293034) (hR : RR ad bk lim n rows cc ct ck nr cr co re nu ma sr cp pu st sl row kept chg tab key frs col rel num lis boo sta slo cop see) (hP : va_P D vwCl (LWd cI cP cS cL ad bd ho (lim, n, rows, cc, ct, ck, nr, cr, old, rw, co, re, nu, ma, sr, cp, pu, st, sl) out (th, n, lim, row, kept, chg, tab, key, frs, col, rel, num, lis, boo, sta, slo, cop, see, the, her)) H) (hD : va_D A (LWd cI cP cS cL ad bd ho (lim, n, rows, cc, ct, ck, nr, cr, old, rw, co, re, nu, ma, sr, cp, pu, st, sl) out (th, n, lim, row, kept, chg, tab, key, frs, col, rel, num, lis, boo, sta, slo, cop, see, the, her))) (hS : va_S A s.heap H locs) (hl : lv_has ls 7 [(0, .ref b), (1, .ref (ad 0)), (2, .ref (bd 0)), (3, .ref ho), (4, .int (nI i))]) (kk : ∀ (s4 : S4) (out : Nat → Int64) (s5 : S5) (H : Heap) (locs : List Loc) (ls : Array Slot), (∃ bk, RRt ad bk s4 s5) → va_P D vwCl (LWd cI cP cS cL ad bd ho s4 out s5) H → va_D A (LWd cI cP cS cL ad bd ho s4 out s5) → va_S A s.heap H locs → lv_has ls 7 [(0, .ref b), (1, .ref (ad 0)), (2, .ref (bd 0)), (3, .ref ho), (4, .int (nI i))] → W p l e room_1 s m #[Value.ref b] below meth c H locs (cells + 8) (slots + 40) Q (F0 m 1535 ls [])) : W p l e room_1 s m #[Value.ref b] below meth c H locs cells slots Q (F0 m 1368 ls []) := by
  obtain ⟨hx, hb, hml, hown, hts, hfl, hK, hN, hE, hA, hbA, hbl, hX, hL⟩ := B
  obtain ⟨cn, hcn, hcc, hcn0⟩ := RR_cn hR
  have hlim := hR.1
  have hn9 := hR.2.1
  refine lv_aload_n hx hb dL_law_1368 rfl (lv_at hl 1 rfl) ?_
  refine lv_aload_n hx hb dL_law_1369 rfl (lv_at hl 0 rfl) ?_
  refine lv_iload hx hb dL_law_1370 (lv_at hl 4 rfl) ?_
  refine lv_iconst (v := nI 1) hx hb dL_law_1372 (by decide) ?_
  refine x_add (k := i + 1) hx hb dL_law_1373 rfl ?_
  refine x_sld (k := i + 1) hx hb hX hbl hbA hS (by omega) hL dL_law_1374 ?_
  refine lv_aload_n hx hb dL_law_1375 rfl (lv_at hl 0 rfl) ?_
  refine lv_iload hx hb dL_law_1376 (lv_at hl 4 rfl) ?_
  refine lv_iconst (v := nI 2) hx hb dL_law_1378 (by decide) ?_
  refine x_add (k := i + 2) hx hb dL_law_1379 rfl ?_
  refine x_sld (k := i + 2) hx hb hX hbl hbA hS (by omega) hL dL_law_1380 ?_
  refine lv_aload_n hx hb dL_law_1381 rfl (lv_at hl 0 rfl) ?_
  refine lv_iload hx hb dL_law_1382 (lv_at hl 4 rfl) ?_
  refine lv_iconst (v := nI 3) hx hb dL_law_1384 (by decide) ?_
  refine x_add (k := i + 3) hx hb dL_law_1385 rfl ?_
  refine x_sld (k := i + 3) hx hb hX hbl hbA hS (by omega) hL dL_law_1386 ?_
  refine lv_aload_n hx hb dL_law_1387 rfl (lv_at hl 0 rfl) ?_
  refine lv_iload hx hb dL_law_1388 (lv_at hl 4 rfl) ?_
  refine lv_iconst (v := nI 4) hx hb dL_law_1390 (by decide) ?_
  refine x_add (k := i + 4) hx hb dL_law_1391 rfl ?_
  refine x_sld (k := i + 4) hx hb hX hbl hbA hS (by omega) hL dL_law_1392 ?_
  refine lv_aload_n hx hb dL_law_1393 rfl (lv_at hl 3 rfl) ?_
  have hsi : iX (xs (i + 1)) < 3 := iX_lt _
  refine x_calli (w2 := fun (u : S4 × (Nat → Int64)) => LWd cI cP cS cL ad bd ho u.1 u.2 (th, n, lim, row, kept, chg, tab, key, frs, col, rel, num, lis, boo, sta, slo, cop, see, the, her)) (wr := W5 cI bd (th, n, lim, row, kept, chg, tab, key, frs, col, rel, num, lis, boo, sta, slo, cop, see, the, her)) (x_runL (n := 6) ⟨hx, hb, hml, hown, hts⟩ (fL_seen l D cI cP cS cL hfl ad ho out lim n rows cc ct ck nr cr old rw co re nu ma sr cp pu st sl (iX (xs (i + 1)))  (xs (i + 1)) (xs (i + 2)) (xs (i + 3)) (xs (i + 4)) hsi (iX_sx _)) gL_law_L_seen rfl rfl rfl (by decide +kernel) ⟨by decide, by decide⟩ hN hK hP hD hS hA hE iLb rfl rfl rfl hl.1 (rest := []) (As := [.ref (ad 0), .int (xs (i + 1)), .int (xs (i + 2)), .int (xs (i + 3)), .int (xs (i + 4)), .ref ho]) rfl (Nat.le_of_ble_eq_true rfl) dL_law_1394 ⟨by show _ ≤ 601024; omega, by show _ ≤ 7293034; omega⟩) hP hD hS hA iLb iLm iL2b rfl rfl rfl (by decide) rfl (fun _ => rfl) (fun k9 u H locs hw1 hP hD hS => ?_)
  refine lv_istore (lv' := [(5, .int k9), (0, .ref b), (1, .ref (ad 0)), (2, .ref (bd 0)), (3, .ref ho), (4, .int (nI i))]) hx hb dL_law_1397 hl (by decide) rfl (fun ls hl => ?_)
  refine lv_aload_n hx hb dL_law_1399 rfl (lv_at hl 3 rfl) ?_
  refine lv_aload_n hx hb dL_law_1400 rfl (lv_at hl 1 rfl) ?_
  refine lv_iload hx hb dL_law_1401 (lv_at hl 5 rfl) ?_
  refine lv_iconst (v := nI 1) hx hb dL_law_1403 (by decide) ?_
  refine x_add (k := i + 1) hx hb dL_law_1404 rfl ?_
  refine x_sld (k := i + 1) hx hb hX hbl hbA hS (by omega) hL dL_law_1405 ?_
  refine lv_aload_n hx hb dL_law_1406 rfl (lv_at hl 1 rfl) ?_
  refine lv_iload hx hb dL_law_1407 (lv_at hl 5 rfl) ?_
  refine lv_iconst (v := nI 2) hx hb dL_law_1409 (by decide) ?_
  refine x_add (k := i + 2) hx hb dL_law_1410 rfl ?_
  refine x_sld (k := i + 2) hx hb hX hbl hbA hS (by omega) hL dL_law_1411 ?_
  refine lv_aload_n hx hb dL_law_1412 rfl (lv_at hl 1 rfl) ?_
  refine lv_iload hx hb dL_law_1413 (lv_at hl 5 rfl) ?_
  refine lv_iconst (v := nI 3) hx hb dL_law_1415 (by decide) ?_
  refine x_add (k := i + 3) hx hb dL_law_1416 rfl ?_
  refine x_sld (k := i + 3) hx hb hX hbl hbA hS (by omega) hL dL_law_1417 ?_
  refine lv_aload_n hx hb dL_law_1418 rfl (lv_at hl 1 rfl) ?_
  refine lv_iload hx hb dL_law_1419 (lv_at hl 5 rfl) ?_
  refine lv_iconst (v := nI 4) hx hb dL_law_1421 (by decide) ?_
  refine x_add (k := i + 4) hx hb dL_law_1422 rfl ?_
  refine x_sld (k := i + 4) hx hb hX hbl hbA hS (by omega) hL dL_law_1423 ?_
  refine x_calli (w2 := fun (u2 : S5) => LWd cI cP cS cL ad bd ho u.1 u.2 u2) (wr := W4 cI cP cS ad u.1 ++ WO cL ho u.2) (x_runV (n := 4) ⟨hx, hb, hml, hown, hts⟩ (fX5_seen l D cI cP cS cL bd th n lim row kept chg tab key frs col rel num lis boo sta slo cop see the her (xs (i + 1)) (xs (i + 2)) (xs (i + 3)) (xs (i + 4)) ) gL_law_X5_seen rfl rfl rfl (by decide +kernel) ⟨by decide, by decide⟩ hN hK hP hD iLm rfl rfl (ci := 5) (q0 := 38) rfl rfl rfl rfl hl.1 (rest := []) (As := [.int (xs (i + 1)), .int (xs (i + 2)), .int (xs (i + 3)), .int (xs (i + 4))]) rfl (Nat.le_of_ble_eq_true rfl) dL_law_1424 ⟨by show _ ≤ 601024; omega, by show _ ≤ 7293034; omega⟩) hP hD hS hA iLm iLb iL2m rfl rfl rfl (by decide) rfl (fun _ => rfl) (fun r9 u2 H locs hw2 hP hD hS => ?_)
  obtain ⟨th2, n2, lim2, row2, kept2, chg2, tab2, key2, frs2, col2, rel2, num2, lis2, boo2, sta2, slo2, cop2, see2, the2, her2⟩ := u2
  refine lv_istore (lv' := [(6, .int r9), (5, .int k9), (0, .ref b), (1, .ref (ad 0)), (2, .ref (bd 0)), (3, .ref ho), (4, .int (nI i))]) hx hb dL_law_1427 hl (by decide) rfl (fun ls hl => ?_)
  refine lv_aload_n hx hb dL_law_1429 rfl (lv_at hl 4 rfl) ?_
  refine x_calli (w2 := fun (u3 : S5) => LWd cI cP cS cL ad bd ho u.1 u.2 u3) (wr := W4 cI cP cS ad u.1 ++ WO cL ho u.2) (x_runV (n := 0) ⟨hx, hb, hml, hown, hts⟩ (fX5_thrown l D cI cP cS cL bd th2 n2 lim2 row2 kept2 chg2 tab2 key2 frs2 col2 rel2 num2 lis2 boo2 sta2 slo2 cop2 see2 the2 her2) gL_law_X5_thrown rfl rfl rfl (by decide +kernel) ⟨by decide, by decide⟩ hN hK hP hD iLm rfl rfl (ci := 5) (q0 := 38) rfl rfl rfl rfl hl.1 (rest := []) (As := []) rfl (Nat.le_of_ble_eq_true rfl) dL_law_1430 ⟨by show _ ≤ 601024; omega, by show _ ≤ 7293034; omega⟩) hP hD hS hA iLm iLb iL2m rfl rfl rfl (by decide) rfl (fun _ => rfl) (fun t9 u3 H locs hw3 hP hD hS => ?_)
  obtain ⟨rfl, rfl⟩ := hw3
  obtain ⟨e1, e2, bk9, hRR⟩ := sM_seen hR hw1 hw2
  refine lv_iload hx hb dL_law_1433 (lv_at hl 1 rfl) ?_
  refine x_cmp_eq (tgt := 1440) hx hb (Iff.rfl) dL_law_1435 (by decide) (fun c9 => ?_) (fun c9 => absurd e1 c9)
  refine lv_iload hx hb dL_law_1440 (lv_at hl 1 rfl) ?_
  refine x_if_ne (tgt := 1457) hx hb (Iff.rfl) dL_law_1442 (by decide) (fun c9 => ?_) (fun c9 => ?_)
  · refine lv_goto (tgt := 1535) hx hb dL_law_1457 (by decide) ?_
    exact W.widen (by omega) (by omega) (kk u.1 u.2 (t9, n2, lim2, row2, kept2, chg2, tab2, key2, frs2, col2, rel2, num2, lis2, boo2, sta2, slo2, cop2, see2, the2, her2) H locs ls ⟨bk9, hRR⟩ hP hD hS (lv_sub hl [2, 3, 4, 5, 6] rfl))
  have e4 := e2 (by rw [c9, nI_0])
  refine lv_aload_n hx hb dL_law_1445 rfl (lv_at hl 5 rfl) ?_
  refine lv_iconst (v := nI 0) hx hb dL_law_1446 (by decide) ?_
  refine x_lald (v := u.2 0) hx hb hK hP 37 3 rfl rfl (by omega) (by omega) rfl dL_law_1447 ?_
  refine lv_iload hx hb dL_law_1448 (lv_at hl 0 rfl) ?_
  refine lv_i2l (v := r9.toInt64) hx hb dL_law_1450 rfl ?_
  refine x_lcmp0 hx hb e4 dL_law_1451 ?_
  refine x_if_eq (tgt := 1457) hx hb (Iff.rfl) dL_law_1452 (by decide) (fun c9 => ?_) (fun c9 => absurd nI_0 c9)
  refine lv_goto (tgt := 1535) hx hb dL_law_1457 (by decide) ?_
  exact W.widen (by omega) (by omega) (kk u.1 u.2 (t9, n2, lim2, row2, kept2, chg2, tab2, key2, frs2, col2, rel2, num2, lis2, boo2, sta2, slo2, cop2, see2, the2, her2) H locs ls ⟨bk9, hRR⟩ hP hD hS (lv_sub hl [2, 3, 4, 5, 6] rfl))

set_option maxHeartbeats 8000000 in
set_option maxRecDepth 100000 in
theorem lC_isFaithful {p : Program} {l : Launch} {e : Env} {s : State} {m : MethodId} {below : List Frame} {meth : Method} {c : Code} {H : Heap} {locs : List Loc} {cells slots : Nat} {Q : State → Prop} {ls : Array Slot} {D : va_G} {cI cP cS cL : ClassId} {A : Nat → Prop} {ad bd bk : Nat → Nat} {ho b L i : Nat} {xs : Nat → Int32} {out : Nat → Int64} {lim n : Nat} {rows cc ct ck nr cr old rw : qF} {co re nu ma sr cp : Nat → qF} {pu : Nat → Option Nat} {st sl : Nat → Nat} {th : Int32} {row kept chg tab key frs col rel num lis boo sta slo cop see the her : qF} (B : lwB p l s m c D cI cP cS cL A b L xs) (hinj : ∀ x y, x < 3 → y < 3 → ad (13 + 5 * x) = ad (13 + 5 * y) → x = y) (hi : i + 6 ≤ L) (hf : cells + 100 ≤ 601024 ∧ slots + 1000 ≤ 7293034) (hR : RR ad bk lim n rows cc ct ck nr cr co re nu ma sr cp pu st sl row kept chg tab key frs col rel num lis boo sta slo cop see) (hP : va_P D vwCl (LWd cI cP cS cL ad bd ho (lim, n, rows, cc, ct, ck, nr, cr, old, rw, co, re, nu, ma, sr, cp, pu, st, sl) out (th, n, lim, row, kept, chg, tab, key, frs, col, rel, num, lis, boo, sta, slo, cop, see, the, her)) H) (hD : va_D A (LWd cI cP cS cL ad bd ho (lim, n, rows, cc, ct, ck, nr, cr, old, rw, co, re, nu, ma, sr, cp, pu, st, sl) out (th, n, lim, row, kept, chg, tab, key, frs, col, rel, num, lis, boo, sta, slo, cop, see, the, her))) (hS : va_S A s.heap H locs) (hl : lv_has ls 7 [(0, .ref b), (1, .ref (ad 0)), (2, .ref (bd 0)), (3, .ref ho), (4, .int (nI i))]) (kk : ∀ (s4 : S4) (out : Nat → Int64) (s5 : S5) (H : Heap) (locs : List Loc) (ls : Array Slot), (∃ bk, RRt ad bk s4 s5) → va_P D vwCl (LWd cI cP cS cL ad bd ho s4 out s5) H → va_D A (LWd cI cP cS cL ad bd ho s4 out s5) → va_S A s.heap H locs → lv_has ls 7 [(0, .ref b), (1, .ref (ad 0)), (2, .ref (bd 0)), (3, .ref ho), (4, .int (nI i))] → W p l e room_1 s m #[Value.ref b] below meth c H locs (cells + 8) (slots + 40) Q (F0 m 1535 ls [])) : W p l e room_1 s m #[Value.ref b] below meth c H locs cells slots Q (F0 m 1460 ls []) := by
  obtain ⟨hx, hb, hml, hown, hts, hfl, hK, hN, hE, hA, hbA, hbl, hX, hL⟩ := B
  obtain ⟨cn, hcn, hcc, hcn0⟩ := RR_cn hR
  have hlim := hR.1
  have hn9 := hR.2.1
  refine lv_aload_n hx hb dL_law_1460 rfl (lv_at hl 1 rfl) ?_
  refine lv_aload_n hx hb dL_law_1461 rfl (lv_at hl 0 rfl) ?_
  refine lv_iload hx hb dL_law_1462 (lv_at hl 4 rfl) ?_
  refine lv_iconst (v := nI 1) hx hb dL_law_1464 (by decide) ?_
  refine x_add (k := i + 1) hx hb dL_law_1465 rfl ?_
  refine x_sld (k := i + 1) hx hb hX hbl hbA hS (by omega) hL dL_law_1466 ?_
  refine lv_aload_n hx hb dL_law_1467 rfl (lv_at hl 0 rfl) ?_
  refine lv_iload hx hb dL_law_1468 (lv_at hl 4 rfl) ?_
  refine lv_iconst (v := nI 2) hx hb dL_law_1470 (by decide) ?_
  refine x_add (k := i + 2) hx hb dL_law_1471 rfl ?_
  refine x_sld (k := i + 2) hx hb hX hbl hbA hS (by omega) hL dL_law_1472 ?_
  refine lv_aload_n hx hb dL_law_1473 rfl (lv_at hl 3 rfl) ?_
  have hsi : iX (xs (i + 1)) < 3 := iX_lt _
  refine x_calli (w2 := fun (u : S4 × (Nat → Int64)) => LWd cI cP cS cL ad bd ho u.1 u.2 (th, n, lim, row, kept, chg, tab, key, frs, col, rel, num, lis, boo, sta, slo, cop, see, the, her)) (wr := W5 cI bd (th, n, lim, row, kept, chg, tab, key, frs, col, rel, num, lis, boo, sta, slo, cop, see, the, her)) (x_runL (n := 4) ⟨hx, hb, hml, hown, hts⟩ (fL_isFaithful l D cI cP cS cL hfl ad ho out lim n rows cc ct ck nr cr old rw co re nu ma sr cp pu st sl (iX (xs (i + 1))) (bk (iX (xs (i + 1)))) (xs (i + 1)) (xs (i + 2)) hsi (RR_bk hR _ hsi) (iX_sx _) (RR_st3 hR _ hsi) (Nat.le_trans (RR_sl hR _ hsi) hn9) (RR_pu hR _ hsi) (RR_cp hR _ hsi)) gL_law_L_isFaithful rfl rfl rfl (by decide +kernel) ⟨by decide, by decide⟩ hN hK hP hD hS hA hE iLb rfl rfl rfl hl.1 (rest := []) (As := [.ref (ad 0), .int (xs (i + 1)), .int (xs (i + 2)), .ref ho]) rfl (Nat.le_of_ble_eq_true rfl) dL_law_1474 ⟨by show _ ≤ 601024; omega, by show _ ≤ 7293034; omega⟩) hP hD hS hA iLb iLm iL2b rfl rfl rfl (by decide) rfl (fun _ => rfl) (fun k9 u H locs hw1 hP hD hS => ?_)
  refine lv_istore (lv' := [(5, .int k9), (0, .ref b), (1, .ref (ad 0)), (2, .ref (bd 0)), (3, .ref ho), (4, .int (nI i))]) hx hb dL_law_1477 hl (by decide) rfl (fun ls hl => ?_)
  refine lv_aload_n hx hb dL_law_1479 rfl (lv_at hl 3 rfl) ?_
  refine lv_aload_n hx hb dL_law_1480 rfl (lv_at hl 1 rfl) ?_
  refine lv_iload hx hb dL_law_1481 (lv_at hl 5 rfl) ?_
  refine lv_iconst (v := nI 1) hx hb dL_law_1483 (by decide) ?_
  refine x_add (k := i + 1) hx hb dL_law_1484 rfl ?_
  refine x_sld (k := i + 1) hx hb hX hbl hbA hS (by omega) hL dL_law_1485 ?_
  refine lv_aload_n hx hb dL_law_1486 rfl (lv_at hl 1 rfl) ?_
  refine lv_iload hx hb dL_law_1487 (lv_at hl 5 rfl) ?_
  refine lv_iconst (v := nI 2) hx hb dL_law_1489 (by decide) ?_
  refine x_add (k := i + 2) hx hb dL_law_1490 rfl ?_
  refine x_sld (k := i + 2) hx hb hX hbl hbA hS (by omega) hL dL_law_1491 ?_
  refine x_calli (w2 := fun (u2 : S5) => LWd cI cP cS cL ad bd ho u.1 u.2 u2) (wr := W4 cI cP cS ad u.1 ++ WO cL ho u.2) (x_runV (n := 2) ⟨hx, hb, hml, hown, hts⟩ (fX5_isFaithful l D cI cP cS cL bd th n lim row kept chg tab key frs col rel num lis boo sta slo cop see the her st sl bk (xs (i + 1)) (xs (i + 2)) (RR_sta hR) (RR_st3 hR) (RR_boo hR) (RR_bk hR) (RR_slo hR) (RR_sl hR) hn9 (RR_cop hR)) gL_law_X5_isFaithful rfl rfl rfl (by decide +kernel) ⟨by decide, by decide⟩ hN hK hP hD iLm rfl rfl (ci := 5) (q0 := 38) rfl rfl rfl rfl hl.1 (rest := []) (As := [.int (xs (i + 1)), .int (xs (i + 2))]) rfl (Nat.le_of_ble_eq_true rfl) dL_law_1492 ⟨by show _ ≤ 601024; omega, by show _ ≤ 7293034; omega⟩) hP hD hS hA iLm iLb iL2m rfl rfl rfl (by decide) rfl (fun _ => rfl) (fun r9 u2 H locs hw2 hP hD hS => ?_)
  obtain ⟨th2, n2, lim2, row2, kept2, chg2, tab2, key2, frs2, col2, rel2, num2, lis2, boo2, sta2, slo2, cop2, see2, the2, her2⟩ := u2
  refine lv_istore (lv' := [(6, .int r9), (5, .int k9), (0, .ref b), (1, .ref (ad 0)), (2, .ref (bd 0)), (3, .ref ho), (4, .int (nI i))]) hx hb dL_law_1495 hl (by decide) rfl (fun ls hl => ?_)
  refine lv_aload_n hx hb dL_law_1497 rfl (lv_at hl 4 rfl) ?_
  refine x_calli (w2 := fun (u3 : S5) => LWd cI cP cS cL ad bd ho u.1 u.2 u3) (wr := W4 cI cP cS ad u.1 ++ WO cL ho u.2) (x_runV (n := 0) ⟨hx, hb, hml, hown, hts⟩ (fX5_thrown l D cI cP cS cL bd th2 n2 lim2 row2 kept2 chg2 tab2 key2 frs2 col2 rel2 num2 lis2 boo2 sta2 slo2 cop2 see2 the2 her2) gL_law_X5_thrown rfl rfl rfl (by decide +kernel) ⟨by decide, by decide⟩ hN hK hP hD iLm rfl rfl (ci := 5) (q0 := 38) rfl rfl rfl rfl hl.1 (rest := []) (As := []) rfl (Nat.le_of_ble_eq_true rfl) dL_law_1498 ⟨by show _ ≤ 601024; omega, by show _ ≤ 7293034; omega⟩) hP hD hS hA iLm iLb iL2m rfl rfl rfl (by decide) rfl (fun _ => rfl) (fun t9 u3 H locs hw3 hP hD hS => ?_)
  obtain ⟨rfl, rfl⟩ := hw3
  obtain ⟨e1, e2, bk9, hRR⟩ := sM_isFaithful (iX_sx _) hR hw1 hw2
  refine lv_iload hx hb dL_law_1501 (lv_at hl 1 rfl) ?_
  refine x_cmp_eq (tgt := 1508) hx hb (Iff.rfl) dL_law_1503 (by decide) (fun c9 => ?_) (fun c9 => absurd e1 c9)
  refine lv_iload hx hb dL_law_1508 (lv_at hl 1 rfl) ?_
  refine x_if_ne (tgt := 1532) hx hb (Iff.rfl) dL_law_1510 (by decide) (fun c9 => ?_) (fun c9 => ?_)
  · refine lv_goto (tgt := 1535) hx hb dL_law_1532 (by decide) ?_
    exact W.widen (by omega) (by omega) (kk u.1 u.2 (t9, n2, lim2, row2, kept2, chg2, tab2, key2, frs2, col2, rel2, num2, lis2, boo2, sta2, slo2, cop2, see2, the2, her2) H locs ls ⟨bk9, hRR⟩ hP hD hS (lv_sub hl [2, 3, 4, 5, 6] rfl))
  have e4 := e2 (by rw [c9, nI_0])
  refine lv_aload_n hx hb dL_law_1513 rfl (lv_at hl 5 rfl) ?_
  refine lv_iconst (v := nI 0) hx hb dL_law_1514 (by decide) ?_
  refine x_lald (v := u.2 0) hx hb hK hP 37 3 rfl rfl (by omega) (by omega) rfl dL_law_1515 ?_
  refine lv_iload hx hb dL_law_1516 (lv_at hl 0 rfl) ?_
  refine x_if_eq (tgt := 1525) hx hb (Iff.rfl) dL_law_1518 (by decide) (fun c8 => ?_) (fun c8 => ?_)
  · refine lv_lconst (v := 0) hx hb dL_law_1525 (by decide) ?_
    refine x_lcmp0 hx hb (e4.trans (cB_y c8)) dL_law_1526 ?_
    refine x_if_eq (tgt := 1532) hx hb (Iff.rfl) dL_law_1527 (by decide) (fun c9 => ?_) (fun c9 => absurd nI_0 c9)
    refine lv_goto (tgt := 1535) hx hb dL_law_1532 (by decide) ?_
    exact W.widen (by omega) (by omega) (kk u.1 u.2 (t9, n2, lim2, row2, kept2, chg2, tab2, key2, frs2, col2, rel2, num2, lis2, boo2, sta2, slo2, cop2, see2, the2, her2) H locs ls ⟨bk9, hRR⟩ hP hD hS (lv_sub hl [2, 3, 4, 5, 6] rfl))
  refine lv_lconst (v := 1) hx hb dL_law_1521 (by decide) ?_
  refine lv_goto (tgt := 1526) hx hb dL_law_1522 (by decide) ?_
  refine x_lcmp0 hx hb (e4.trans (cB_n c8)) dL_law_1526 ?_
  refine x_if_eq (tgt := 1532) hx hb (Iff.rfl) dL_law_1527 (by decide) (fun c9 => ?_) (fun c9 => absurd nI_0 c9)
  refine lv_goto (tgt := 1535) hx hb dL_law_1532 (by decide) ?_
  exact W.widen (by omega) (by omega) (kk u.1 u.2 (t9, n2, lim2, row2, kept2, chg2, tab2, key2, frs2, col2, rel2, num2, lis2, boo2, sta2, slo2, cop2, see2, the2, her2) H locs ls ⟨bk9, hRR⟩ hP hD hS (lv_sub hl [2, 3, 4, 5, 6] rfl))
