/-! THE LAW: its loop, up to the choice (printed by wip/p44/law3.py) -/
/-- the law's locals at its choice -/
abbrev jlv (g : gb_G) (b k : Nat) (x : Int32) (gg bb t o : Nat) (Ab : gb_Ab) (d : Int32) : List (Nat × Value) := [(13, .int d), (12, .int (nZ (sm 6 (fun b => lT (sB Ab.1 b))))), (11, .int (nZ (lA Ab.1 (sY Ab.1)))), (10, .int (nZ Ab.2.2.1.length)), (9, .int (nZ (o : Int))), (8, .int (nZ (t : Int))), (7, .int (nZ (bb : Int))), (6, .int (nZ (gg : Int))), (5, .int x), (4, .int (nI k)), (1, .ref (g.2.2.1 0 0)), (0, .ref b)]
theorem jrem6 {a : Nat} (h : a < 8) : nI a - nI a / 6 * 6 = nZ ((a % 6 : Nat) : Int) := (show nI a - nI a / nI 6 * nI 6 = _ from (pk_rem (by omega) (by omega) (by omega)).trans (nIZ _))
theorem w5_L_law_60 : ∀ w ∈ ([.methodLink RL 60 yX9_count, .instanceMethod yX9_count, .selects RX9 yX9_count yX9_count, .initialized RX9, .code yX9_count cX9_count 2 (some .int)] : List Cond), w ∈ gb_B := by
  have h : ∀ w ∈ ([.methodLink RL 60 yX9_count, .instanceMethod yX9_count, .selects RX9 yX9_count yX9_count, .initialized RX9, .code yX9_count cX9_count 2 (some .int)] : List Cond), w ∈ lw_tbl ∧ goodWord w = true := by decide +kernel
  exact fun w hw => List.mem_filter.mpr (h w hw)
theorem w5_L_law_57 : ∀ w ∈ ([.methodLink RL 57 yX9_all, .instanceMethod yX9_all, .selects RX9 yX9_all yX9_all, .initialized RX9, .code yX9_all cX9_all 2 (some .int)] : List Cond), w ∈ gb_B := by
  have h : ∀ w ∈ ([.methodLink RL 57 yX9_all, .instanceMethod yX9_all, .selects RX9 yX9_all yX9_all, .initialized RX9, .code yX9_all cX9_all 2 (some .int)] : List Cond), w ∈ lw_tbl ∧ goodWord w = true := by decide +kernel
  exact fun w hw => List.mem_filter.mpr (h w hw)
set_option maxHeartbeats 4000000 in
theorem lw_m {p : Program} {l : Launch} {e : Env} {s : State} {m : MethodId} {below : List Frame} {meth : Method} {c : Code} {g : gb_G} {A : Nat → Prop} {b L t1 t2 : Nat} {xs : Nat → Int32} {Q : State → Prop} (X : jLw p s m c g A b L xs t1 t2) (hL : L < 1000) {k : Nat} (hk : k < 20) {Ab : gb_Ab} {σ : gb_M} {H : Heap} {locs : List Loc} {cells slots : Nat} {ls : Array Slot} (hc : cells ≤ 600130 ∧ slots ≤ 7301080) (hl : lv_has ls 20 [(4, .int (nI k)), (1, .ref (g.2.2.1 0 0)), (0, .ref b)]) (hP : va_P (g.1, g.2.1) vwCl (gb_ws g σ ++ ([] : va_W)) H) (hD : va_D A (gb_ws g σ ++ ([] : va_W))) (hS : va_S A s.heap H locs) (hCR : CR σ Ab) (k9 : ∀ (x : Int32) (gg bb t o : Nat) (σ : gb_M) (H : Heap) (locs : List Loc) (ls : Array Slot), gg < 4 → bb < 6 → 1 ≤ t ∧ t ≤ 16 → o < 6 → lv_has ls 20 (jlv g b k x gg bb t o Ab 0) → va_P (g.1, g.2.1) vwCl (gb_ws g σ ++ ([] : va_W)) H → va_D A (gb_ws g σ ++ ([] : va_W)) → va_S A s.heap H locs → CR σ Ab → W p l e room_1 s m #[Value.ref b] below meth c H locs cells slots Q (F0 m 319 ls [.int (nI (x.toBitVec.toNat % 2 ^ 3))])) : W p l e room_1 s m #[Value.ref b] below meth c H locs cells slots Q (F0 m 231 ls []) := by
  obtain ⟨hx, hb, hml, hown, hts, hK, hA, hC, hX, hbA, hbl⟩ := id X
  refine lv_iload hx hb dL_law_231 (lv_at hl 0 rfl) ?_
  refine lv_bipush (v := 20) hx hb dL_law_233 (by decide) ?_
  refine lv_icmp_ge (tgt := 1342) hx hb dL_law_235 (by decide) (fun c9 => absurd c9 (show ¬ nI 20 ≤ nI k from nI_ge hk (by omega))) (fun _ => ?_)
  refine lv_aload_n hx hb dL_law_238 rfl (lv_at hl 2 rfl) ?_
  refine lv_iload hx hb dL_law_239 (lv_at hl 0 rfl) ?_
  refine vp_callSi (va_Run.run (va_runS (As := [.ref (b), .int (nI k)]) (rest := []) ⟨hx, hb, hml, hown, hts⟩ (n_L_cell l g t1 t2 b L xs k (by omega) hL) (va_cwS 2 hts gd_RL_67 rfl rfl rfl ⟨by decide +kernel, by decide +kernel, by decide +kernel⟩ ⟨Nat.le_of_ble_eq_true rfl, Nat.le_of_ble_eq_true rfl⟩) (jp_S (g := g) (jX_S b L xs) hK ⟨hX, hbA, hbl⟩ hS (P_r hP)) rfl rfl hl.1 rfl (lv_room (Nat.le_of_ble_eq_true rfl)) dL_law_241 ⟨by show _ ≤ 600130; omega, by show _ ≤ 7301080; omega⟩)) (fun r9 e9 => ?_)
  subst e9
  refine lv_istore (lv' := [(5, .int (jcl L xs k)), (4, .int (nI k)), (1, .ref (g.2.2.1 0 0)), (0, .ref (b))]) hx hb dL_law_244 hl (by decide) rfl (fun ls hl => ?_)
  generalize jcl L xs k = x at hl
  refine lv_iload hx hb dL_law_246 (lv_at hl 0 rfl) ?_
  refine lv_iconst (v := 3) hx hb dL_law_248 (by decide) ?_
  refine lv_iushr (v := jv (x) (3)) hx hb dL_law_249 rfl ?_
  refine lv_iconst (v := 3) hx hb dL_law_250 (by decide) ?_
  refine lv_iand hx hb dL_law_251 ?_
  refine W.eq (g2 := F0 m 252 ls [.int (nZ ((jb x 3 2 : Nat) : Int))]) (by rw [show ((jv (x) (3)) &&& (3) : Int32) = nZ ((jb x 3 2 : Nat) : Int) from (jb_and _ _ _ _ (by decide)).trans (nIZ _)]) ?_
  refine lv_istore (lv' := [(6, .int (nZ ((jb x 3 2 : Nat) : Int))), (5, .int (x)), (4, .int (nI k)), (1, .ref (g.2.2.1 0 0)), (0, .ref (b))]) hx hb dL_law_252 hl (by decide) rfl (fun ls hl => ?_)
  refine lv_iload hx hb dL_law_254 (lv_at hl 1 rfl) ?_
  refine lv_iconst (v := 5) hx hb dL_law_256 (by decide) ?_
  refine lv_iushr (v := jv (x) (5)) hx hb dL_law_257 rfl ?_
  refine lv_bipush (v := 7) hx hb dL_law_258 (by decide) ?_
  refine lv_iand hx hb dL_law_260 ?_
  refine W.eq (g2 := F0 m 261 ls [.int (nI (jb x 5 3))]) (by rw [show ((jv (x) (5)) &&& (7) : Int32) = nI (jb x 5 3) from jb_and _ _ _ _ (by decide)]) ?_
  refine lv_bipush (v := 6) hx hb dL_law_261 (by decide) ?_
  refine lv_irem hx hb dL_law_263 (by decide) ?_
  refine W.eq (g2 := F0 m 264 ls [.int (nZ ((jb x 5 3 % 6 : Nat) : Int))]) (by rw [show ((nI (jb x 5 3)) - (nI (jb x 5 3)) / (6) * (6) : Int32) = nZ ((jb x 5 3 % 6 : Nat) : Int) from jrem6 (jb_lt x 5 3)]) ?_
  refine lv_istore (lv' := [(7, .int (nZ ((jb x 5 3 % 6 : Nat) : Int))), (6, .int (nZ ((jb x 3 2 : Nat) : Int))), (5, .int (x)), (4, .int (nI k)), (1, .ref (g.2.2.1 0 0)), (0, .ref (b))]) hx hb dL_law_264 hl (by decide) rfl (fun ls hl => ?_)
  refine lv_iconst (v := 1) hx hb dL_law_266 (by decide) ?_
  refine lv_iload hx hb dL_law_267 (lv_at hl 2 rfl) ?_
  refine lv_bipush (v := 8) hx hb dL_law_269 (by decide) ?_
  refine lv_iushr (v := jv (x) (8)) hx hb dL_law_271 rfl ?_
  refine lv_bipush (v := 15) hx hb dL_law_272 (by decide) ?_
  refine lv_iand hx hb dL_law_274 ?_
  refine W.eq (g2 := F0 m 275 ls [.int (nI (jb x 8 4)), .int (1)]) (by rw [show ((jv (x) (8)) &&& (15) : Int32) = nI (jb x 8 4) from jb_and _ _ _ _ (by decide)]) ?_
  refine lv_iadd hx hb dL_law_275 ?_
  refine W.eq (g2 := F0 m 276 ls [.int (nZ ((1 + jb x 8 4 : Nat) : Int))]) (by rw [show ((1) + (nI (jb x 8 4)) : Int32) = nZ ((1 + jb x 8 4 : Nat) : Int) from (nI_add 1 _).trans (nIZ _)]) ?_
  refine lv_istore (lv' := [(8, .int (nZ ((1 + jb x 8 4 : Nat) : Int))), (7, .int (nZ ((jb x 5 3 % 6 : Nat) : Int))), (6, .int (nZ ((jb x 3 2 : Nat) : Int))), (5, .int (x)), (4, .int (nI k)), (1, .ref (g.2.2.1 0 0)), (0, .ref (b))]) hx hb dL_law_276 hl (by decide) rfl (fun ls hl => ?_)
  refine lv_iload hx hb dL_law_278 (lv_at hl 3 rfl) ?_
  refine lv_bipush (v := 12) hx hb dL_law_280 (by decide) ?_
  refine lv_iushr (v := jv (x) (12)) hx hb dL_law_282 rfl ?_
  refine lv_bipush (v := 7) hx hb dL_law_283 (by decide) ?_
  refine lv_iand hx hb dL_law_285 ?_
  refine W.eq (g2 := F0 m 286 ls [.int (nI (jb x 12 3))]) (by rw [show ((jv (x) (12)) &&& (7) : Int32) = nI (jb x 12 3) from jb_and _ _ _ _ (by decide)]) ?_
  refine lv_bipush (v := 6) hx hb dL_law_286 (by decide) ?_
  refine lv_irem hx hb dL_law_288 (by decide) ?_
  refine W.eq (g2 := F0 m 289 ls [.int (nZ ((jb x 12 3 % 6 : Nat) : Int))]) (by rw [show ((nI (jb x 12 3)) - (nI (jb x 12 3)) / (6) * (6) : Int32) = nZ ((jb x 12 3 % 6 : Nat) : Int) from jrem6 (jb_lt x 12 3)]) ?_
  refine lv_istore (lv' := [(9, .int (nZ ((jb x 12 3 % 6 : Nat) : Int))), (8, .int (nZ ((1 + jb x 8 4 : Nat) : Int))), (7, .int (nZ ((jb x 5 3 % 6 : Nat) : Int))), (6, .int (nZ ((jb x 3 2 : Nat) : Int))), (5, .int (x)), (4, .int (nI k)), (1, .ref (g.2.2.1 0 0)), (0, .ref (b))]) hx hb dL_law_289 hl (by decide) rfl (fun ls hl => ?_)
  refine lv_aload_n hx hb dL_law_291 rfl (lv_at hl 6 rfl) ?_
  refine lv_iconst (v := 5) hx hb dL_law_292 (by decide) ?_
  obtain ⟨σ1, hf1, hCR⟩ := u_count5 hCR
  refine lw_cw (g := g) (nL := 20) (wr := ([] : va_W)) (as := [gI (5)]) (t := []) hx hb hml hown hts hK hA ⟨by show _ ≤ 600130; omega, by show _ ≤ 7301080; omega⟩ c_X9_count (ci := 9) rfl w5_L_law_60 v_X9_count ⟨rfl, rfl⟩ ⟨Nat.le_of_ble_eq_true rfl, Nat.le_of_ble_eq_true rfl⟩ dL_law_293 (k := 0) (j := 0) ⟨by decide +kernel, by decide +kernel⟩ rfl (gb_oks_c (v := gI (5)) trivial gb_oks_n) rfl (Nat.le_of_ble_eq_true rfl) hf1 hP hD hS hl rfl (fun v9 σ9 H locs he hP hD hS => ?_) (Or.inl rfl)
  cases he
  refine W.eq (g2 := F0 m 296 ls [.int (nZ Ab.2.2.1.length)]) rfl ?_
  refine lv_istore (lv' := [(10, .int (nZ Ab.2.2.1.length)), (9, .int (nZ ((jb x 12 3 % 6 : Nat) : Int))), (8, .int (nZ ((1 + jb x 8 4 : Nat) : Int))), (7, .int (nZ ((jb x 5 3 % 6 : Nat) : Int))), (6, .int (nZ ((jb x 3 2 : Nat) : Int))), (5, .int (x)), (4, .int (nI k)), (1, .ref (g.2.2.1 0 0)), (0, .ref (b))]) hx hb dL_law_296 hl (by decide) rfl (fun ls hl => ?_)
  refine lv_aload_n hx hb dL_law_298 rfl (lv_at hl 7 rfl) ?_
  obtain ⟨σ2, hf2, hCR⟩ := u_all hCR
  refine lw_cw (g := g) (nL := 20) (wr := ([] : va_W)) (as := []) (t := []) hx hb hml hown hts hK hA ⟨by show _ ≤ 600130; omega, by show _ ≤ 7301080; omega⟩ c_X9_all (ci := 9) rfl w5_L_law_57 v_X9_all ⟨rfl, rfl⟩ ⟨Nat.le_of_ble_eq_true rfl, Nat.le_of_ble_eq_true rfl⟩ dL_law_299 (k := 0) (j := 0) ⟨by decide +kernel, by decide +kernel⟩ rfl gb_oks_n rfl (Nat.le_of_ble_eq_true rfl) hf2 hP hD hS hl rfl (fun v9 σ9 H locs he hP hD hS => ?_) (Or.inl rfl)
  cases he
  refine W.eq (g2 := F0 m 302 ls [.int (nZ (lA Ab.1 (sY Ab.1)))]) rfl ?_
  refine lv_istore (lv' := [(11, .int (nZ (lA Ab.1 (sY Ab.1)))), (10, .int (nZ Ab.2.2.1.length)), (9, .int (nZ ((jb x 12 3 % 6 : Nat) : Int))), (8, .int (nZ ((1 + jb x 8 4 : Nat) : Int))), (7, .int (nZ ((jb x 5 3 % 6 : Nat) : Int))), (6, .int (nZ ((jb x 3 2 : Nat) : Int))), (5, .int (x)), (4, .int (nI k)), (1, .ref (g.2.2.1 0 0)), (0, .ref (b))]) hx hb dL_law_302 hl (by decide) rfl (fun ls hl => ?_)
  refine lv_aload_n hx hb dL_law_304 rfl (lv_at hl 8 rfl) ?_
  refine lv_iconst (v := 1) hx hb dL_law_305 (by decide) ?_
  obtain ⟨σ3, hf3, hCR⟩ := u_count1 hCR
  refine lw_cw (g := g) (nL := 20) (wr := ([] : va_W)) (as := [gI (1)]) (t := []) hx hb hml hown hts hK hA ⟨by show _ ≤ 600130; omega, by show _ ≤ 7301080; omega⟩ c_X9_count (ci := 9) rfl w5_L_law_60 v_X9_count ⟨rfl, rfl⟩ ⟨Nat.le_of_ble_eq_true rfl, Nat.le_of_ble_eq_true rfl⟩ dL_law_306 (k := 0) (j := 0) ⟨by decide +kernel, by decide +kernel⟩ rfl (gb_oks_c (v := gI (1)) trivial gb_oks_n) rfl (Nat.le_of_ble_eq_true rfl) hf3 hP hD hS hl rfl (fun v9 σ9 H locs he hP hD hS => ?_) (Or.inl rfl)
  cases he
  refine W.eq (g2 := F0 m 309 ls [.int (nZ (sm 6 (fun b => lT (sB Ab.1 b))))]) rfl ?_
  refine lv_istore (lv' := [(12, .int (nZ (sm 6 (fun b => lT (sB Ab.1 b))))), (11, .int (nZ (lA Ab.1 (sY Ab.1)))), (10, .int (nZ Ab.2.2.1.length)), (9, .int (nZ ((jb x 12 3 % 6 : Nat) : Int))), (8, .int (nZ ((1 + jb x 8 4 : Nat) : Int))), (7, .int (nZ ((jb x 5 3 % 6 : Nat) : Int))), (6, .int (nZ ((jb x 3 2 : Nat) : Int))), (5, .int (x)), (4, .int (nI k)), (1, .ref (g.2.2.1 0 0)), (0, .ref (b))]) hx hb dL_law_309 hl (by decide) rfl (fun ls hl => ?_)
  refine lv_iconst (v := 0) hx hb dL_law_311 (by decide) ?_
  refine lv_istore (lv' := [(13, .int (0)), (12, .int (nZ (sm 6 (fun b => lT (sB Ab.1 b))))), (11, .int (nZ (lA Ab.1 (sY Ab.1)))), (10, .int (nZ Ab.2.2.1.length)), (9, .int (nZ ((jb x 12 3 % 6 : Nat) : Int))), (8, .int (nZ ((1 + jb x 8 4 : Nat) : Int))), (7, .int (nZ ((jb x 5 3 % 6 : Nat) : Int))), (6, .int (nZ ((jb x 3 2 : Nat) : Int))), (5, .int (x)), (4, .int (nI k)), (1, .ref (g.2.2.1 0 0)), (0, .ref (b))]) hx hb dL_law_312 hl (by decide) rfl (fun ls hl => ?_)
  refine lv_iload hx hb dL_law_314 (lv_at hl 8 rfl) ?_
  refine lv_bipush (v := 7) hx hb dL_law_316 (by decide) ?_
  refine lv_iand hx hb dL_law_318 ?_
  refine W.eq (g2 := F0 m 319 ls [.int (nI (x.toBitVec.toNat % 2 ^ 3))]) (by rw [show ((x) &&& (7) : Int32) = nI (x.toBitVec.toNat % 2 ^ 3) from pk_and x 3 (by decide)]) ?_
  exact k9 x (jb x 3 2) (jb x 5 3 % 6) (1 + jb x 8 4) (jb x 12 3 % 6) _ H locs ls (jb_lt x 3 2) (by omega) (by have := jb_lt x 8 4; omega) (by omega) (lv_sub hl [0, 1, 2, 3, 4, 5, 6, 7, 8, 9, 10, 11] rfl) hP hD hS hCR
