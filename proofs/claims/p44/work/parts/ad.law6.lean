/-! THE LAW: behind an act (printed by wip/p44/law6.py) -/
set_option maxHeartbeats 4000000 in
theorem lw_post0 {p : Program} {l : Launch} {e : Env} {s : State} {m : MethodId} {below : List Frame} {meth : Method} {c : Code} {g : gb_G} {A : Nat → Prop} {b L t1 t2 : Nat} {xs : Nat → Int32} {Q : State → Prop} (X : jLw p s m c g A b L xs t1 t2) {k gg bb t o : Nat} {x : Int32} {Ab : gb_Ab} {sx : gb_St} {σ : gb_M} {H : Heap} {locs : List Loc} {cells slots : Nat} {ls : Array Slot} (hk : k < 20) (hc : cells ≤ 600130 ∧ slots ≤ 7301080) (hInv : jInv k Ab) (hwf : wfA Ab) (hl : lv_has ls 20 (jlv g b k x gg bb t o Ab 0)) (hP : va_P (g.1, g.2.1) vwCl (gb_ws g σ ++ ([] : va_W)) H) (hD : va_D A (gb_ws g σ ++ ([] : va_W))) (hS : va_S A s.heap H locs) (hCR : CR σ (Ab)) (k9 : ∀ (σ : gb_M) (Ad : gb_Ab) (H : Heap) (locs : List Loc) (ls : Array Slot), lv_has ls 20 [(4, .int (nI (k + 1))), (1, .ref (g.2.2.1 0 0)), (0, .ref b)] → va_P (g.1, g.2.1) vwCl (gb_ws g σ ++ ([] : va_W)) H → va_D A (gb_ws g σ ++ ([] : va_W)) → va_S A s.heap H locs → CR σ Ad → jInv (k + 1) Ad → W p l e room_1 s m #[Value.ref b] below meth c H locs cells slots Q (F0 m 231 ls [])) : W p l e room_1 s m #[Value.ref b] below meth c H locs cells slots Q (F0 m 1190 ls []) := by
  obtain ⟨hx, hb, hml, hown, hts, hK, hA, hC, hX, hbA, hbl⟩ := id X
  refine lv_aload_n hx hb dL_law_1190 rfl (lv_at hl 10 rfl) ?_
  obtain ⟨σ1, hf1, hCR⟩ := u_holds hwf.1 hInv.1 hCR
  refine lw_cs (g := g) (nL := 20) (wr := ([] : va_W)) (as := [gR 0 0]) (t := []) hx hb hml hown hts hK hA ⟨by show _ ≤ 600130; omega, by show _ ≤ 7301080; omega⟩ c_L_holds w5_L_law_105 yo_holds ⟨rfl, rfl⟩ ⟨Nat.le_of_ble_eq_true rfl, Nat.le_of_ble_eq_true rfl⟩ dL_law_1191 gb_oks_0 rfl (Nat.le_of_ble_eq_true rfl) hf1 hP hD hS hl rfl (fun v9 σ9 H locs he hP hD hS => ?_) (Or.inr (Or.inl rfl))
  cases he
  refine W.eq (g2 := F0 m 1194 ls [.int (1)]) rfl ?_
  refine lv_if_eq (tgt := 1224) hx hb dL_law_1194 (by decide) (fun c9 => absurd c9 (by decide)) (fun _ => ?_)
  refine lv_aload_n hx hb dL_law_1197 rfl (lv_at hl 10 rfl) ?_
  refine lv_iconst (v := 5) hx hb dL_law_1198 (by decide) ?_
  obtain ⟨σ2, hf2, hCR⟩ := u_count5 hCR
  refine lw_cw (g := g) (nL := 20) (wr := ([] : va_W)) (as := [gI (5)]) (t := []) hx hb hml hown hts hK hA ⟨by show _ ≤ 600130; omega, by show _ ≤ 7301080; omega⟩ c_X9_count (ci := 9) rfl w5_L_law_60 v_X9_count ⟨rfl, rfl⟩ ⟨Nat.le_of_ble_eq_true rfl, Nat.le_of_ble_eq_true rfl⟩ dL_law_1199 (k := 0) (j := 0) ⟨by decide +kernel, by decide +kernel⟩ rfl (gb_oks_c (v := gI (5)) trivial gb_oks_n) rfl (Nat.le_of_ble_eq_true rfl) hf2 hP hD hS hl rfl (fun v9 σ9 H locs he hP hD hS => ?_) (Or.inl rfl)
  cases he
  refine W.eq (g2 := F0 m 1202 ls [.int (nZ Ab.2.2.1.length)]) rfl ?_
  refine lv_iload hx hb dL_law_1202 (lv_at hl 0 rfl) ?_
  refine lv_if_eq (tgt := 1219) hx hb dL_law_1204 (by decide) (fun _ => ?_) (fun c9 => absurd rfl c9)
  refine lv_iload hx hb dL_law_1219 (lv_at hl 3 rfl) ?_
  refine lv_icmp_eq (tgt := 1226) hx hb dL_law_1221 (by decide) (fun _ => ?_) (fun c9 => absurd rfl c9)
  refine lv_iload hx hb dL_law_1226 (lv_at hl 0 rfl) ?_
  refine lv_if_eq (tgt := 1336) hx hb dL_law_1228 (by decide) (fun _ => ?_) (fun c9 => absurd rfl c9)
  refine lv_iinc (v := nI (k + 1)) (lv' := [(4, .int (nI (k + 1))), (13, .int (0)), (12, .int (nZ (sm 6 (fun b => lT (sB Ab.1 b))))), (11, .int (nZ (lA Ab.1 (sY Ab.1)))), (10, .int (nZ Ab.2.2.1.length)), (9, .int (nZ (o : Int))), (8, .int (nZ (t : Int))), (7, .int (nZ (bb : Int))), (6, .int (nZ (gg : Int))), (5, .int (x)), (1, .ref (g.2.2.1 0 0)), (0, .ref (b))]) hx hb dL_law_1336 hl (k := 9) rfl ((nI_succ k).symm) (by decide) rfl (fun ls hl => ?_)
  refine lv_goto (tgt := 231) hx hb dL_law_1339 (by decide) ?_
  exact k9 σ2 (Ab) H locs ls (lv_sub hl [0, 10, 11] rfl) hP hD hS hCR (⟨hInv.1, hInv.2.1, by have := hInv.2.2; omega⟩)
theorem w5_L_law_151 : ∀ w ∈ ([.methodLink RL 151 yX9_keeps, .instanceMethod yX9_keeps, .selects RX9 yX9_keeps yX9_keeps, .initialized RX9, .code yX9_keeps cX9_keeps 1 (some .int)] : List Cond), w ∈ gb_B := by
  have h : ∀ w ∈ ([.methodLink RL 151 yX9_keeps, .instanceMethod yX9_keeps, .selects RX9 yX9_keeps yX9_keeps, .initialized RX9, .code yX9_keeps cX9_keeps 1 (some .int)] : List Cond), w ∈ lw_tbl ∧ goodWord w = true := by decide +kernel
  exact fun w hw => List.mem_filter.mpr (h w hw)
theorem w5_L_law_154 : ∀ w ∈ ([.methodLink RL 154 yX9_undo, .instanceMethod yX9_undo, .selects RX9 yX9_undo yX9_undo, .initialized RX9, .code yX9_undo cX9_undo 1 (some .int)] : List Cond), w ∈ gb_B := by
  have h : ∀ w ∈ ([.methodLink RL 154 yX9_undo, .instanceMethod yX9_undo, .selects RX9 yX9_undo yX9_undo, .initialized RX9, .code yX9_undo cX9_undo 1 (some .int)] : List Cond), w ∈ lw_tbl ∧ goodWord w = true := by decide +kernel
  exact fun w hw => List.mem_filter.mpr (h w hw)
theorem w5_L_law_157 : ∀ w ∈ ([.methodLink RL 157 yX9_back, .instanceMethod yX9_back, .selects RX9 yX9_back yX9_back, .initialized RX9, .code yX9_back cX9_back 1 (some .int)] : List Cond), w ∈ gb_B := by
  have h : ∀ w ∈ ([.methodLink RL 157 yX9_back, .instanceMethod yX9_back, .selects RX9 yX9_back yX9_back, .initialized RX9, .code yX9_back cX9_back 1 (some .int)] : List Cond), w ∈ lw_tbl ∧ goodWord w = true := by decide +kernel
  exact fun w hw => List.mem_filter.mpr (h w hw)
theorem wj_L_lawp1 : ∀ w ∈ ([.methodLink RL 146 Lib.Math.min.name, .static Lib.Math.min.name, .initialized "java/lang/Math", .code Lib.Math.min.name Lib.Math.min.code 2 (some .int)] : List Cond), w ∈ gb_J := by
  have h : ∀ w ∈ ([.methodLink RL 146 Lib.Math.min.name, .static Lib.Math.min.name, .initialized "java/lang/Math", .code Lib.Math.min.name Lib.Math.min.code 2 (some .int)] : List Cond), w ∈ jsw ∨ (w ∈ lw_tbl ∧ goodWord w = true) := by decide +kernel
  exact gb_J_of h
set_option maxHeartbeats 4000000 in
theorem lw_post1 {p : Program} {l : Launch} {e : Env} {s : State} {m : MethodId} {below : List Frame} {meth : Method} {c : Code} {g : gb_G} {A : Nat → Prop} {b L t1 t2 : Nat} {xs : Nat → Int32} {Q : State → Prop} (X : jLw p s m c g A b L xs t1 t2) {k gg bb t o : Nat} {x : Int32} {Ab : gb_Ab} {sx : gb_St} {σ : gb_M} {H : Heap} {locs : List Loc} {cells slots : Nat} {ls : Array Slot} (hk : k < 20) (hc : cells ≤ 600130 ∧ slots ≤ 7301080) (hInv : jInv k Ab) (hwf : wfA Ab) (hl : lv_has ls 20 (jlv g b k x gg bb t o Ab 1)) (hP : va_P (g.1, g.2.1) vwCl (gb_ws g σ ++ ([] : va_W)) H) (hD : va_D A (gb_ws g σ ++ ([] : va_W))) (hS : va_S A s.heap H locs) (hCR : CR σ (setS Ab sx)) (hXs : okX sx) (hYx : sY sx ≤ 16 * ((k + 1 : Nat) : Int)) (k9 : ∀ (σ : gb_M) (Ad : gb_Ab) (H : Heap) (locs : List Loc) (ls : Array Slot), lv_has ls 20 [(4, .int (nI (k + 1))), (1, .ref (g.2.2.1 0 0)), (0, .ref b)] → va_P (g.1, g.2.1) vwCl (gb_ws g σ ++ ([] : va_W)) H → va_D A (gb_ws g σ ++ ([] : va_W)) → va_S A s.heap H locs → CR σ Ad → jInv (k + 1) Ad → W p l e room_1 s m #[Value.ref b] below meth c H locs cells slots Q (F0 m 231 ls [])) : W p l e room_1 s m #[Value.ref b] below meth c H locs cells slots Q (F0 m 1190 ls []) := by
  obtain ⟨hx, hb, hml, hown, hts, hK, hA, hC, hX, hbA, hbl⟩ := id X
  have h8 : Ab.2.2.1.length ≤ 8 := hwf.2.2.2
  refine lv_aload_n hx hb dL_law_1190 rfl (lv_at hl 10 rfl) ?_
  obtain ⟨σ1, hf1, hCR⟩ := u_holds (CR_wf hCR).1 hXs hCR
  refine lw_cs (g := g) (nL := 20) (wr := ([] : va_W)) (as := [gR 0 0]) (t := []) hx hb hml hown hts hK hA ⟨by show _ ≤ 600130; omega, by show _ ≤ 7301080; omega⟩ c_L_holds w5_L_law_105 yo_holds ⟨rfl, rfl⟩ ⟨Nat.le_of_ble_eq_true rfl, Nat.le_of_ble_eq_true rfl⟩ dL_law_1191 gb_oks_0 rfl (Nat.le_of_ble_eq_true rfl) hf1 hP hD hS hl rfl (fun v9 σ9 H locs he hP hD hS => ?_) (Or.inr (Or.inl rfl))
  cases he
  refine W.eq (g2 := F0 m 1194 ls [.int (1)]) rfl ?_
  refine lv_if_eq (tgt := 1224) hx hb dL_law_1194 (by decide) (fun c9 => absurd c9 (by decide)) (fun _ => ?_)
  refine lv_aload_n hx hb dL_law_1197 rfl (lv_at hl 10 rfl) ?_
  refine lv_iconst (v := 5) hx hb dL_law_1198 (by decide) ?_
  obtain ⟨σ2, hf2, hCR⟩ := u_count5 hCR
  refine lw_cw (g := g) (nL := 20) (wr := ([] : va_W)) (as := [gI (5)]) (t := []) hx hb hml hown hts hK hA ⟨by show _ ≤ 600130; omega, by show _ ≤ 7301080; omega⟩ c_X9_count (ci := 9) rfl w5_L_law_60 v_X9_count ⟨rfl, rfl⟩ ⟨Nat.le_of_ble_eq_true rfl, Nat.le_of_ble_eq_true rfl⟩ dL_law_1199 (k := 0) (j := 0) ⟨by decide +kernel, by decide +kernel⟩ rfl (gb_oks_c (v := gI (5)) trivial gb_oks_n) rfl (Nat.le_of_ble_eq_true rfl) hf2 hP hD hS hl rfl (fun v9 σ9 H locs he hP hD hS => ?_) (Or.inl rfl)
  cases he
  refine W.eq (g2 := F0 m 1202 ls [.int (nZ ((hAdd Ab.2.2.1 Ab.1).length : Int))]) rfl ?_
  refine lv_iload hx hb dL_law_1202 (lv_at hl 0 rfl) ?_
  refine lv_if_eq (tgt := 1219) hx hb dL_law_1204 (by decide) (fun c9 => absurd c9 (by decide)) (fun _ => ?_)
  refine lv_bipush (v := 8) hx hb dL_law_1207 (by decide) ?_
  refine lv_iload hx hb dL_law_1209 (lv_at hl 3 rfl) ?_
  refine lv_iconst (v := 1) hx hb dL_law_1211 (by decide) ?_
  refine lv_iadd hx hb dL_law_1212 ?_
  refine W.eq (g2 := F0 m 1213 ls [.int (nZ ((Ab.2.2.1.length : Int) + 1)), .int (8), .int (nZ ((hAdd Ab.2.2.1 Ab.1).length : Int))]) (by rw [show ((nZ Ab.2.2.1.length) + (1) : Int32) = nZ ((Ab.2.2.1.length : Int) + 1) from z_add _ 1]) ?_
  refine va_mmin hx hb (hml.trans hl.1.symm) hown (hts _ (wj_L_lawp1 _ (List.mem_of_getElem? (i := 0) rfl))) (hts _ (wj_L_lawp1 _ (List.mem_of_getElem? (i := 1) rfl))) (hts _ (wj_L_lawp1 _ (List.mem_of_getElem? (i := 2) rfl))) (hts _ (wj_L_lawp1 _ (List.mem_of_getElem? (i := 3) rfl))) (Nat.le_of_ble_eq_true rfl) (Nat.le_of_ble_eq_true rfl) (by show _ ≤ 600130; omega) (by show _ ≤ 7301080; omega) dL_law_1213 ?_
  refine W.eq (g2 := F0 m 1216 ls [.int (nZ (min 8 ((Ab.2.2.1.length : Int) + 1))), .int (nZ ((hAdd Ab.2.2.1 Ab.1).length : Int))]) (by rw [jmin8 ⟨by omega, by omega⟩]) ?_
  refine lv_goto (tgt := 1221) hx hb dL_law_1216 (by decide) ?_
  refine lv_icmp_eq (tgt := 1226) hx hb dL_law_1221 (by decide) (fun _ => ?_) (fun c9 => absurd (congrArg nZ (jh_len h8)) c9)
  refine lv_iload hx hb dL_law_1226 (lv_at hl 0 rfl) ?_
  refine lv_if_eq (tgt := 1336) hx hb dL_law_1228 (by decide) (fun c9 => absurd c9 (by decide)) (fun _ => ?_)
  refine lv_iload hx hb dL_law_1231 (lv_at hl 8 rfl) ?_
  refine lv_bipush (v := 30) hx hb dL_law_1233 (by decide) ?_
  refine lv_iushr (v := jv (x) (30)) hx hb dL_law_1235 rfl ?_
  refine lv_iconst (v := 1) hx hb dL_law_1236 (by decide) ?_
  refine lv_iand hx hb dL_law_1237 ?_
  refine W.eq (g2 := F0 m 1238 ls [.int (nI (jb x 30 1))]) (by rw [show ((jv (x) (30)) &&& (1) : Int32) = nI (jb x 30 1) from jb_and _ _ _ _ (by decide)]) ?_
  refine lv_iconst (v := 1) hx hb dL_law_1238 (by decide) ?_
  refine lv_icmp_ne (tgt := 1336) hx hb dL_law_1239 (by decide) (fun c1239 => ?_) (fun c1239 => ?_)
  · skip
    refine lv_iinc (v := nI (k + 1)) (lv' := [(4, .int (nI (k + 1))), (13, .int (1)), (12, .int (nZ (sm 6 (fun b => lT (sB Ab.1 b))))), (11, .int (nZ (lA Ab.1 (sY Ab.1)))), (10, .int (nZ Ab.2.2.1.length)), (9, .int (nZ (o : Int))), (8, .int (nZ (t : Int))), (7, .int (nZ (bb : Int))), (6, .int (nZ (gg : Int))), (5, .int (x)), (1, .ref (g.2.2.1 0 0)), (0, .ref (b))]) hx hb dL_law_1336 hl (k := 9) rfl ((nI_succ k).symm) (by decide) rfl (fun ls hl => ?_)
    refine lv_goto (tgt := 231) hx hb dL_law_1339 (by decide) ?_
    exact k9 σ2 (setS Ab sx) H locs ls (lv_sub hl [0, 10, 11] rfl) hP hD hS hCR (⟨hXs, hInv.2.1, hYx⟩)
  · skip
    refine lv_aload_n hx hb dL_law_1242 rfl (lv_at hl 10 rfl) ?_
    obtain ⟨σ3, hf3, hCR⟩ := u_all hCR
    refine lw_cw (g := g) (nL := 20) (wr := ([] : va_W)) (as := []) (t := []) hx hb hml hown hts hK hA ⟨by show _ ≤ 600130; omega, by show _ ≤ 7301080; omega⟩ c_X9_all (ci := 9) rfl w5_L_law_57 v_X9_all ⟨rfl, rfl⟩ ⟨Nat.le_of_ble_eq_true rfl, Nat.le_of_ble_eq_true rfl⟩ dL_law_1243 (k := 0) (j := 0) ⟨by decide +kernel, by decide +kernel⟩ rfl gb_oks_n rfl (Nat.le_of_ble_eq_true rfl) hf3 hP hD hS hl rfl (fun v9 σ9 H locs he hP hD hS => ?_) (Or.inl rfl)
    cases he
    refine W.eq (g2 := F0 m 1246 ls [.int (nZ (lA sx (sY sx)))]) rfl ?_
    refine lv_istore (lv' := [(14, .int (nZ (lA sx (sY sx)))), (13, .int (1)), (12, .int (nZ (sm 6 (fun b => lT (sB Ab.1 b))))), (11, .int (nZ (lA Ab.1 (sY Ab.1)))), (10, .int (nZ Ab.2.2.1.length)), (9, .int (nZ (o : Int))), (8, .int (nZ (t : Int))), (7, .int (nZ (bb : Int))), (6, .int (nZ (gg : Int))), (5, .int (x)), (4, .int (nI k)), (1, .ref (g.2.2.1 0 0)), (0, .ref (b))]) hx hb dL_law_1246 hl (by decide) rfl (fun ls hl => ?_)
    refine lv_aload_n hx hb dL_law_1248 rfl (lv_at hl 11 rfl) ?_
    obtain ⟨σ4, hf4, hCR⟩ := v_keeps hCR
    refine lw_cw (g := g) (nL := 20) (wr := ([] : va_W)) (as := []) (t := []) hx hb hml hown hts hK hA ⟨by show _ ≤ 600130; omega, by show _ ≤ 7301080; omega⟩ c_X9_keeps (ci := 9) rfl w5_L_law_151 v_X9_keeps ⟨rfl, rfl⟩ ⟨Nat.le_of_ble_eq_true rfl, Nat.le_of_ble_eq_true rfl⟩ dL_law_1249 (k := 0) (j := 0) ⟨by decide +kernel, by decide +kernel⟩ rfl gb_oks_n rfl (Nat.le_of_ble_eq_true rfl) hf4 hP hD hS hl rfl (fun v9 σ9 H locs he hP hD hS => ?_) (Or.inl rfl)
    cases he
    refine W.eq (g2 := F0 m 1252 ls [.int (nZ (sY sx))]) rfl ?_
    refine lv_aload_n hx hb dL_law_1252 rfl (lv_at hl 11 rfl) ?_
    refine lv_iconst (v := 0) hx hb dL_law_1253 (by decide) ?_
    obtain ⟨σ5, hf5, hCR⟩ := u_count0 (A := (sx, some sx, (setS Ab sx).2.2)) hCR
    refine lw_cw (g := g) (nL := 20) (wr := ([] : va_W)) (as := [gI (0)]) (t := [gI (nZ (sY sx))]) hx hb hml hown hts hK hA ⟨by show _ ≤ 600130; omega, by show _ ≤ 7301080; omega⟩ c_X9_count (ci := 9) rfl w5_L_law_60 v_X9_count ⟨rfl, rfl⟩ ⟨Nat.le_of_ble_eq_true rfl, Nat.le_of_ble_eq_true rfl⟩ dL_law_1254 (k := 0) (j := 0) ⟨by decide +kernel, by decide +kernel⟩ rfl (gb_oks_c (v := gI (0)) trivial gb_oks_n) rfl (Nat.le_of_ble_eq_true rfl) hf5 hP hD hS hl rfl (fun v9 σ9 H locs he hP hD hS => ?_) (Or.inl rfl)
    cases he
    refine W.eq (g2 := F0 m 1257 ls [.int (nZ (sY sx)), .int (nZ (sY sx))]) rfl ?_
    refine lv_icmp_ne (tgt := 1304) hx hb dL_law_1257 (by decide) (fun c9 => absurd rfl c9) (fun _ => ?_)
    refine lv_aload_n hx hb dL_law_1260 rfl (lv_at hl 11 rfl) ?_
    obtain ⟨σ6, hf6, hCR⟩ := v_undo (A := (sx, some sx, (setS Ab sx).2.2)) hCR jh_ne jh_last
    refine lw_cw (g := g) (nL := 20) (wr := ([] : va_W)) (as := []) (t := []) hx hb hml hown hts hK hA ⟨by show _ ≤ 600130; omega, by show _ ≤ 7301080; omega⟩ c_X9_undo (ci := 9) rfl w5_L_law_154 v_X9_undo ⟨rfl, rfl⟩ ⟨Nat.le_of_ble_eq_true rfl, Nat.le_of_ble_eq_true rfl⟩ dL_law_1261 (k := 0) (j := 0) ⟨by decide +kernel, by decide +kernel⟩ rfl gb_oks_n rfl (Nat.le_of_ble_eq_true rfl) hf6 hP hD hS hl rfl (fun v9 σ9 H locs he hP hD hS => ?_) (Or.inl rfl)
    cases he
    refine W.eq (g2 := F0 m 1264 ls [.int (nZ (((hAdd Ab.2.2.1 Ab.1).length - 1 : Nat) : Int))]) rfl ?_
    refine lv_bipush (v := 8) hx hb dL_law_1264 (by decide) ?_
    refine lv_iload hx hb dL_law_1266 (lv_at hl 4 rfl) ?_
    refine lv_iconst (v := 1) hx hb dL_law_1268 (by decide) ?_
    refine lv_iadd hx hb dL_law_1269 ?_
    refine W.eq (g2 := F0 m 1270 ls [.int (nZ ((Ab.2.2.1.length : Int) + 1)), .int (8), .int (nZ (((hAdd Ab.2.2.1 Ab.1).length - 1 : Nat) : Int))]) (by rw [show ((nZ Ab.2.2.1.length) + (1) : Int32) = nZ ((Ab.2.2.1.length : Int) + 1) from z_add _ 1]) ?_
    refine va_mmin hx hb (hml.trans hl.1.symm) hown (hts _ (wj_L_lawp1 _ (List.mem_of_getElem? (i := 0) rfl))) (hts _ (wj_L_lawp1 _ (List.mem_of_getElem? (i := 1) rfl))) (hts _ (wj_L_lawp1 _ (List.mem_of_getElem? (i := 2) rfl))) (hts _ (wj_L_lawp1 _ (List.mem_of_getElem? (i := 3) rfl))) (Nat.le_of_ble_eq_true rfl) (Nat.le_of_ble_eq_true rfl) (by show _ ≤ 600130; omega) (by show _ ≤ 7301080; omega) dL_law_1270 ?_
    refine W.eq (g2 := F0 m 1273 ls [.int (nZ (min 8 ((Ab.2.2.1.length : Int) + 1))), .int (nZ (((hAdd Ab.2.2.1 Ab.1).length - 1 : Nat) : Int))]) (by rw [jmin8 ⟨by omega, by omega⟩]) ?_
    refine lv_iconst (v := 1) hx hb dL_law_1273 (by decide) ?_
    refine lv_isub hx hb dL_law_1274 ?_
    refine W.eq (g2 := F0 m 1275 ls [.int (nZ (min 8 ((Ab.2.2.1.length : Int) + 1) - 1)), .int (nZ (((hAdd Ab.2.2.1 Ab.1).length - 1 : Nat) : Int))]) (by rw [show ((nZ (min 8 ((Ab.2.2.1.length : Int) + 1))) - (1) : Int32) = nZ (min 8 ((Ab.2.2.1.length : Int) + 1) - 1) from z_sub _ 1]) ?_
    refine lv_icmp_ne (tgt := 1304) hx hb dL_law_1275 (by decide) (fun c9 => absurd (congrArg nZ (by have h1 := jh_len (s := Ab.1) h8; have h2 := jh_ne (h := Ab.2.2.1) (s := Ab.1); omega)) c9) (fun _ => ?_)
    refine lv_aload_n hx hb dL_law_1278 rfl (lv_at hl 11 rfl) ?_
    obtain ⟨σ7, hf7, hCR⟩ := u_all (A := (Ab.1, some sx, (hAdd Ab.2.2.1 Ab.1).dropLast, (setS Ab sx).2.2.2)) hCR
    refine lw_cw (g := g) (nL := 20) (wr := ([] : va_W)) (as := []) (t := []) hx hb hml hown hts hK hA ⟨by show _ ≤ 600130; omega, by show _ ≤ 7301080; omega⟩ c_X9_all (ci := 9) rfl w5_L_law_57 v_X9_all ⟨rfl, rfl⟩ ⟨Nat.le_of_ble_eq_true rfl, Nat.le_of_ble_eq_true rfl⟩ dL_law_1279 (k := 0) (j := 0) ⟨by decide +kernel, by decide +kernel⟩ rfl gb_oks_n rfl (Nat.le_of_ble_eq_true rfl) hf7 hP hD hS hl rfl (fun v9 σ9 H locs he hP hD hS => ?_) (Or.inl rfl)
    cases he
    refine W.eq (g2 := F0 m 1282 ls [.int (nZ (lA Ab.1 (sY Ab.1)))]) rfl ?_
    refine lv_iload hx hb dL_law_1282 (lv_at hl 3 rfl) ?_
    refine lv_icmp_ne (tgt := 1304) hx hb dL_law_1284 (by decide) (fun c9 => absurd rfl c9) (fun _ => ?_)
    refine lv_aload_n hx hb dL_law_1287 rfl (lv_at hl 11 rfl) ?_
    refine lv_iconst (v := 1) hx hb dL_law_1288 (by decide) ?_
    obtain ⟨σ8, hf8, hCR⟩ := u_count1 (A := (Ab.1, some sx, (hAdd Ab.2.2.1 Ab.1).dropLast, (setS Ab sx).2.2.2)) hCR
    refine lw_cw (g := g) (nL := 20) (wr := ([] : va_W)) (as := [gI (1)]) (t := []) hx hb hml hown hts hK hA ⟨by show _ ≤ 600130; omega, by show _ ≤ 7301080; omega⟩ c_X9_count (ci := 9) rfl w5_L_law_60 v_X9_count ⟨rfl, rfl⟩ ⟨Nat.le_of_ble_eq_true rfl, Nat.le_of_ble_eq_true rfl⟩ dL_law_1289 (k := 0) (j := 0) ⟨by decide +kernel, by decide +kernel⟩ rfl (gb_oks_c (v := gI (1)) trivial gb_oks_n) rfl (Nat.le_of_ble_eq_true rfl) hf8 hP hD hS hl rfl (fun v9 σ9 H locs he hP hD hS => ?_) (Or.inl rfl)
    cases he
    refine W.eq (g2 := F0 m 1292 ls [.int (nZ (sm 6 (fun b => lT (sB Ab.1 b))))]) rfl ?_
    refine lv_iload hx hb dL_law_1292 (lv_at hl 2 rfl) ?_
    refine lv_icmp_ne (tgt := 1304) hx hb dL_law_1294 (by decide) (fun c9 => absurd rfl c9) (fun _ => ?_)
    refine lv_aload_n hx hb dL_law_1297 rfl (lv_at hl 11 rfl) ?_
    obtain ⟨σ9, hf9, hCR⟩ := u_holds (CR_wf hCR).1 hInv.1 hCR
    refine lw_cs (g := g) (nL := 20) (wr := ([] : va_W)) (as := [gR 0 0]) (t := []) hx hb hml hown hts hK hA ⟨by show _ ≤ 600130; omega, by show _ ≤ 7301080; omega⟩ c_L_holds w5_L_law_105 yo_holds ⟨rfl, rfl⟩ ⟨Nat.le_of_ble_eq_true rfl, Nat.le_of_ble_eq_true rfl⟩ dL_law_1298 gb_oks_0 rfl (Nat.le_of_ble_eq_true rfl) hf9 hP hD hS hl rfl (fun v9 σ9 H locs he hP hD hS => ?_) (Or.inr (Or.inl rfl))
    cases he
    refine W.eq (g2 := F0 m 1301 ls [.int (1)]) rfl ?_
    refine lv_if_ne (tgt := 1306) hx hb dL_law_1301 (by decide) (fun _ => ?_) (fun c9 => absurd c9 (by decide))
    refine lv_aload_n hx hb dL_law_1306 rfl (lv_at hl 11 rfl) ?_
    obtain ⟨σ10, hf10, hCR⟩ := v_back (A := (Ab.1, some sx, (hAdd Ab.2.2.1 Ab.1).dropLast, (setS Ab sx).2.2.2)) hCR rfl
    refine lw_cw (g := g) (nL := 20) (wr := ([] : va_W)) (as := []) (t := []) hx hb hml hown hts hK hA ⟨by show _ ≤ 600130; omega, by show _ ≤ 7301080; omega⟩ c_X9_back (ci := 9) rfl w5_L_law_157 v_X9_back ⟨rfl, rfl⟩ ⟨Nat.le_of_ble_eq_true rfl, Nat.le_of_ble_eq_true rfl⟩ dL_law_1307 (k := 0) (j := 0) ⟨by decide +kernel, by decide +kernel⟩ rfl gb_oks_n rfl (Nat.le_of_ble_eq_true rfl) hf10 hP hD hS hl rfl (fun v9 σ9 H locs he hP hD hS => ?_) (Or.inl rfl)
    cases he
    refine W.eq (g2 := F0 m 1310 ls [.int (nZ (sY sx))]) rfl ?_
    refine lv_aload_n hx hb dL_law_1310 rfl (lv_at hl 11 rfl) ?_
    refine lv_iconst (v := 0) hx hb dL_law_1311 (by decide) ?_
    obtain ⟨σ11, hf11, hCR⟩ := u_count0 (A := setS (Ab.1, some sx, (hAdd Ab.2.2.1 Ab.1).dropLast, (setS Ab sx).2.2.2) sx) hCR
    refine lw_cw (g := g) (nL := 20) (wr := ([] : va_W)) (as := [gI (0)]) (t := [gI (nZ (sY sx))]) hx hb hml hown hts hK hA ⟨by show _ ≤ 600130; omega, by show _ ≤ 7301080; omega⟩ c_X9_count (ci := 9) rfl w5_L_law_60 v_X9_count ⟨rfl, rfl⟩ ⟨Nat.le_of_ble_eq_true rfl, Nat.le_of_ble_eq_true rfl⟩ dL_law_1312 (k := 0) (j := 0) ⟨by decide +kernel, by decide +kernel⟩ rfl (gb_oks_c (v := gI (0)) trivial gb_oks_n) rfl (Nat.le_of_ble_eq_true rfl) hf11 hP hD hS hl rfl (fun v9 σ9 H locs he hP hD hS => ?_) (Or.inl rfl)
    cases he
    refine W.eq (g2 := F0 m 1315 ls [.int (nZ (sY sx)), .int (nZ (sY sx))]) rfl ?_
    refine lv_icmp_ne (tgt := 1334) hx hb dL_law_1315 (by decide) (fun c9 => absurd rfl c9) (fun _ => ?_)
    refine lv_aload_n hx hb dL_law_1318 rfl (lv_at hl 11 rfl) ?_
    obtain ⟨σ12, hf12, hCR⟩ := u_all (A := setS (Ab.1, some sx, (hAdd Ab.2.2.1 Ab.1).dropLast, (setS Ab sx).2.2.2) sx) hCR
    refine lw_cw (g := g) (nL := 20) (wr := ([] : va_W)) (as := []) (t := []) hx hb hml hown hts hK hA ⟨by show _ ≤ 600130; omega, by show _ ≤ 7301080; omega⟩ c_X9_all (ci := 9) rfl w5_L_law_57 v_X9_all ⟨rfl, rfl⟩ ⟨Nat.le_of_ble_eq_true rfl, Nat.le_of_ble_eq_true rfl⟩ dL_law_1319 (k := 0) (j := 0) ⟨by decide +kernel, by decide +kernel⟩ rfl gb_oks_n rfl (Nat.le_of_ble_eq_true rfl) hf12 hP hD hS hl rfl (fun v9 σ9 H locs he hP hD hS => ?_) (Or.inl rfl)
    cases he
    refine W.eq (g2 := F0 m 1322 ls [.int (nZ (lA sx (sY sx)))]) rfl ?_
    refine lv_iload hx hb dL_law_1322 (lv_at hl 0 rfl) ?_
    refine lv_icmp_ne (tgt := 1334) hx hb dL_law_1324 (by decide) (fun c9 => absurd rfl c9) (fun _ => ?_)
    refine lv_aload_n hx hb dL_law_1327 rfl (lv_at hl 11 rfl) ?_
    obtain ⟨σ13, hf13, hCR⟩ := u_holds (CR_wf hCR).1 hXs hCR
    refine lw_cs (g := g) (nL := 20) (wr := ([] : va_W)) (as := [gR 0 0]) (t := []) hx hb hml hown hts hK hA ⟨by show _ ≤ 600130; omega, by show _ ≤ 7301080; omega⟩ c_L_holds w5_L_law_105 yo_holds ⟨rfl, rfl⟩ ⟨Nat.le_of_ble_eq_true rfl, Nat.le_of_ble_eq_true rfl⟩ dL_law_1328 gb_oks_0 rfl (Nat.le_of_ble_eq_true rfl) hf13 hP hD hS hl rfl (fun v9 σ9 H locs he hP hD hS => ?_) (Or.inr (Or.inl rfl))
    cases he
    refine W.eq (g2 := F0 m 1331 ls [.int (1)]) rfl ?_
    refine lv_if_ne (tgt := 1336) hx hb dL_law_1331 (by decide) (fun _ => ?_) (fun c9 => absurd c9 (by decide))
    refine lv_iinc (v := nI (k + 1)) (lv' := [(4, .int (nI (k + 1))), (14, .int (nZ (lA sx (sY sx)))), (13, .int (1)), (12, .int (nZ (sm 6 (fun b => lT (sB Ab.1 b))))), (11, .int (nZ (lA Ab.1 (sY Ab.1)))), (10, .int (nZ Ab.2.2.1.length)), (9, .int (nZ (o : Int))), (8, .int (nZ (t : Int))), (7, .int (nZ (bb : Int))), (6, .int (nZ (gg : Int))), (5, .int (x)), (1, .ref (g.2.2.1 0 0)), (0, .ref (b))]) hx hb dL_law_1336 hl (k := 10) rfl ((nI_succ k).symm) (by decide) rfl (fun ls hl => ?_)
    refine lv_goto (tgt := 231) hx hb dL_law_1339 (by decide) ?_
    exact k9 σ13 (setS (Ab.1, some sx, (hAdd Ab.2.2.1 Ab.1).dropLast, (setS Ab sx).2.2.2) sx) H locs ls (lv_sub hl [0, 11, 12] rfl) hP hD hS hCR (⟨hXs, hInv.2.1, hYx⟩)
