/-! THE LAW: its orders are said and sold (printed by wip/p44/law8.py) -/
theorem w5_L_law_134 : ∀ w ∈ ([.methodLink RL 134 yX9_serves, .instanceMethod yX9_serves, .selects RX9 yX9_serves yX9_serves, .initialized RX9, .code yX9_serves cX9_serves 4 (some .int)] : List Cond), w ∈ gb_B := by
  have h : ∀ w ∈ ([.methodLink RL 134 yX9_serves, .instanceMethod yX9_serves, .selects RX9 yX9_serves yX9_serves, .initialized RX9, .code yX9_serves cX9_serves 4 (some .int)] : List Cond), w ∈ lw_tbl ∧ goodWord w = true := by decide +kernel
  exact fun w hw => List.mem_filter.mpr (h w hw)
theorem w5_L_law_137 : ∀ w ∈ ([.methodLink RL 137 yX9_picks, .instanceMethod yX9_picks, .selects RX9 yX9_picks yX9_picks, .initialized RX9, .code yX9_picks cX9_picks 4 (some .int)] : List Cond), w ∈ gb_B := by
  have h : ∀ w ∈ ([.methodLink RL 137 yX9_picks, .instanceMethod yX9_picks, .selects RX9 yX9_picks yX9_picks, .initialized RX9, .code yX9_picks cX9_picks 4 (some .int)] : List Cond), w ∈ lw_tbl ∧ goodWord w = true := by decide +kernel
  exact fun w hw => List.mem_filter.mpr (h w hw)
theorem w5_L_law_140 : ∀ w ∈ ([.methodLink RL 140 yX9_sells, .instanceMethod yX9_sells, .selects RX9 yX9_sells yX9_sells, .initialized RX9, .code yX9_sells cX9_sells 6 (some .int)] : List Cond), w ∈ gb_B := by
  have h : ∀ w ∈ ([.methodLink RL 140 yX9_sells, .instanceMethod yX9_sells, .selects RX9 yX9_sells yX9_sells, .initialized RX9, .code yX9_sells cX9_sells 6 (some .int)] : List Cond), w ∈ lw_tbl ∧ goodWord w = true := by decide +kernel
  exact fun w hw => List.mem_filter.mpr (h w hw)
set_option maxHeartbeats 4000000 in
theorem lw_o2 {p : Program} {l : Launch} {e : Env} {s : State} {m : MethodId} {below : List Frame} {meth : Method} {c : Code} {g : gb_G} {A : Nat → Prop} {b L t1 t2 : Nat} {xs : Nat → Int32} {Q : State → Prop} (X : jLw p s m c g A b L xs t1 t2) {k gg bb t o : Nat} {x : Int32} {Ab : gb_Ab} {O : List (Nat × Int)} {TT : List Nat} {ps b1 : Nat} {f2 : Nat → Int32} {σ : gb_M} {H : Heap} {locs : List Loc} {cells slots : Nat} {ls : Array Slot} (hInv : jInv k Ab) (hT128 : ∀ x ∈ TT, x < 128) (hTl : TT.length ≤ 196) (hr9 : (rdT (TT.map (fun (x : Nat) => (x : Int)))).1 = some O) (hO2 : O.length = 2) (hF2 : jF f2 TT) (hc : cells ≤ 600130 ∧ slots ≤ 7301080) (hl : lv_has ls 20 ((14, .ref ps) :: jlv g b k x gg bb t o Ab 0)) (hP : va_P (g.1, g.2.1) vwCl (gb_ws g σ ++ stW g ps b1 TT.length f2) H) (hD : va_D A (gb_ws g σ ++ stW g ps b1 TT.length f2)) (hS : va_S A s.heap H locs) (hCR : CR σ Ab) (k9 : ∀ (σ : gb_M) (H : Heap) (locs : List Loc) (ls : Array Slot), lv_has ls 20 ((17, .int (nZ ((svA Ab.1 O).length : Int))) :: jlv g b k x gg bb t o Ab 1) → va_P (g.1, g.2.1) vwCl (gb_ws g σ ++ ([] : va_W)) H → va_D A (gb_ws g σ ++ ([] : va_W)) → va_S A s.heap H locs → CR σ (setS Ab (slS Ab.1 O)) → W p l e room_1 s m #[Value.ref b] below meth c H locs cells slots Q (F0 m 1082 ls [])) : W p l e room_1 s m #[Value.ref b] below meth c H locs cells slots Q (F0 m 985 ls []) := by
  obtain ⟨hx, hb, hml, hown, hts, hK, hA, hC, hX, hbA, hbl⟩ := id X
  have hwf := CR_wf hCR
  have hsl := jsl (A := Ab) hwf hr9
  have hpg := picks_ge (s := Ab.1) (O := O)
  have hpr := pvA_r (s := Ab.1) (O := O)
  have hsv : (svA Ab.1 O).length ≤ O.length := (sT_sells hwf.1 (rdT_ok hr9)).2
  have hlA := lA_r (s := Ab.1) (on := sY Ab.1) hwf.1.1
  obtain ⟨R0, hCA⟩ := hCR
  have hCA : CA σ (setT (setR Ab R0) []) := by rw [setT_e hInv.2.1]; exact hCA
  refine lv_aload_n hx hb dL_law_985 rfl (lv_at hl 11 rfl) ?_
  refine lv_aload hx hb dL_law_986 (lv_at hl 0 rfl) ?_
  refine j_v (mc := 0) (ms := 0) (wr := []) (wc := (gb_ws g σ ++ ([(ps, .inr (10, [.ref b1, .int 0, .int 0, .int 0])), (b1, .inl (g.2.2.2.2.1, TT.length, .inl (f2)))] : va_W))) (va_runS (As := [.ref (g.2.2.1 0 0), .ref (ps)]) (rest := []) ⟨hx, hb, hml, hown, hts⟩ (n_L_say l g t1 t2 ps b1 f2 TT _ (setR Ab R0) hF2 hT128 hTl hCA _) (va_cwS 2 hts gd_RL_98 rfl rfl rfl ⟨by decide +kernel, by decide +kernel, by decide +kernel⟩ ⟨Nat.le_of_ble_eq_true rfl, Nat.le_of_ble_eq_true rfl⟩) (jm_S (g := g) (jX_0 t1 t2) hK hC hS hP hD hA) rfl rfl hl.1 rfl (lv_room (Nat.le_of_ble_eq_true rfl)) dL_law_988 ⟨by show _ ≤ 600130; omega, by show _ ≤ 7301080; omega⟩) hP hD hS hA (fun w1 H locs hw hP hD hS => ?_)
  obtain ⟨σs1, rfl, hCA⟩ := hw
  have hP : va_P (g.1, g.2.1) vwCl (gb_ws g σs1 ++ ([(ps, .inr (10, [.ref b1, .int 0, .int 0, .int 0])), (b1, .inl (g.2.2.2.2.1, TT.length, .inl (f2)))] : va_W)) H := hP
  have hD : va_D A (gb_ws g σs1 ++ ([(ps, .inr (10, [.ref b1, .int 0, .int 0, .int 0])), (b1, .inl (g.2.2.2.2.1, TT.length, .inl (f2)))] : va_W)) := hD
  refine lv_aload_n hx hb dL_law_991 rfl (lv_at hl 11 rfl) ?_
  obtain ⟨σ1, hf1, ⟨R1, hCA⟩⟩ := v_serves (A := setR Ab R0) hCA hr9
  refine lw_cw (g := g) (nL := 20) (wr := ([(ps, .inr (10, [.ref b1, .int 0, .int 0, .int 0])), (b1, .inl (g.2.2.2.2.1, TT.length, .inl (f2)))] : va_W)) (as := []) (t := []) hx hb hml hown hts hK hA ⟨by show _ ≤ 600130; omega, by show _ ≤ 7301080; omega⟩ c_X9_serves (ci := 9) rfl w5_L_law_134 v_X9_serves ⟨rfl, rfl⟩ ⟨Nat.le_of_ble_eq_true rfl, Nat.le_of_ble_eq_true rfl⟩ dL_law_992 (k := 0) (j := 0) ⟨by decide +kernel, by decide +kernel⟩ rfl gb_oks_n rfl (Nat.le_of_ble_eq_true rfl) hf1 hP hD hS hl rfl (fun v9 σ9 H locs he hP hD hS => ?_) (Or.inl rfl)
  cases he
  refine W.eq (g2 := F0 m 995 ls [.int (nZ ((svA Ab.1 O).length : Int))]) rfl ?_
  refine lv_istore (lv' := [(15, .int (nZ ((svA Ab.1 O).length : Int))), (14, .ref (ps)), (13, .int (0)), (12, .int (nZ (sm 6 (fun b => lT (sB Ab.1 b))))), (11, .int (nZ (lA Ab.1 (sY Ab.1)))), (10, .int (nZ Ab.2.2.1.length)), (9, .int (nZ (o : Int))), (8, .int (nZ (t : Int))), (7, .int (nZ (bb : Int))), (6, .int (nZ (gg : Int))), (5, .int (x)), (4, .int (nI k)), (1, .ref (g.2.2.1 0 0)), (0, .ref (b))]) hx hb dL_law_995 hl (by decide) rfl (fun ls hl => ?_)
  refine lv_aload_n hx hb dL_law_997 rfl (lv_at hl 12 rfl) ?_
  refine lv_aload hx hb dL_law_998 (lv_at hl 1 rfl) ?_
  refine j_v (mc := 0) (ms := 0) (wr := []) (wc := (gb_ws g σ1 ++ ([(ps, .inr (10, [.ref b1, .int 0, .int 0, .int 0])), (b1, .inl (g.2.2.2.2.1, TT.length, .inl (f2)))] : va_W))) (va_runS (As := [.ref (g.2.2.1 0 0), .ref (ps)]) (rest := []) ⟨hx, hb, hml, hown, hts⟩ (n_L_say l g t1 t2 ps b1 f2 TT _ (setR Ab R1) hF2 hT128 hTl hCA _) (va_cwS 2 hts gd_RL_98 rfl rfl rfl ⟨by decide +kernel, by decide +kernel, by decide +kernel⟩ ⟨Nat.le_of_ble_eq_true rfl, Nat.le_of_ble_eq_true rfl⟩) (jm_S (g := g) (jX_0 t1 t2) hK hC hS hP hD hA) rfl rfl hl.1 rfl (lv_room (Nat.le_of_ble_eq_true rfl)) dL_law_1000 ⟨by show _ ≤ 600130; omega, by show _ ≤ 7301080; omega⟩) hP hD hS hA (fun w1 H locs hw hP hD hS => ?_)
  obtain ⟨σs2, rfl, hCA⟩ := hw
  have hP : va_P (g.1, g.2.1) vwCl (gb_ws g σs2 ++ ([(ps, .inr (10, [.ref b1, .int 0, .int 0, .int 0])), (b1, .inl (g.2.2.2.2.1, TT.length, .inl (f2)))] : va_W)) H := hP
  have hD : va_D A (gb_ws g σs2 ++ ([(ps, .inr (10, [.ref b1, .int 0, .int 0, .int 0])), (b1, .inl (g.2.2.2.2.1, TT.length, .inl (f2)))] : va_W)) := hD
  refine lv_aload_n hx hb dL_law_1003 rfl (lv_at hl 12 rfl) ?_
  obtain ⟨σ2, hf2, ⟨R2, hCA⟩⟩ := v_picks (A := setR Ab R1) hCA hr9
  refine lw_cw (g := g) (nL := 20) (wr := ([(ps, .inr (10, [.ref b1, .int 0, .int 0, .int 0])), (b1, .inl (g.2.2.2.2.1, TT.length, .inl (f2)))] : va_W)) (as := []) (t := []) hx hb hml hown hts hK hA ⟨by show _ ≤ 600130; omega, by show _ ≤ 7301080; omega⟩ c_X9_picks (ci := 9) rfl w5_L_law_137 v_X9_picks ⟨rfl, rfl⟩ ⟨Nat.le_of_ble_eq_true rfl, Nat.le_of_ble_eq_true rfl⟩ dL_law_1004 (k := 0) (j := 0) ⟨by decide +kernel, by decide +kernel⟩ rfl gb_oks_n rfl (Nat.le_of_ble_eq_true rfl) hf2 hP hD hS hl rfl (fun v9 σ9 H locs he hP hD hS => ?_) (Or.inl rfl)
  cases he
  refine W.eq (g2 := F0 m 1007 ls [.int (nZ (pvA Ab.1 O).1)]) rfl ?_
  refine lv_istore (lv' := [(16, .int (nZ (pvA Ab.1 O).1)), (15, .int (nZ ((svA Ab.1 O).length : Int))), (14, .ref (ps)), (13, .int (0)), (12, .int (nZ (sm 6 (fun b => lT (sB Ab.1 b))))), (11, .int (nZ (lA Ab.1 (sY Ab.1)))), (10, .int (nZ Ab.2.2.1.length)), (9, .int (nZ (o : Int))), (8, .int (nZ (t : Int))), (7, .int (nZ (bb : Int))), (6, .int (nZ (gg : Int))), (5, .int (x)), (4, .int (nI k)), (1, .ref (g.2.2.1 0 0)), (0, .ref (b))]) hx hb dL_law_1007 hl (by decide) rfl (fun ls hl => ?_)
  refine lv_aload_n hx hb dL_law_1009 rfl (lv_at hl 13 rfl) ?_
  refine lv_aload hx hb dL_law_1010 (lv_at hl 2 rfl) ?_
  refine j_v (mc := 0) (ms := 0) (wr := []) (wc := (gb_ws g σ2 ++ ([(ps, .inr (10, [.ref b1, .int 0, .int 0, .int 0])), (b1, .inl (g.2.2.2.2.1, TT.length, .inl (f2)))] : va_W))) (va_runS (As := [.ref (g.2.2.1 0 0), .ref (ps)]) (rest := []) ⟨hx, hb, hml, hown, hts⟩ (n_L_say l g t1 t2 ps b1 f2 TT _ (setR Ab R2) hF2 hT128 hTl hCA _) (va_cwS 2 hts gd_RL_98 rfl rfl rfl ⟨by decide +kernel, by decide +kernel, by decide +kernel⟩ ⟨Nat.le_of_ble_eq_true rfl, Nat.le_of_ble_eq_true rfl⟩) (jm_S (g := g) (jX_0 t1 t2) hK hC hS hP hD hA) rfl rfl hl.1 rfl (lv_room (Nat.le_of_ble_eq_true rfl)) dL_law_1012 ⟨by show _ ≤ 600130; omega, by show _ ≤ 7301080; omega⟩) hP hD hS hA (fun w1 H locs hw hP hD hS => ?_)
  obtain ⟨σs3, rfl, hCA⟩ := hw
  have hP : va_P (g.1, g.2.1) vwCl (gb_ws g σs3 ++ ([(ps, .inr (10, [.ref b1, .int 0, .int 0, .int 0])), (b1, .inl (g.2.2.2.2.1, TT.length, .inl (f2)))] : va_W)) H := hP
  have hD : va_D A (gb_ws g σs3 ++ ([(ps, .inr (10, [.ref b1, .int 0, .int 0, .int 0])), (b1, .inl (g.2.2.2.2.1, TT.length, .inl (f2)))] : va_W)) := hD
  refine lv_aload_n hx hb dL_law_1015 rfl (lv_at hl 13 rfl) ?_
  obtain ⟨σ3, hf3, hCA⟩ := v_sells (A := setR Ab R2) hCA hr9
  refine lw_cw (g := g) (nL := 20) (wr := ([(ps, .inr (10, [.ref b1, .int 0, .int 0, .int 0])), (b1, .inl (g.2.2.2.2.1, TT.length, .inl (f2)))] : va_W)) (as := []) (t := []) hx hb hml hown hts hK hA ⟨by show _ ≤ 600130; omega, by show _ ≤ 7301080; omega⟩ c_X9_sells (ci := 9) rfl w5_L_law_140 v_X9_sells ⟨rfl, rfl⟩ ⟨Nat.le_of_ble_eq_true rfl, Nat.le_of_ble_eq_true rfl⟩ dL_law_1016 (k := 0) (j := 0) ⟨by decide +kernel, by decide +kernel⟩ rfl gb_oks_n rfl (Nat.le_of_ble_eq_true rfl) hf3 hP hD hS hl rfl (fun v9 σ9 H locs he hP hD hS => ?_) (Or.inl rfl)
  cases he
  refine W.eq (g2 := F0 m 1019 ls [.int (nZ ((svA Ab.1 O).length : Int))]) rfl ?_
  have hCA : CA σ3 (setR (setS Ab (slS Ab.1 O)) [(nZ (slT Ab.1 O)).toInt64, (nZ (lA Ab.1 (sY Ab.1))).toInt64, (nZ (lA (slS Ab.1 O) (sY Ab.1))).toInt64]) := by rw [← setST_e (A := Ab) (R := R2) hInv.2.1]; exact hCA
  have hP := P_dropl (b' := ([] : va_W)) hP [] rfl
  have hD := D_dropl (b' := ([] : va_W)) hD [] (by decide) rfl
  refine lv_istore (lv' := [(17, .int (nZ ((svA Ab.1 O).length : Int))), (16, .int (nZ (pvA Ab.1 O).1)), (15, .int (nZ ((svA Ab.1 O).length : Int))), (14, .ref (ps)), (13, .int (0)), (12, .int (nZ (sm 6 (fun b => lT (sB Ab.1 b))))), (11, .int (nZ (lA Ab.1 (sY Ab.1)))), (10, .int (nZ Ab.2.2.1.length)), (9, .int (nZ (o : Int))), (8, .int (nZ (t : Int))), (7, .int (nZ (bb : Int))), (6, .int (nZ (gg : Int))), (5, .int (x)), (4, .int (nI k)), (1, .ref (g.2.2.1 0 0)), (0, .ref (b))]) hx hb dL_law_1019 hl (by decide) rfl (fun ls hl => ?_)
  refine lv_iconst (v := 1) hx hb dL_law_1021 (by decide) ?_
  refine lv_istore (lv' := [(13, .int (1)), (17, .int (nZ ((svA Ab.1 O).length : Int))), (16, .int (nZ (pvA Ab.1 O).1)), (15, .int (nZ ((svA Ab.1 O).length : Int))), (14, .ref (ps)), (12, .int (nZ (sm 6 (fun b => lT (sB Ab.1 b))))), (11, .int (nZ (lA Ab.1 (sY Ab.1)))), (10, .int (nZ Ab.2.2.1.length)), (9, .int (nZ (o : Int))), (8, .int (nZ (t : Int))), (7, .int (nZ (bb : Int))), (6, .int (nZ (gg : Int))), (5, .int (x)), (4, .int (nI k)), (1, .ref (g.2.2.1 0 0)), (0, .ref (b))]) hx hb dL_law_1022 hl (by decide) rfl (fun ls hl => ?_)
  refine lv_iload hx hb dL_law_1024 (lv_at hl 3 rfl) ?_
  refine lv_iload hx hb dL_law_1026 (lv_at hl 1 rfl) ?_
  refine lv_icmp_ne (tgt := 1080) hx hb dL_law_1028 (by decide) (fun c9 => absurd rfl c9) (fun _ => ?_)
  refine lv_iload hx hb dL_law_1031 (lv_at hl 2 rfl) ?_
  refine lv_iload hx hb dL_law_1033 (lv_at hl 3 rfl) ?_
  refine lv_icmp_lt (tgt := 1080) hx hb dL_law_1035 (by decide) (fun c9 => absurd c9 (zn_lt (zr (by omega) (by omega)) (zr (by omega) (by omega)) (by omega))) (fun _ => ?_)
  refine lv_iload hx hb dL_law_1038 (lv_at hl 2 rfl) ?_
  refine lv_iconst (v := 2) hx hb dL_law_1040 (by decide) ?_
  refine lv_icmp_gt (tgt := 1080) hx hb dL_law_1041 (by decide) (fun c9 => absurd c9 (zn_lt (a := 2) (zr (by omega) (by omega)) (zr (by omega) (by omega)) (by omega))) (fun _ => ?_)
  refine lv_aload_n hx hb dL_law_1044 rfl (lv_at hl 14 rfl) ?_
  refine lv_iconst (v := 0) hx hb dL_law_1045 (by decide) ?_
  refine W.eq (g2 := F0 m 1046 ls [.int (nZ ((0 : Nat) : Int)), .ref (g.2.2.1 0 0)]) (by rw [show (0 : Int32) = nZ ((0 : Nat) : Int) from rfl]) ?_
  obtain ⟨σ4, hf4, hCA⟩ := c_row hCA (i := 0) (Nat.le_of_ble_eq_true rfl)
  refine lw_cw (g := g) (nL := 20) (wr := ([] : va_W)) (as := [gI (nZ ((0 : Nat) : Int))]) (t := []) hx hb hml hown hts hK hA ⟨by show _ ≤ 600130; omega, by show _ ≤ 7301080; omega⟩ c_X9_row (ci := 9) rfl w5_L_law_44 v_X9_row ⟨rfl, rfl⟩ ⟨Nat.le_of_ble_eq_true rfl, Nat.le_of_ble_eq_true rfl⟩ dL_law_1046 (k := 0) (j := 0) ⟨by decide +kernel, by decide +kernel⟩ rfl (gb_oks_c (v := gI (nZ ((0 : Nat) : Int))) trivial gb_oks_n) rfl (Nat.le_of_ble_eq_true rfl) hf4 hP hD hS hl rfl (fun v9 σ9 H locs he hP hD hS => ?_) (Or.inr (Or.inr rfl))
  cases he
  refine W.eq (g2 := F0 m 1049 ls [.long ((nZ (slT Ab.1 O)).toInt64)]) rfl ?_
  refine lv_lconst (v := 0) hx hb dL_law_1049 (by decide) ?_
  refine W.lcmp hx hb dL_law_1050 ?_
  refine lv_if_lt (tgt := 1080) hx hb dL_law_1051 (by decide) (fun c9 => absurd c9 (fun z => absurd ((lg_cmp_ge _ _).mpr (show (0 : Int64) ≤ (nZ (slT Ab.1 O)).toInt64 from by rw [show (0 : Int64) = (nZ 0).toInt64 from by decide, z64_le ⟨by omega, by omega⟩ ⟨by omega, by omega⟩]; omega)) (Int32.not_le.mpr z))) (fun _ => ?_)
  refine lv_aload_n hx hb dL_law_1054 rfl (lv_at hl 14 rfl) ?_
  refine lv_iconst (v := 1) hx hb dL_law_1055 (by decide) ?_
  refine W.eq (g2 := F0 m 1056 ls [.int (nZ ((1 : Nat) : Int)), .ref (g.2.2.1 0 0)]) (by rw [show (1 : Int32) = nZ ((1 : Nat) : Int) from rfl]) ?_
  obtain ⟨σ5, hf5, hCA⟩ := c_row hCA (i := 1) (Nat.le_of_ble_eq_true rfl)
  refine lw_cw (g := g) (nL := 20) (wr := ([] : va_W)) (as := [gI (nZ ((1 : Nat) : Int))]) (t := []) hx hb hml hown hts hK hA ⟨by show _ ≤ 600130; omega, by show _ ≤ 7301080; omega⟩ c_X9_row (ci := 9) rfl w5_L_law_44 v_X9_row ⟨rfl, rfl⟩ ⟨Nat.le_of_ble_eq_true rfl, Nat.le_of_ble_eq_true rfl⟩ dL_law_1056 (k := 0) (j := 0) ⟨by decide +kernel, by decide +kernel⟩ rfl (gb_oks_c (v := gI (nZ ((1 : Nat) : Int))) trivial gb_oks_n) rfl (Nat.le_of_ble_eq_true rfl) hf5 hP hD hS hl rfl (fun v9 σ9 H locs he hP hD hS => ?_) (Or.inr (Or.inr rfl))
  cases he
  refine W.eq (g2 := F0 m 1059 ls [.long ((nZ (lA Ab.1 (sY Ab.1))).toInt64)]) rfl ?_
  refine lv_iload hx hb dL_law_1059 (lv_at hl 6 rfl) ?_
  refine lv_i2l (v := (nZ (lA Ab.1 (sY Ab.1))).toInt64) hx hb dL_law_1061 (rfl) ?_
  refine W.lcmp hx hb dL_law_1062 ?_
  refine lv_if_ne (tgt := 1080) hx hb dL_law_1063 (by decide) (fun c9 => absurd (jcmp rfl) c9) (fun _ => ?_)
  refine lv_aload_n hx hb dL_law_1066 rfl (lv_at hl 14 rfl) ?_
  refine lv_iconst (v := 2) hx hb dL_law_1067 (by decide) ?_
  refine W.eq (g2 := F0 m 1068 ls [.int (nZ ((2 : Nat) : Int)), .ref (g.2.2.1 0 0)]) (by rw [show (2 : Int32) = nZ ((2 : Nat) : Int) from rfl]) ?_
  obtain ⟨σ6, hf6, hCA⟩ := c_row hCA (i := 2) (Nat.le_of_ble_eq_true rfl)
  refine lw_cw (g := g) (nL := 20) (wr := ([] : va_W)) (as := [gI (nZ ((2 : Nat) : Int))]) (t := []) hx hb hml hown hts hK hA ⟨by show _ ≤ 600130; omega, by show _ ≤ 7301080; omega⟩ c_X9_row (ci := 9) rfl w5_L_law_44 v_X9_row ⟨rfl, rfl⟩ ⟨Nat.le_of_ble_eq_true rfl, Nat.le_of_ble_eq_true rfl⟩ dL_law_1068 (k := 0) (j := 0) ⟨by decide +kernel, by decide +kernel⟩ rfl (gb_oks_c (v := gI (nZ ((2 : Nat) : Int))) trivial gb_oks_n) rfl (Nat.le_of_ble_eq_true rfl) hf6 hP hD hS hl rfl (fun v9 σ9 H locs he hP hD hS => ?_) (Or.inr (Or.inr rfl))
  cases he
  refine W.eq (g2 := F0 m 1071 ls [.long ((nZ (lA (slS Ab.1 O) (sY Ab.1))).toInt64)]) rfl ?_
  have hCR : CR σ6 (setS Ab (slS Ab.1 O)) := ⟨_, hCA⟩
  refine lv_aload_n hx hb dL_law_1071 rfl (lv_at hl 14 rfl) ?_
  obtain ⟨σ7, hf7, hCR⟩ := u_all hCR
  refine lw_cw (g := g) (nL := 20) (wr := ([] : va_W)) (as := []) (t := [gL ((nZ (lA (slS Ab.1 O) (sY Ab.1))).toInt64)]) hx hb hml hown hts hK hA ⟨by show _ ≤ 600130; omega, by show _ ≤ 7301080; omega⟩ c_X9_all (ci := 9) rfl w5_L_law_57 v_X9_all ⟨rfl, rfl⟩ ⟨Nat.le_of_ble_eq_true rfl, Nat.le_of_ble_eq_true rfl⟩ dL_law_1072 (k := 0) (j := 0) ⟨by decide +kernel, by decide +kernel⟩ rfl gb_oks_n rfl (Nat.le_of_ble_eq_true rfl) hf7 hP hD hS hl rfl (fun v9 σ9 H locs he hP hD hS => ?_) (Or.inl rfl)
  cases he
  refine W.eq (g2 := F0 m 1075 ls [.int (nZ (lA (slS Ab.1 O) (sY (slS Ab.1 O)))), .long ((nZ (lA (slS Ab.1 O) (sY Ab.1))).toInt64)]) rfl ?_
  refine lv_i2l (v := (nZ (lA (slS Ab.1 O) (sY (slS Ab.1 O)))).toInt64) hx hb dL_law_1075 (rfl) ?_
  refine W.lcmp hx hb dL_law_1076 ?_
  refine lv_if_eq (tgt := 1082) hx hb dL_law_1077 (by decide) (fun _ => ?_) (fun c9 => absurd (jcmp (by rw [hsl.2.2.2])) c9)
  exact k9 σ7 H locs ls (lv_sub hl [1, 0, 5, 6, 7, 8, 9, 10, 11, 12, 13, 14, 15] rfl) hP hD hS hCR
set_option maxHeartbeats 4000000 in
theorem lw_o30 {p : Program} {l : Launch} {e : Env} {s : State} {m : MethodId} {below : List Frame} {meth : Method} {c : Code} {g : gb_G} {A : Nat → Prop} {b L t1 t2 : Nat} {xs : Nat → Int32} {Q : State → Prop} (X : jLw p s m c g A b L xs t1 t2) {k gg bb t o : Nat} {x : Int32} {Ab : gb_Ab} {O : List (Nat × Int)} {TT : List Nat} {σ : gb_M} {H : Heap} {locs : List Loc} {cells slots : Nat} {ls : Array Slot} {TI : List Int} (hInv : jInv k Ab) (hwf : wfA Ab) (hr9 : (rdT TI).1 = some O) (hO : O = [(gg, (t : Int)), (jb x 16 2, ((1 + jb x 18 3 : Nat) : Int))]) (hn : ((svA Ab.1 O).length) = 0) (hc : cells ≤ 600130 ∧ slots ≤ 7301080) (hl : lv_has ls 20 ((17, .int (nZ ((svA Ab.1 O).length : Int))) :: jlv g b k x gg bb t o Ab 1)) (hP : va_P (g.1, g.2.1) vwCl (gb_ws g σ ++ ([] : va_W)) H) (hD : va_D A (gb_ws g σ ++ ([] : va_W))) (hS : va_S A s.heap H locs) (hCR : CR σ (setS Ab (slS Ab.1 O))) (k9 : ∀ (σ : gb_M) (Ac : gb_Ab) (d : Int32) (H : Heap) (locs : List Loc) (ls : Array Slot), jEnd k Ab Ac d → lv_has ls 20 (jlv g b k x gg bb t o Ab d) → va_P (g.1, g.2.1) vwCl (gb_ws g σ ++ ([] : va_W)) H → va_D A (gb_ws g σ ++ ([] : va_W)) → va_S A s.heap H locs → CR σ Ac → W p l e room_1 s m #[Value.ref b] below meth c H locs cells slots Q (F0 m 1190 ls [])) : W p l e room_1 s m #[Value.ref b] below meth c H locs cells slots Q (F0 m 1082 ls []) := by
  obtain ⟨hx, hb, hml, hown, hts, hK, hA, hC, hX, hbA, hbl⟩ := id X
  have hs := (sT_sells hwf.1 (rdT_ok hr9)).1
  have hz : sm (svA Ab.1 O).length (fun i => (oz O i).2) = 0 := by
    rw [hn, hO]
    simp [sm, oz]
  rw [hz] at hs
  have hq9 : sm 6 (fun b => lT (sB (slS Ab.1 O) b)) = sm 6 (fun b => lT (sB Ab.1 b)) - 0 - 0 := by rw [hs]; omega
  refine lv_aload_n hx hb dL_law_1082 rfl (lv_at hl 11 rfl) ?_
  refine lv_iconst (v := 1) hx hb dL_law_1083 (by decide) ?_
  obtain ⟨σ1, hf1, hCR⟩ := u_count1 hCR
  refine lw_cw (g := g) (nL := 20) (wr := ([] : va_W)) (as := [gI (1)]) (t := []) hx hb hml hown hts hK hA ⟨by show _ ≤ 600130; omega, by show _ ≤ 7301080; omega⟩ c_X9_count (ci := 9) rfl w5_L_law_60 v_X9_count ⟨rfl, rfl⟩ ⟨Nat.le_of_ble_eq_true rfl, Nat.le_of_ble_eq_true rfl⟩ dL_law_1084 (k := 0) (j := 0) ⟨by decide +kernel, by decide +kernel⟩ rfl (gb_oks_c (v := gI (1)) trivial gb_oks_n) rfl (Nat.le_of_ble_eq_true rfl) hf1 hP hD hS hl rfl (fun v9 σ9 H locs he hP hD hS => ?_) (Or.inl rfl)
  cases he
  refine W.eq (g2 := F0 m 1087 ls [.int (nZ (sm 6 (fun b => lT (sB (slS Ab.1 O) b))))]) rfl ?_
  refine lv_iload hx hb dL_law_1087 (lv_at hl 2 rfl) ?_
  refine lv_iload hx hb dL_law_1089 (lv_at hl 0 rfl) ?_
  refine lv_if_le (tgt := 1099) hx hb dL_law_1091 (by decide) (fun _ => ?_) (fun c9 => absurd (by rw [hn]; decide) c9)
  refine lv_iconst (v := 0) hx hb dL_law_1099 (by decide) ?_
  refine lv_isub hx hb dL_law_1100 ?_
  refine W.eq (g2 := F0 m 1101 ls [.int (nZ (sm 6 (fun b => lT (sB Ab.1 b)) - 0)), .int (nZ (sm 6 (fun b => lT (sB (slS Ab.1 O) b))))]) (by rw [show ((nZ (sm 6 (fun b => lT (sB Ab.1 b)))) - (0) : Int32) = nZ (sm 6 (fun b => lT (sB Ab.1 b)) - 0) from z_sub _ 0]) ?_
  refine lv_iload hx hb dL_law_1101 (lv_at hl 0 rfl) ?_
  refine lv_iconst (v := 1) hx hb dL_law_1103 (by decide) ?_
  refine lv_icmp_le (tgt := 1120) hx hb dL_law_1104 (by decide) (fun _ => ?_) (fun c9 => absurd (by rw [hn]; decide) c9)
  refine lv_iconst (v := 0) hx hb dL_law_1120 (by decide) ?_
  refine lv_isub hx hb dL_law_1121 ?_
  refine W.eq (g2 := F0 m 1122 ls [.int (nZ (sm 6 (fun b => lT (sB Ab.1 b)) - 0 - 0)), .int (nZ (sm 6 (fun b => lT (sB (slS Ab.1 O) b))))]) (by rw [show ((nZ (sm 6 (fun b => lT (sB Ab.1 b)) - 0)) - (0) : Int32) = nZ (sm 6 (fun b => lT (sB Ab.1 b)) - 0 - 0) from z_sub _ 0]) ?_
  refine lv_icmp_eq (tgt := 1190) hx hb dL_law_1122 (by decide) (fun _ => ?_) (fun c9 => absurd (congrArg nZ hq9) c9)
  exact k9 σ1 (setS Ab (slS Ab.1 O)) (1) H locs ls (Or.inr ⟨rfl, _, rfl, okX_sells hwf.1 hInv.1, by have := hInv.2.2; rw [(jsl (A := Ab) hwf hr9).2.2.2]; omega⟩) (lv_sub hl [1, 2, 3, 4, 5, 6, 7, 8, 9, 10, 11, 12] rfl) hP hD hS hCR
set_option maxHeartbeats 4000000 in
theorem lw_o31 {p : Program} {l : Launch} {e : Env} {s : State} {m : MethodId} {below : List Frame} {meth : Method} {c : Code} {g : gb_G} {A : Nat → Prop} {b L t1 t2 : Nat} {xs : Nat → Int32} {Q : State → Prop} (X : jLw p s m c g A b L xs t1 t2) {k gg bb t o : Nat} {x : Int32} {Ab : gb_Ab} {O : List (Nat × Int)} {TT : List Nat} {σ : gb_M} {H : Heap} {locs : List Loc} {cells slots : Nat} {ls : Array Slot} {TI : List Int} (hInv : jInv k Ab) (hwf : wfA Ab) (hr9 : (rdT TI).1 = some O) (hO : O = [(gg, (t : Int)), (jb x 16 2, ((1 + jb x 18 3 : Nat) : Int))]) (hn : ((svA Ab.1 O).length) = 1) (hc : cells ≤ 600130 ∧ slots ≤ 7301080) (hl : lv_has ls 20 ((17, .int (nZ ((svA Ab.1 O).length : Int))) :: jlv g b k x gg bb t o Ab 1)) (hP : va_P (g.1, g.2.1) vwCl (gb_ws g σ ++ ([] : va_W)) H) (hD : va_D A (gb_ws g σ ++ ([] : va_W))) (hS : va_S A s.heap H locs) (hCR : CR σ (setS Ab (slS Ab.1 O))) (k9 : ∀ (σ : gb_M) (Ac : gb_Ab) (d : Int32) (H : Heap) (locs : List Loc) (ls : Array Slot), jEnd k Ab Ac d → lv_has ls 20 (jlv g b k x gg bb t o Ab d) → va_P (g.1, g.2.1) vwCl (gb_ws g σ ++ ([] : va_W)) H → va_D A (gb_ws g σ ++ ([] : va_W)) → va_S A s.heap H locs → CR σ Ac → W p l e room_1 s m #[Value.ref b] below meth c H locs cells slots Q (F0 m 1190 ls [])) : W p l e room_1 s m #[Value.ref b] below meth c H locs cells slots Q (F0 m 1082 ls []) := by
  obtain ⟨hx, hb, hml, hown, hts, hK, hA, hC, hX, hbA, hbl⟩ := id X
  have hs := (sT_sells hwf.1 (rdT_ok hr9)).1
  have hz : sm (svA Ab.1 O).length (fun i => (oz O i).2) = (t : Int) := by
    rw [hn, hO]
    simp [sm, oz]
  rw [hz] at hs
  have hq9 : sm 6 (fun b => lT (sB (slS Ab.1 O) b)) = sm 6 (fun b => lT (sB Ab.1 b)) - (t : Int) - 0 := by rw [hs]; omega
  refine lv_aload_n hx hb dL_law_1082 rfl (lv_at hl 11 rfl) ?_
  refine lv_iconst (v := 1) hx hb dL_law_1083 (by decide) ?_
  obtain ⟨σ1, hf1, hCR⟩ := u_count1 hCR
  refine lw_cw (g := g) (nL := 20) (wr := ([] : va_W)) (as := [gI (1)]) (t := []) hx hb hml hown hts hK hA ⟨by show _ ≤ 600130; omega, by show _ ≤ 7301080; omega⟩ c_X9_count (ci := 9) rfl w5_L_law_60 v_X9_count ⟨rfl, rfl⟩ ⟨Nat.le_of_ble_eq_true rfl, Nat.le_of_ble_eq_true rfl⟩ dL_law_1084 (k := 0) (j := 0) ⟨by decide +kernel, by decide +kernel⟩ rfl (gb_oks_c (v := gI (1)) trivial gb_oks_n) rfl (Nat.le_of_ble_eq_true rfl) hf1 hP hD hS hl rfl (fun v9 σ9 H locs he hP hD hS => ?_) (Or.inl rfl)
  cases he
  refine W.eq (g2 := F0 m 1087 ls [.int (nZ (sm 6 (fun b => lT (sB (slS Ab.1 O) b))))]) rfl ?_
  refine lv_iload hx hb dL_law_1087 (lv_at hl 2 rfl) ?_
  refine lv_iload hx hb dL_law_1089 (lv_at hl 0 rfl) ?_
  refine lv_if_le (tgt := 1099) hx hb dL_law_1091 (by decide) (fun c9 => absurd c9 (by rw [hn]; decide)) (fun _ => ?_)
  refine lv_iload hx hb dL_law_1094 (lv_at hl 6 rfl) ?_
  refine lv_goto (tgt := 1100) hx hb dL_law_1096 (by decide) ?_
  refine lv_isub hx hb dL_law_1100 ?_
  refine W.eq (g2 := F0 m 1101 ls [.int (nZ (sm 6 (fun b => lT (sB Ab.1 b)) - (t : Int))), .int (nZ (sm 6 (fun b => lT (sB (slS Ab.1 O) b))))]) (by rw [show ((nZ (sm 6 (fun b => lT (sB Ab.1 b)))) - (nZ (t : Int)) : Int32) = nZ (sm 6 (fun b => lT (sB Ab.1 b)) - (t : Int)) from z_sub _ _]) ?_
  refine lv_iload hx hb dL_law_1101 (lv_at hl 0 rfl) ?_
  refine lv_iconst (v := 1) hx hb dL_law_1103 (by decide) ?_
  refine lv_icmp_le (tgt := 1120) hx hb dL_law_1104 (by decide) (fun _ => ?_) (fun c9 => absurd (by rw [hn]; decide) c9)
  refine lv_iconst (v := 0) hx hb dL_law_1120 (by decide) ?_
  refine lv_isub hx hb dL_law_1121 ?_
  refine W.eq (g2 := F0 m 1122 ls [.int (nZ (sm 6 (fun b => lT (sB Ab.1 b)) - (t : Int) - 0)), .int (nZ (sm 6 (fun b => lT (sB (slS Ab.1 O) b))))]) (by rw [show ((nZ (sm 6 (fun b => lT (sB Ab.1 b)) - (t : Int))) - (0) : Int32) = nZ (sm 6 (fun b => lT (sB Ab.1 b)) - (t : Int) - 0) from z_sub _ 0]) ?_
  refine lv_icmp_eq (tgt := 1190) hx hb dL_law_1122 (by decide) (fun _ => ?_) (fun c9 => absurd (congrArg nZ hq9) c9)
  exact k9 σ1 (setS Ab (slS Ab.1 O)) (1) H locs ls (Or.inr ⟨rfl, _, rfl, okX_sells hwf.1 hInv.1, by have := hInv.2.2; rw [(jsl (A := Ab) hwf hr9).2.2.2]; omega⟩) (lv_sub hl [1, 2, 3, 4, 5, 6, 7, 8, 9, 10, 11, 12] rfl) hP hD hS hCR
set_option maxHeartbeats 4000000 in
theorem lw_o32 {p : Program} {l : Launch} {e : Env} {s : State} {m : MethodId} {below : List Frame} {meth : Method} {c : Code} {g : gb_G} {A : Nat → Prop} {b L t1 t2 : Nat} {xs : Nat → Int32} {Q : State → Prop} (X : jLw p s m c g A b L xs t1 t2) {k gg bb t o : Nat} {x : Int32} {Ab : gb_Ab} {O : List (Nat × Int)} {TT : List Nat} {σ : gb_M} {H : Heap} {locs : List Loc} {cells slots : Nat} {ls : Array Slot} {TI : List Int} (hInv : jInv k Ab) (hwf : wfA Ab) (hr9 : (rdT TI).1 = some O) (hO : O = [(gg, (t : Int)), (jb x 16 2, ((1 + jb x 18 3 : Nat) : Int))]) (hn : ((svA Ab.1 O).length) = 2) (hc : cells ≤ 600130 ∧ slots ≤ 7301080) (hl : lv_has ls 20 ((17, .int (nZ ((svA Ab.1 O).length : Int))) :: jlv g b k x gg bb t o Ab 1)) (hP : va_P (g.1, g.2.1) vwCl (gb_ws g σ ++ ([] : va_W)) H) (hD : va_D A (gb_ws g σ ++ ([] : va_W))) (hS : va_S A s.heap H locs) (hCR : CR σ (setS Ab (slS Ab.1 O))) (k9 : ∀ (σ : gb_M) (Ac : gb_Ab) (d : Int32) (H : Heap) (locs : List Loc) (ls : Array Slot), jEnd k Ab Ac d → lv_has ls 20 (jlv g b k x gg bb t o Ab d) → va_P (g.1, g.2.1) vwCl (gb_ws g σ ++ ([] : va_W)) H → va_D A (gb_ws g σ ++ ([] : va_W)) → va_S A s.heap H locs → CR σ Ac → W p l e room_1 s m #[Value.ref b] below meth c H locs cells slots Q (F0 m 1190 ls [])) : W p l e room_1 s m #[Value.ref b] below meth c H locs cells slots Q (F0 m 1082 ls []) := by
  obtain ⟨hx, hb, hml, hown, hts, hK, hA, hC, hX, hbA, hbl⟩ := id X
  have hs := (sT_sells hwf.1 (rdT_ok hr9)).1
  have hz : sm (svA Ab.1 O).length (fun i => (oz O i).2) = (t : Int) + ((1 + jb x 18 3 : Nat) : Int) := by
    rw [hn, hO]
    simp [sm, oz]
  rw [hz] at hs
  have hq9 : sm 6 (fun b => lT (sB (slS Ab.1 O) b)) = sm 6 (fun b => lT (sB Ab.1 b)) - (t : Int) - ((1 + jb x 18 3 : Nat) : Int) := by rw [hs]; omega
  refine lv_aload_n hx hb dL_law_1082 rfl (lv_at hl 11 rfl) ?_
  refine lv_iconst (v := 1) hx hb dL_law_1083 (by decide) ?_
  obtain ⟨σ1, hf1, hCR⟩ := u_count1 hCR
  refine lw_cw (g := g) (nL := 20) (wr := ([] : va_W)) (as := [gI (1)]) (t := []) hx hb hml hown hts hK hA ⟨by show _ ≤ 600130; omega, by show _ ≤ 7301080; omega⟩ c_X9_count (ci := 9) rfl w5_L_law_60 v_X9_count ⟨rfl, rfl⟩ ⟨Nat.le_of_ble_eq_true rfl, Nat.le_of_ble_eq_true rfl⟩ dL_law_1084 (k := 0) (j := 0) ⟨by decide +kernel, by decide +kernel⟩ rfl (gb_oks_c (v := gI (1)) trivial gb_oks_n) rfl (Nat.le_of_ble_eq_true rfl) hf1 hP hD hS hl rfl (fun v9 σ9 H locs he hP hD hS => ?_) (Or.inl rfl)
  cases he
  refine W.eq (g2 := F0 m 1087 ls [.int (nZ (sm 6 (fun b => lT (sB (slS Ab.1 O) b))))]) rfl ?_
  refine lv_iload hx hb dL_law_1087 (lv_at hl 2 rfl) ?_
  refine lv_iload hx hb dL_law_1089 (lv_at hl 0 rfl) ?_
  refine lv_if_le (tgt := 1099) hx hb dL_law_1091 (by decide) (fun c9 => absurd c9 (by rw [hn]; decide)) (fun _ => ?_)
  refine lv_iload hx hb dL_law_1094 (lv_at hl 6 rfl) ?_
  refine lv_goto (tgt := 1100) hx hb dL_law_1096 (by decide) ?_
  refine lv_isub hx hb dL_law_1100 ?_
  refine W.eq (g2 := F0 m 1101 ls [.int (nZ (sm 6 (fun b => lT (sB Ab.1 b)) - (t : Int))), .int (nZ (sm 6 (fun b => lT (sB (slS Ab.1 O) b))))]) (by rw [show ((nZ (sm 6 (fun b => lT (sB Ab.1 b)))) - (nZ (t : Int)) : Int32) = nZ (sm 6 (fun b => lT (sB Ab.1 b)) - (t : Int)) from z_sub _ _]) ?_
  refine lv_iload hx hb dL_law_1101 (lv_at hl 0 rfl) ?_
  refine lv_iconst (v := 1) hx hb dL_law_1103 (by decide) ?_
  refine lv_icmp_le (tgt := 1120) hx hb dL_law_1104 (by decide) (fun c9 => absurd c9 (by rw [hn]; decide)) (fun _ => ?_)
  refine lv_iconst (v := 1) hx hb dL_law_1107 (by decide) ?_
  refine lv_iload hx hb dL_law_1108 (lv_at hl 9 rfl) ?_
  refine lv_bipush (v := 18) hx hb dL_law_1110 (by decide) ?_
  refine lv_iushr (v := jv (x) (18)) hx hb dL_law_1112 rfl ?_
  refine lv_bipush (v := 7) hx hb dL_law_1113 (by decide) ?_
  refine lv_iand hx hb dL_law_1115 ?_
  refine W.eq (g2 := F0 m 1116 ls [.int (nI (jb x 18 3)), .int (1), .int (nZ (sm 6 (fun b => lT (sB Ab.1 b)) - (t : Int))), .int (nZ (sm 6 (fun b => lT (sB (slS Ab.1 O) b))))]) (by rw [show ((jv (x) (18)) &&& (7) : Int32) = nI (jb x 18 3) from jb_and _ _ _ _ (by decide)]) ?_
  refine lv_iadd hx hb dL_law_1116 ?_
  refine W.eq (g2 := F0 m 1117 ls [.int (nZ ((1 + jb x 18 3 : Nat) : Int)), .int (nZ (sm 6 (fun b => lT (sB Ab.1 b)) - (t : Int))), .int (nZ (sm 6 (fun b => lT (sB (slS Ab.1 O) b))))]) (by rw [show ((1) + (nI (jb x 18 3)) : Int32) = nZ ((1 + jb x 18 3 : Nat) : Int) from (nI_add 1 _).trans (nIZ _)]) ?_
  refine lv_goto (tgt := 1121) hx hb dL_law_1117 (by decide) ?_
  refine lv_isub hx hb dL_law_1121 ?_
  refine W.eq (g2 := F0 m 1122 ls [.int (nZ (sm 6 (fun b => lT (sB Ab.1 b)) - (t : Int) - ((1 + jb x 18 3 : Nat) : Int))), .int (nZ (sm 6 (fun b => lT (sB (slS Ab.1 O) b))))]) (by rw [show ((nZ (sm 6 (fun b => lT (sB Ab.1 b)) - (t : Int))) - (nZ ((1 + jb x 18 3 : Nat) : Int)) : Int32) = nZ (sm 6 (fun b => lT (sB Ab.1 b)) - (t : Int) - ((1 + jb x 18 3 : Nat) : Int)) from z_sub _ _]) ?_
  refine lv_icmp_eq (tgt := 1190) hx hb dL_law_1122 (by decide) (fun _ => ?_) (fun c9 => absurd (congrArg nZ hq9) c9)
  exact k9 σ1 (setS Ab (slS Ab.1 O)) (1) H locs ls (Or.inr ⟨rfl, _, rfl, okX_sells hwf.1 hInv.1, by have := hInv.2.2; rw [(jsl (A := Ab) hwf hr9).2.2.2]; omega⟩) (lv_sub hl [1, 2, 3, 4, 5, 6, 7, 8, 9, 10, 11, 12] rfl) hP hD hS hCR
