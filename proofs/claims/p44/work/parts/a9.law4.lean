/-! THE LAW: its acts (printed by wip/p44/law4.py) -/
theorem w5_L_law_109 : ∀ w ∈ ([.methodLink RL 109 yX9_would, .instanceMethod yX9_would, .selects RX9 yX9_would yX9_would, .initialized RX9, .code yX9_would cX9_would 6 (some .int)] : List Cond), w ∈ gb_B := by
  have h : ∀ w ∈ ([.methodLink RL 109 yX9_would, .instanceMethod yX9_would, .selects RX9 yX9_would yX9_would, .initialized RX9, .code yX9_would cX9_would 6 (some .int)] : List Cond), w ∈ lw_tbl ∧ goodWord w = true := by decide +kernel
  exact fun w hw => List.mem_filter.mpr (h w hw)
theorem w5_L_law_27 : ∀ w ∈ ([.methodLink RL 27 yX9_bin, .instanceMethod yX9_bin, .selects RX9 yX9_bin yX9_bin, .initialized RX9, .code yX9_bin cX9_bin 3 (some .int)] : List Cond), w ∈ gb_B := by
  have h : ∀ w ∈ ([.methodLink RL 27 yX9_bin, .instanceMethod yX9_bin, .selects RX9 yX9_bin yX9_bin, .initialized RX9, .code yX9_bin cX9_bin 3 (some .int)] : List Cond), w ∈ lw_tbl ∧ goodWord w = true := by decide +kernel
  exact fun w hw => List.mem_filter.mpr (h w hw)
theorem w5_L_law_112 : ∀ w ∈ ([.methodLink RL 112 yX9_load, .instanceMethod yX9_load, .selects RX9 yX9_load yX9_load, .initialized RX9, .code yX9_load cX9_load 5 (some .int)] : List Cond), w ∈ gb_B := by
  have h : ∀ w ∈ ([.methodLink RL 112 yX9_load, .instanceMethod yX9_load, .selects RX9 yX9_load yX9_load, .initialized RX9, .code yX9_load cX9_load 5 (some .int)] : List Cond), w ∈ lw_tbl ∧ goodWord w = true := by decide +kernel
  exact fun w hw => List.mem_filter.mpr (h w hw)
theorem wj_L_lawload1 : ∀ w ∈ ([.constant RL 115 (-1000000)] : List Cond), w ∈ gb_J := by
  have h : ∀ w ∈ ([.constant RL 115 (-1000000)] : List Cond), w ∈ jsw ∨ (w ∈ lw_tbl ∧ goodWord w = true) := by decide +kernel
  exact gb_J_of h
set_option maxHeartbeats 4000000 in
theorem lw_load1 {p : Program} {l : Launch} {e : Env} {s : State} {m : MethodId} {below : List Frame} {meth : Method} {c : Code} {g : gb_G} {A : Nat → Prop} {b L t1 t2 : Nat} {xs : Nat → Int32} {Q : State → Prop} (X : jLw p s m c g A b L xs t1 t2) {k gg bb t o : Nat} {x : Int32} {Ab : gb_Ab} {σ : gb_M} {H : Heap} {locs : List Loc} {cells slots : Nat} {ls : Array Slot} (hk : k < 20) (hgg : gg < 4) (hbb : bb < 6) (ht : 1 ≤ t ∧ t ≤ 16) (ho : o < 6) (hInv : jInv k Ab) (hc : cells ≤ 600130 ∧ slots ≤ 7301080) (hl : lv_has ls 20 (jlv g b k x gg bb t o Ab 0)) (hP : va_P (g.1, g.2.1) vwCl (gb_ws g σ ++ ([] : va_W)) H) (hD : va_D A (gb_ws g σ ++ ([] : va_W))) (hS : va_S A s.heap H locs) (hCR : CR σ Ab) (k9 : ∀ (σ : gb_M) (Ac : gb_Ab) (d : Int32) (H : Heap) (locs : List Loc) (ls : Array Slot), jEnd k Ab Ac d → lv_has ls 20 (jlv g b k x gg bb t o Ab d) → va_P (g.1, g.2.1) vwCl (gb_ws g σ ++ ([] : va_W)) H → va_D A (gb_ws g σ ++ ([] : va_W)) → va_S A s.heap H locs → CR σ Ac → W p l e room_1 s m #[Value.ref b] below meth c H locs cells slots Q (F0 m 1190 ls [])) (hW : sWhy Ab.1 bb gg t (sY Ab.1) = 0) : W p l e room_1 s m #[Value.ref b] below meth c H locs cells slots Q (F0 m 360 ls []) := by
  obtain ⟨hx, hb, hml, hown, hts, hK, hA, hC, hX, hbA, hbl⟩ := id X
  have hwf := CR_wf hCR
  have hI := hwf.1.1
  have hB : ∀ j, j < 6 → 0 ≤ lT (sB Ab.1 j) ∧ lT (sB Ab.1 j) ≤ 99 := fun j hj => jT_r hwf hInv.1 hj
  have hA0 := lA_r (s := Ab.1) (on := sY Ab.1) hI
  have hBb := hB bb hbb
  have hBo := hB o ho
  have hY := jY_r hwf
  have hG := gA_r (s := Ab.1) (b := bb) (g := gg) (t := t) hI hbb (by omega) (by omega)
  have hZ := sWhyZ hW
  have hC9 := (hI.2.2.2.1 bb hbb).2
  have hL9 : lA (setB Ab.1 bb (lay1 (sB Ab.1 bb) gg t (sY Ab.1))) (sY (setB Ab.1 bb (lay1 (sB Ab.1 bb) gg t (sY Ab.1)))) = lA Ab.1 (sY Ab.1) + gA Ab.1 bb gg t := lA_load hI hbb (by omega)
  refine lv_aload_n hx hb dL_law_360 rfl (lv_at hl 10 rfl) ?_
  refine lv_iload hx hb dL_law_361 (lv_at hl 7 rfl) ?_
  refine lv_iload hx hb dL_law_363 (lv_at hl 5 rfl) ?_
  refine lv_iload hx hb dL_law_365 (lv_at hl 6 rfl) ?_
  obtain ⟨σ1, hf1, hCR⟩ := v_would hCR (g := gg) (y := t) (by omega) (by omega) hbb hW
  refine lw_cw (g := g) (nL := 20) (wr := ([] : va_W)) (as := [gI (nZ (gg : Int)), gI (nZ (t : Int)), gI (nZ (bb : Int))]) (t := []) hx hb hml hown hts hK hA ⟨by show _ ≤ 600130; omega, by show _ ≤ 7301080; omega⟩ c_X9_would (ci := 9) rfl w5_L_law_109 v_X9_would ⟨rfl, rfl⟩ ⟨Nat.le_of_ble_eq_true rfl, Nat.le_of_ble_eq_true rfl⟩ dL_law_367 (k := 0) (j := 0) ⟨by decide +kernel, by decide +kernel⟩ rfl (gb_oks_c (v := gI (nZ (gg : Int))) trivial (gb_oks_c (v := gI (nZ (t : Int))) trivial (gb_oks_c (v := gI (nZ (bb : Int))) trivial gb_oks_n))) rfl (Nat.le_of_ble_eq_true rfl) hf1 hP hD hS hl rfl (fun v9 σ9 H locs he hP hD hS => ?_) (Or.inl rfl)
  cases he
  refine W.eq (g2 := F0 m 370 ls [.int (nZ (gA Ab.1 bb gg t))]) rfl ?_
  refine lv_istore (lv' := [(14, .int (nZ (gA Ab.1 bb gg t))), (13, .int (0)), (12, .int (nZ (sm 6 (fun b => lT (sB Ab.1 b))))), (11, .int (nZ (lA Ab.1 (sY Ab.1)))), (10, .int (nZ Ab.2.2.1.length)), (9, .int (nZ (o : Int))), (8, .int (nZ (t : Int))), (7, .int (nZ (bb : Int))), (6, .int (nZ (gg : Int))), (5, .int (x)), (4, .int (nI k)), (1, .ref (g.2.2.1 0 0)), (0, .ref (b))]) hx hb dL_law_370 hl (by decide) rfl (fun ls hl => ?_)
  refine lv_aload_n hx hb dL_law_372 rfl (lv_at hl 11 rfl) ?_
  refine lv_iload hx hb dL_law_373 (lv_at hl 7 rfl) ?_
  refine lv_iconst (v := 1) hx hb dL_law_375 (by decide) ?_
  obtain ⟨σ2, hf2, hCR⟩ := u_bin1 hCR hbb
  refine lw_cw (g := g) (nL := 20) (wr := ([] : va_W)) (as := [gI (nZ (bb : Int)), gI (1)]) (t := []) hx hb hml hown hts hK hA ⟨by show _ ≤ 600130; omega, by show _ ≤ 7301080; omega⟩ c_X9_bin (ci := 9) rfl w5_L_law_27 v_X9_bin ⟨rfl, rfl⟩ ⟨Nat.le_of_ble_eq_true rfl, Nat.le_of_ble_eq_true rfl⟩ dL_law_376 (k := 0) (j := 0) ⟨by decide +kernel, by decide +kernel⟩ rfl (gb_oks_c (v := gI (nZ (bb : Int))) trivial (gb_oks_c (v := gI (1)) trivial gb_oks_n)) rfl (Nat.le_of_ble_eq_true rfl) hf2 hP hD hS hl rfl (fun v9 σ9 H locs he hP hD hS => ?_) (Or.inl rfl)
  cases he
  refine W.eq (g2 := F0 m 379 ls [.int (nZ (lT (sB Ab.1 bb)))]) rfl ?_
  refine lv_istore (lv' := [(15, .int (nZ (lT (sB Ab.1 bb)))), (14, .int (nZ (gA Ab.1 bb gg t))), (13, .int (0)), (12, .int (nZ (sm 6 (fun b => lT (sB Ab.1 b))))), (11, .int (nZ (lA Ab.1 (sY Ab.1)))), (10, .int (nZ Ab.2.2.1.length)), (9, .int (nZ (o : Int))), (8, .int (nZ (t : Int))), (7, .int (nZ (bb : Int))), (6, .int (nZ (gg : Int))), (5, .int (x)), (4, .int (nI k)), (1, .ref (g.2.2.1 0 0)), (0, .ref (b))]) hx hb dL_law_379 hl (by decide) rfl (fun ls hl => ?_)
  refine lv_aload_n hx hb dL_law_381 rfl (lv_at hl 12 rfl) ?_
  refine lv_iload hx hb dL_law_382 (lv_at hl 9 rfl) ?_
  refine lv_iload hx hb dL_law_384 (lv_at hl 7 rfl) ?_
  refine lv_iload hx hb dL_law_386 (lv_at hl 8 rfl) ?_
  obtain ⟨σ3, hf3, hCR⟩ := v_load hCR (g := gg) (y := t) (by omega) (by omega) hbb (by omega)
  refine lw_cw (g := g) (nL := 20) (wr := ([] : va_W)) (as := [gI (nZ (gg : Int)), gI (nZ (t : Int)), gI (nZ (bb : Int))]) (t := []) hx hb hml hown hts hK hA ⟨by show _ ≤ 600130; omega, by show _ ≤ 7301080; omega⟩ c_X9_load (ci := 9) rfl w5_L_law_112 v_X9_load ⟨rfl, rfl⟩ ⟨Nat.le_of_ble_eq_true rfl, Nat.le_of_ble_eq_true rfl⟩ dL_law_388 (k := 0) (j := 0) ⟨by decide +kernel, by decide +kernel⟩ rfl (gb_oks_c (v := gI (nZ (gg : Int))) trivial (gb_oks_c (v := gI (nZ (t : Int))) trivial (gb_oks_c (v := gI (nZ (bb : Int))) trivial gb_oks_n))) rfl (Nat.le_of_ble_eq_true rfl) hf3 hP hD hS hl rfl (fun v9 σ9 H locs he hP hD hS => ?_) (Or.inl rfl)
  cases he
  refine W.eq (g2 := F0 m 391 ls [.int (nZ (lT (sB Ab.1 bb) + (t : Int)))]) rfl ?_
  refine lv_istore (lv' := [(16, .int (nZ (lT (sB Ab.1 bb) + (t : Int)))), (15, .int (nZ (lT (sB Ab.1 bb)))), (14, .int (nZ (gA Ab.1 bb gg t))), (13, .int (0)), (12, .int (nZ (sm 6 (fun b => lT (sB Ab.1 b))))), (11, .int (nZ (lA Ab.1 (sY Ab.1)))), (10, .int (nZ Ab.2.2.1.length)), (9, .int (nZ (o : Int))), (8, .int (nZ (t : Int))), (7, .int (nZ (bb : Int))), (6, .int (nZ (gg : Int))), (5, .int (x)), (4, .int (nI k)), (1, .ref (g.2.2.1 0 0)), (0, .ref (b))]) hx hb dL_law_391 hl (by decide) rfl (fun ls hl => ?_)
  refine lv_iload hx hb dL_law_393 (lv_at hl 0 rfl) ?_
  refine lv_if_lt (tgt := 402) hx hb dL_law_395 (by decide) (fun c9 => absurd c9 (zn_lt (b := 0) (zr (by omega) (by omega)) (zr (by omega) (by omega)) (by omega))) (fun _ => ?_)
  refine lv_iconst (v := 1) hx hb dL_law_398 (by decide) ?_
  refine lv_goto (tgt := 403) hx hb dL_law_399 (by decide) ?_
  refine lv_istore (lv' := [(13, .int (1)), (16, .int (nZ (lT (sB Ab.1 bb) + (t : Int)))), (15, .int (nZ (lT (sB Ab.1 bb)))), (14, .int (nZ (gA Ab.1 bb gg t))), (12, .int (nZ (sm 6 (fun b => lT (sB Ab.1 b))))), (11, .int (nZ (lA Ab.1 (sY Ab.1)))), (10, .int (nZ Ab.2.2.1.length)), (9, .int (nZ (o : Int))), (8, .int (nZ (t : Int))), (7, .int (nZ (bb : Int))), (6, .int (nZ (gg : Int))), (5, .int (x)), (4, .int (nI k)), (1, .ref (g.2.2.1 0 0)), (0, .ref (b))]) hx hb dL_law_403 hl (by decide) rfl (fun ls hl => ?_)
  refine lv_iload hx hb dL_law_405 (lv_at hl 1 rfl) ?_
  refine lv_if_lt (tgt := 442) hx hb dL_law_407 (by decide) (fun c9 => absurd c9 (zn_lt (b := 0) (zr (by omega) (by omega)) (zr (by omega) (by omega)) (by omega))) (fun _ => ?_)
  refine lv_iload hx hb dL_law_410 (lv_at hl 3 rfl) ?_
  refine lv_ldc (v := (-1000000)) hx hb hown (hts _ (wj_L_lawload1 _ (List.mem_of_getElem? (i := 0) rfl))) dL_law_412 ?_
  refine lv_icmp_le (tgt := 452) hx hb dL_law_414 (by decide) (fun c9 => absurd c9 (zn_le (b := -1000000) (zr (by omega) (by omega)) (zr (by omega) (by omega)) (by omega))) (fun _ => ?_)
  refine lv_iload hx hb dL_law_417 (lv_at hl 1 rfl) ?_
  refine lv_iload hx hb dL_law_419 (lv_at hl 2 rfl) ?_
  refine lv_iload hx hb dL_law_421 (lv_at hl 8 rfl) ?_
  refine lv_iadd hx hb dL_law_423 ?_
  refine W.eq (g2 := F0 m 424 ls [.int (nZ (lT (sB Ab.1 bb) + (t : Int))), .int (nZ (lT (sB Ab.1 bb) + (t : Int)))]) (by rw [show ((nZ (lT (sB Ab.1 bb))) + (nZ (t : Int)) : Int32) = nZ (lT (sB Ab.1 bb) + (t : Int)) from z_add _ _]) ?_
  refine lv_icmp_ne (tgt := 452) hx hb dL_law_424 (by decide) (fun c9 => absurd rfl c9) (fun _ => ?_)
  refine lv_aload_n hx hb dL_law_427 rfl (lv_at hl 13 rfl) ?_
  obtain ⟨σ4, hf4, hCR⟩ := u_all hCR
  refine lw_cw (g := g) (nL := 20) (wr := ([] : va_W)) (as := []) (t := []) hx hb hml hown hts hK hA ⟨by show _ ≤ 600130; omega, by show _ ≤ 7301080; omega⟩ c_X9_all (ci := 9) rfl w5_L_law_57 v_X9_all ⟨rfl, rfl⟩ ⟨Nat.le_of_ble_eq_true rfl, Nat.le_of_ble_eq_true rfl⟩ dL_law_428 (k := 0) (j := 0) ⟨by decide +kernel, by decide +kernel⟩ rfl gb_oks_n rfl (Nat.le_of_ble_eq_true rfl) hf4 hP hD hS hl rfl (fun v9 σ9 H locs he hP hD hS => ?_) (Or.inl rfl)
  cases he
  refine W.eq (g2 := F0 m 431 ls [.int (nZ (lA (setS Ab (setB Ab.1 bb (lay1 (sB Ab.1 bb) gg t (sY Ab.1)))).1 (sY (setS Ab (setB Ab.1 bb (lay1 (sB Ab.1 bb) gg t (sY Ab.1)))).1)))]) rfl ?_
  refine lv_iload hx hb dL_law_431 (lv_at hl 5 rfl) ?_
  refine lv_iload hx hb dL_law_433 (lv_at hl 3 rfl) ?_
  refine lv_iadd hx hb dL_law_435 ?_
  refine W.eq (g2 := F0 m 436 ls [.int (nZ (lA Ab.1 (sY Ab.1) + gA Ab.1 bb gg t)), .int (nZ (lA (setS Ab (setB Ab.1 bb (lay1 (sB Ab.1 bb) gg t (sY Ab.1)))).1 (sY (setS Ab (setB Ab.1 bb (lay1 (sB Ab.1 bb) gg t (sY Ab.1)))).1)))]) (by rw [show ((nZ (lA Ab.1 (sY Ab.1))) + (nZ (gA Ab.1 bb gg t)) : Int32) = nZ (lA Ab.1 (sY Ab.1) + gA Ab.1 bb gg t) from z_add _ _]) ?_
  refine lv_icmp_eq (tgt := 1190) hx hb dL_law_436 (by decide) (fun _ => ?_) (fun c9 => absurd (congrArg nZ hL9) c9)
  exact k9 σ4 (setS Ab (setB Ab.1 bb (lay1 (sB Ab.1 bb) gg t (sY Ab.1)))) (1) H locs ls (Or.inr ⟨rfl, _, rfl, okX_load hwf.1 hInv.1 hbb (by omega) hW, by have := hInv.2.2; show sY Ab.1 ≤ _; omega⟩) (lv_sub hl [0, 4, 5, 6, 7, 8, 9, 10, 11, 12, 13, 14] rfl) hP hD hS hCR
theorem wj_L_lawload0 : ∀ w ∈ ([.constant RL 116 (1000000)] : List Cond), w ∈ gb_J := by
  have h : ∀ w ∈ ([.constant RL 116 (1000000)] : List Cond), w ∈ jsw ∨ (w ∈ lw_tbl ∧ goodWord w = true) := by decide +kernel
  exact gb_J_of h
set_option maxHeartbeats 4000000 in
theorem lw_load0 {p : Program} {l : Launch} {e : Env} {s : State} {m : MethodId} {below : List Frame} {meth : Method} {c : Code} {g : gb_G} {A : Nat → Prop} {b L t1 t2 : Nat} {xs : Nat → Int32} {Q : State → Prop} (X : jLw p s m c g A b L xs t1 t2) {k gg bb t o : Nat} {x : Int32} {Ab : gb_Ab} {σ : gb_M} {H : Heap} {locs : List Loc} {cells slots : Nat} {ls : Array Slot} (hk : k < 20) (hgg : gg < 4) (hbb : bb < 6) (ht : 1 ≤ t ∧ t ≤ 16) (ho : o < 6) (hInv : jInv k Ab) (hc : cells ≤ 600130 ∧ slots ≤ 7301080) (hl : lv_has ls 20 (jlv g b k x gg bb t o Ab 0)) (hP : va_P (g.1, g.2.1) vwCl (gb_ws g σ ++ ([] : va_W)) H) (hD : va_D A (gb_ws g σ ++ ([] : va_W))) (hS : va_S A s.heap H locs) (hCR : CR σ Ab) (k9 : ∀ (σ : gb_M) (Ac : gb_Ab) (d : Int32) (H : Heap) (locs : List Loc) (ls : Array Slot), jEnd k Ab Ac d → lv_has ls 20 (jlv g b k x gg bb t o Ab d) → va_P (g.1, g.2.1) vwCl (gb_ws g σ ++ ([] : va_W)) H → va_D A (gb_ws g σ ++ ([] : va_W)) → va_S A s.heap H locs → CR σ Ac → W p l e room_1 s m #[Value.ref b] below meth c H locs cells slots Q (F0 m 1190 ls [])) (hW : ¬ sWhy Ab.1 bb gg t (sY Ab.1) = 0) : W p l e room_1 s m #[Value.ref b] below meth c H locs cells slots Q (F0 m 360 ls []) := by
  obtain ⟨hx, hb, hml, hown, hts, hK, hA, hC, hX, hbA, hbl⟩ := id X
  have hwf := CR_wf hCR
  have hI := hwf.1.1
  have hB : ∀ j, j < 6 → 0 ≤ lT (sB Ab.1 j) ∧ lT (sB Ab.1 j) ≤ 99 := fun j hj => jT_r hwf hInv.1 hj
  have hA0 := lA_r (s := Ab.1) (on := sY Ab.1) hI
  have hBb := hB bb hbb
  have hBo := hB o ho
  have hY := jY_r hwf
  have hr9 := sWhy_r (s := Ab.1) (b := bb) (g := gg) (t := t) (d := sY Ab.1)
  refine lv_aload_n hx hb dL_law_360 rfl (lv_at hl 10 rfl) ?_
  refine lv_iload hx hb dL_law_361 (lv_at hl 7 rfl) ?_
  refine lv_iload hx hb dL_law_363 (lv_at hl 5 rfl) ?_
  refine lv_iload hx hb dL_law_365 (lv_at hl 6 rfl) ?_
  obtain ⟨σ1, hf1, hCR⟩ := v_would_no hCR (g := gg) (y := t) (by omega) (by omega) hbb hW
  refine lw_cw (g := g) (nL := 20) (wr := ([] : va_W)) (as := [gI (nZ (gg : Int)), gI (nZ (t : Int)), gI (nZ (bb : Int))]) (t := []) hx hb hml hown hts hK hA ⟨by show _ ≤ 600130; omega, by show _ ≤ 7301080; omega⟩ c_X9_would (ci := 9) rfl w5_L_law_109 v_X9_would ⟨rfl, rfl⟩ ⟨Nat.le_of_ble_eq_true rfl, Nat.le_of_ble_eq_true rfl⟩ dL_law_367 (k := 0) (j := 0) ⟨by decide +kernel, by decide +kernel⟩ rfl (gb_oks_c (v := gI (nZ (gg : Int))) trivial (gb_oks_c (v := gI (nZ (t : Int))) trivial (gb_oks_c (v := gI (nZ (bb : Int))) trivial gb_oks_n))) rfl (Nat.le_of_ble_eq_true rfl) hf1 hP hD hS hl rfl (fun v9 σ9 H locs he hP hD hS => ?_) (Or.inl rfl)
  cases he
  refine W.eq (g2 := F0 m 370 ls [.int (nZ (-1000000 + sWhy Ab.1 bb gg t (sY Ab.1)))]) rfl ?_
  refine lv_istore (lv' := [(14, .int (nZ (-1000000 + sWhy Ab.1 bb gg t (sY Ab.1)))), (13, .int (0)), (12, .int (nZ (sm 6 (fun b => lT (sB Ab.1 b))))), (11, .int (nZ (lA Ab.1 (sY Ab.1)))), (10, .int (nZ Ab.2.2.1.length)), (9, .int (nZ (o : Int))), (8, .int (nZ (t : Int))), (7, .int (nZ (bb : Int))), (6, .int (nZ (gg : Int))), (5, .int (x)), (4, .int (nI k)), (1, .ref (g.2.2.1 0 0)), (0, .ref (b))]) hx hb dL_law_370 hl (by decide) rfl (fun ls hl => ?_)
  refine lv_aload_n hx hb dL_law_372 rfl (lv_at hl 11 rfl) ?_
  refine lv_iload hx hb dL_law_373 (lv_at hl 7 rfl) ?_
  refine lv_iconst (v := 1) hx hb dL_law_375 (by decide) ?_
  obtain ⟨σ2, hf2, hCR⟩ := u_bin1 hCR hbb
  refine lw_cw (g := g) (nL := 20) (wr := ([] : va_W)) (as := [gI (nZ (bb : Int)), gI (1)]) (t := []) hx hb hml hown hts hK hA ⟨by show _ ≤ 600130; omega, by show _ ≤ 7301080; omega⟩ c_X9_bin (ci := 9) rfl w5_L_law_27 v_X9_bin ⟨rfl, rfl⟩ ⟨Nat.le_of_ble_eq_true rfl, Nat.le_of_ble_eq_true rfl⟩ dL_law_376 (k := 0) (j := 0) ⟨by decide +kernel, by decide +kernel⟩ rfl (gb_oks_c (v := gI (nZ (bb : Int))) trivial (gb_oks_c (v := gI (1)) trivial gb_oks_n)) rfl (Nat.le_of_ble_eq_true rfl) hf2 hP hD hS hl rfl (fun v9 σ9 H locs he hP hD hS => ?_) (Or.inl rfl)
  cases he
  refine W.eq (g2 := F0 m 379 ls [.int (nZ (lT (sB Ab.1 bb)))]) rfl ?_
  refine lv_istore (lv' := [(15, .int (nZ (lT (sB Ab.1 bb)))), (14, .int (nZ (-1000000 + sWhy Ab.1 bb gg t (sY Ab.1)))), (13, .int (0)), (12, .int (nZ (sm 6 (fun b => lT (sB Ab.1 b))))), (11, .int (nZ (lA Ab.1 (sY Ab.1)))), (10, .int (nZ Ab.2.2.1.length)), (9, .int (nZ (o : Int))), (8, .int (nZ (t : Int))), (7, .int (nZ (bb : Int))), (6, .int (nZ (gg : Int))), (5, .int (x)), (4, .int (nI k)), (1, .ref (g.2.2.1 0 0)), (0, .ref (b))]) hx hb dL_law_379 hl (by decide) rfl (fun ls hl => ?_)
  refine lv_aload_n hx hb dL_law_381 rfl (lv_at hl 12 rfl) ?_
  refine lv_iload hx hb dL_law_382 (lv_at hl 9 rfl) ?_
  refine lv_iload hx hb dL_law_384 (lv_at hl 7 rfl) ?_
  refine lv_iload hx hb dL_law_386 (lv_at hl 8 rfl) ?_
  obtain ⟨σ3, hf3, hCR⟩ := v_load_no hCR (g := gg) (y := t) (by omega) (by omega) hbb (by omega)
  refine lw_cw (g := g) (nL := 20) (wr := ([] : va_W)) (as := [gI (nZ (gg : Int)), gI (nZ (t : Int)), gI (nZ (bb : Int))]) (t := []) hx hb hml hown hts hK hA ⟨by show _ ≤ 600130; omega, by show _ ≤ 7301080; omega⟩ c_X9_load (ci := 9) rfl w5_L_law_112 v_X9_load ⟨rfl, rfl⟩ ⟨Nat.le_of_ble_eq_true rfl, Nat.le_of_ble_eq_true rfl⟩ dL_law_388 (k := 0) (j := 0) ⟨by decide +kernel, by decide +kernel⟩ rfl (gb_oks_c (v := gI (nZ (gg : Int))) trivial (gb_oks_c (v := gI (nZ (t : Int))) trivial (gb_oks_c (v := gI (nZ (bb : Int))) trivial gb_oks_n))) rfl (Nat.le_of_ble_eq_true rfl) hf3 hP hD hS hl rfl (fun v9 σ9 H locs he hP hD hS => ?_) (Or.inl rfl)
  cases he
  refine W.eq (g2 := F0 m 391 ls [.int (nZ (sWhy Ab.1 bb gg t (sY Ab.1)))]) rfl ?_
  refine lv_istore (lv' := [(16, .int (nZ (sWhy Ab.1 bb gg t (sY Ab.1)))), (15, .int (nZ (lT (sB Ab.1 bb)))), (14, .int (nZ (-1000000 + sWhy Ab.1 bb gg t (sY Ab.1)))), (13, .int (0)), (12, .int (nZ (sm 6 (fun b => lT (sB Ab.1 b))))), (11, .int (nZ (lA Ab.1 (sY Ab.1)))), (10, .int (nZ Ab.2.2.1.length)), (9, .int (nZ (o : Int))), (8, .int (nZ (t : Int))), (7, .int (nZ (bb : Int))), (6, .int (nZ (gg : Int))), (5, .int (x)), (4, .int (nI k)), (1, .ref (g.2.2.1 0 0)), (0, .ref (b))]) hx hb dL_law_391 hl (by decide) rfl (fun ls hl => ?_)
  refine lv_iload hx hb dL_law_393 (lv_at hl 0 rfl) ?_
  refine lv_if_lt (tgt := 402) hx hb dL_law_395 (by decide) (fun _ => ?_) (fun c9 => absurd (zy_lt (b := 0) (zr (by omega) (by omega)) (zr (by omega) (by omega)) (by omega)) c9)
  refine lv_iconst (v := 0) hx hb dL_law_402 (by decide) ?_
  refine lv_istore (lv' := [(13, .int (0)), (16, .int (nZ (sWhy Ab.1 bb gg t (sY Ab.1)))), (15, .int (nZ (lT (sB Ab.1 bb)))), (14, .int (nZ (-1000000 + sWhy Ab.1 bb gg t (sY Ab.1)))), (12, .int (nZ (sm 6 (fun b => lT (sB Ab.1 b))))), (11, .int (nZ (lA Ab.1 (sY Ab.1)))), (10, .int (nZ Ab.2.2.1.length)), (9, .int (nZ (o : Int))), (8, .int (nZ (t : Int))), (7, .int (nZ (bb : Int))), (6, .int (nZ (gg : Int))), (5, .int (x)), (4, .int (nI k)), (1, .ref (g.2.2.1 0 0)), (0, .ref (b))]) hx hb dL_law_403 hl (by decide) rfl (fun ls hl => ?_)
  refine lv_iload hx hb dL_law_405 (lv_at hl 1 rfl) ?_
  refine lv_if_lt (tgt := 442) hx hb dL_law_407 (by decide) (fun _ => ?_) (fun c9 => absurd (zy_lt (b := 0) (zr (by omega) (by omega)) (zr (by omega) (by omega)) (by omega)) c9)
  refine lv_iload hx hb dL_law_442 (lv_at hl 3 rfl) ?_
  refine lv_iload hx hb dL_law_444 (lv_at hl 1 rfl) ?_
  refine lv_ldc (v := (1000000)) hx hb hown (hts _ (wj_L_lawload0 _ (List.mem_of_getElem? (i := 0) rfl))) dL_law_446 ?_
  refine lv_isub hx hb dL_law_448 ?_
  refine W.eq (g2 := F0 m 449 ls [.int (nZ (sWhy Ab.1 bb gg t (sY Ab.1) - 1000000)), .int (nZ (-1000000 + sWhy Ab.1 bb gg t (sY Ab.1)))]) (by rw [show ((nZ (sWhy Ab.1 bb gg t (sY Ab.1))) - (1000000) : Int32) = nZ (sWhy Ab.1 bb gg t (sY Ab.1) - 1000000) from z_sub _ 1000000]) ?_
  refine lv_icmp_eq (tgt := 1190) hx hb dL_law_449 (by decide) (fun _ => ?_) (fun c9 => absurd (congrArg nZ (by omega)) c9)
  exact k9 σ3 (Ab) (0) H locs ls (Or.inl ⟨rfl, rfl⟩) (lv_sub hl [0, 4, 5, 6, 7, 8, 9, 10, 11, 12, 13, 14] rfl) hP hD hS hCR
theorem w5_L_law_35 : ∀ w ∈ ([.methodLink RL 35 yX9_grade, .instanceMethod yX9_grade, .selects RX9 yX9_grade yX9_grade, .initialized RX9, .code yX9_grade cX9_grade 3 (some .int)] : List Cond), w ∈ gb_B := by
  have h : ∀ w ∈ ([.methodLink RL 35 yX9_grade, .instanceMethod yX9_grade, .selects RX9 yX9_grade yX9_grade, .initialized RX9, .code yX9_grade cX9_grade 3 (some .int)] : List Cond), w ∈ lw_tbl ∧ goodWord w = true := by decide +kernel
  exact fun w hw => List.mem_filter.mpr (h w hw)
theorem w5_L_law_143 : ∀ w ∈ ([.methodLink RL 143 yX9_price, .instanceMethod yX9_price, .selects RX9 yX9_price yX9_price, .initialized RX9, .code yX9_price cX9_price 4 (some .int)] : List Cond), w ∈ gb_B := by
  have h : ∀ w ∈ ([.methodLink RL 143 yX9_price, .instanceMethod yX9_price, .selects RX9 yX9_price yX9_price, .initialized RX9, .code yX9_price cX9_price 4 (some .int)] : List Cond), w ∈ lw_tbl ∧ goodWord w = true := by decide +kernel
  exact fun w hw => List.mem_filter.mpr (h w hw)
set_option maxHeartbeats 4000000 in
theorem lw_price {p : Program} {l : Launch} {e : Env} {s : State} {m : MethodId} {below : List Frame} {meth : Method} {c : Code} {g : gb_G} {A : Nat → Prop} {b L t1 t2 : Nat} {xs : Nat → Int32} {Q : State → Prop} (X : jLw p s m c g A b L xs t1 t2) {k gg bb t o : Nat} {x : Int32} {Ab : gb_Ab} {σ : gb_M} {H : Heap} {locs : List Loc} {cells slots : Nat} {ls : Array Slot} (hk : k < 20) (hgg : gg < 4) (hbb : bb < 6) (ht : 1 ≤ t ∧ t ≤ 16) (ho : o < 6) (hInv : jInv k Ab) (hc : cells ≤ 600130 ∧ slots ≤ 7301080) (hl : lv_has ls 20 (jlv g b k x gg bb t o Ab 0)) (hP : va_P (g.1, g.2.1) vwCl (gb_ws g σ ++ ([] : va_W)) H) (hD : va_D A (gb_ws g σ ++ ([] : va_W))) (hS : va_S A s.heap H locs) (hCR : CR σ Ab) (k9 : ∀ (σ : gb_M) (Ac : gb_Ab) (d : Int32) (H : Heap) (locs : List Loc) (ls : Array Slot), jEnd k Ab Ac d → lv_has ls 20 (jlv g b k x gg bb t o Ab d) → va_P (g.1, g.2.1) vwCl (gb_ws g σ ++ ([] : va_W)) H → va_D A (gb_ws g σ ++ ([] : va_W)) → va_S A s.heap H locs → CR σ Ac → W p l e room_1 s m #[Value.ref b] below meth c H locs cells slots Q (F0 m 1190 ls [])) : W p l e room_1 s m #[Value.ref b] below meth c H locs cells slots Q (F0 m 1127 ls []) := by
  obtain ⟨hx, hb, hml, hown, hts, hK, hA, hC, hX, hbA, hbl⟩ := id X
  have hwf := CR_wf hCR
  have hI := hwf.1.1
  have hB : ∀ j, j < 6 → 0 ≤ lT (sB Ab.1 j) ∧ lT (sB Ab.1 j) ≤ 99 := fun j hj => jT_r hwf hInv.1 hj
  have hA0 := lA_r (s := Ab.1) (on := sY Ab.1) hI
  have hBb := hB bb hbb
  have hBo := hB o ho
  have hY := jY_r hwf
  refine lv_iload hx hb dL_law_1127 (lv_at hl 8 rfl) ?_
  refine lv_bipush (v := 16) hx hb dL_law_1129 (by decide) ?_
  refine lv_iushr (v := jv (x) (16)) hx hb dL_law_1131 rfl ?_
  refine lv_sipush (v := 1023) hx hb dL_law_1132 (by decide) ?_
  refine lv_iand hx hb dL_law_1135 ?_
  refine W.eq (g2 := F0 m 1136 ls [.int (nI (jb x 16 10))]) (by rw [show ((jv (x) (16)) &&& (1023) : Int32) = nI (jb x 16 10) from jb_and _ _ _ _ (by decide)]) ?_
  refine lv_sipush (v := 1000) hx hb dL_law_1136 (by decide) ?_
  refine lv_irem hx hb dL_law_1139 (by decide) ?_
  refine W.eq (g2 := F0 m 1140 ls [.int (nZ ((jb x 16 10 % 1000 : Nat) : Int))]) (by rw [show ((nI (jb x 16 10)) - (nI (jb x 16 10)) / (1000) * (1000) : Int32) = nZ ((jb x 16 10 % 1000 : Nat) : Int) from jrem1000 (jb_lt x 16 10)]) ?_
  refine lv_istore (lv' := [(14, .int (nZ ((jb x 16 10 % 1000 : Nat) : Int))), (13, .int (0)), (12, .int (nZ (sm 6 (fun b => lT (sB Ab.1 b))))), (11, .int (nZ (lA Ab.1 (sY Ab.1)))), (10, .int (nZ Ab.2.2.1.length)), (9, .int (nZ (o : Int))), (8, .int (nZ (t : Int))), (7, .int (nZ (bb : Int))), (6, .int (nZ (gg : Int))), (5, .int (x)), (4, .int (nI k)), (1, .ref (g.2.2.1 0 0)), (0, .ref (b))]) hx hb dL_law_1140 hl (by decide) rfl (fun ls hl => ?_)
  refine lv_aload_n hx hb dL_law_1142 rfl (lv_at hl 11 rfl) ?_
  refine lv_iload hx hb dL_law_1143 (lv_at hl 8 rfl) ?_
  refine lv_iconst (v := 0) hx hb dL_law_1145 (by decide) ?_
  obtain ⟨σ1, hf1, hCR⟩ := u_grade0 hCR (g := gg) (by omega)
  refine lw_cw (g := g) (nL := 20) (wr := ([] : va_W)) (as := [gI (nZ (gg : Int)), gI (0)]) (t := []) hx hb hml hown hts hK hA ⟨by show _ ≤ 600130; omega, by show _ ≤ 7301080; omega⟩ c_X9_grade (ci := 9) rfl w5_L_law_35 v_X9_grade ⟨rfl, rfl⟩ ⟨Nat.le_of_ble_eq_true rfl, Nat.le_of_ble_eq_true rfl⟩ dL_law_1146 (k := 0) (j := 0) ⟨by decide +kernel, by decide +kernel⟩ rfl (gb_oks_c (v := gI (nZ (gg : Int))) trivial (gb_oks_c (v := gI (0)) trivial gb_oks_n)) rfl (Nat.le_of_ble_eq_true rfl) hf1 hP hD hS hl rfl (fun v9 σ9 H locs he hP hD hS => ?_) (Or.inl rfl)
  cases he
  refine W.eq (g2 := F0 m 1149 ls [.int (nZ (sW Ab.1 gg))]) rfl ?_
  refine lv_istore (lv' := [(15, .int (nZ (sW Ab.1 gg))), (14, .int (nZ ((jb x 16 10 % 1000 : Nat) : Int))), (13, .int (0)), (12, .int (nZ (sm 6 (fun b => lT (sB Ab.1 b))))), (11, .int (nZ (lA Ab.1 (sY Ab.1)))), (10, .int (nZ Ab.2.2.1.length)), (9, .int (nZ (o : Int))), (8, .int (nZ (t : Int))), (7, .int (nZ (bb : Int))), (6, .int (nZ (gg : Int))), (5, .int (x)), (4, .int (nI k)), (1, .ref (g.2.2.1 0 0)), (0, .ref (b))]) hx hb dL_law_1149 hl (by decide) rfl (fun ls hl => ?_)
  refine lv_aload_n hx hb dL_law_1151 rfl (lv_at hl 12 rfl) ?_
  refine lv_iload hx hb dL_law_1152 (lv_at hl 9 rfl) ?_
  refine lv_iload hx hb dL_law_1154 (lv_at hl 1 rfl) ?_
  obtain ⟨σ2, hf2, hCR⟩ := v_price hCR (g := gg) (y := ((jb x 16 10 % 1000 : Nat) : Int)) (by omega) (by omega)
  refine lw_cw (g := g) (nL := 20) (wr := ([] : va_W)) (as := [gI (nZ (gg : Int)), gI (nZ ((jb x 16 10 % 1000 : Nat) : Int))]) (t := []) hx hb hml hown hts hK hA ⟨by show _ ≤ 600130; omega, by show _ ≤ 7301080; omega⟩ c_X9_price (ci := 9) rfl w5_L_law_143 v_X9_price ⟨rfl, rfl⟩ ⟨Nat.le_of_ble_eq_true rfl, Nat.le_of_ble_eq_true rfl⟩ dL_law_1156 (k := 0) (j := 0) ⟨by decide +kernel, by decide +kernel⟩ rfl (gb_oks_c (v := gI (nZ (gg : Int))) trivial (gb_oks_c (v := gI (nZ ((jb x 16 10 % 1000 : Nat) : Int))) trivial gb_oks_n)) rfl (Nat.le_of_ble_eq_true rfl) hf2 hP hD hS hl rfl (fun v9 σ9 H locs he hP hD hS => ?_) (Or.inl rfl)
  cases he
  refine W.eq (g2 := F0 m 1159 ls [.int (nZ (sW Ab.1 gg))]) rfl ?_
  refine lv_iload hx hb dL_law_1159 (lv_at hl 0 rfl) ?_
  refine lv_icmp_ne (tgt := 1168) hx hb dL_law_1161 (by decide) (fun c9 => absurd rfl c9) (fun _ => ?_)
  refine lv_iconst (v := 1) hx hb dL_law_1164 (by decide) ?_
  refine lv_goto (tgt := 1169) hx hb dL_law_1165 (by decide) ?_
  refine lv_istore (lv' := [(13, .int (1)), (15, .int (nZ (sW Ab.1 gg))), (14, .int (nZ ((jb x 16 10 % 1000 : Nat) : Int))), (12, .int (nZ (sm 6 (fun b => lT (sB Ab.1 b))))), (11, .int (nZ (lA Ab.1 (sY Ab.1)))), (10, .int (nZ Ab.2.2.1.length)), (9, .int (nZ (o : Int))), (8, .int (nZ (t : Int))), (7, .int (nZ (bb : Int))), (6, .int (nZ (gg : Int))), (5, .int (x)), (4, .int (nI k)), (1, .ref (g.2.2.1 0 0)), (0, .ref (b))]) hx hb dL_law_1169 hl (by decide) rfl (fun ls hl => ?_)
  refine lv_iload hx hb dL_law_1171 (lv_at hl 0 rfl) ?_
  refine lv_if_eq (tgt := 1188) hx hb dL_law_1173 (by decide) (fun c9 => absurd c9 (by decide)) (fun _ => ?_)
  refine lv_aload_n hx hb dL_law_1176 rfl (lv_at hl 12 rfl) ?_
  refine lv_iload hx hb dL_law_1177 (lv_at hl 9 rfl) ?_
  refine lv_iconst (v := 0) hx hb dL_law_1179 (by decide) ?_
  obtain ⟨σ3, hf3, hCR⟩ := u_grade0 hCR (g := gg) (by omega)
  refine lw_cw (g := g) (nL := 20) (wr := ([] : va_W)) (as := [gI (nZ (gg : Int)), gI (0)]) (t := []) hx hb hml hown hts hK hA ⟨by show _ ≤ 600130; omega, by show _ ≤ 7301080; omega⟩ c_X9_grade (ci := 9) rfl w5_L_law_35 v_X9_grade ⟨rfl, rfl⟩ ⟨Nat.le_of_ble_eq_true rfl, Nat.le_of_ble_eq_true rfl⟩ dL_law_1180 (k := 0) (j := 0) ⟨by decide +kernel, by decide +kernel⟩ rfl (gb_oks_c (v := gI (nZ (gg : Int))) trivial (gb_oks_c (v := gI (0)) trivial gb_oks_n)) rfl (Nat.le_of_ble_eq_true rfl) hf3 hP hD hS hl rfl (fun v9 σ9 H locs he hP hD hS => ?_) (Or.inl rfl)
  cases he
  refine W.eq (g2 := F0 m 1183 ls [.int (nZ (sW (setS Ab (setW Ab.1 gg ((jb x 16 10 % 1000 : Nat) : Int))).1 gg))]) rfl ?_
  refine lv_iload hx hb dL_law_1183 (lv_at hl 2 rfl) ?_
  refine lv_icmp_eq (tgt := 1190) hx hb dL_law_1185 (by decide) (fun _ => ?_) (fun c9 => absurd (congrArg nZ (show sW (setW Ab.1 gg ((jb x 16 10 % 1000 : Nat) : Int)) gg = ((jb x 16 10 % 1000 : Nat) : Int) from if_pos rfl)) c9)
  exact k9 σ3 (setS Ab (setW Ab.1 gg ((jb x 16 10 % 1000 : Nat) : Int))) (1) H locs ls (Or.inr ⟨rfl, _, rfl, okX_price hwf.1 hInv.1 (by omega), by have := hInv.2.2; rw [jYW (by omega)]; omega⟩) (lv_sub hl [0, 3, 4, 5, 6, 7, 8, 9, 10, 11, 12, 13] rfl) hP hD hS hCR
theorem w5_L_law_63 : ∀ w ∈ ([.methodLink RL 63 yX9_then, .instanceMethod yX9_then, .selects RX9 yX9_then yX9_then, .initialized RX9, .code yX9_then cX9_then 3 (some .int)] : List Cond), w ∈ gb_B := by
  have h : ∀ w ∈ ([.methodLink RL 63 yX9_then, .instanceMethod yX9_then, .selects RX9 yX9_then yX9_then, .initialized RX9, .code yX9_then cX9_then 3 (some .int)] : List Cond), w ∈ lw_tbl ∧ goodWord w = true := by decide +kernel
  exact fun w hw => List.mem_filter.mpr (h w hw)
theorem w5_L_law_124 : ∀ w ∈ ([.methodLink RL 124 yX9_days, .instanceMethod yX9_days, .selects RX9 yX9_days yX9_days, .initialized RX9, .code yX9_days cX9_days 2 (some .int)] : List Cond), w ∈ gb_B := by
  have h : ∀ w ∈ ([.methodLink RL 124 yX9_days, .instanceMethod yX9_days, .selects RX9 yX9_days yX9_days, .initialized RX9, .code yX9_days cX9_days 2 (some .int)] : List Cond), w ∈ lw_tbl ∧ goodWord w = true := by decide +kernel
  exact fun w hw => List.mem_filter.mpr (h w hw)
set_option maxHeartbeats 4000000 in
theorem lw_days {p : Program} {l : Launch} {e : Env} {s : State} {m : MethodId} {below : List Frame} {meth : Method} {c : Code} {g : gb_G} {A : Nat → Prop} {b L t1 t2 : Nat} {xs : Nat → Int32} {Q : State → Prop} (X : jLw p s m c g A b L xs t1 t2) {k gg bb t o : Nat} {x : Int32} {Ab : gb_Ab} {σ : gb_M} {H : Heap} {locs : List Loc} {cells slots : Nat} {ls : Array Slot} (hk : k < 20) (hgg : gg < 4) (hbb : bb < 6) (ht : 1 ≤ t ∧ t ≤ 16) (ho : o < 6) (hInv : jInv k Ab) (hc : cells ≤ 600130 ∧ slots ≤ 7301080) (hl : lv_has ls 20 (jlv g b k x gg bb t o Ab 0)) (hP : va_P (g.1, g.2.1) vwCl (gb_ws g σ ++ ([] : va_W)) H) (hD : va_D A (gb_ws g σ ++ ([] : va_W))) (hS : va_S A s.heap H locs) (hCR : CR σ Ab) (k9 : ∀ (σ : gb_M) (Ac : gb_Ab) (d : Int32) (H : Heap) (locs : List Loc) (ls : Array Slot), jEnd k Ab Ac d → lv_has ls 20 (jlv g b k x gg bb t o Ab d) → va_P (g.1, g.2.1) vwCl (gb_ws g σ ++ ([] : va_W)) H → va_D A (gb_ws g σ ++ ([] : va_W)) → va_S A s.heap H locs → CR σ Ac → W p l e room_1 s m #[Value.ref b] below meth c H locs cells slots Q (F0 m 1190 ls [])) (hW : jb x 16 1 = 0) : W p l e room_1 s m #[Value.ref b] below meth c H locs cells slots Q (F0 m 751 ls []) := by
  obtain ⟨hx, hb, hml, hown, hts, hK, hA, hC, hX, hbA, hbl⟩ := id X
  have hwf := CR_wf hCR
  have hI := hwf.1.1
  have hB : ∀ j, j < 6 → 0 ≤ lT (sB Ab.1 j) ∧ lT (sB Ab.1 j) ≤ 99 := fun j hj => jT_r hwf hInv.1 hj
  have hA0 := lA_r (s := Ab.1) (on := sY Ab.1) hI
  have hBb := hB bb hbb
  have hBo := hB o ho
  have hY := jY_r hwf
  have d9 := jb_lt x 17 4
  have hk9 := hInv.2.2
  refine lv_iload hx hb dL_law_751 (lv_at hl 8 rfl) ?_
  refine lv_bipush (v := 16) hx hb dL_law_753 (by decide) ?_
  refine lv_iushr (v := jv (x) (16)) hx hb dL_law_755 rfl ?_
  refine lv_iconst (v := 1) hx hb dL_law_756 (by decide) ?_
  refine lv_iand hx hb dL_law_757 ?_
  refine W.eq (g2 := F0 m 758 ls [.int (nI (jb x 16 1))]) (by rw [show ((jv (x) (16)) &&& (1) : Int32) = nI (jb x 16 1) from jb_and _ _ _ _ (by decide)]) ?_
  refine lv_if_ne (tgt := 825) hx hb dL_law_758 (by decide) (fun c9 => absurd (show nI (jb x 16 1) = 0 from by rw [hW]; rfl) c9) (fun _ => ?_)
  refine lv_iconst (v := 1) hx hb dL_law_761 (by decide) ?_
  refine lv_iload hx hb dL_law_762 (lv_at hl 8 rfl) ?_
  refine lv_bipush (v := 17) hx hb dL_law_764 (by decide) ?_
  refine lv_iushr (v := jv (x) (17)) hx hb dL_law_766 rfl ?_
  refine lv_bipush (v := 15) hx hb dL_law_767 (by decide) ?_
  refine lv_iand hx hb dL_law_769 ?_
  refine W.eq (g2 := F0 m 770 ls [.int (nI (jb x 17 4)), .int (1)]) (by rw [show ((jv (x) (17)) &&& (15) : Int32) = nI (jb x 17 4) from jb_and _ _ _ _ (by decide)]) ?_
  refine lv_iadd hx hb dL_law_770 ?_
  refine W.eq (g2 := F0 m 771 ls [.int (nZ ((1 + jb x 17 4 : Nat) : Int))]) (by rw [show ((1) + (nI (jb x 17 4)) : Int32) = nZ ((1 + jb x 17 4 : Nat) : Int) from (nI_add 1 _).trans (nIZ _)]) ?_
  refine lv_istore (lv' := [(14, .int (nZ ((1 + jb x 17 4 : Nat) : Int))), (13, .int (0)), (12, .int (nZ (sm 6 (fun b => lT (sB Ab.1 b))))), (11, .int (nZ (lA Ab.1 (sY Ab.1)))), (10, .int (nZ Ab.2.2.1.length)), (9, .int (nZ (o : Int))), (8, .int (nZ (t : Int))), (7, .int (nZ (bb : Int))), (6, .int (nZ (gg : Int))), (5, .int (x)), (4, .int (nI k)), (1, .ref (g.2.2.1 0 0)), (0, .ref (b))]) hx hb dL_law_771 hl (by decide) rfl (fun ls hl => ?_)
  refine lv_aload_n hx hb dL_law_773 rfl (lv_at hl 11 rfl) ?_
  refine lv_iload hx hb dL_law_774 (lv_at hl 0 rfl) ?_
  obtain ⟨σ1, hf1, hCR⟩ := v_then hCR (d := ((1 + jb x 17 4 : Nat) : Int)) (by omega)
  refine lw_cw (g := g) (nL := 20) (wr := ([] : va_W)) (as := [gI (nZ ((1 + jb x 17 4 : Nat) : Int))]) (t := []) hx hb hml hown hts hK hA ⟨by show _ ≤ 600130; omega, by show _ ≤ 7301080; omega⟩ c_X9_then (ci := 9) rfl w5_L_law_63 v_X9_then ⟨rfl, rfl⟩ ⟨Nat.le_of_ble_eq_true rfl, Nat.le_of_ble_eq_true rfl⟩ dL_law_776 (k := 0) (j := 0) ⟨by decide +kernel, by decide +kernel⟩ rfl (gb_oks_c (v := gI (nZ ((1 + jb x 17 4 : Nat) : Int))) trivial gb_oks_n) rfl (Nat.le_of_ble_eq_true rfl) hf1 hP hD hS hl rfl (fun v9 σ9 H locs he hP hD hS => ?_) (Or.inl rfl)
  cases he
  refine W.eq (g2 := F0 m 779 ls [.int (nZ (lA Ab.1 (sY Ab.1 + ((1 + jb x 17 4 : Nat) : Int))))]) rfl ?_
  refine lv_istore (lv' := [(15, .int (nZ (lA Ab.1 (sY Ab.1 + ((1 + jb x 17 4 : Nat) : Int))))), (14, .int (nZ ((1 + jb x 17 4 : Nat) : Int))), (13, .int (0)), (12, .int (nZ (sm 6 (fun b => lT (sB Ab.1 b))))), (11, .int (nZ (lA Ab.1 (sY Ab.1)))), (10, .int (nZ Ab.2.2.1.length)), (9, .int (nZ (o : Int))), (8, .int (nZ (t : Int))), (7, .int (nZ (bb : Int))), (6, .int (nZ (gg : Int))), (5, .int (x)), (4, .int (nI k)), (1, .ref (g.2.2.1 0 0)), (0, .ref (b))]) hx hb dL_law_779 hl (by decide) rfl (fun ls hl => ?_)
  refine lv_aload_n hx hb dL_law_781 rfl (lv_at hl 12 rfl) ?_
  refine lv_iconst (v := 0) hx hb dL_law_782 (by decide) ?_
  obtain ⟨σ2, hf2, hCR⟩ := u_count0 hCR
  refine lw_cw (g := g) (nL := 20) (wr := ([] : va_W)) (as := [gI (0)]) (t := []) hx hb hml hown hts hK hA ⟨by show _ ≤ 600130; omega, by show _ ≤ 7301080; omega⟩ c_X9_count (ci := 9) rfl w5_L_law_60 v_X9_count ⟨rfl, rfl⟩ ⟨Nat.le_of_ble_eq_true rfl, Nat.le_of_ble_eq_true rfl⟩ dL_law_783 (k := 0) (j := 0) ⟨by decide +kernel, by decide +kernel⟩ rfl (gb_oks_c (v := gI (0)) trivial gb_oks_n) rfl (Nat.le_of_ble_eq_true rfl) hf2 hP hD hS hl rfl (fun v9 σ9 H locs he hP hD hS => ?_) (Or.inl rfl)
  cases he
  refine W.eq (g2 := F0 m 786 ls [.int (nZ (sY Ab.1))]) rfl ?_
  refine lv_istore (lv' := [(16, .int (nZ (sY Ab.1))), (15, .int (nZ (lA Ab.1 (sY Ab.1 + ((1 + jb x 17 4 : Nat) : Int))))), (14, .int (nZ ((1 + jb x 17 4 : Nat) : Int))), (13, .int (0)), (12, .int (nZ (sm 6 (fun b => lT (sB Ab.1 b))))), (11, .int (nZ (lA Ab.1 (sY Ab.1)))), (10, .int (nZ Ab.2.2.1.length)), (9, .int (nZ (o : Int))), (8, .int (nZ (t : Int))), (7, .int (nZ (bb : Int))), (6, .int (nZ (gg : Int))), (5, .int (x)), (4, .int (nI k)), (1, .ref (g.2.2.1 0 0)), (0, .ref (b))]) hx hb dL_law_786 hl (by decide) rfl (fun ls hl => ?_)
  refine lv_aload_n hx hb dL_law_788 rfl (lv_at hl 13 rfl) ?_
  refine lv_iload hx hb dL_law_789 (lv_at hl 2 rfl) ?_
  obtain ⟨σ3, hf3, hCR⟩ := v_days hCR (z := ((1 + jb x 17 4 : Nat) : Int)) (by omega) (by omega)
  refine lw_cw (g := g) (nL := 20) (wr := ([] : va_W)) (as := [gI (nZ ((1 + jb x 17 4 : Nat) : Int))]) (t := []) hx hb hml hown hts hK hA ⟨by show _ ≤ 600130; omega, by show _ ≤ 7301080; omega⟩ c_X9_days (ci := 9) rfl w5_L_law_124 v_X9_days ⟨rfl, rfl⟩ ⟨Nat.le_of_ble_eq_true rfl, Nat.le_of_ble_eq_true rfl⟩ dL_law_791 (k := 0) (j := 0) ⟨by decide +kernel, by decide +kernel⟩ rfl (gb_oks_c (v := gI (nZ ((1 + jb x 17 4 : Nat) : Int))) trivial gb_oks_n) rfl (Nat.le_of_ble_eq_true rfl) hf3 hP hD hS hl rfl (fun v9 σ9 H locs he hP hD hS => ?_) (Or.inl rfl)
  cases he
  refine W.eq (g2 := F0 m 794 ls [.int (nZ (sY Ab.1 + ((1 + jb x 17 4 : Nat) : Int)))]) rfl ?_
  refine lv_iload hx hb dL_law_794 (lv_at hl 0 rfl) ?_
  refine lv_iload hx hb dL_law_796 (lv_at hl 2 rfl) ?_
  refine lv_iadd hx hb dL_law_798 ?_
  refine W.eq (g2 := F0 m 799 ls [.int (nZ (sY Ab.1 + ((1 + jb x 17 4 : Nat) : Int))), .int (nZ (sY Ab.1 + ((1 + jb x 17 4 : Nat) : Int)))]) (by rw [show ((nZ (sY Ab.1)) + (nZ ((1 + jb x 17 4 : Nat) : Int)) : Int32) = nZ (sY Ab.1 + ((1 + jb x 17 4 : Nat) : Int)) from z_add _ _]) ?_
  refine lv_icmp_ne (tgt := 806) hx hb dL_law_799 (by decide) (fun c9 => absurd rfl c9) (fun _ => ?_)
  refine lv_iconst (v := 1) hx hb dL_law_802 (by decide) ?_
  refine lv_goto (tgt := 807) hx hb dL_law_803 (by decide) ?_
  refine lv_istore (lv' := [(13, .int (1)), (16, .int (nZ (sY Ab.1))), (15, .int (nZ (lA Ab.1 (sY Ab.1 + ((1 + jb x 17 4 : Nat) : Int))))), (14, .int (nZ ((1 + jb x 17 4 : Nat) : Int))), (12, .int (nZ (sm 6 (fun b => lT (sB Ab.1 b))))), (11, .int (nZ (lA Ab.1 (sY Ab.1)))), (10, .int (nZ Ab.2.2.1.length)), (9, .int (nZ (o : Int))), (8, .int (nZ (t : Int))), (7, .int (nZ (bb : Int))), (6, .int (nZ (gg : Int))), (5, .int (x)), (4, .int (nI k)), (1, .ref (g.2.2.1 0 0)), (0, .ref (b))]) hx hb dL_law_807 hl (by decide) rfl (fun ls hl => ?_)
  refine lv_iload hx hb dL_law_809 (lv_at hl 0 rfl) ?_
  refine lv_if_eq (tgt := 823) hx hb dL_law_811 (by decide) (fun c9 => absurd c9 (by decide)) (fun _ => ?_)
  refine lv_aload_n hx hb dL_law_814 rfl (lv_at hl 13 rfl) ?_
  obtain ⟨σ4, hf4, hCR⟩ := u_all hCR
  refine lw_cw (g := g) (nL := 20) (wr := ([] : va_W)) (as := []) (t := []) hx hb hml hown hts hK hA ⟨by show _ ≤ 600130; omega, by show _ ≤ 7301080; omega⟩ c_X9_all (ci := 9) rfl w5_L_law_57 v_X9_all ⟨rfl, rfl⟩ ⟨Nat.le_of_ble_eq_true rfl, Nat.le_of_ble_eq_true rfl⟩ dL_law_815 (k := 0) (j := 0) ⟨by decide +kernel, by decide +kernel⟩ rfl gb_oks_n rfl (Nat.le_of_ble_eq_true rfl) hf4 hP hD hS hl rfl (fun v9 σ9 H locs he hP hD hS => ?_) (Or.inl rfl)
  cases he
  refine W.eq (g2 := F0 m 818 ls [.int (nZ (lA (setS Ab (setY Ab.1 (sY Ab.1 + ((1 + jb x 17 4 : Nat) : Int)))).1 (sY (setS Ab (setY Ab.1 (sY Ab.1 + ((1 + jb x 17 4 : Nat) : Int)))).1)))]) rfl ?_
  refine lv_iload hx hb dL_law_818 (lv_at hl 2 rfl) ?_
  refine lv_icmp_eq (tgt := 1190) hx hb dL_law_820 (by decide) (fun _ => ?_) (fun c9 => absurd (congrArg nZ (show lA (setY Ab.1 (sY Ab.1 + ((1 + jb x 17 4 : Nat) : Int))) (sY (setY Ab.1 (sY Ab.1 + ((1 + jb x 17 4 : Nat) : Int)))) = lA Ab.1 (sY Ab.1 + ((1 + jb x 17 4 : Nat) : Int)) from by rw [jYY]; exact lA_days hwf.1)) c9)
  exact k9 σ4 (setS Ab (setY Ab.1 (sY Ab.1 + ((1 + jb x 17 4 : Nat) : Int)))) (1) H locs ls (Or.inr ⟨rfl, _, rfl, okX_days hwf.1 hInv.1, by rw [jYY]; omega⟩) (lv_sub hl [0, 4, 5, 6, 7, 8, 9, 10, 11, 12, 13, 14] rfl) hP hD hS hCR
theorem w5_L_law_127 : ∀ w ∈ ([.methodLink RL 127 yX9_fumes, .instanceMethod yX9_fumes, .selects RX9 yX9_fumes yX9_fumes, .initialized RX9, .code yX9_fumes cX9_fumes 3 (some .int)] : List Cond), w ∈ gb_B := by
  have h : ∀ w ∈ ([.methodLink RL 127 yX9_fumes, .instanceMethod yX9_fumes, .selects RX9 yX9_fumes yX9_fumes, .initialized RX9, .code yX9_fumes cX9_fumes 3 (some .int)] : List Cond), w ∈ lw_tbl ∧ goodWord w = true := by decide +kernel
  exact fun w hw => List.mem_filter.mpr (h w hw)
set_option maxHeartbeats 4000000 in
theorem lw_fumes2 {p : Program} {l : Launch} {e : Env} {s : State} {m : MethodId} {below : List Frame} {meth : Method} {c : Code} {g : gb_G} {A : Nat → Prop} {b L t1 t2 : Nat} {xs : Nat → Int32} {Q : State → Prop} (X : jLw p s m c g A b L xs t1 t2) {k gg bb t o : Nat} {x : Int32} {Ab : gb_Ab} {σ : gb_M} {H : Heap} {locs : List Loc} {cells slots : Nat} {ls : Array Slot} (hk : k < 20) (hgg : gg < 4) (hbb : bb < 6) (ht : 1 ≤ t ∧ t ≤ 16) (ho : o < 6) (hInv : jInv k Ab) (hc : cells ≤ 600130 ∧ slots ≤ 7301080) (hl : lv_has ls 20 (jlv g b k x gg bb t o Ab 0)) (hP : va_P (g.1, g.2.1) vwCl (gb_ws g σ ++ ([] : va_W)) H) (hD : va_D A (gb_ws g σ ++ ([] : va_W))) (hS : va_S A s.heap H locs) (hCR : CR σ Ab) (k9 : ∀ (σ : gb_M) (Ac : gb_Ab) (d : Int32) (H : Heap) (locs : List Loc) (ls : Array Slot), jEnd k Ab Ac d → lv_has ls 20 (jlv g b k x gg bb t o Ab d) → va_P (g.1, g.2.1) vwCl (gb_ws g σ ++ ([] : va_W)) H → va_D A (gb_ws g σ ++ ([] : va_W)) → va_S A s.heap H locs → CR σ Ac → W p l e room_1 s m #[Value.ref b] below meth c H locs cells slots Q (F0 m 1190 ls [])) (hW : ¬ jb x 16 1 = 0) (hW2 : sY Ab.1 < sP Ab.1 bb) : W p l e room_1 s m #[Value.ref b] below meth c H locs cells slots Q (F0 m 751 ls []) := by
  obtain ⟨hx, hb, hml, hown, hts, hK, hA, hC, hX, hbA, hbl⟩ := id X
  have hwf := CR_wf hCR
  have hI := hwf.1.1
  have hB : ∀ j, j < 6 → 0 ≤ lT (sB Ab.1 j) ∧ lT (sB Ab.1 j) ≤ 99 := fun j hj => jT_r hwf hInv.1 hj
  have hA0 := lA_r (s := Ab.1) (on := sY Ab.1) hI
  have hBb := hB bb hbb
  have hBo := hB o ho
  have hY := jY_r hwf
  have d9 := jb_lt x 17 4
  have hk9 := hInv.2.2
  have d8 := jb_lt x 16 1
  have hP9 := hI.2.2.2.2.1 bb hbb
  refine lv_iload hx hb dL_law_751 (lv_at hl 8 rfl) ?_
  refine lv_bipush (v := 16) hx hb dL_law_753 (by decide) ?_
  refine lv_iushr (v := jv (x) (16)) hx hb dL_law_755 rfl ?_
  refine lv_iconst (v := 1) hx hb dL_law_756 (by decide) ?_
  refine lv_iand hx hb dL_law_757 ?_
  refine W.eq (g2 := F0 m 758 ls [.int (nI (jb x 16 1))]) (by rw [show ((jv (x) (16)) &&& (1) : Int32) = nI (jb x 16 1) from jb_and _ _ _ _ (by decide)]) ?_
  refine lv_if_ne (tgt := 825) hx hb dL_law_758 (by decide) (fun _ => ?_) (fun c9 => absurd c9 (show ¬ nI (jb x 16 1) = 0 from nI_ne0 (by omega) (by omega)))
  refine lv_iconst (v := 1) hx hb dL_law_825 (by decide) ?_
  refine lv_iload hx hb dL_law_826 (lv_at hl 8 rfl) ?_
  refine lv_bipush (v := 17) hx hb dL_law_828 (by decide) ?_
  refine lv_iushr (v := jv (x) (17)) hx hb dL_law_830 rfl ?_
  refine lv_bipush (v := 15) hx hb dL_law_831 (by decide) ?_
  refine lv_iand hx hb dL_law_833 ?_
  refine W.eq (g2 := F0 m 834 ls [.int (nI (jb x 17 4)), .int (1)]) (by rw [show ((jv (x) (17)) &&& (15) : Int32) = nI (jb x 17 4) from jb_and _ _ _ _ (by decide)]) ?_
  refine lv_iadd hx hb dL_law_834 ?_
  refine W.eq (g2 := F0 m 835 ls [.int (nZ ((1 + jb x 17 4 : Nat) : Int))]) (by rw [show ((1) + (nI (jb x 17 4)) : Int32) = nZ ((1 + jb x 17 4 : Nat) : Int) from (nI_add 1 _).trans (nIZ _)]) ?_
  refine lv_istore (lv' := [(14, .int (nZ ((1 + jb x 17 4 : Nat) : Int))), (13, .int (0)), (12, .int (nZ (sm 6 (fun b => lT (sB Ab.1 b))))), (11, .int (nZ (lA Ab.1 (sY Ab.1)))), (10, .int (nZ Ab.2.2.1.length)), (9, .int (nZ (o : Int))), (8, .int (nZ (t : Int))), (7, .int (nZ (bb : Int))), (6, .int (nZ (gg : Int))), (5, .int (x)), (4, .int (nI k)), (1, .ref (g.2.2.1 0 0)), (0, .ref (b))]) hx hb dL_law_835 hl (by decide) rfl (fun ls hl => ?_)
  refine lv_aload_n hx hb dL_law_837 rfl (lv_at hl 11 rfl) ?_
  refine lv_iload hx hb dL_law_838 (lv_at hl 7 rfl) ?_
  refine lv_iconst (v := 3) hx hb dL_law_840 (by decide) ?_
  obtain ⟨σ1, hf1, hCR⟩ := u_bin3 hCR hbb
  refine lw_cw (g := g) (nL := 20) (wr := ([] : va_W)) (as := [gI (nZ (bb : Int)), gI (3)]) (t := []) hx hb hml hown hts hK hA ⟨by show _ ≤ 600130; omega, by show _ ≤ 7301080; omega⟩ c_X9_bin (ci := 9) rfl w5_L_law_27 v_X9_bin ⟨rfl, rfl⟩ ⟨Nat.le_of_ble_eq_true rfl, Nat.le_of_ble_eq_true rfl⟩ dL_law_841 (k := 0) (j := 0) ⟨by decide +kernel, by decide +kernel⟩ rfl (gb_oks_c (v := gI (nZ (bb : Int))) trivial (gb_oks_c (v := gI (3)) trivial gb_oks_n)) rfl (Nat.le_of_ble_eq_true rfl) hf1 hP hD hS hl rfl (fun v9 σ9 H locs he hP hD hS => ?_) (Or.inl rfl)
  cases he
  refine W.eq (g2 := F0 m 844 ls [.int (nZ (max 0 (sP Ab.1 bb - sY Ab.1)))]) rfl ?_
  refine lv_istore (lv' := [(15, .int (nZ (max 0 (sP Ab.1 bb - sY Ab.1)))), (14, .int (nZ ((1 + jb x 17 4 : Nat) : Int))), (13, .int (0)), (12, .int (nZ (sm 6 (fun b => lT (sB Ab.1 b))))), (11, .int (nZ (lA Ab.1 (sY Ab.1)))), (10, .int (nZ Ab.2.2.1.length)), (9, .int (nZ (o : Int))), (8, .int (nZ (t : Int))), (7, .int (nZ (bb : Int))), (6, .int (nZ (gg : Int))), (5, .int (x)), (4, .int (nI k)), (1, .ref (g.2.2.1 0 0)), (0, .ref (b))]) hx hb dL_law_844 hl (by decide) rfl (fun ls hl => ?_)
  refine lv_aload_n hx hb dL_law_846 rfl (lv_at hl 12 rfl) ?_
  refine lv_iload hx hb dL_law_847 (lv_at hl 8 rfl) ?_
  refine lv_iload hx hb dL_law_849 (lv_at hl 1 rfl) ?_
  obtain ⟨σ2, hf2, hCR⟩ := v_fumes2 hCR (n := ((1 + jb x 17 4 : Nat) : Int)) hbb (by omega) hW2
  refine lw_cw (g := g) (nL := 20) (wr := ([] : va_W)) (as := [gI (nZ (bb : Int)), gI (nZ ((1 + jb x 17 4 : Nat) : Int))]) (t := []) hx hb hml hown hts hK hA ⟨by show _ ≤ 600130; omega, by show _ ≤ 7301080; omega⟩ c_X9_fumes (ci := 9) rfl w5_L_law_127 v_X9_fumes ⟨rfl, rfl⟩ ⟨Nat.le_of_ble_eq_true rfl, Nat.le_of_ble_eq_true rfl⟩ dL_law_851 (k := 0) (j := 0) ⟨by decide +kernel, by decide +kernel⟩ rfl (gb_oks_c (v := gI (nZ (bb : Int))) trivial (gb_oks_c (v := gI (nZ ((1 + jb x 17 4 : Nat) : Int))) trivial gb_oks_n)) rfl (Nat.le_of_ble_eq_true rfl) hf2 hP hD hS hl rfl (fun v9 σ9 H locs he hP hD hS => ?_) (Or.inl rfl)
  cases he
  refine W.eq (g2 := F0 m 854 ls [.int (-2)]) rfl ?_
  refine lv_istore (lv' := [(16, .int (-2)), (15, .int (nZ (max 0 (sP Ab.1 bb - sY Ab.1)))), (14, .int (nZ ((1 + jb x 17 4 : Nat) : Int))), (13, .int (0)), (12, .int (nZ (sm 6 (fun b => lT (sB Ab.1 b))))), (11, .int (nZ (lA Ab.1 (sY Ab.1)))), (10, .int (nZ Ab.2.2.1.length)), (9, .int (nZ (o : Int))), (8, .int (nZ (t : Int))), (7, .int (nZ (bb : Int))), (6, .int (nZ (gg : Int))), (5, .int (x)), (4, .int (nI k)), (1, .ref (g.2.2.1 0 0)), (0, .ref (b))]) hx hb dL_law_854 hl (by decide) rfl (fun ls hl => ?_)
  refine lv_iload hx hb dL_law_856 (lv_at hl 0 rfl) ?_
  refine lv_if_lt (tgt := 865) hx hb dL_law_858 (by decide) (fun _ => ?_) (fun c9 => absurd (by decide) c9)
  refine lv_iconst (v := 0) hx hb dL_law_865 (by decide) ?_
  refine lv_istore (lv' := [(13, .int (0)), (16, .int (-2)), (15, .int (nZ (max 0 (sP Ab.1 bb - sY Ab.1)))), (14, .int (nZ ((1 + jb x 17 4 : Nat) : Int))), (12, .int (nZ (sm 6 (fun b => lT (sB Ab.1 b))))), (11, .int (nZ (lA Ab.1 (sY Ab.1)))), (10, .int (nZ Ab.2.2.1.length)), (9, .int (nZ (o : Int))), (8, .int (nZ (t : Int))), (7, .int (nZ (bb : Int))), (6, .int (nZ (gg : Int))), (5, .int (x)), (4, .int (nI k)), (1, .ref (g.2.2.1 0 0)), (0, .ref (b))]) hx hb dL_law_866 hl (by decide) rfl (fun ls hl => ?_)
  refine lv_iload hx hb dL_law_868 (lv_at hl 1 rfl) ?_
  refine lv_iload hx hb dL_law_870 (lv_at hl 2 rfl) ?_
  refine lv_if_le (tgt := 880) hx hb dL_law_872 (by decide) (fun c9 => absurd c9 (zn_le (b := 0) (zr (by omega) (by omega)) (zr (by omega) (by omega)) (by omega))) (fun _ => ?_)
  refine lv_bipush (v := (-2)) hx hb dL_law_875 (by decide) ?_
  refine lv_goto (tgt := 888) hx hb dL_law_877 (by decide) ?_
  refine lv_icmp_ne (tgt := 923) hx hb dL_law_888 (by decide) (fun c9 => absurd rfl c9) (fun _ => ?_)
  refine lv_aload_n hx hb dL_law_891 rfl (lv_at hl 13 rfl) ?_
  refine lv_iload hx hb dL_law_892 (lv_at hl 9 rfl) ?_
  refine lv_iconst (v := 3) hx hb dL_law_894 (by decide) ?_
  obtain ⟨σ3, hf3, hCR⟩ := u_bin3 hCR hbb
  refine lw_cw (g := g) (nL := 20) (wr := ([] : va_W)) (as := [gI (nZ (bb : Int)), gI (3)]) (t := []) hx hb hml hown hts hK hA ⟨by show _ ≤ 600130; omega, by show _ ≤ 7301080; omega⟩ c_X9_bin (ci := 9) rfl w5_L_law_27 v_X9_bin ⟨rfl, rfl⟩ ⟨Nat.le_of_ble_eq_true rfl, Nat.le_of_ble_eq_true rfl⟩ dL_law_895 (k := 0) (j := 0) ⟨by decide +kernel, by decide +kernel⟩ rfl (gb_oks_c (v := gI (nZ (bb : Int))) trivial (gb_oks_c (v := gI (3)) trivial gb_oks_n)) rfl (Nat.le_of_ble_eq_true rfl) hf3 hP hD hS hl rfl (fun v9 σ9 H locs he hP hD hS => ?_) (Or.inl rfl)
  cases he
  refine W.eq (g2 := F0 m 898 ls [.int (nZ (max 0 (sP Ab.1 bb - sY Ab.1)))]) rfl ?_
  refine lv_iload hx hb dL_law_898 (lv_at hl 2 rfl) ?_
  refine lv_if_le (tgt := 908) hx hb dL_law_900 (by decide) (fun c9 => absurd c9 (zn_le (b := 0) (zr (by omega) (by omega)) (zr (by omega) (by omega)) (by omega))) (fun _ => ?_)
  refine lv_iload hx hb dL_law_903 (lv_at hl 2 rfl) ?_
  refine lv_goto (tgt := 910) hx hb dL_law_905 (by decide) ?_
  refine lv_icmp_ne (tgt := 923) hx hb dL_law_910 (by decide) (fun c9 => absurd rfl c9) (fun _ => ?_)
  refine lv_aload_n hx hb dL_law_913 rfl (lv_at hl 13 rfl) ?_
  refine lv_iconst (v := 1) hx hb dL_law_914 (by decide) ?_
  obtain ⟨σ4, hf4, hCR⟩ := u_count1 hCR
  refine lw_cw (g := g) (nL := 20) (wr := ([] : va_W)) (as := [gI (1)]) (t := []) hx hb hml hown hts hK hA ⟨by show _ ≤ 600130; omega, by show _ ≤ 7301080; omega⟩ c_X9_count (ci := 9) rfl w5_L_law_60 v_X9_count ⟨rfl, rfl⟩ ⟨Nat.le_of_ble_eq_true rfl, Nat.le_of_ble_eq_true rfl⟩ dL_law_915 (k := 0) (j := 0) ⟨by decide +kernel, by decide +kernel⟩ rfl (gb_oks_c (v := gI (1)) trivial gb_oks_n) rfl (Nat.le_of_ble_eq_true rfl) hf4 hP hD hS hl rfl (fun v9 σ9 H locs he hP hD hS => ?_) (Or.inl rfl)
  cases he
  refine W.eq (g2 := F0 m 918 ls [.int (nZ (sm 6 (fun b => lT (sB Ab.1 b))))]) rfl ?_
  refine lv_iload hx hb dL_law_918 (lv_at hl 4 rfl) ?_
  refine lv_icmp_eq (tgt := 1190) hx hb dL_law_920 (by decide) (fun _ => ?_) (fun c9 => absurd rfl c9)
  exact k9 σ4 (Ab) (0) H locs ls (Or.inl ⟨rfl, rfl⟩) (lv_sub hl [0, 4, 5, 6, 7, 8, 9, 10, 11, 12, 13, 14] rfl) hP hD hS hCR
set_option maxHeartbeats 4000000 in
theorem lw_fumes1 {p : Program} {l : Launch} {e : Env} {s : State} {m : MethodId} {below : List Frame} {meth : Method} {c : Code} {g : gb_G} {A : Nat → Prop} {b L t1 t2 : Nat} {xs : Nat → Int32} {Q : State → Prop} (X : jLw p s m c g A b L xs t1 t2) {k gg bb t o : Nat} {x : Int32} {Ab : gb_Ab} {σ : gb_M} {H : Heap} {locs : List Loc} {cells slots : Nat} {ls : Array Slot} (hk : k < 20) (hgg : gg < 4) (hbb : bb < 6) (ht : 1 ≤ t ∧ t ≤ 16) (ho : o < 6) (hInv : jInv k Ab) (hc : cells ≤ 600130 ∧ slots ≤ 7301080) (hl : lv_has ls 20 (jlv g b k x gg bb t o Ab 0)) (hP : va_P (g.1, g.2.1) vwCl (gb_ws g σ ++ ([] : va_W)) H) (hD : va_D A (gb_ws g σ ++ ([] : va_W))) (hS : va_S A s.heap H locs) (hCR : CR σ Ab) (k9 : ∀ (σ : gb_M) (Ac : gb_Ab) (d : Int32) (H : Heap) (locs : List Loc) (ls : Array Slot), jEnd k Ab Ac d → lv_has ls 20 (jlv g b k x gg bb t o Ab d) → va_P (g.1, g.2.1) vwCl (gb_ws g σ ++ ([] : va_W)) H → va_D A (gb_ws g σ ++ ([] : va_W)) → va_S A s.heap H locs → CR σ Ac → W p l e room_1 s m #[Value.ref b] below meth c H locs cells slots Q (F0 m 1190 ls [])) (hW : ¬ jb x 16 1 = 0) (hW2 : ¬ sY Ab.1 < sP Ab.1 bb) : W p l e room_1 s m #[Value.ref b] below meth c H locs cells slots Q (F0 m 751 ls []) := by
  obtain ⟨hx, hb, hml, hown, hts, hK, hA, hC, hX, hbA, hbl⟩ := id X
  have hwf := CR_wf hCR
  have hI := hwf.1.1
  have hB : ∀ j, j < 6 → 0 ≤ lT (sB Ab.1 j) ∧ lT (sB Ab.1 j) ≤ 99 := fun j hj => jT_r hwf hInv.1 hj
  have hA0 := lA_r (s := Ab.1) (on := sY Ab.1) hI
  have hBb := hB bb hbb
  have hBo := hB o ho
  have hY := jY_r hwf
  have d9 := jb_lt x 17 4
  have hk9 := hInv.2.2
  have d8 := jb_lt x 16 1
  have hP9 := hI.2.2.2.2.1 bb hbb
  have hfy0 : sP (fmS Ab.1 bb ((1 + jb x 17 4 : Nat) : Int)) bb = sY Ab.1 + ((1 + jb x 17 4 : Nat) : Int) := sP_fumes.1
  have hfy1 : sY (fmS Ab.1 bb ((1 + jb x 17 4 : Nat) : Int)) = sY Ab.1 := sP_fumes.2 hbb
  refine lv_iload hx hb dL_law_751 (lv_at hl 8 rfl) ?_
  refine lv_bipush (v := 16) hx hb dL_law_753 (by decide) ?_
  refine lv_iushr (v := jv (x) (16)) hx hb dL_law_755 rfl ?_
  refine lv_iconst (v := 1) hx hb dL_law_756 (by decide) ?_
  refine lv_iand hx hb dL_law_757 ?_
  refine W.eq (g2 := F0 m 758 ls [.int (nI (jb x 16 1))]) (by rw [show ((jv (x) (16)) &&& (1) : Int32) = nI (jb x 16 1) from jb_and _ _ _ _ (by decide)]) ?_
  refine lv_if_ne (tgt := 825) hx hb dL_law_758 (by decide) (fun _ => ?_) (fun c9 => absurd c9 (show ¬ nI (jb x 16 1) = 0 from nI_ne0 (by omega) (by omega)))
  refine lv_iconst (v := 1) hx hb dL_law_825 (by decide) ?_
  refine lv_iload hx hb dL_law_826 (lv_at hl 8 rfl) ?_
  refine lv_bipush (v := 17) hx hb dL_law_828 (by decide) ?_
  refine lv_iushr (v := jv (x) (17)) hx hb dL_law_830 rfl ?_
  refine lv_bipush (v := 15) hx hb dL_law_831 (by decide) ?_
  refine lv_iand hx hb dL_law_833 ?_
  refine W.eq (g2 := F0 m 834 ls [.int (nI (jb x 17 4)), .int (1)]) (by rw [show ((jv (x) (17)) &&& (15) : Int32) = nI (jb x 17 4) from jb_and _ _ _ _ (by decide)]) ?_
  refine lv_iadd hx hb dL_law_834 ?_
  refine W.eq (g2 := F0 m 835 ls [.int (nZ ((1 + jb x 17 4 : Nat) : Int))]) (by rw [show ((1) + (nI (jb x 17 4)) : Int32) = nZ ((1 + jb x 17 4 : Nat) : Int) from (nI_add 1 _).trans (nIZ _)]) ?_
  refine lv_istore (lv' := [(14, .int (nZ ((1 + jb x 17 4 : Nat) : Int))), (13, .int (0)), (12, .int (nZ (sm 6 (fun b => lT (sB Ab.1 b))))), (11, .int (nZ (lA Ab.1 (sY Ab.1)))), (10, .int (nZ Ab.2.2.1.length)), (9, .int (nZ (o : Int))), (8, .int (nZ (t : Int))), (7, .int (nZ (bb : Int))), (6, .int (nZ (gg : Int))), (5, .int (x)), (4, .int (nI k)), (1, .ref (g.2.2.1 0 0)), (0, .ref (b))]) hx hb dL_law_835 hl (by decide) rfl (fun ls hl => ?_)
  refine lv_aload_n hx hb dL_law_837 rfl (lv_at hl 11 rfl) ?_
  refine lv_iload hx hb dL_law_838 (lv_at hl 7 rfl) ?_
  refine lv_iconst (v := 3) hx hb dL_law_840 (by decide) ?_
  obtain ⟨σ1, hf1, hCR⟩ := u_bin3 hCR hbb
  refine lw_cw (g := g) (nL := 20) (wr := ([] : va_W)) (as := [gI (nZ (bb : Int)), gI (3)]) (t := []) hx hb hml hown hts hK hA ⟨by show _ ≤ 600130; omega, by show _ ≤ 7301080; omega⟩ c_X9_bin (ci := 9) rfl w5_L_law_27 v_X9_bin ⟨rfl, rfl⟩ ⟨Nat.le_of_ble_eq_true rfl, Nat.le_of_ble_eq_true rfl⟩ dL_law_841 (k := 0) (j := 0) ⟨by decide +kernel, by decide +kernel⟩ rfl (gb_oks_c (v := gI (nZ (bb : Int))) trivial (gb_oks_c (v := gI (3)) trivial gb_oks_n)) rfl (Nat.le_of_ble_eq_true rfl) hf1 hP hD hS hl rfl (fun v9 σ9 H locs he hP hD hS => ?_) (Or.inl rfl)
  cases he
  refine W.eq (g2 := F0 m 844 ls [.int (nZ (max 0 (sP Ab.1 bb - sY Ab.1)))]) rfl ?_
  refine lv_istore (lv' := [(15, .int (nZ (max 0 (sP Ab.1 bb - sY Ab.1)))), (14, .int (nZ ((1 + jb x 17 4 : Nat) : Int))), (13, .int (0)), (12, .int (nZ (sm 6 (fun b => lT (sB Ab.1 b))))), (11, .int (nZ (lA Ab.1 (sY Ab.1)))), (10, .int (nZ Ab.2.2.1.length)), (9, .int (nZ (o : Int))), (8, .int (nZ (t : Int))), (7, .int (nZ (bb : Int))), (6, .int (nZ (gg : Int))), (5, .int (x)), (4, .int (nI k)), (1, .ref (g.2.2.1 0 0)), (0, .ref (b))]) hx hb dL_law_844 hl (by decide) rfl (fun ls hl => ?_)
  refine lv_aload_n hx hb dL_law_846 rfl (lv_at hl 12 rfl) ?_
  refine lv_iload hx hb dL_law_847 (lv_at hl 8 rfl) ?_
  refine lv_iload hx hb dL_law_849 (lv_at hl 1 rfl) ?_
  obtain ⟨σ2, hf2, hCR⟩ := v_fumes hCR (n := ((1 + jb x 17 4 : Nat) : Int)) hbb (by omega) hW2
  refine lw_cw (g := g) (nL := 20) (wr := ([] : va_W)) (as := [gI (nZ (bb : Int)), gI (nZ ((1 + jb x 17 4 : Nat) : Int))]) (t := []) hx hb hml hown hts hK hA ⟨by show _ ≤ 600130; omega, by show _ ≤ 7301080; omega⟩ c_X9_fumes (ci := 9) rfl w5_L_law_127 v_X9_fumes ⟨rfl, rfl⟩ ⟨Nat.le_of_ble_eq_true rfl, Nat.le_of_ble_eq_true rfl⟩ dL_law_851 (k := 0) (j := 0) ⟨by decide +kernel, by decide +kernel⟩ rfl (gb_oks_c (v := gI (nZ (bb : Int))) trivial (gb_oks_c (v := gI (nZ ((1 + jb x 17 4 : Nat) : Int))) trivial gb_oks_n)) rfl (Nat.le_of_ble_eq_true rfl) hf2 hP hD hS hl rfl (fun v9 σ9 H locs he hP hD hS => ?_) (Or.inl rfl)
  cases he
  refine W.eq (g2 := F0 m 854 ls [.int (nZ (sY Ab.1 + ((1 + jb x 17 4 : Nat) : Int)))]) rfl ?_
  refine lv_istore (lv' := [(16, .int (nZ (sY Ab.1 + ((1 + jb x 17 4 : Nat) : Int)))), (15, .int (nZ (max 0 (sP Ab.1 bb - sY Ab.1)))), (14, .int (nZ ((1 + jb x 17 4 : Nat) : Int))), (13, .int (0)), (12, .int (nZ (sm 6 (fun b => lT (sB Ab.1 b))))), (11, .int (nZ (lA Ab.1 (sY Ab.1)))), (10, .int (nZ Ab.2.2.1.length)), (9, .int (nZ (o : Int))), (8, .int (nZ (t : Int))), (7, .int (nZ (bb : Int))), (6, .int (nZ (gg : Int))), (5, .int (x)), (4, .int (nI k)), (1, .ref (g.2.2.1 0 0)), (0, .ref (b))]) hx hb dL_law_854 hl (by decide) rfl (fun ls hl => ?_)
  refine lv_iload hx hb dL_law_856 (lv_at hl 0 rfl) ?_
  refine lv_if_lt (tgt := 865) hx hb dL_law_858 (by decide) (fun c9 => absurd c9 (zn_lt (b := 0) (zr (by omega) (by omega)) (zr (by omega) (by omega)) (by omega))) (fun _ => ?_)
  refine lv_iconst (v := 1) hx hb dL_law_861 (by decide) ?_
  refine lv_goto (tgt := 866) hx hb dL_law_862 (by decide) ?_
  refine lv_istore (lv' := [(13, .int (1)), (16, .int (nZ (sY Ab.1 + ((1 + jb x 17 4 : Nat) : Int)))), (15, .int (nZ (max 0 (sP Ab.1 bb - sY Ab.1)))), (14, .int (nZ ((1 + jb x 17 4 : Nat) : Int))), (12, .int (nZ (sm 6 (fun b => lT (sB Ab.1 b))))), (11, .int (nZ (lA Ab.1 (sY Ab.1)))), (10, .int (nZ Ab.2.2.1.length)), (9, .int (nZ (o : Int))), (8, .int (nZ (t : Int))), (7, .int (nZ (bb : Int))), (6, .int (nZ (gg : Int))), (5, .int (x)), (4, .int (nI k)), (1, .ref (g.2.2.1 0 0)), (0, .ref (b))]) hx hb dL_law_866 hl (by decide) rfl (fun ls hl => ?_)
  refine lv_iload hx hb dL_law_868 (lv_at hl 1 rfl) ?_
  refine lv_iload hx hb dL_law_870 (lv_at hl 2 rfl) ?_
  refine lv_if_le (tgt := 880) hx hb dL_law_872 (by decide) (fun _ => ?_) (fun c9 => absurd (zy_le (b := 0) (zr (by omega) (by omega)) (zr (by omega) (by omega)) (by omega)) c9)
  refine lv_aload_n hx hb dL_law_880 rfl (lv_at hl 13 rfl) ?_
  refine lv_iconst (v := 0) hx hb dL_law_881 (by decide) ?_
  obtain ⟨σ3, hf3, hCR⟩ := u_count0 hCR
  refine lw_cw (g := g) (nL := 20) (wr := ([] : va_W)) (as := [gI (0)]) (t := [gI (nZ (sY Ab.1 + ((1 + jb x 17 4 : Nat) : Int)))]) hx hb hml hown hts hK hA ⟨by show _ ≤ 600130; omega, by show _ ≤ 7301080; omega⟩ c_X9_count (ci := 9) rfl w5_L_law_60 v_X9_count ⟨rfl, rfl⟩ ⟨Nat.le_of_ble_eq_true rfl, Nat.le_of_ble_eq_true rfl⟩ dL_law_882 (k := 0) (j := 0) ⟨by decide +kernel, by decide +kernel⟩ rfl (gb_oks_c (v := gI (0)) trivial gb_oks_n) rfl (Nat.le_of_ble_eq_true rfl) hf3 hP hD hS hl rfl (fun v9 σ9 H locs he hP hD hS => ?_) (Or.inl rfl)
  cases he
  refine W.eq (g2 := F0 m 885 ls [.int (nZ (sY (setS Ab (fmS Ab.1 bb ((1 + jb x 17 4 : Nat) : Int))).1)), .int (nZ (sY Ab.1 + ((1 + jb x 17 4 : Nat) : Int)))]) rfl ?_
  refine lv_iload hx hb dL_law_885 (lv_at hl 3 rfl) ?_
  refine lv_iadd hx hb dL_law_887 ?_
  refine W.eq (g2 := F0 m 888 ls [.int (nZ (sY Ab.1 + ((1 + jb x 17 4 : Nat) : Int))), .int (nZ (sY Ab.1 + ((1 + jb x 17 4 : Nat) : Int)))]) (by rw [show ((nZ (sY (setS Ab (fmS Ab.1 bb ((1 + jb x 17 4 : Nat) : Int))).1)) + (nZ ((1 + jb x 17 4 : Nat) : Int)) : Int32) = nZ (sY Ab.1 + ((1 + jb x 17 4 : Nat) : Int)) from (z_add _ _).trans (congrArg nZ (show sY (fmS Ab.1 bb ((1 + jb x 17 4 : Nat) : Int)) + ((1 + jb x 17 4 : Nat) : Int) = _ from by rw [hfy1]))]) ?_
  refine lv_icmp_ne (tgt := 923) hx hb dL_law_888 (by decide) (fun c9 => absurd rfl c9) (fun _ => ?_)
  refine lv_aload_n hx hb dL_law_891 rfl (lv_at hl 13 rfl) ?_
  refine lv_iload hx hb dL_law_892 (lv_at hl 9 rfl) ?_
  refine lv_iconst (v := 3) hx hb dL_law_894 (by decide) ?_
  obtain ⟨σ4, hf4, hCR⟩ := u_bin3 hCR hbb
  refine lw_cw (g := g) (nL := 20) (wr := ([] : va_W)) (as := [gI (nZ (bb : Int)), gI (3)]) (t := []) hx hb hml hown hts hK hA ⟨by show _ ≤ 600130; omega, by show _ ≤ 7301080; omega⟩ c_X9_bin (ci := 9) rfl w5_L_law_27 v_X9_bin ⟨rfl, rfl⟩ ⟨Nat.le_of_ble_eq_true rfl, Nat.le_of_ble_eq_true rfl⟩ dL_law_895 (k := 0) (j := 0) ⟨by decide +kernel, by decide +kernel⟩ rfl (gb_oks_c (v := gI (nZ (bb : Int))) trivial (gb_oks_c (v := gI (3)) trivial gb_oks_n)) rfl (Nat.le_of_ble_eq_true rfl) hf4 hP hD hS hl rfl (fun v9 σ9 H locs he hP hD hS => ?_) (Or.inl rfl)
  cases he
  refine W.eq (g2 := F0 m 898 ls [.int (nZ (max 0 (sP (setS Ab (fmS Ab.1 bb ((1 + jb x 17 4 : Nat) : Int))).1 bb - sY (setS Ab (fmS Ab.1 bb ((1 + jb x 17 4 : Nat) : Int))).1)))]) rfl ?_
  refine lv_iload hx hb dL_law_898 (lv_at hl 2 rfl) ?_
  refine lv_if_le (tgt := 908) hx hb dL_law_900 (by decide) (fun _ => ?_) (fun c9 => absurd (zy_le (b := 0) (zr (by omega) (by omega)) (zr (by omega) (by omega)) (by omega)) c9)
  refine lv_iload hx hb dL_law_908 (lv_at hl 3 rfl) ?_
  refine lv_icmp_ne (tgt := 923) hx hb dL_law_910 (by decide) (fun c9 => absurd (congrArg nZ (show max 0 (sP (fmS Ab.1 bb ((1 + jb x 17 4 : Nat) : Int)) bb - sY (fmS Ab.1 bb ((1 + jb x 17 4 : Nat) : Int))) = ((1 + jb x 17 4 : Nat) : Int) from by rw [hfy0, hfy1]; omega)) c9) (fun _ => ?_)
  refine lv_aload_n hx hb dL_law_913 rfl (lv_at hl 13 rfl) ?_
  refine lv_iconst (v := 1) hx hb dL_law_914 (by decide) ?_
  obtain ⟨σ5, hf5, hCR⟩ := u_count1 hCR
  refine lw_cw (g := g) (nL := 20) (wr := ([] : va_W)) (as := [gI (1)]) (t := []) hx hb hml hown hts hK hA ⟨by show _ ≤ 600130; omega, by show _ ≤ 7301080; omega⟩ c_X9_count (ci := 9) rfl w5_L_law_60 v_X9_count ⟨rfl, rfl⟩ ⟨Nat.le_of_ble_eq_true rfl, Nat.le_of_ble_eq_true rfl⟩ dL_law_915 (k := 0) (j := 0) ⟨by decide +kernel, by decide +kernel⟩ rfl (gb_oks_c (v := gI (1)) trivial gb_oks_n) rfl (Nat.le_of_ble_eq_true rfl) hf5 hP hD hS hl rfl (fun v9 σ9 H locs he hP hD hS => ?_) (Or.inl rfl)
  cases he
  refine W.eq (g2 := F0 m 918 ls [.int (nZ (sm 6 (fun b => lT (sB (setS Ab (fmS Ab.1 bb ((1 + jb x 17 4 : Nat) : Int))).1 b))))]) rfl ?_
  refine lv_iload hx hb dL_law_918 (lv_at hl 4 rfl) ?_
  refine lv_icmp_eq (tgt := 1190) hx hb dL_law_920 (by decide) (fun _ => ?_) (fun c9 => absurd (congrArg nZ (sT_fumes hbb)) c9)
  exact k9 σ5 (setS Ab (fmS Ab.1 bb ((1 + jb x 17 4 : Nat) : Int))) (1) H locs ls (Or.inr ⟨rfl, _, rfl, okX_fumes hwf.1 hInv.1 hbb, by rw [hfy1]; omega⟩) (lv_sub hl [0, 4, 5, 6, 7, 8, 9, 10, 11, 12, 13, 14] rfl) hP hD hS hCR
