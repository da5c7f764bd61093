/-! THE LAW: draw, move (printed by wip/p44/law5.py) -/
theorem w5_L_law_117 : ∀ w ∈ ([.methodLink RL 117 yX9_draw, .instanceMethod yX9_draw, .selects RX9 yX9_draw yX9_draw, .initialized RX9, .code yX9_draw cX9_draw 4 (some .int)] : List Cond), w ∈ gb_B := by
  have h : ∀ w ∈ ([.methodLink RL 117 yX9_draw, .instanceMethod yX9_draw, .selects RX9 yX9_draw yX9_draw, .initialized RX9, .code yX9_draw cX9_draw 4 (some .int)] : List Cond), w ∈ lw_tbl ∧ goodWord w = true := by decide +kernel
  exact fun w hw => List.mem_filter.mpr (h w hw)
theorem wj_L_lawdraw2 : ∀ w ∈ ([.constant RL 120 (99000)] : List Cond), w ∈ gb_J := by
  have h : ∀ w ∈ ([.constant RL 120 (99000)] : List Cond), w ∈ jsw ∨ (w ∈ lw_tbl ∧ goodWord w = true) := by decide +kernel
  exact gb_J_of h
set_option maxHeartbeats 4000000 in
theorem lw_draw2 {p : Program} {l : Launch} {e : Env} {s : State} {m : MethodId} {below : List Frame} {meth : Method} {c : Code} {g : gb_G} {A : Nat → Prop} {b L t1 t2 : Nat} {xs : Nat → Int32} {Q : State → Prop} (X : jLw p s m c g A b L xs t1 t2) {k gg bb t o : Nat} {x : Int32} {Ab : gb_Ab} {σ : gb_M} {H : Heap} {locs : List Loc} {cells slots : Nat} {ls : Array Slot} (hk : k < 20) (hgg : gg < 4) (hbb : bb < 6) (ht : 1 ≤ t ∧ t ≤ 16) (ho : o < 6) (hInv : jInv k Ab) (hc : cells ≤ 600130 ∧ slots ≤ 7301080) (hl : lv_has ls 20 (jlv g b k x gg bb t o Ab 0)) (hP : va_P (g.1, g.2.1) vwCl (gb_ws g σ ++ ([] : va_W)) H) (hD : va_D A (gb_ws g σ ++ ([] : va_W))) (hS : va_S A s.heap H locs) (hCR : CR σ Ab) (k9 : ∀ (σ : gb_M) (Ac : gb_Ab) (d : Int32) (H : Heap) (locs : List Loc) (ls : Array Slot), jEnd k Ab Ac d → lv_has ls 20 (jlv g b k x gg bb t o Ab d) → va_P (g.1, g.2.1) vwCl (gb_ws g σ ++ ([] : va_W)) H → va_D A (gb_ws g σ ++ ([] : va_W)) → va_S A s.heap H locs → CR σ Ac → W p l e room_1 s m #[Value.ref b] below meth c H locs cells slots Q (F0 m 1190 ls [])) (hW : sY Ab.1 < sP Ab.1 bb) : W p l e room_1 s m #[Value.ref b] below meth c H locs cells slots Q (F0 m 454 ls []) := by
  obtain ⟨hx, hb, hml, hown, hts, hK, hA, hC, hX, hbA, hbl⟩ := id X
  have hwf := CR_wf hCR
  have hI := hwf.1.1
  have hB : ∀ j, j < 6 → 0 ≤ lT (sB Ab.1 j) ∧ lT (sB Ab.1 j) ≤ 99 := fun j hj => jT_r hwf hInv.1 hj
  have hA0 := lA_r (s := Ab.1) (on := sY Ab.1) hI
  have hBb := hB bb hbb
  have hBo := hB o ho
  have hY := jY_r hwf
  have hP9 := hI.2.2.2.2.1 bb hbb
  refine lv_aload_n hx hb dL_law_454 rfl (lv_at hl 10 rfl) ?_
  refine lv_iload hx hb dL_law_455 (lv_at hl 6 rfl) ?_
  refine lv_iconst (v := 1) hx hb dL_law_457 (by decide) ?_
  obtain ⟨σ1, hf1, hCR⟩ := u_bin1 hCR hbb
  refine lw_cw (g := g) (nL := 20) (wr := ([] : va_W)) (as := [gI (nZ (bb : Int)), gI (1)]) (t := []) hx hb hml hown hts hK hA ⟨by show _ ≤ 600130; omega, by show _ ≤ 7301080; omega⟩ c_X9_bin (ci := 9) rfl w5_L_law_27 v_X9_bin ⟨rfl, rfl⟩ ⟨Nat.le_of_ble_eq_true rfl, Nat.le_of_ble_eq_true rfl⟩ dL_law_458 (k := 0) (j := 0) ⟨by decide +kernel, by decide +kernel⟩ rfl (gb_oks_c (v := gI (nZ (bb : Int))) trivial (gb_oks_c (v := gI (1)) trivial gb_oks_n)) rfl (Nat.le_of_ble_eq_true rfl) hf1 hP hD hS hl rfl (fun v9 σ9 H locs he hP hD hS => ?_) (Or.inl rfl)
  cases he
  refine W.eq (g2 := F0 m 461 ls [.int (nZ (lT (sB Ab.1 bb)))]) rfl ?_
  refine lv_istore (lv' := [(14, .int (nZ (lT (sB Ab.1 bb)))), (13, .int (0)), (12, .int (nZ (sm 6 (fun b => lT (sB Ab.1 b))))), (11, .int (nZ (lA Ab.1 (sY Ab.1)))), (10, .int (nZ Ab.2.2.1.length)), (9, .int (nZ (o : Int))), (8, .int (nZ (t : Int))), (7, .int (nZ (bb : Int))), (6, .int (nZ (gg : Int))), (5, .int (x)), (4, .int (nI k)), (1, .ref (g.2.2.1 0 0)), (0, .ref (b))]) hx hb dL_law_461 hl (by decide) rfl (fun ls hl => ?_)
  refine lv_aload_n hx hb dL_law_463 rfl (lv_at hl 11 rfl) ?_
  refine lv_iload hx hb dL_law_464 (lv_at hl 7 rfl) ?_
  refine lv_iconst (v := 3) hx hb dL_law_466 (by decide) ?_
  obtain ⟨σ2, hf2, hCR⟩ := u_bin3 hCR hbb
  refine lw_cw (g := g) (nL := 20) (wr := ([] : va_W)) (as := [gI (nZ (bb : Int)), gI (3)]) (t := []) hx hb hml hown hts hK hA ⟨by show _ ≤ 600130; omega, by show _ ≤ 7301080; omega⟩ c_X9_bin (ci := 9) rfl w5_L_law_27 v_X9_bin ⟨rfl, rfl⟩ ⟨Nat.le_of_ble_eq_true rfl, Nat.le_of_ble_eq_true rfl⟩ dL_law_467 (k := 0) (j := 0) ⟨by decide +kernel, by decide +kernel⟩ rfl (gb_oks_c (v := gI (nZ (bb : Int))) trivial (gb_oks_c (v := gI (3)) trivial gb_oks_n)) rfl (Nat.le_of_ble_eq_true rfl) hf2 hP hD hS hl rfl (fun v9 σ9 H locs he hP hD hS => ?_) (Or.inl rfl)
  cases he
  refine W.eq (g2 := F0 m 470 ls [.int (nZ (max 0 (sP Ab.1 bb - sY Ab.1)))]) rfl ?_
  refine lv_istore (lv' := [(15, .int (nZ (max 0 (sP Ab.1 bb - sY Ab.1)))), (14, .int (nZ (lT (sB Ab.1 bb)))), (13, .int (0)), (12, .int (nZ (sm 6 (fun b => lT (sB Ab.1 b))))), (11, .int (nZ (lA Ab.1 (sY Ab.1)))), (10, .int (nZ Ab.2.2.1.length)), (9, .int (nZ (o : Int))), (8, .int (nZ (t : Int))), (7, .int (nZ (bb : Int))), (6, .int (nZ (gg : Int))), (5, .int (x)), (4, .int (nI k)), (1, .ref (g.2.2.1 0 0)), (0, .ref (b))]) hx hb dL_law_470 hl (by decide) rfl (fun ls hl => ?_)
  refine lv_aload_n hx hb dL_law_472 rfl (lv_at hl 12 rfl) ?_
  refine lv_iload hx hb dL_law_473 (lv_at hl 8 rfl) ?_
  refine lv_iload hx hb dL_law_475 (lv_at hl 7 rfl) ?_
  obtain ⟨σ3, hf3, hCR⟩ := v_draw2 hCR (t := t) hbb (by omega) hW
  refine lw_cw (g := g) (nL := 20) (wr := ([] : va_W)) (as := [gI (nZ (bb : Int)), gI (nZ (t : Int))]) (t := []) hx hb hml hown hts hK hA ⟨by show _ ≤ 600130; omega, by show _ ≤ 7301080; omega⟩ c_X9_draw (ci := 9) rfl w5_L_law_117 v_X9_draw ⟨rfl, rfl⟩ ⟨Nat.le_of_ble_eq_true rfl, Nat.le_of_ble_eq_true rfl⟩ dL_law_477 (k := 0) (j := 0) ⟨by decide +kernel, by decide +kernel⟩ rfl (gb_oks_c (v := gI (nZ (bb : Int))) trivial (gb_oks_c (v := gI (nZ (t : Int))) trivial gb_oks_n)) rfl (Nat.le_of_ble_eq_true rfl) hf3 hP hD hS hl rfl (fun v9 σ9 H locs he hP hD hS => ?_) (Or.inl rfl)
  cases he
  refine W.eq (g2 := F0 m 480 ls [.int (-2)]) rfl ?_
  refine lv_istore (lv' := [(16, .int (-2)), (15, .int (nZ (max 0 (sP Ab.1 bb - sY Ab.1)))), (14, .int (nZ (lT (sB Ab.1 bb)))), (13, .int (0)), (12, .int (nZ (sm 6 (fun b => lT (sB Ab.1 b))))), (11, .int (nZ (lA Ab.1 (sY Ab.1)))), (10, .int (nZ Ab.2.2.1.length)), (9, .int (nZ (o : Int))), (8, .int (nZ (t : Int))), (7, .int (nZ (bb : Int))), (6, .int (nZ (gg : Int))), (5, .int (x)), (4, .int (nI k)), (1, .ref (g.2.2.1 0 0)), (0, .ref (b))]) hx hb dL_law_480 hl (by decide) rfl (fun ls hl => ?_)
  refine lv_iload hx hb dL_law_482 (lv_at hl 0 rfl) ?_
  refine lv_if_lt (tgt := 491) hx hb dL_law_484 (by decide) (fun _ => ?_) (fun c9 => absurd (by decide) c9)
  refine lv_iconst (v := 0) hx hb dL_law_491 (by decide) ?_
  refine lv_istore (lv' := [(13, .int (0)), (16, .int (-2)), (15, .int (nZ (max 0 (sP Ab.1 bb - sY Ab.1)))), (14, .int (nZ (lT (sB Ab.1 bb)))), (12, .int (nZ (sm 6 (fun b => lT (sB Ab.1 b))))), (11, .int (nZ (lA Ab.1 (sY Ab.1)))), (10, .int (nZ Ab.2.2.1.length)), (9, .int (nZ (o : Int))), (8, .int (nZ (t : Int))), (7, .int (nZ (bb : Int))), (6, .int (nZ (gg : Int))), (5, .int (x)), (4, .int (nI k)), (1, .ref (g.2.2.1 0 0)), (0, .ref (b))]) hx hb dL_law_492 hl (by decide) rfl (fun ls hl => ?_)
  refine lv_iload hx hb dL_law_494 (lv_at hl 1 rfl) ?_
  refine lv_iload hx hb dL_law_496 (lv_at hl 2 rfl) ?_
  refine lv_if_le (tgt := 506) hx hb dL_law_498 (by decide) (fun c9 => absurd c9 (zn_le (b := 0) (zr (by omega) (by omega)) (zr (by omega) (by omega)) (by omega))) (fun _ => ?_)
  refine lv_bipush (v := (-2)) hx hb dL_law_501 (by decide) ?_
  refine lv_goto (tgt := 520) hx hb dL_law_503 (by decide) ?_
  refine lv_icmp_ne (tgt := 550) hx hb dL_law_520 (by decide) (fun c9 => absurd rfl c9) (fun _ => ?_)
  refine lv_iload hx hb dL_law_523 (lv_at hl 1 rfl) ?_
  refine lv_if_lt (tgt := 543) hx hb dL_law_525 (by decide) (fun _ => ?_) (fun c9 => absurd (by decide) c9)
  refine lv_iload hx hb dL_law_543 (lv_at hl 1 rfl) ?_
  refine lv_ldc (v := (99000)) hx hb hown (hts _ (wj_L_lawdraw2 _ (List.mem_of_getElem? (i := 0) rfl))) dL_law_545 ?_
  refine lv_icmp_le (tgt := 552) hx hb dL_law_547 (by decide) (fun _ => ?_) (fun c9 => absurd (by decide) c9)
  refine lv_lconst (v := 0) hx hb dL_law_552 (by decide) ?_
  refine lv_lstore (lv' := [(17, .long (0)), (13, .int (0)), (16, .int (-2)), (15, .int (nZ (max 0 (sP Ab.1 bb - sY Ab.1)))), (14, .int (nZ (lT (sB Ab.1 bb)))), (12, .int (nZ (sm 6 (fun b => lT (sB Ab.1 b))))), (11, .int (nZ (lA Ab.1 (sY Ab.1)))), (10, .int (nZ Ab.2.2.1.length)), (9, .int (nZ (o : Int))), (8, .int (nZ (t : Int))), (7, .int (nZ (bb : Int))), (6, .int (nZ (gg : Int))), (5, .int (x)), (4, .int (nI k)), (1, .ref (g.2.2.1 0 0)), (0, .ref (b))]) hx hb dL_law_553 hl (by decide) rfl (fun ls hl => ?_)
  refine lv_iconst (v := 0) hx hb dL_law_555 (by decide) ?_
  refine lv_istore (lv' := [(19, .int (0)), (17, .long (0)), (13, .int (0)), (16, .int (-2)), (15, .int (nZ (max 0 (sP Ab.1 bb - sY Ab.1)))), (14, .int (nZ (lT (sB Ab.1 bb)))), (12, .int (nZ (sm 6 (fun b => lT (sB Ab.1 b))))), (11, .int (nZ (lA Ab.1 (sY Ab.1)))), (10, .int (nZ Ab.2.2.1.length)), (9, .int (nZ (o : Int))), (8, .int (nZ (t : Int))), (7, .int (nZ (bb : Int))), (6, .int (nZ (gg : Int))), (5, .int (x)), (4, .int (nI k)), (1, .ref (g.2.2.1 0 0)), (0, .ref (b))]) hx hb dL_law_556 hl (by decide) rfl (fun ls hl => ?_)
  refine lv_iload hx hb dL_law_558 (lv_at hl 0 rfl) ?_
  refine lv_bipush (v := 6) hx hb dL_law_560 (by decide) ?_
  refine lv_icmp_ge (tgt := 587) hx hb dL_law_562 (by decide) (fun c9 => absurd c9 (by decide)) (fun _ => ?_)
  refine lv_iload hx hb dL_law_565 (lv_at hl 3 rfl) ?_
  refine lv_if_lt (tgt := 587) hx hb dL_law_567 (by decide) (fun _ => ?_) (fun c9 => absurd (by decide) c9)
  refine lv_iload hx hb dL_law_587 (lv_at hl 3 rfl) ?_
  refine lv_if_lt (tgt := 1190) hx hb dL_law_589 (by decide) (fun _ => ?_) (fun c9 => absurd (by decide) c9)
  exact k9 σ3 (Ab) (0) H locs ls (Or.inl ⟨rfl, rfl⟩) (lv_sub hl [2, 6, 7, 8, 9, 10, 11, 12, 13, 14, 15, 16] rfl) hP hD hS hCR
theorem wj_L_lawdraw3 : ∀ w ∈ ([.constant RL 120 (99000)] : List Cond), w ∈ gb_J := by
  have h : ∀ w ∈ ([.constant RL 120 (99000)] : List Cond), w ∈ jsw ∨ (w ∈ lw_tbl ∧ goodWord w = true) := by decide +kernel
  exact gb_J_of h
set_option maxHeartbeats 4000000 in
theorem lw_draw3 {p : Program} {l : Launch} {e : Env} {s : State} {m : MethodId} {below : List Frame} {meth : Method} {c : Code} {g : gb_G} {A : Nat → Prop} {b L t1 t2 : Nat} {xs : Nat → Int32} {Q : State → Prop} (X : jLw p s m c g A b L xs t1 t2) {k gg bb t o : Nat} {x : Int32} {Ab : gb_Ab} {σ : gb_M} {H : Heap} {locs : List Loc} {cells slots : Nat} {ls : Array Slot} (hk : k < 20) (hgg : gg < 4) (hbb : bb < 6) (ht : 1 ≤ t ∧ t ≤ 16) (ho : o < 6) (hInv : jInv k Ab) (hc : cells ≤ 600130 ∧ slots ≤ 7301080) (hl : lv_has ls 20 (jlv g b k x gg bb t o Ab 0)) (hP : va_P (g.1, g.2.1) vwCl (gb_ws g σ ++ ([] : va_W)) H) (hD : va_D A (gb_ws g σ ++ ([] : va_W))) (hS : va_S A s.heap H locs) (hCR : CR σ Ab) (k9 : ∀ (σ : gb_M) (Ac : gb_Ab) (d : Int32) (H : Heap) (locs : List Loc) (ls : Array Slot), jEnd k Ab Ac d → lv_has ls 20 (jlv g b k x gg bb t o Ab d) → va_P (g.1, g.2.1) vwCl (gb_ws g σ ++ ([] : va_W)) H → va_D A (gb_ws g σ ++ ([] : va_W)) → va_S A s.heap H locs → CR σ Ac → W p l e room_1 s m #[Value.ref b] below meth c H locs cells slots Q (F0 m 1190 ls [])) (hW : ¬ sY Ab.1 < sP Ab.1 bb) (hW2 : ¬ (t : Int) ≤ lT (sB Ab.1 bb)) : W p l e room_1 s m #[Value.ref b] below meth c H locs cells slots Q (F0 m 454 ls []) := by
  obtain ⟨hx, hb, hml, hown, hts, hK, hA, hC, hX, hbA, hbl⟩ := id X
  have hwf := CR_wf hCR
  have hI := hwf.1.1
  have hB : ∀ j, j < 6 → 0 ≤ lT (sB Ab.1 j) ∧ lT (sB Ab.1 j) ≤ 99 := fun j hj => jT_r hwf hInv.1 hj
  have hA0 := lA_r (s := Ab.1) (on := sY Ab.1) hI
  have hBb := hB bb hbb
  have hBo := hB o ho
  have hY := jY_r hwf
  have hP9 := hI.2.2.2.2.1 bb hbb
  refine lv_aload_n hx hb dL_law_454 rfl (lv_at hl 10 rfl) ?_
  refine lv_iload hx hb dL_law_455 (lv_at hl 6 rfl) ?_
  refine lv_iconst (v := 1) hx hb dL_law_457 (by decide) ?_
  obtain ⟨σ1, hf1, hCR⟩ := u_bin1 hCR hbb
  refine lw_cw (g := g) (nL := 20) (wr := ([] : va_W)) (as := [gI (nZ (bb : Int)), gI (1)]) (t := []) hx hb hml hown hts hK hA ⟨by show _ ≤ 600130; omega, by show _ ≤ 7301080; omega⟩ c_X9_bin (ci := 9) rfl w5_L_law_27 v_X9_bin ⟨rfl, rfl⟩ ⟨Nat.le_of_ble_eq_true rfl, Nat.le_of_ble_eq_true rfl⟩ dL_law_458 (k := 0) (j := 0) ⟨by decide +kernel, by decide +kernel⟩ rfl (gb_oks_c (v := gI (nZ (bb : Int))) trivial (gb_oks_c (v := gI (1)) trivial gb_oks_n)) rfl (Nat.le_of_ble_eq_true rfl) hf1 hP hD hS hl rfl (fun v9 σ9 H locs he hP hD hS => ?_) (Or.inl rfl)
  cases he
  refine W.eq (g2 := F0 m 461 ls [.int (nZ (lT (sB Ab.1 bb)))]) rfl ?_
  refine lv_istore (lv' := [(14, .int (nZ (lT (sB Ab.1 bb)))), (13, .int (0)), (12, .int (nZ (sm 6 (fun b => lT (sB Ab.1 b))))), (11, .int (nZ (lA Ab.1 (sY Ab.1)))), (10, .int (nZ Ab.2.2.1.length)), (9, .int (nZ (o : Int))), (8, .int (nZ (t : Int))), (7, .int (nZ (bb : Int))), (6, .int (nZ (gg : Int))), (5, .int (x)), (4, .int (nI k)), (1, .ref (g.2.2.1 0 0)), (0, .ref (b))]) hx hb dL_law_461 hl (by decide) rfl (fun ls hl => ?_)
  refine lv_aload_n hx hb dL_law_463 rfl (lv_at hl 11 rfl) ?_
  refine lv_iload hx hb dL_law_464 (lv_at hl 7 rfl) ?_
  refine lv_iconst (v := 3) hx hb dL_law_466 (by decide) ?_
  obtain ⟨σ2, hf2, hCR⟩ := u_bin3 hCR hbb
  refine lw_cw (g := g) (nL := 20) (wr := ([] : va_W)) (as := [gI (nZ (bb : Int)), gI (3)]) (t := []) hx hb hml hown hts hK hA ⟨by show _ ≤ 600130; omega, by show _ ≤ 7301080; omega⟩ c_X9_bin (ci := 9) rfl w5_L_law_27 v_X9_bin ⟨rfl, rfl⟩ ⟨Nat.le_of_ble_eq_true rfl, Nat.le_of_ble_eq_true rfl⟩ dL_law_467 (k := 0) (j := 0) ⟨by decide +kernel, by decide +kernel⟩ rfl (gb_oks_c (v := gI (nZ (bb : Int))) trivial (gb_oks_c (v := gI (3)) trivial gb_oks_n)) rfl (Nat.le_of_ble_eq_true rfl) hf2 hP hD hS hl rfl (fun v9 σ9 H locs he hP hD hS => ?_) (Or.inl rfl)
  cases he
  refine W.eq (g2 := F0 m 470 ls [.int (nZ (max 0 (sP Ab.1 bb - sY Ab.1)))]) rfl ?_
  refine lv_istore (lv' := [(15, .int (nZ (max 0 (sP Ab.1 bb - sY Ab.1)))), (14, .int (nZ (lT (sB Ab.1 bb)))), (13, .int (0)), (12, .int (nZ (sm 6 (fun b => lT (sB Ab.1 b))))), (11, .int (nZ (lA Ab.1 (sY Ab.1)))), (10, .int (nZ Ab.2.2.1.length)), (9, .int (nZ (o : Int))), (8, .int (nZ (t : Int))), (7, .int (nZ (bb : Int))), (6, .int (nZ (gg : Int))), (5, .int (x)), (4, .int (nI k)), (1, .ref (g.2.2.1 0 0)), (0, .ref (b))]) hx hb dL_law_470 hl (by decide) rfl (fun ls hl => ?_)
  refine lv_aload_n hx hb dL_law_472 rfl (lv_at hl 12 rfl) ?_
  refine lv_iload hx hb dL_law_473 (lv_at hl 8 rfl) ?_
  refine lv_iload hx hb dL_law_475 (lv_at hl 7 rfl) ?_
  obtain ⟨σ3, hf3, hCR⟩ := v_draw3 hCR (t := t) hbb (by omega) hW (by omega)
  refine lw_cw (g := g) (nL := 20) (wr := ([] : va_W)) (as := [gI (nZ (bb : Int)), gI (nZ (t : Int))]) (t := []) hx hb hml hown hts hK hA ⟨by show _ ≤ 600130; omega, by show _ ≤ 7301080; omega⟩ c_X9_draw (ci := 9) rfl w5_L_law_117 v_X9_draw ⟨rfl, rfl⟩ ⟨Nat.le_of_ble_eq_true rfl, Nat.le_of_ble_eq_true rfl⟩ dL_law_477 (k := 0) (j := 0) ⟨by decide +kernel, by decide +kernel⟩ rfl (gb_oks_c (v := gI (nZ (bb : Int))) trivial (gb_oks_c (v := gI (nZ (t : Int))) trivial gb_oks_n)) rfl (Nat.le_of_ble_eq_true rfl) hf3 hP hD hS hl rfl (fun v9 σ9 H locs he hP hD hS => ?_) (Or.inl rfl)
  cases he
  refine W.eq (g2 := F0 m 480 ls [.int (-3)]) rfl ?_
  refine lv_istore (lv' := [(16, .int (-3)), (15, .int (nZ (max 0 (sP Ab.1 bb - sY Ab.1)))), (14, .int (nZ (lT (sB Ab.1 bb)))), (13, .int (0)), (12, .int (nZ (sm 6 (fun b => lT (sB Ab.1 b))))), (11, .int (nZ (lA Ab.1 (sY Ab.1)))), (10, .int (nZ Ab.2.2.1.length)), (9, .int (nZ (o : Int))), (8, .int (nZ (t : Int))), (7, .int (nZ (bb : Int))), (6, .int (nZ (gg : Int))), (5, .int (x)), (4, .int (nI k)), (1, .ref (g.2.2.1 0 0)), (0, .ref (b))]) hx hb dL_law_480 hl (by decide) rfl (fun ls hl => ?_)
  refine lv_iload hx hb dL_law_482 (lv_at hl 0 rfl) ?_
  refine lv_if_lt (tgt := 491) hx hb dL_law_484 (by decide) (fun _ => ?_) (fun c9 => absurd (by decide) c9)
  refine lv_iconst (v := 0) hx hb dL_law_491 (by decide) ?_
  refine lv_istore (lv' := [(13, .int (0)), (16, .int (-3)), (15, .int (nZ (max 0 (sP Ab.1 bb - sY Ab.1)))), (14, .int (nZ (lT (sB Ab.1 bb)))), (12, .int (nZ (sm 6 (fun b => lT (sB Ab.1 b))))), (11, .int (nZ (lA Ab.1 (sY Ab.1)))), (10, .int (nZ Ab.2.2.1.length)), (9, .int (nZ (o : Int))), (8, .int (nZ (t : Int))), (7, .int (nZ (bb : Int))), (6, .int (nZ (gg : Int))), (5, .int (x)), (4, .int (nI k)), (1, .ref (g.2.2.1 0 0)), (0, .ref (b))]) hx hb dL_law_492 hl (by decide) rfl (fun ls hl => ?_)
  refine lv_iload hx hb dL_law_494 (lv_at hl 1 rfl) ?_
  refine lv_iload hx hb dL_law_496 (lv_at hl 2 rfl) ?_
  refine lv_if_le (tgt := 506) hx hb dL_law_498 (by decide) (fun _ => ?_) (fun c9 => absurd (zy_le (b := 0) (zr (by omega) (by omega)) (zr (by omega) (by omega)) (by omega)) c9)
  refine lv_iload hx hb dL_law_506 (lv_at hl 3 rfl) ?_
  refine lv_iload hx hb dL_law_508 (lv_at hl 8 rfl) ?_
  refine lv_icmp_ge (tgt := 518) hx hb dL_law_510 (by decide) (fun c9 => absurd c9 (zn_le (zr (by omega) (by omega)) (zr (by omega) (by omega)) (by omega))) (fun _ => ?_)
  refine lv_bipush (v := (-3)) hx hb dL_law_513 (by decide) ?_
  refine lv_goto (tgt := 520) hx hb dL_law_515 (by decide) ?_
  refine lv_icmp_ne (tgt := 550) hx hb dL_law_520 (by decide) (fun c9 => absurd rfl c9) (fun _ => ?_)
  refine lv_iload hx hb dL_law_523 (lv_at hl 1 rfl) ?_
  refine lv_if_lt (tgt := 543) hx hb dL_law_525 (by decide) (fun _ => ?_) (fun c9 => absurd (by decide) c9)
  refine lv_iload hx hb dL_law_543 (lv_at hl 1 rfl) ?_
  refine lv_ldc (v := (99000)) hx hb hown (hts _ (wj_L_lawdraw3 _ (List.mem_of_getElem? (i := 0) rfl))) dL_law_545 ?_
  refine lv_icmp_le (tgt := 552) hx hb dL_law_547 (by decide) (fun _ => ?_) (fun c9 => absurd (by decide) c9)
  refine lv_lconst (v := 0) hx hb dL_law_552 (by decide) ?_
  refine lv_lstore (lv' := [(17, .long (0)), (13, .int (0)), (16, .int (-3)), (15, .int (nZ (max 0 (sP Ab.1 bb - sY Ab.1)))), (14, .int (nZ (lT (sB Ab.1 bb)))), (12, .int (nZ (sm 6 (fun b => lT (sB Ab.1 b))))), (11, .int (nZ (lA Ab.1 (sY Ab.1)))), (10, .int (nZ Ab.2.2.1.length)), (9, .int (nZ (o : Int))), (8, .int (nZ (t : Int))), (7, .int (nZ (bb : Int))), (6, .int (nZ (gg : Int))), (5, .int (x)), (4, .int (nI k)), (1, .ref (g.2.2.1 0 0)), (0, .ref (b))]) hx hb dL_law_553 hl (by decide) rfl (fun ls hl => ?_)
  refine lv_iconst (v := 0) hx hb dL_law_555 (by decide) ?_
  refine lv_istore (lv' := [(19, .int (0)), (17, .long (0)), (13, .int (0)), (16, .int (-3)), (15, .int (nZ (max 0 (sP Ab.1 bb - sY Ab.1)))), (14, .int (nZ (lT (sB Ab.1 bb)))), (12, .int (nZ (sm 6 (fun b => lT (sB Ab.1 b))))), (11, .int (nZ (lA Ab.1 (sY Ab.1)))), (10, .int (nZ Ab.2.2.1.length)), (9, .int (nZ (o : Int))), (8, .int (nZ (t : Int))), (7, .int (nZ (bb : Int))), (6, .int (nZ (gg : Int))), (5, .int (x)), (4, .int (nI k)), (1, .ref (g.2.2.1 0 0)), (0, .ref (b))]) hx hb dL_law_556 hl (by decide) rfl (fun ls hl => ?_)
  refine lv_iload hx hb dL_law_558 (lv_at hl 0 rfl) ?_
  refine lv_bipush (v := 6) hx hb dL_law_560 (by decide) ?_
  refine lv_icmp_ge (tgt := 587) hx hb dL_law_562 (by decide) (fun c9 => absurd c9 (by decide)) (fun _ => ?_)
  refine lv_iload hx hb dL_law_565 (lv_at hl 3 rfl) ?_
  refine lv_if_lt (tgt := 587) hx hb dL_law_567 (by decide) (fun _ => ?_) (fun c9 => absurd (by decide) c9)
  refine lv_iload hx hb dL_law_587 (lv_at hl 3 rfl) ?_
  refine lv_if_lt (tgt := 1190) hx hb dL_law_589 (by decide) (fun _ => ?_) (fun c9 => absurd (by decide) c9)
  exact k9 σ3 (Ab) (0) H locs ls (Or.inl ⟨rfl, rfl⟩) (lv_sub hl [2, 6, 7, 8, 9, 10, 11, 12, 13, 14, 15, 16] rfl) hP hD hS hCR
theorem w5_L_law_44 : ∀ w ∈ ([.methodLink RL 44 yX9_row, .instanceMethod yX9_row, .selects RX9 yX9_row yX9_row, .initialized RX9, .code yX9_row cX9_row 2 (some .long)] : List Cond), w ∈ gb_B := by
  have h : ∀ w ∈ ([.methodLink RL 44 yX9_row, .instanceMethod yX9_row, .selects RX9 yX9_row yX9_row, .initialized RX9, .code yX9_row cX9_row 2 (some .long)] : List Cond), w ∈ lw_tbl ∧ goodWord w = true := by decide +kernel
  exact fun w hw => List.mem_filter.mpr (h w hw)
theorem wj_L_lawdraw1 : ∀ w ∈ ([.constant RL 120 (99000)] : List Cond), w ∈ gb_J := by
  have h : ∀ w ∈ ([.constant RL 120 (99000)] : List Cond), w ∈ jsw ∨ (w ∈ lw_tbl ∧ goodWord w = true) := by decide +kernel
  exact gb_J_of h
set_option maxHeartbeats 4000000 in
theorem lw_draw1 {p : Program} {l : Launch} {e : Env} {s : State} {m : MethodId} {below : List Frame} {meth : Method} {c : Code} {g : gb_G} {A : Nat → Prop} {b L t1 t2 : Nat} {xs : Nat → Int32} {Q : State → Prop} (X : jLw p s m c g A b L xs t1 t2) {k gg bb t o : Nat} {x : Int32} {Ab : gb_Ab} {σ : gb_M} {H : Heap} {locs : List Loc} {cells slots : Nat} {ls : Array Slot} (hk : k < 20) (hgg : gg < 4) (hbb : bb < 6) (ht : 1 ≤ t ∧ t ≤ 16) (ho : o < 6) (hInv : jInv k Ab) (hc : cells ≤ 600130 ∧ slots ≤ 7301080) (hl : lv_has ls 20 (jlv g b k x gg bb t o Ab 0)) (hP : va_P (g.1, g.2.1) vwCl (gb_ws g σ ++ ([] : va_W)) H) (hD : va_D A (gb_ws g σ ++ ([] : va_W))) (hS : va_S A s.heap H locs) (hCR : CR σ Ab) (k9 : ∀ (σ : gb_M) (Ac : gb_Ab) (d : Int32) (H : Heap) (locs : List Loc) (ls : Array Slot), jEnd k Ab Ac d → lv_has ls 20 (jlv g b k x gg bb t o Ab d) → va_P (g.1, g.2.1) vwCl (gb_ws g σ ++ ([] : va_W)) H → va_D A (gb_ws g σ ++ ([] : va_W)) → va_S A s.heap H locs → CR σ Ac → W p l e room_1 s m #[Value.ref b] below meth c H locs cells slots Q (F0 m 1190 ls [])) (hW : ¬ sY Ab.1 < sP Ab.1 bb) (hW2 : (t : Int) ≤ lT (sB Ab.1 bb)) : W p l e room_1 s m #[Value.ref b] below meth c H locs cells slots Q (F0 m 454 ls []) := by
  obtain ⟨hx, hb, hml, hown, hts, hK, hA, hC, hX, hbA, hbl⟩ := id X
  have hwf := CR_wf hCR
  have hI := hwf.1.1
  have hB : ∀ j, j < 6 → 0 ≤ lT (sB Ab.1 j) ∧ lT (sB Ab.1 j) ≤ 99 := fun j hj => jT_r hwf hInv.1 hj
  have hA0 := lA_r (s := Ab.1) (on := sY Ab.1) hI
  have hBb := hB bb hbb
  have hBo := hB o ho
  have hY := jY_r hwf
  have hP9 := hI.2.2.2.2.1 bb hbb
  have hm9 := mnU_r (s := Ab.1) (on := sY Ab.1) hI.1 (L := sB Ab.1 bb) (t := (t : Int)) (hI.2.2.2.2.2.1 bb hbb).2.2
  have hv0 : 0 ≤ (t : Int) * mnU Ab.1 (sY Ab.1) (sB Ab.1 bb) (t : Int) := Int.mul_nonneg (by omega) hm9.1
  have hv1 : (t : Int) * mnU Ab.1 (sY Ab.1) (sB Ab.1 bb) (t : Int) ≤ 16 * 999 := Int.mul_le_mul (by omega) hm9.2 hm9.1 (by omega)
  have hsm := draw_sum hwf.1 hbb (t := (t : Int)) ⟨by omega, hW2⟩
  have hsum := jsum6 (jlG_r (pk_ok (hI.2.2.2.2.2.1 bb hbb).2.2) hsm (by omega)) hsm
  refine lv_aload_n hx hb dL_law_454 rfl (lv_at hl 10 rfl) ?_
  refine lv_iload hx hb dL_law_455 (lv_at hl 6 rfl) ?_
  refine lv_iconst (v := 1) hx hb dL_law_457 (by decide) ?_
  obtain ⟨σ1, hf1, hCR⟩ := u_bin1 hCR hbb
  refine lw_cw (g := g) (nL := 20) (wr := ([] : va_W)) (as := [gI (nZ (bb : Int)), gI (1)]) (t := []) hx hb hml hown hts hK hA ⟨by show _ ≤ 600130; omega, by show _ ≤ 7301080; omega⟩ c_X9_bin (ci := 9) rfl w5_L_law_27 v_X9_bin ⟨rfl, rfl⟩ ⟨Nat.le_of_ble_eq_true rfl, Nat.le_of_ble_eq_true rfl⟩ dL_law_458 (k := 0) (j := 0) ⟨by decide +kernel, by decide +kernel⟩ rfl (gb_oks_c (v := gI (nZ (bb : Int))) trivial (gb_oks_c (v := gI (1)) trivial gb_oks_n)) rfl (Nat.le_of_ble_eq_true rfl) hf1 hP hD hS hl rfl (fun v9 σ9 H locs he hP hD hS => ?_) (Or.inl rfl)
  cases he
  refine W.eq (g2 := F0 m 461 ls [.int (nZ (lT (sB Ab.1 bb)))]) rfl ?_
  refine lv_istore (lv' := [(14, .int (nZ (lT (sB Ab.1 bb)))), (13, .int (0)), (12, .int (nZ (sm 6 (fun b => lT (sB Ab.1 b))))), (11, .int (nZ (lA Ab.1 (sY Ab.1)))), (10, .int (nZ Ab.2.2.1.length)), (9, .int (nZ (o : Int))), (8, .int (nZ (t : Int))), (7, .int (nZ (bb : Int))), (6, .int (nZ (gg : Int))), (5, .int (x)), (4, .int (nI k)), (1, .ref (g.2.2.1 0 0)), (0, .ref (b))]) hx hb dL_law_461 hl (by decide) rfl (fun ls hl => ?_)
  refine lv_aload_n hx hb dL_law_463 rfl (lv_at hl 11 rfl) ?_
  refine lv_iload hx hb dL_law_464 (lv_at hl 7 rfl) ?_
  refine lv_iconst (v := 3) hx hb dL_law_466 (by decide) ?_
  obtain ⟨σ2, hf2, hCR⟩ := u_bin3 hCR hbb
  refine lw_cw (g := g) (nL := 20) (wr := ([] : va_W)) (as := [gI (nZ (bb : Int)), gI (3)]) (t := []) hx hb hml hown hts hK hA ⟨by show _ ≤ 600130; omega, by show _ ≤ 7301080; omega⟩ c_X9_bin (ci := 9) rfl w5_L_law_27 v_X9_bin ⟨rfl, rfl⟩ ⟨Nat.le_of_ble_eq_true rfl, Nat.le_of_ble_eq_true rfl⟩ dL_law_467 (k := 0) (j := 0) ⟨by decide +kernel, by decide +kernel⟩ rfl (gb_oks_c (v := gI (nZ (bb : Int))) trivial (gb_oks_c (v := gI (3)) trivial gb_oks_n)) rfl (Nat.le_of_ble_eq_true rfl) hf2 hP hD hS hl rfl (fun v9 σ9 H locs he hP hD hS => ?_) (Or.inl rfl)
  cases he
  refine W.eq (g2 := F0 m 470 ls [.int (nZ (max 0 (sP Ab.1 bb - sY Ab.1)))]) rfl ?_
  refine lv_istore (lv' := [(15, .int (nZ (max 0 (sP Ab.1 bb - sY Ab.1)))), (14, .int (nZ (lT (sB Ab.1 bb)))), (13, .int (0)), (12, .int (nZ (sm 6 (fun b => lT (sB Ab.1 b))))), (11, .int (nZ (lA Ab.1 (sY Ab.1)))), (10, .int (nZ Ab.2.2.1.length)), (9, .int (nZ (o : Int))), (8, .int (nZ (t : Int))), (7, .int (nZ (bb : Int))), (6, .int (nZ (gg : Int))), (5, .int (x)), (4, .int (nI k)), (1, .ref (g.2.2.1 0 0)), (0, .ref (b))]) hx hb dL_law_470 hl (by decide) rfl (fun ls hl => ?_)
  refine lv_aload_n hx hb dL_law_472 rfl (lv_at hl 12 rfl) ?_
  refine lv_iload hx hb dL_law_473 (lv_at hl 8 rfl) ?_
  refine lv_iload hx hb dL_law_475 (lv_at hl 7 rfl) ?_
  obtain ⟨σ3, hf3, hCA⟩ := v_draw hCR (t := t) hbb (by omega) hW hW2
  refine lw_cw (g := g) (nL := 20) (wr := ([] : va_W)) (as := [gI (nZ (bb : Int)), gI (nZ (t : Int))]) (t := []) hx hb hml hown hts hK hA ⟨by show _ ≤ 600130; omega, by show _ ≤ 7301080; omega⟩ c_X9_draw (ci := 9) rfl w5_L_law_117 v_X9_draw ⟨rfl, rfl⟩ ⟨Nat.le_of_ble_eq_true rfl, Nat.le_of_ble_eq_true rfl⟩ dL_law_477 (k := 0) (j := 0) ⟨by decide +kernel, by decide +kernel⟩ rfl (gb_oks_c (v := gI (nZ (bb : Int))) trivial (gb_oks_c (v := gI (nZ (t : Int))) trivial gb_oks_n)) rfl (Nat.le_of_ble_eq_true rfl) hf3 hP hD hS hl rfl (fun v9 σ9 H locs he hP hD hS => ?_) (Or.inl rfl)
  cases he
  refine W.eq (g2 := F0 m 480 ls [.int (nZ ((t : Int) * mnU Ab.1 (sY Ab.1) (sB Ab.1 bb) (t : Int)))]) rfl ?_
  refine lv_istore (lv' := [(16, .int (nZ ((t : Int) * mnU Ab.1 (sY Ab.1) (sB Ab.1 bb) (t : Int)))), (15, .int (nZ (max 0 (sP Ab.1 bb - sY Ab.1)))), (14, .int (nZ (lT (sB Ab.1 bb)))), (13, .int (0)), (12, .int (nZ (sm 6 (fun b => lT (sB Ab.1 b))))), (11, .int (nZ (lA Ab.1 (sY Ab.1)))), (10, .int (nZ Ab.2.2.1.length)), (9, .int (nZ (o : Int))), (8, .int (nZ (t : Int))), (7, .int (nZ (bb : Int))), (6, .int (nZ (gg : Int))), (5, .int (x)), (4, .int (nI k)), (1, .ref (g.2.2.1 0 0)), (0, .ref (b))]) hx hb dL_law_480 hl (by decide) rfl (fun ls hl => ?_)
  refine lv_iload hx hb dL_law_482 (lv_at hl 0 rfl) ?_
  refine lv_if_lt (tgt := 491) hx hb dL_law_484 (by decide) (fun c9 => absurd c9 (zn_lt (b := 0) (zr (by omega) (by omega)) (zr (by omega) (by omega)) (by omega))) (fun _ => ?_)
  refine lv_iconst (v := 1) hx hb dL_law_487 (by decide) ?_
  refine lv_goto (tgt := 492) hx hb dL_law_488 (by decide) ?_
  refine lv_istore (lv' := [(13, .int (1)), (16, .int (nZ ((t : Int) * mnU Ab.1 (sY Ab.1) (sB Ab.1 bb) (t : Int)))), (15, .int (nZ (max 0 (sP Ab.1 bb - sY Ab.1)))), (14, .int (nZ (lT (sB Ab.1 bb)))), (12, .int (nZ (sm 6 (fun b => lT (sB Ab.1 b))))), (11, .int (nZ (lA Ab.1 (sY Ab.1)))), (10, .int (nZ Ab.2.2.1.length)), (9, .int (nZ (o : Int))), (8, .int (nZ (t : Int))), (7, .int (nZ (bb : Int))), (6, .int (nZ (gg : Int))), (5, .int (x)), (4, .int (nI k)), (1, .ref (g.2.2.1 0 0)), (0, .ref (b))]) hx hb dL_law_492 hl (by decide) rfl (fun ls hl => ?_)
  refine lv_iload hx hb dL_law_494 (lv_at hl 1 rfl) ?_
  refine lv_iload hx hb dL_law_496 (lv_at hl 2 rfl) ?_
  refine lv_if_le (tgt := 506) hx hb dL_law_498 (by decide) (fun _ => ?_) (fun c9 => absurd (zy_le (b := 0) (zr (by omega) (by omega)) (zr (by omega) (by omega)) (by omega)) c9)
  refine lv_iload hx hb dL_law_506 (lv_at hl 3 rfl) ?_
  refine lv_iload hx hb dL_law_508 (lv_at hl 8 rfl) ?_
  refine lv_icmp_ge (tgt := 518) hx hb dL_law_510 (by decide) (fun _ => ?_) (fun c9 => absurd (zy_le (zr (by omega) (by omega)) (zr (by omega) (by omega)) (by omega)) c9)
  refine lv_iload hx hb dL_law_518 (lv_at hl 1 rfl) ?_
  refine lv_icmp_ne (tgt := 550) hx hb dL_law_520 (by decide) (fun c9 => absurd rfl c9) (fun _ => ?_)
  refine lv_iload hx hb dL_law_523 (lv_at hl 1 rfl) ?_
  refine lv_if_lt (tgt := 543) hx hb dL_law_525 (by decide) (fun c9 => absurd c9 (zn_lt (b := 0) (zr (by omega) (by omega)) (zr (by omega) (by omega)) (by omega))) (fun _ => ?_)
  refine lv_aload_n hx hb dL_law_528 rfl (lv_at hl 13 rfl) ?_
  refine lv_iload hx hb dL_law_529 (lv_at hl 9 rfl) ?_
  refine lv_iconst (v := 1) hx hb dL_law_531 (by decide) ?_
  obtain ⟨σ4, hf4, hCA⟩ := cr_bin1 hCA hbb
  refine lw_cw (g := g) (nL := 20) (wr := ([] : va_W)) (as := [gI (nZ (bb : Int)), gI (1)]) (t := []) hx hb hml hown hts hK hA ⟨by show _ ≤ 600130; omega, by show _ ≤ 7301080; omega⟩ c_X9_bin (ci := 9) rfl w5_L_law_27 v_X9_bin ⟨rfl, rfl⟩ ⟨Nat.le_of_ble_eq_true rfl, Nat.le_of_ble_eq_true rfl⟩ dL_law_532 (k := 0) (j := 0) ⟨by decide +kernel, by decide +kernel⟩ rfl (gb_oks_c (v := gI (nZ (bb : Int))) trivial (gb_oks_c (v := gI (1)) trivial gb_oks_n)) rfl (Nat.le_of_ble_eq_true rfl) hf4 hP hD hS hl rfl (fun v9 σ9 H locs he hP hD hS => ?_) (Or.inl rfl)
  cases he
  refine W.eq (g2 := F0 m 535 ls [.int (nZ (lT (sB (dS Ab.1 bb (t : Int)) bb)))]) rfl ?_
  refine lv_iload hx hb dL_law_535 (lv_at hl 3 rfl) ?_
  refine lv_iload hx hb dL_law_537 (lv_at hl 8 rfl) ?_
  refine lv_isub hx hb dL_law_539 ?_
  refine W.eq (g2 := F0 m 540 ls [.int (nZ (lT (sB Ab.1 bb) - (t : Int))), .int (nZ (lT (sB (dS Ab.1 bb (t : Int)) bb)))]) (by rw [show ((nZ (lT (sB Ab.1 bb))) - (nZ (t : Int)) : Int32) = nZ (lT (sB Ab.1 bb) - (t : Int)) from z_sub _ _]) ?_
  refine lv_icmp_ne (tgt := 550) hx hb dL_law_540 (by decide) (fun c9 => absurd (congrArg nZ (lT_draw hwf.1 hbb ⟨by omega, hW2⟩)) c9) (fun _ => ?_)
  refine lv_iload hx hb dL_law_543 (lv_at hl 1 rfl) ?_
  refine lv_ldc (v := (99000)) hx hb hown (hts _ (wj_L_lawdraw1 _ (List.mem_of_getElem? (i := 0) rfl))) dL_law_545 ?_
  refine lv_icmp_le (tgt := 552) hx hb dL_law_547 (by decide) (fun _ => ?_) (fun c9 => absurd (zy_le (b := 99000) (zr (by omega) (by omega)) (zr (by omega) (by omega)) (by omega)) c9)
  refine lv_lconst (v := 0) hx hb dL_law_552 (by decide) ?_
  refine lv_lstore (lv' := [(17, .long (0)), (13, .int (1)), (16, .int (nZ ((t : Int) * mnU Ab.1 (sY Ab.1) (sB Ab.1 bb) (t : Int)))), (15, .int (nZ (max 0 (sP Ab.1 bb - sY Ab.1)))), (14, .int (nZ (lT (sB Ab.1 bb)))), (12, .int (nZ (sm 6 (fun b => lT (sB Ab.1 b))))), (11, .int (nZ (lA Ab.1 (sY Ab.1)))), (10, .int (nZ Ab.2.2.1.length)), (9, .int (nZ (o : Int))), (8, .int (nZ (t : Int))), (7, .int (nZ (bb : Int))), (6, .int (nZ (gg : Int))), (5, .int (x)), (4, .int (nI k)), (1, .ref (g.2.2.1 0 0)), (0, .ref (b))]) hx hb dL_law_553 hl (by decide) rfl (fun ls hl => ?_)
  refine lv_iconst (v := 0) hx hb dL_law_555 (by decide) ?_
  refine W.eq (g2 := F0 m 556 ls [.int (nZ ((0 : Nat) : Int))]) (by rw [show (0 : Int32) = nZ ((0 : Nat) : Int) from rfl]) ?_
  refine lv_istore (lv' := [(19, .int (nZ ((0 : Nat) : Int))), (17, .long (0)), (13, .int (1)), (16, .int (nZ ((t : Int) * mnU Ab.1 (sY Ab.1) (sB Ab.1 bb) (t : Int)))), (15, .int (nZ (max 0 (sP Ab.1 bb - sY Ab.1)))), (14, .int (nZ (lT (sB Ab.1 bb)))), (12, .int (nZ (sm 6 (fun b => lT (sB Ab.1 b))))), (11, .int (nZ (lA Ab.1 (sY Ab.1)))), (10, .int (nZ Ab.2.2.1.length)), (9, .int (nZ (o : Int))), (8, .int (nZ (t : Int))), (7, .int (nZ (bb : Int))), (6, .int (nZ (gg : Int))), (5, .int (x)), (4, .int (nI k)), (1, .ref (g.2.2.1 0 0)), (0, .ref (b))]) hx hb dL_law_556 hl (by decide) rfl (fun ls hl => ?_)
  refine lv_iload hx hb dL_law_558 (lv_at hl 0 rfl) ?_
  refine lv_bipush (v := 6) hx hb dL_law_560 (by decide) ?_
  refine lv_icmp_ge (tgt := 587) hx hb dL_law_562 (by decide) (fun c9 => absurd c9 (by decide)) (fun _ => ?_)
  refine lv_iload hx hb dL_law_565 (lv_at hl 3 rfl) ?_
  refine lv_if_lt (tgt := 587) hx hb dL_law_567 (by decide) (fun c9 => absurd c9 (zn_lt (b := 0) (zr (by omega) (by omega)) (zr (by omega) (by omega)) (by omega))) (fun _ => ?_)
  refine lv_lload hx hb dL_law_570 (lv_at hl 1 rfl) ?_
  refine lv_aload_n hx hb dL_law_572 rfl (lv_at hl 15 rfl) ?_
  refine lv_iload hx hb dL_law_573 (lv_at hl 0 rfl) ?_
  obtain ⟨σ5, hf5, hCA⟩ := c_row hCA (i := 0) (Nat.le_of_ble_eq_true rfl)
  refine lw_cw (g := g) (nL := 20) (wr := ([] : va_W)) (as := [gI (nZ ((0 : Nat) : Int))]) (t := [gL (0)]) hx hb hml hown hts hK hA ⟨by show _ ≤ 600130; omega, by show _ ≤ 7301080; omega⟩ c_X9_row (ci := 9) rfl w5_L_law_44 v_X9_row ⟨rfl, rfl⟩ ⟨Nat.le_of_ble_eq_true rfl, Nat.le_of_ble_eq_true rfl⟩ dL_law_575 (k := 0) (j := 0) ⟨by decide +kernel, by decide +kernel⟩ rfl (gb_oks_c (v := gI (nZ ((0 : Nat) : Int))) trivial gb_oks_n) rfl (Nat.le_of_ble_eq_true rfl) hf5 hP hD hS hl rfl (fun v9 σ9 H locs he hP hD hS => ?_) (Or.inr (Or.inr rfl))
  cases he
  refine W.eq (g2 := F0 m 578 ls [.long ((nZ (lG (pk (sB Ab.1 bb) (t : Int)) 0)).toInt64), .long (0)]) rfl ?_
  refine lv_ladd hx hb dL_law_578 ?_
  refine lv_lstore (lv' := [(17, .long ((0) + ((nZ (lG (pk (sB Ab.1 bb) (t : Int)) 0)).toInt64))), (19, .int (nZ ((0 : Nat) : Int))), (13, .int (1)), (16, .int (nZ ((t : Int) * mnU Ab.1 (sY Ab.1) (sB Ab.1 bb) (t : Int)))), (15, .int (nZ (max 0 (sP Ab.1 bb - sY Ab.1)))), (14, .int (nZ (lT (sB Ab.1 bb)))), (12, .int (nZ (sm 6 (fun b => lT (sB Ab.1 b))))), (11, .int (nZ (lA Ab.1 (sY Ab.1)))), (10, .int (nZ Ab.2.2.1.length)), (9, .int (nZ (o : Int))), (8, .int (nZ (t : Int))), (7, .int (nZ (bb : Int))), (6, .int (nZ (gg : Int))), (5, .int (x)), (4, .int (nI k)), (1, .ref (g.2.2.1 0 0)), (0, .ref (b))]) hx hb dL_law_579 hl (by decide) rfl (fun ls hl => ?_)
  refine lv_iinc (v := nZ ((1 : Nat) : Int)) (lv' := [(19, .int (nZ ((1 : Nat) : Int))), (17, .long ((0) + ((nZ (lG (pk (sB Ab.1 bb) (t : Int)) 0)).toInt64))), (13, .int (1)), (16, .int (nZ ((t : Int) * mnU Ab.1 (sY Ab.1) (sB Ab.1 bb) (t : Int)))), (15, .int (nZ (max 0 (sP Ab.1 bb - sY Ab.1)))), (14, .int (nZ (lT (sB Ab.1 bb)))), (12, .int (nZ (sm 6 (fun b => lT (sB Ab.1 b))))), (11, .int (nZ (lA Ab.1 (sY Ab.1)))), (10, .int (nZ Ab.2.2.1.length)), (9, .int (nZ (o : Int))), (8, .int (nZ (t : Int))), (7, .int (nZ (bb : Int))), (6, .int (nZ (gg : Int))), (5, .int (x)), (4, .int (nI k)), (1, .ref (g.2.2.1 0 0)), (0, .ref (b))]) hx hb dL_law_581 hl (k := 1) rfl (by decide) (by decide) rfl (fun ls hl => ?_)
  refine lv_goto (tgt := 558) hx hb dL_law_584 (by decide) ?_
  refine lv_iload hx hb dL_law_558 (lv_at hl 0 rfl) ?_
  refine lv_bipush (v := 6) hx hb dL_law_560 (by decide) ?_
  refine lv_icmp_ge (tgt := 587) hx hb dL_law_562 (by decide) (fun c9 => absurd c9 (by decide)) (fun _ => ?_)
  refine lv_iload hx hb dL_law_565 (lv_at hl 3 rfl) ?_
  refine lv_if_lt (tgt := 587) hx hb dL_law_567 (by decide) (fun c9 => absurd c9 (zn_lt (b := 0) (zr (by omega) (by omega)) (zr (by omega) (by omega)) (by omega))) (fun _ => ?_)
  refine lv_lload hx hb dL_law_570 (lv_at hl 1 rfl) ?_
  refine lv_aload_n hx hb dL_law_572 rfl (lv_at hl 15 rfl) ?_
  refine lv_iload hx hb dL_law_573 (lv_at hl 0 rfl) ?_
  obtain ⟨σ6, hf6, hCA⟩ := c_row hCA (i := 1) (Nat.le_of_ble_eq_true rfl)
  refine lw_cw (g := g) (nL := 20) (wr := ([] : va_W)) (as := [gI (nZ ((1 : Nat) : Int))]) (t := [gL ((0) + ((nZ (lG (pk (sB Ab.1 bb) (t : Int)) 0)).toInt64))]) hx hb hml hown hts hK hA ⟨by show _ ≤ 600130; omega, by show _ ≤ 7301080; omega⟩ c_X9_row (ci := 9) rfl w5_L_law_44 v_X9_row ⟨rfl, rfl⟩ ⟨Nat.le_of_ble_eq_true rfl, Nat.le_of_ble_eq_true rfl⟩ dL_law_575 (k := 0) (j := 0) ⟨by decide +kernel, by decide +kernel⟩ rfl (gb_oks_c (v := gI (nZ ((1 : Nat) : Int))) trivial gb_oks_n) rfl (Nat.le_of_ble_eq_true rfl) hf6 hP hD hS hl rfl (fun v9 σ9 H locs he hP hD hS => ?_) (Or.inr (Or.inr rfl))
  cases he
  refine W.eq (g2 := F0 m 578 ls [.long ((nZ (lG (pk (sB Ab.1 bb) (t : Int)) 1)).toInt64), .long ((0) + ((nZ (lG (pk (sB Ab.1 bb) (t : Int)) 0)).toInt64))]) rfl ?_
  refine lv_ladd hx hb dL_law_578 ?_
  refine lv_lstore (lv' := [(17, .long (((0) + ((nZ (lG (pk (sB Ab.1 bb) (t : Int)) 0)).toInt64)) + ((nZ (lG (pk (sB Ab.1 bb) (t : Int)) 1)).toInt64))), (19, .int (nZ ((1 : Nat) : Int))), (13, .int (1)), (16, .int (nZ ((t : Int) * mnU Ab.1 (sY Ab.1) (sB Ab.1 bb) (t : Int)))), (15, .int (nZ (max 0 (sP Ab.1 bb - sY Ab.1)))), (14, .int (nZ (lT (sB Ab.1 bb)))), (12, .int (nZ (sm 6 (fun b => lT (sB Ab.1 b))))), (11, .int (nZ (lA Ab.1 (sY Ab.1)))), (10, .int (nZ Ab.2.2.1.length)), (9, .int (nZ (o : Int))), (8, .int (nZ (t : Int))), (7, .int (nZ (bb : Int))), (6, .int (nZ (gg : Int))), (5, .int (x)), (4, .int (nI k)), (1, .ref (g.2.2.1 0 0)), (0, .ref (b))]) hx hb dL_law_579 hl (by decide) rfl (fun ls hl => ?_)
  refine lv_iinc (v := nZ ((2 : Nat) : Int)) (lv' := [(19, .int (nZ ((2 : Nat) : Int))), (17, .long (((0) + ((nZ (lG (pk (sB Ab.1 bb) (t : Int)) 0)).toInt64)) + ((nZ (lG (pk (sB Ab.1 bb) (t : Int)) 1)).toInt64))), (13, .int (1)), (16, .int (nZ ((t : Int) * mnU Ab.1 (sY Ab.1) (sB Ab.1 bb) (t : Int)))), (15, .int (nZ (max 0 (sP Ab.1 bb - sY Ab.1)))), (14, .int (nZ (lT (sB Ab.1 bb)))), (12, .int (nZ (sm 6 (fun b => lT (sB Ab.1 b))))), (11, .int (nZ (lA Ab.1 (sY Ab.1)))), (10, .int (nZ Ab.2.2.1.length)), (9, .int (nZ (o : Int))), (8, .int (nZ (t : Int))), (7, .int (nZ (bb : Int))), (6, .int (nZ (gg : Int))), (5, .int (x)), (4, .int (nI k)), (1, .ref (g.2.2.1 0 0)), (0, .ref (b))]) hx hb dL_law_581 hl (k := 1) rfl (by decide) (by decide) rfl (fun ls hl => ?_)
  refine lv_goto (tgt := 558) hx hb dL_law_584 (by decide) ?_
  refine lv_iload hx hb dL_law_558 (lv_at hl 0 rfl) ?_
  refine lv_bipush (v := 6) hx hb dL_law_560 (by decide) ?_
  refine lv_icmp_ge (tgt := 587) hx hb dL_law_562 (by decide) (fun c9 => absurd c9 (by decide)) (fun _ => ?_)
  refine lv_iload hx hb dL_law_565 (lv_at hl 3 rfl) ?_
  refine lv_if_lt (tgt := 587) hx hb dL_law_567 (by decide) (fun c9 => absurd c9 (zn_lt (b := 0) (zr (by omega) (by omega)) (zr (by omega) (by omega)) (by omega))) (fun _ => ?_)
  refine lv_lload hx hb dL_law_570 (lv_at hl 1 rfl) ?_
  refine lv_aload_n hx hb dL_law_572 rfl (lv_at hl 15 rfl) ?_
  refine lv_iload hx hb dL_law_573 (lv_at hl 0 rfl) ?_
  obtain ⟨σ7, hf7, hCA⟩ := c_row hCA (i := 2) (Nat.le_of_ble_eq_true rfl)
  refine lw_cw (g := g) (nL := 20) (wr := ([] : va_W)) (as := [gI (nZ ((2 : Nat) : Int))]) (t := [gL (((0) + ((nZ (lG (pk (sB Ab.1 bb) (t : Int)) 0)).toInt64)) + ((nZ (lG (pk (sB Ab.1 bb) (t : Int)) 1)).toInt64))]) hx hb hml hown hts hK hA ⟨by show _ ≤ 600130; omega, by show _ ≤ 7301080; omega⟩ c_X9_row (ci := 9) rfl w5_L_law_44 v_X9_row ⟨rfl, rfl⟩ ⟨Nat.le_of_ble_eq_true rfl, Nat.le_of_ble_eq_true rfl⟩ dL_law_575 (k := 0) (j := 0) ⟨by decide +kernel, by decide +kernel⟩ rfl (gb_oks_c (v := gI (nZ ((2 : Nat) : Int))) trivial gb_oks_n) rfl (Nat.le_of_ble_eq_true rfl) hf7 hP hD hS hl rfl (fun v9 σ9 H locs he hP hD hS => ?_) (Or.inr (Or.inr rfl))
  cases he
  refine W.eq (g2 := F0 m 578 ls [.long ((nZ (lG (pk (sB Ab.1 bb) (t : Int)) 2)).toInt64), .long (((0) + ((nZ (lG (pk (sB Ab.1 bb) (t : Int)) 0)).toInt64)) + ((nZ (lG (pk (sB Ab.1 bb) (t : Int)) 1)).toInt64))]) rfl ?_
  refine lv_ladd hx hb dL_law_578 ?_
  refine lv_lstore (lv' := [(17, .long ((((0) + ((nZ (lG (pk (sB Ab.1 bb) (t : Int)) 0)).toInt64)) + ((nZ (lG (pk (sB Ab.1 bb) (t : Int)) 1)).toInt64)) + ((nZ (lG (pk (sB Ab.1 bb) (t : Int)) 2)).toInt64))), (19, .int (nZ ((2 : Nat) : Int))), (13, .int (1)), (16, .int (nZ ((t : Int) * mnU Ab.1 (sY Ab.1) (sB Ab.1 bb) (t : Int)))), (15, .int (nZ (max 0 (sP Ab.1 bb - sY Ab.1)))), (14, .int (nZ (lT (sB Ab.1 bb)))), (12, .int (nZ (sm 6 (fun b => lT (sB Ab.1 b))))), (11, .int (nZ (lA Ab.1 (sY Ab.1)))), (10, .int (nZ Ab.2.2.1.length)), (9, .int (nZ (o : Int))), (8, .int (nZ (t : Int))), (7, .int (nZ (bb : Int))), (6, .int (nZ (gg : Int))), (5, .int (x)), (4, .int (nI k)), (1, .ref (g.2.2.1 0 0)), (0, .ref (b))]) hx hb dL_law_579 hl (by decide) rfl (fun ls hl => ?_)
  refine lv_iinc (v := nZ ((3 : Nat) : Int)) (lv' := [(19, .int (nZ ((3 : Nat) : Int))), (17, .long ((((0) + ((nZ (lG (pk (sB Ab.1 bb) (t : Int)) 0)).toInt64)) + ((nZ (lG (pk (sB Ab.1 bb) (t : Int)) 1)).toInt64)) + ((nZ (lG (pk (sB Ab.1 bb) (t : Int)) 2)).toInt64))), (13, .int (1)), (16, .int (nZ ((t : Int) * mnU Ab.1 (sY Ab.1) (sB Ab.1 bb) (t : Int)))), (15, .int (nZ (max 0 (sP Ab.1 bb - sY Ab.1)))), (14, .int (nZ (lT (sB Ab.1 bb)))), (12, .int (nZ (sm 6 (fun b => lT (sB Ab.1 b))))), (11, .int (nZ (lA Ab.1 (sY Ab.1)))), (10, .int (nZ Ab.2.2.1.length)), (9, .int (nZ (o : Int))), (8, .int (nZ (t : Int))), (7, .int (nZ (bb : Int))), (6, .int (nZ (gg : Int))), (5, .int (x)), (4, .int (nI k)), (1, .ref (g.2.2.1 0 0)), (0, .ref (b))]) hx hb dL_law_581 hl (k := 1) rfl (by decide) (by decide) rfl (fun ls hl => ?_)
  refine lv_goto (tgt := 558) hx hb dL_law_584 (by decide) ?_
  refine lv_iload hx hb dL_law_558 (lv_at hl 0 rfl) ?_
  refine lv_bipush (v := 6) hx hb dL_law_560 (by decide) ?_
  refine lv_icmp_ge (tgt := 587) hx hb dL_law_562 (by decide) (fun c9 => absurd c9 (by decide)) (fun _ => ?_)
  refine lv_iload hx hb dL_law_565 (lv_at hl 3 rfl) ?_
  refine lv_if_lt (tgt := 587) hx hb dL_law_567 (by decide) (fun c9 => absurd c9 (zn_lt (b := 0) (zr (by omega) (by omega)) (zr (by omega) (by omega)) (by omega))) (fun _ => ?_)
  refine lv_lload hx hb dL_law_570 (lv_at hl 1 rfl) ?_
  refine lv_aload_n hx hb dL_law_572 rfl (lv_at hl 15 rfl) ?_
  refine lv_iload hx hb dL_law_573 (lv_at hl 0 rfl) ?_
  obtain ⟨σ8, hf8, hCA⟩ := c_row hCA (i := 3) (Nat.le_of_ble_eq_true rfl)
  refine lw_cw (g := g) (nL := 20) (wr := ([] : va_W)) (as := [gI (nZ ((3 : Nat) : Int))]) (t := [gL ((((0) + ((nZ (lG (pk (sB Ab.1 bb) (t : Int)) 0)).toInt64)) + ((nZ (lG (pk (sB Ab.1 bb) (t : Int)) 1)).toInt64)) + ((nZ (lG (pk (sB Ab.1 bb) (t : Int)) 2)).toInt64))]) hx hb hml hown hts hK hA ⟨by show _ ≤ 600130; omega, by show _ ≤ 7301080; omega⟩ c_X9_row (ci := 9) rfl w5_L_law_44 v_X9_row ⟨rfl, rfl⟩ ⟨Nat.le_of_ble_eq_true rfl, Nat.le_of_ble_eq_true rfl⟩ dL_law_575 (k := 0) (j := 0) ⟨by decide +kernel, by decide +kernel⟩ rfl (gb_oks_c (v := gI (nZ ((3 : Nat) : Int))) trivial gb_oks_n) rfl (Nat.le_of_ble_eq_true rfl) hf8 hP hD hS hl rfl (fun v9 σ9 H locs he hP hD hS => ?_) (Or.inr (Or.inr rfl))
  cases he
  refine W.eq (g2 := F0 m 578 ls [.long ((nZ (lG (pk (sB Ab.1 bb) (t : Int)) 3)).toInt64), .long ((((0) + ((nZ (lG (pk (sB Ab.1 bb) (t : Int)) 0)).toInt64)) + ((nZ (lG (pk (sB Ab.1 bb) (t : Int)) 1)).toInt64)) + ((nZ (lG (pk (sB Ab.1 bb) (t : Int)) 2)).toInt64))]) rfl ?_
  refine lv_ladd hx hb dL_law_578 ?_
  refine lv_lstore (lv' := [(17, .long (((((0) + ((nZ (lG (pk (sB Ab.1 bb) (t : Int)) 0)).toInt64)) + ((nZ (lG (pk (sB Ab.1 bb) (t : Int)) 1)).toInt64)) + ((nZ (lG (pk (sB Ab.1 bb) (t : Int)) 2)).toInt64)) + ((nZ (lG (pk (sB Ab.1 bb) (t : Int)) 3)).toInt64))), (19, .int (nZ ((3 : Nat) : Int))), (13, .int (1)), (16, .int (nZ ((t : Int) * mnU Ab.1 (sY Ab.1) (sB Ab.1 bb) (t : Int)))), (15, .int (nZ (max 0 (sP Ab.1 bb - sY Ab.1)))), (14, .int (nZ (lT (sB Ab.1 bb)))), (12, .int (nZ (sm 6 (fun b => lT (sB Ab.1 b))))), (11, .int (nZ (lA Ab.1 (sY Ab.1)))), (10, .int (nZ Ab.2.2.1.length)), (9, .int (nZ (o : Int))), (8, .int (nZ (t : Int))), (7, .int (nZ (bb : Int))), (6, .int (nZ (gg : Int))), (5, .int (x)), (4, .int (nI k)), (1, .ref (g.2.2.1 0 0)), (0, .ref (b))]) hx hb dL_law_579 hl (by decide) rfl (fun ls hl => ?_)
  refine lv_iinc (v := nZ ((4 : Nat) : Int)) (lv' := [(19, .int (nZ ((4 : Nat) : Int))), (17, .long (((((0) + ((nZ (lG (pk (sB Ab.1 bb) (t : Int)) 0)).toInt64)) + ((nZ (lG (pk (sB Ab.1 bb) (t : Int)) 1)).toInt64)) + ((nZ (lG (pk (sB Ab.1 bb) (t : Int)) 2)).toInt64)) + ((nZ (lG (pk (sB Ab.1 bb) (t : Int)) 3)).toInt64))), (13, .int (1)), (16, .int (nZ ((t : Int) * mnU Ab.1 (sY Ab.1) (sB Ab.1 bb) (t : Int)))), (15, .int (nZ (max 0 (sP Ab.1 bb - sY Ab.1)))), (14, .int (nZ (lT (sB Ab.1 bb)))), (12, .int (nZ (sm 6 (fun b => lT (sB Ab.1 b))))), (11, .int (nZ (lA Ab.1 (sY Ab.1)))), (10, .int (nZ Ab.2.2.1.length)), (9, .int (nZ (o : Int))), (8, .int (nZ (t : Int))), (7, .int (nZ (bb : Int))), (6, .int (nZ (gg : Int))), (5, .int (x)), (4, .int (nI k)), (1, .ref (g.2.2.1 0 0)), (0, .ref (b))]) hx hb dL_law_581 hl (k := 1) rfl (by decide) (by decide) rfl (fun ls hl => ?_)
  refine lv_goto (tgt := 558) hx hb dL_law_584 (by decide) ?_
  refine lv_iload hx hb dL_law_558 (lv_at hl 0 rfl) ?_
  refine lv_bipush (v := 6) hx hb dL_law_560 (by decide) ?_
  refine lv_icmp_ge (tgt := 587) hx hb dL_law_562 (by decide) (fun c9 => absurd c9 (by decide)) (fun _ => ?_)
  refine lv_iload hx hb dL_law_565 (lv_at hl 3 rfl) ?_
  refine lv_if_lt (tgt := 587) hx hb dL_law_567 (by decide) (fun c9 => absurd c9 (zn_lt (b := 0) (zr (by omega) (by omega)) (zr (by omega) (by omega)) (by omega))) (fun _ => ?_)
  refine lv_lload hx hb dL_law_570 (lv_at hl 1 rfl) ?_
  refine lv_aload_n hx hb dL_law_572 rfl (lv_at hl 15 rfl) ?_
  refine lv_iload hx hb dL_law_573 (lv_at hl 0 rfl) ?_
  obtain ⟨σ9, hf9, hCA⟩ := c_row hCA (i := 4) (Nat.le_of_ble_eq_true rfl)
  refine lw_cw (g := g) (nL := 20) (wr := ([] : va_W)) (as := [gI (nZ ((4 : Nat) : Int))]) (t := [gL (((((0) + ((nZ (lG (pk (sB Ab.1 bb) (t : Int)) 0)).toInt64)) + ((nZ (lG (pk (sB Ab.1 bb) (t : Int)) 1)).toInt64)) + ((nZ (lG (pk (sB Ab.1 bb) (t : Int)) 2)).toInt64)) + ((nZ (lG (pk (sB Ab.1 bb) (t : Int)) 3)).toInt64))]) hx hb hml hown hts hK hA ⟨by show _ ≤ 600130; omega, by show _ ≤ 7301080; omega⟩ c_X9_row (ci := 9) rfl w5_L_law_44 v_X9_row ⟨rfl, rfl⟩ ⟨Nat.le_of_ble_eq_true rfl, Nat.le_of_ble_eq_true rfl⟩ dL_law_575 (k := 0) (j := 0) ⟨by decide +kernel, by decide +kernel⟩ rfl (gb_oks_c (v := gI (nZ ((4 : Nat) : Int))) trivial gb_oks_n) rfl (Nat.le_of_ble_eq_true rfl) hf9 hP hD hS hl rfl (fun v9 σ9 H locs he hP hD hS => ?_) (Or.inr (Or.inr rfl))
  cases he
  refine W.eq (g2 := F0 m 578 ls [.long ((nZ (lG (pk (sB Ab.1 bb) (t : Int)) 4)).toInt64), .long (((((0) + ((nZ (lG (pk (sB Ab.1 bb) (t : Int)) 0)).toInt64)) + ((nZ (lG (pk (sB Ab.1 bb) (t : Int)) 1)).toInt64)) + ((nZ (lG (pk (sB Ab.1 bb) (t : Int)) 2)).toInt64)) + ((nZ (lG (pk (sB Ab.1 bb) (t : Int)) 3)).toInt64))]) rfl ?_
  refine lv_ladd hx hb dL_law_578 ?_
  refine lv_lstore (lv' := [(17, .long ((((((0) + ((nZ (lG (pk (sB Ab.1 bb) (t : Int)) 0)).toInt64)) + ((nZ (lG (pk (sB Ab.1 bb) (t : Int)) 1)).toInt64)) + ((nZ (lG (pk (sB Ab.1 bb) (t : Int)) 2)).toInt64)) + ((nZ (lG (pk (sB Ab.1 bb) (t : Int)) 3)).toInt64)) + ((nZ (lG (pk (sB Ab.1 bb) (t : Int)) 4)).toInt64))), (19, .int (nZ ((4 : Nat) : Int))), (13, .int (1)), (16, .int (nZ ((t : Int) * mnU Ab.1 (sY Ab.1) (sB Ab.1 bb) (t : Int)))), (15, .int (nZ (max 0 (sP Ab.1 bb - sY Ab.1)))), (14, .int (nZ (lT (sB Ab.1 bb)))), (12, .int (nZ (sm 6 (fun b => lT (sB Ab.1 b))))), (11, .int (nZ (lA Ab.1 (sY Ab.1)))), (10, .int (nZ Ab.2.2.1.length)), (9, .int (nZ (o : Int))), (8, .int (nZ (t : Int))), (7, .int (nZ (bb : Int))), (6, .int (nZ (gg : Int))), (5, .int (x)), (4, .int (nI k)), (1, .ref (g.2.2.1 0 0)), (0, .ref (b))]) hx hb dL_law_579 hl (by decide) rfl (fun ls hl => ?_)
  refine lv_iinc (v := nZ ((5 : Nat) : Int)) (lv' := [(19, .int (nZ ((5 : Nat) : Int))), (17, .long ((((((0) + ((nZ (lG (pk (sB Ab.1 bb) (t : Int)) 0)).toInt64)) + ((nZ (lG (pk (sB Ab.1 bb) (t : Int)) 1)).toInt64)) + ((nZ (lG (pk (sB Ab.1 bb) (t : Int)) 2)).toInt64)) + ((nZ (lG (pk (sB Ab.1 bb) (t : Int)) 3)).toInt64)) + ((nZ (lG (pk (sB Ab.1 bb) (t : Int)) 4)).toInt64))), (13, .int (1)), (16, .int (nZ ((t : Int) * mnU Ab.1 (sY Ab.1) (sB Ab.1 bb) (t : Int)))), (15, .int (nZ (max 0 (sP Ab.1 bb - sY Ab.1)))), (14, .int (nZ (lT (sB Ab.1 bb)))), (12, .int (nZ (sm 6 (fun b => lT (sB Ab.1 b))))), (11, .int (nZ (lA Ab.1 (sY Ab.1)))), (10, .int (nZ Ab.2.2.1.length)), (9, .int (nZ (o : Int))), (8, .int (nZ (t : Int))), (7, .int (nZ (bb : Int))), (6, .int (nZ (gg : Int))), (5, .int (x)), (4, .int (nI k)), (1, .ref (g.2.2.1 0 0)), (0, .ref (b))]) hx hb dL_law_581 hl (k := 1) rfl (by decide) (by decide) rfl (fun ls hl => ?_)
  refine lv_goto (tgt := 558) hx hb dL_law_584 (by decide) ?_
  refine lv_iload hx hb dL_law_558 (lv_at hl 0 rfl) ?_
  refine lv_bipush (v := 6) hx hb dL_law_560 (by decide) ?_
  refine lv_icmp_ge (tgt := 587) hx hb dL_law_562 (by decide) (fun c9 => absurd c9 (by decide)) (fun _ => ?_)
  refine lv_iload hx hb dL_law_565 (lv_at hl 3 rfl) ?_
  refine lv_if_lt (tgt := 587) hx hb dL_law_567 (by decide) (fun c9 => absurd c9 (zn_lt (b := 0) (zr (by omega) (by omega)) (zr (by omega) (by omega)) (by omega))) (fun _ => ?_)
  refine lv_lload hx hb dL_law_570 (lv_at hl 1 rfl) ?_
  refine lv_aload_n hx hb dL_law_572 rfl (lv_at hl 15 rfl) ?_
  refine lv_iload hx hb dL_law_573 (lv_at hl 0 rfl) ?_
  obtain ⟨σ10, hf10, hCA⟩ := c_row hCA (i := 5) (Nat.le_of_ble_eq_true rfl)
  refine lw_cw (g := g) (nL := 20) (wr := ([] : va_W)) (as := [gI (nZ ((5 : Nat) : Int))]) (t := [gL ((((((0) + ((nZ (lG (pk (sB Ab.1 bb) (t : Int)) 0)).toInt64)) + ((nZ (lG (pk (sB Ab.1 bb) (t : Int)) 1)).toInt64)) + ((nZ (lG (pk (sB Ab.1 bb) (t : Int)) 2)).toInt64)) + ((nZ (lG (pk (sB Ab.1 bb) (t : Int)) 3)).toInt64)) + ((nZ (lG (pk (sB Ab.1 bb) (t : Int)) 4)).toInt64))]) hx hb hml hown hts hK hA ⟨by show _ ≤ 600130; omega, by show _ ≤ 7301080; omega⟩ c_X9_row (ci := 9) rfl w5_L_law_44 v_X9_row ⟨rfl, rfl⟩ ⟨Nat.le_of_ble_eq_true rfl, Nat.le_of_ble_eq_true rfl⟩ dL_law_575 (k := 0) (j := 0) ⟨by decide +kernel, by decide +kernel⟩ rfl (gb_oks_c (v := gI (nZ ((5 : Nat) : Int))) trivial gb_oks_n) rfl (Nat.le_of_ble_eq_true rfl) hf10 hP hD hS hl rfl (fun v9 σ9 H locs he hP hD hS => ?_) (Or.inr (Or.inr rfl))
  cases he
  refine W.eq (g2 := F0 m 578 ls [.long ((nZ (lG (pk (sB Ab.1 bb) (t : Int)) 5)).toInt64), .long ((((((0) + ((nZ (lG (pk (sB Ab.1 bb) (t : Int)) 0)).toInt64)) + ((nZ (lG (pk (sB Ab.1 bb) (t : Int)) 1)).toInt64)) + ((nZ (lG (pk (sB Ab.1 bb) (t : Int)) 2)).toInt64)) + ((nZ (lG (pk (sB Ab.1 bb) (t : Int)) 3)).toInt64)) + ((nZ (lG (pk (sB Ab.1 bb) (t : Int)) 4)).toInt64))]) rfl ?_
  refine lv_ladd hx hb dL_law_578 ?_
  refine lv_lstore (lv' := [(17, .long (((((((0) + ((nZ (lG (pk (sB Ab.1 bb) (t : Int)) 0)).toInt64)) + ((nZ (lG (pk (sB Ab.1 bb) (t : Int)) 1)).toInt64)) + ((nZ (lG (pk (sB Ab.1 bb) (t : Int)) 2)).toInt64)) + ((nZ (lG (pk (sB Ab.1 bb) (t : Int)) 3)).toInt64)) + ((nZ (lG (pk (sB Ab.1 bb) (t : Int)) 4)).toInt64)) + ((nZ (lG (pk (sB Ab.1 bb) (t : Int)) 5)).toInt64))), (19, .int (nZ ((5 : Nat) : Int))), (13, .int (1)), (16, .int (nZ ((t : Int) * mnU Ab.1 (sY Ab.1) (sB Ab.1 bb) (t : Int)))), (15, .int (nZ (max 0 (sP Ab.1 bb - sY Ab.1)))), (14, .int (nZ (lT (sB Ab.1 bb)))), (12, .int (nZ (sm 6 (fun b => lT (sB Ab.1 b))))), (11, .int (nZ (lA Ab.1 (sY Ab.1)))), (10, .int (nZ Ab.2.2.1.length)), (9, .int (nZ (o : Int))), (8, .int (nZ (t : Int))), (7, .int (nZ (bb : Int))), (6, .int (nZ (gg : Int))), (5, .int (x)), (4, .int (nI k)), (1, .ref (g.2.2.1 0 0)), (0, .ref (b))]) hx hb dL_law_579 hl (by decide) rfl (fun ls hl => ?_)
  refine lv_iinc (v := nZ ((6 : Nat) : Int)) (lv' := [(19, .int (nZ ((6 : Nat) : Int))), (17, .long (((((((0) + ((nZ (lG (pk (sB Ab.1 bb) (t : Int)) 0)).toInt64)) + ((nZ (lG (pk (sB Ab.1 bb) (t : Int)) 1)).toInt64)) + ((nZ (lG (pk (sB Ab.1 bb) (t : Int)) 2)).toInt64)) + ((nZ (lG (pk (sB Ab.1 bb) (t : Int)) 3)).toInt64)) + ((nZ (lG (pk (sB Ab.1 bb) (t : Int)) 4)).toInt64)) + ((nZ (lG (pk (sB Ab.1 bb) (t : Int)) 5)).toInt64))), (13, .int (1)), (16, .int (nZ ((t : Int) * mnU Ab.1 (sY Ab.1) (sB Ab.1 bb) (t : Int)))), (15, .int (nZ (max 0 (sP Ab.1 bb - sY Ab.1)))), (14, .int (nZ (lT (sB Ab.1 bb)))), (12, .int (nZ (sm 6 (fun b => lT (sB Ab.1 b))))), (11, .int (nZ (lA Ab.1 (sY Ab.1)))), (10, .int (nZ Ab.2.2.1.length)), (9, .int (nZ (o : Int))), (8, .int (nZ (t : Int))), (7, .int (nZ (bb : Int))), (6, .int (nZ (gg : Int))), (5, .int (x)), (4, .int (nI k)), (1, .ref (g.2.2.1 0 0)), (0, .ref (b))]) hx hb dL_law_581 hl (k := 1) rfl (by decide) (by decide) rfl (fun ls hl => ?_)
  refine lv_goto (tgt := 558) hx hb dL_law_584 (by decide) ?_
  refine lv_iload hx hb dL_law_558 (lv_at hl 0 rfl) ?_
  refine lv_bipush (v := 6) hx hb dL_law_560 (by decide) ?_
  refine lv_icmp_ge (tgt := 587) hx hb dL_law_562 (by decide) (fun _ => ?_) (fun c9 => absurd (by decide) c9)
  refine lv_iload hx hb dL_law_587 (lv_at hl 3 rfl) ?_
  refine lv_if_lt (tgt := 1190) hx hb dL_law_589 (by decide) (fun c9 => absurd c9 (zn_lt (b := 0) (zr (by omega) (by omega)) (zr (by omega) (by omega)) (by omega))) (fun _ => ?_)
  refine lv_lload hx hb dL_law_592 (lv_at hl 1 rfl) ?_
  refine lv_iload hx hb dL_law_594 (lv_at hl 10 rfl) ?_
  refine lv_i2l (v := (nZ (t : Int)).toInt64) hx hb dL_law_596 (rfl) ?_
  refine W.lcmp hx hb dL_law_597 ?_
  refine lv_if_eq (tgt := 1190) hx hb dL_law_598 (by decide) (fun _ => ?_) (fun c9 => absurd (jcmp hsum) c9)
  have hCR : CR σ10 (setS Ab (dS Ab.1 bb (t : Int))) := ⟨_, hCA⟩
  exact k9 σ10 (setS Ab (dS Ab.1 bb (t : Int))) (1) H locs ls (Or.inr ⟨rfl, _, rfl, okX_draw hwf.1 hInv.1 hbb, by have := hInv.2.2; rw [jYdS]; omega⟩) (lv_sub hl [2, 6, 7, 8, 9, 10, 11, 12, 13, 14, 15, 16] rfl) hP hD hS hCR
theorem w5_L_law_121 : ∀ w ∈ ([.methodLink RL 121 yX9_move, .instanceMethod yX9_move, .selects RX9 yX9_move yX9_move, .initialized RX9, .code yX9_move cX9_move 6 (some .int)] : List Cond), w ∈ gb_B := by
  have h : ∀ w ∈ ([.methodLink RL 121 yX9_move, .instanceMethod yX9_move, .selects RX9 yX9_move yX9_move, .initialized RX9, .code yX9_move cX9_move 6 (some .int)] : List Cond), w ∈ lw_tbl ∧ goodWord w = true := by decide +kernel
  exact fun w hw => List.mem_filter.mpr (h w hw)
set_option maxHeartbeats 4000000 in
theorem lw_move1 {p : Program} {l : Launch} {e : Env} {s : State} {m : MethodId} {below : List Frame} {meth : Method} {c : Code} {g : gb_G} {A : Nat → Prop} {b L t1 t2 : Nat} {xs : Nat → Int32} {Q : State → Prop} (X : jLw p s m c g A b L xs t1 t2) {k gg bb t o : Nat} {x : Int32} {Ab : gb_Ab} {σ : gb_M} {H : Heap} {locs : List Loc} {cells slots : Nat} {ls : Array Slot} (hk : k < 20) (hgg : gg < 4) (hbb : bb < 6) (ht : 1 ≤ t ∧ t ≤ 16) (ho : o < 6) (hInv : jInv k Ab) (hc : cells ≤ 600130 ∧ slots ≤ 7301080) (hl : lv_has ls 20 (jlv g b k x gg bb t o Ab 0)) (hP : va_P (g.1, g.2.1) vwCl (gb_ws g σ ++ ([] : va_W)) H) (hD : va_D A (gb_ws g σ ++ ([] : va_W))) (hS : va_S A s.heap H locs) (hCR : CR σ Ab) (k9 : ∀ (σ : gb_M) (Ac : gb_Ab) (d : Int32) (H : Heap) (locs : List Loc) (ls : Array Slot), jEnd k Ab Ac d → lv_has ls 20 (jlv g b k x gg bb t o Ab d) → va_P (g.1, g.2.1) vwCl (gb_ws g σ ++ ([] : va_W)) H → va_D A (gb_ws g σ ++ ([] : va_W)) → va_S A s.heap H locs → CR σ Ac → W p l e room_1 s m #[Value.ref b] below meth c H locs cells slots Q (F0 m 1190 ls [])) (hW : bb = o) : W p l e room_1 s m #[Value.ref b] below meth c H locs cells slots Q (F0 m 603 ls []) := by
  obtain ⟨hx, hb, hml, hown, hts, hK, hA, hC, hX, hbA, hbl⟩ := id X
  have hwf := CR_wf hCR
  have hI := hwf.1.1
  have hB : ∀ j, j < 6 → 0 ≤ lT (sB Ab.1 j) ∧ lT (sB Ab.1 j) ≤ 99 := fun j hj => jT_r hwf hInv.1 hj
  have hA0 := lA_r (s := Ab.1) (on := sY Ab.1) hI
  have hBb := hB bb hbb
  have hBo := hB o ho
  have hY := jY_r hwf
  subst hW
  refine lv_aload_n hx hb dL_law_603 rfl (lv_at hl 10 rfl) ?_
  refine lv_iload hx hb dL_law_604 (lv_at hl 6 rfl) ?_
  refine lv_iconst (v := 1) hx hb dL_law_606 (by decide) ?_
  obtain ⟨σ1, hf1, hCR⟩ := u_bin1 hCR hbb
  refine lw_cw (g := g) (nL := 20) (wr := ([] : va_W)) (as := [gI (nZ (bb : Int)), gI (1)]) (t := []) hx hb hml hown hts hK hA ⟨by show _ ≤ 600130; omega, by show _ ≤ 7301080; omega⟩ c_X9_bin (ci := 9) rfl w5_L_law_27 v_X9_bin ⟨rfl, rfl⟩ ⟨Nat.le_of_ble_eq_true rfl, Nat.le_of_ble_eq_true rfl⟩ dL_law_607 (k := 0) (j := 0) ⟨by decide +kernel, by decide +kernel⟩ rfl (gb_oks_c (v := gI (nZ (bb : Int))) trivial (gb_oks_c (v := gI (1)) trivial gb_oks_n)) rfl (Nat.le_of_ble_eq_true rfl) hf1 hP hD hS hl rfl (fun v9 σ9 H locs he hP hD hS => ?_) (Or.inl rfl)
  cases he
  refine W.eq (g2 := F0 m 610 ls [.int (nZ (lT (sB Ab.1 bb)))]) rfl ?_
  refine lv_istore (lv' := [(14, .int (nZ (lT (sB Ab.1 bb)))), (13, .int (0)), (12, .int (nZ (sm 6 (fun b => lT (sB Ab.1 b))))), (11, .int (nZ (lA Ab.1 (sY Ab.1)))), (10, .int (nZ Ab.2.2.1.length)), (9, .int (nZ (bb : Int))), (8, .int (nZ (t : Int))), (7, .int (nZ (bb : Int))), (6, .int (nZ (gg : Int))), (5, .int (x)), (4, .int (nI k)), (1, .ref (g.2.2.1 0 0)), (0, .ref (b))]) hx hb dL_law_610 hl (by decide) rfl (fun ls hl => ?_)
  refine lv_aload_n hx hb dL_law_612 rfl (lv_at hl 11 rfl) ?_
  refine lv_iload hx hb dL_law_613 (lv_at hl 5 rfl) ?_
  refine lv_iconst (v := 1) hx hb dL_law_615 (by decide) ?_
  obtain ⟨σ2, hf2, hCR⟩ := u_bin1 hCR hbb
  refine lw_cw (g := g) (nL := 20) (wr := ([] : va_W)) (as := [gI (nZ (bb : Int)), gI (1)]) (t := []) hx hb hml hown hts hK hA ⟨by show _ ≤ 600130; omega, by show _ ≤ 7301080; omega⟩ c_X9_bin (ci := 9) rfl w5_L_law_27 v_X9_bin ⟨rfl, rfl⟩ ⟨Nat.le_of_ble_eq_true rfl, Nat.le_of_ble_eq_true rfl⟩ dL_law_616 (k := 0) (j := 0) ⟨by decide +kernel, by decide +kernel⟩ rfl (gb_oks_c (v := gI (nZ (bb : Int))) trivial (gb_oks_c (v := gI (1)) trivial gb_oks_n)) rfl (Nat.le_of_ble_eq_true rfl) hf2 hP hD hS hl rfl (fun v9 σ9 H locs he hP hD hS => ?_) (Or.inl rfl)
  cases he
  refine W.eq (g2 := F0 m 619 ls [.int (nZ (lT (sB Ab.1 bb)))]) rfl ?_
  refine lv_istore (lv' := [(15, .int (nZ (lT (sB Ab.1 bb)))), (14, .int (nZ (lT (sB Ab.1 bb)))), (13, .int (0)), (12, .int (nZ (sm 6 (fun b => lT (sB Ab.1 b))))), (11, .int (nZ (lA Ab.1 (sY Ab.1)))), (10, .int (nZ Ab.2.2.1.length)), (9, .int (nZ (bb : Int))), (8, .int (nZ (t : Int))), (7, .int (nZ (bb : Int))), (6, .int (nZ (gg : Int))), (5, .int (x)), (4, .int (nI k)), (1, .ref (g.2.2.1 0 0)), (0, .ref (b))]) hx hb dL_law_619 hl (by decide) rfl (fun ls hl => ?_)
  refine lv_aload_n hx hb dL_law_621 rfl (lv_at hl 12 rfl) ?_
  refine lv_iload hx hb dL_law_622 (lv_at hl 8 rfl) ?_
  refine lv_iload hx hb dL_law_624 (lv_at hl 6 rfl) ?_
  refine lv_iload hx hb dL_law_626 (lv_at hl 7 rfl) ?_
  obtain ⟨σ3, hf3, hCR⟩ := v_move1 hCR (n := t) hbb
  refine lw_cw (g := g) (nL := 20) (wr := ([] : va_W)) (as := [gI (nZ (bb : Int)), gI (nZ (bb : Int)), gI (nZ (t : Int))]) (t := []) hx hb hml hown hts hK hA ⟨by show _ ≤ 600130; omega, by show _ ≤ 7301080; omega⟩ c_X9_move (ci := 9) rfl w5_L_law_121 v_X9_move ⟨rfl, rfl⟩ ⟨Nat.le_of_ble_eq_true rfl, Nat.le_of_ble_eq_true rfl⟩ dL_law_628 (k := 0) (j := 0) ⟨by decide +kernel, by decide +kernel⟩ rfl (gb_oks_c (v := gI (nZ (bb : Int))) trivial (gb_oks_c (v := gI (nZ (bb : Int))) trivial (gb_oks_c (v := gI (nZ (t : Int))) trivial gb_oks_n))) rfl (Nat.le_of_ble_eq_true rfl) hf3 hP hD hS hl rfl (fun v9 σ9 H locs he hP hD hS => ?_) (Or.inl rfl)
  cases he
  refine W.eq (g2 := F0 m 631 ls [.int (-1)]) rfl ?_
  refine lv_istore (lv' := [(16, .int (-1)), (15, .int (nZ (lT (sB Ab.1 bb)))), (14, .int (nZ (lT (sB Ab.1 bb)))), (13, .int (0)), (12, .int (nZ (sm 6 (fun b => lT (sB Ab.1 b))))), (11, .int (nZ (lA Ab.1 (sY Ab.1)))), (10, .int (nZ Ab.2.2.1.length)), (9, .int (nZ (bb : Int))), (8, .int (nZ (t : Int))), (7, .int (nZ (bb : Int))), (6, .int (nZ (gg : Int))), (5, .int (x)), (4, .int (nI k)), (1, .ref (g.2.2.1 0 0)), (0, .ref (b))]) hx hb dL_law_631 hl (by decide) rfl (fun ls hl => ?_)
  refine lv_iload hx hb dL_law_633 (lv_at hl 0 rfl) ?_
  refine lv_if_lt (tgt := 642) hx hb dL_law_635 (by decide) (fun _ => ?_) (fun c9 => absurd (by decide) c9)
  refine lv_iconst (v := 0) hx hb dL_law_642 (by decide) ?_
  refine lv_istore (lv' := [(13, .int (0)), (16, .int (-1)), (15, .int (nZ (lT (sB Ab.1 bb)))), (14, .int (nZ (lT (sB Ab.1 bb)))), (12, .int (nZ (sm 6 (fun b => lT (sB Ab.1 b))))), (11, .int (nZ (lA Ab.1 (sY Ab.1)))), (10, .int (nZ Ab.2.2.1.length)), (9, .int (nZ (bb : Int))), (8, .int (nZ (t : Int))), (7, .int (nZ (bb : Int))), (6, .int (nZ (gg : Int))), (5, .int (x)), (4, .int (nI k)), (1, .ref (g.2.2.1 0 0)), (0, .ref (b))]) hx hb dL_law_643 hl (by decide) rfl (fun ls hl => ?_)
  refine lv_iload hx hb dL_law_645 (lv_at hl 1 rfl) ?_
  refine lv_if_lt (tgt := 710) hx hb dL_law_647 (by decide) (fun _ => ?_) (fun c9 => absurd (by decide) c9)
  refine lv_iload hx hb dL_law_710 (lv_at hl 1 rfl) ?_
  refine lv_if_ge (tgt := 736) hx hb dL_law_712 (by decide) (fun c9 => absurd c9 (by decide)) (fun _ => ?_)
  refine lv_aload_n hx hb dL_law_715 rfl (lv_at hl 13 rfl) ?_
  obtain ⟨σ4, hf4, hCR⟩ := u_all hCR
  refine lw_cw (g := g) (nL := 20) (wr := ([] : va_W)) (as := []) (t := []) hx hb hml hown hts hK hA ⟨by show _ ≤ 600130; omega, by show _ ≤ 7301080; omega⟩ c_X9_all (ci := 9) rfl w5_L_law_57 v_X9_all ⟨rfl, rfl⟩ ⟨Nat.le_of_ble_eq_true rfl, Nat.le_of_ble_eq_true rfl⟩ dL_law_716 (k := 0) (j := 0) ⟨by decide +kernel, by decide +kernel⟩ rfl gb_oks_n rfl (Nat.le_of_ble_eq_true rfl) hf4 hP hD hS hl rfl (fun v9 σ9 H locs he hP hD hS => ?_) (Or.inl rfl)
  cases he
  refine W.eq (g2 := F0 m 719 ls [.int (nZ (lA Ab.1 (sY Ab.1)))]) rfl ?_
  refine lv_iload hx hb dL_law_719 (lv_at hl 5 rfl) ?_
  refine lv_icmp_ne (tgt := 749) hx hb dL_law_721 (by decide) (fun c9 => absurd rfl c9) (fun _ => ?_)
  refine lv_aload_n hx hb dL_law_724 rfl (lv_at hl 13 rfl) ?_
  refine lv_iload hx hb dL_law_725 (lv_at hl 9 rfl) ?_
  refine lv_iconst (v := 1) hx hb dL_law_727 (by decide) ?_
  obtain ⟨σ5, hf5, hCR⟩ := u_bin1 hCR hbb
  refine lw_cw (g := g) (nL := 20) (wr := ([] : va_W)) (as := [gI (nZ (bb : Int)), gI (1)]) (t := []) hx hb hml hown hts hK hA ⟨by show _ ≤ 600130; omega, by show _ ≤ 7301080; omega⟩ c_X9_bin (ci := 9) rfl w5_L_law_27 v_X9_bin ⟨rfl, rfl⟩ ⟨Nat.le_of_ble_eq_true rfl, Nat.le_of_ble_eq_true rfl⟩ dL_law_728 (k := 0) (j := 0) ⟨by decide +kernel, by decide +kernel⟩ rfl (gb_oks_c (v := gI (nZ (bb : Int))) trivial (gb_oks_c (v := gI (1)) trivial gb_oks_n)) rfl (Nat.le_of_ble_eq_true rfl) hf5 hP hD hS hl rfl (fun v9 σ9 H locs he hP hD hS => ?_) (Or.inl rfl)
  cases he
  refine W.eq (g2 := F0 m 731 ls [.int (nZ (lT (sB Ab.1 bb)))]) rfl ?_
  refine lv_iload hx hb dL_law_731 (lv_at hl 3 rfl) ?_
  refine lv_icmp_ne (tgt := 749) hx hb dL_law_733 (by decide) (fun c9 => absurd rfl c9) (fun _ => ?_)
  refine lv_iload hx hb dL_law_736 (lv_at hl 9 rfl) ?_
  refine lv_iload hx hb dL_law_738 (lv_at hl 7 rfl) ?_
  refine lv_icmp_ne (tgt := 1190) hx hb dL_law_740 (by decide) (fun c9 => absurd rfl c9) (fun _ => ?_)
  refine lv_iload hx hb dL_law_743 (lv_at hl 1 rfl) ?_
  refine lv_iconst (v := (-1)) hx hb dL_law_745 (by decide) ?_
  refine lv_icmp_eq (tgt := 1190) hx hb dL_law_746 (by decide) (fun _ => ?_) (fun c9 => absurd rfl c9)
  exact k9 σ5 (Ab) (0) H locs ls (Or.inl ⟨rfl, rfl⟩) (lv_sub hl [0, 4, 5, 6, 7, 8, 9, 10, 11, 12, 13, 14] rfl) hP hD hS hCR
set_option maxHeartbeats 4000000 in
theorem lw_move2 {p : Program} {l : Launch} {e : Env} {s : State} {m : MethodId} {below : List Frame} {meth : Method} {c : Code} {g : gb_G} {A : Nat → Prop} {b L t1 t2 : Nat} {xs : Nat → Int32} {Q : State → Prop} (X : jLw p s m c g A b L xs t1 t2) {k gg bb t o : Nat} {x : Int32} {Ab : gb_Ab} {σ : gb_M} {H : Heap} {locs : List Loc} {cells slots : Nat} {ls : Array Slot} (hk : k < 20) (hgg : gg < 4) (hbb : bb < 6) (ht : 1 ≤ t ∧ t ≤ 16) (ho : o < 6) (hInv : jInv k Ab) (hc : cells ≤ 600130 ∧ slots ≤ 7301080) (hl : lv_has ls 20 (jlv g b k x gg bb t o Ab 0)) (hP : va_P (g.1, g.2.1) vwCl (gb_ws g σ ++ ([] : va_W)) H) (hD : va_D A (gb_ws g σ ++ ([] : va_W))) (hS : va_S A s.heap H locs) (hCR : CR σ Ab) (k9 : ∀ (σ : gb_M) (Ac : gb_Ab) (d : Int32) (H : Heap) (locs : List Loc) (ls : Array Slot), jEnd k Ab Ac d → lv_has ls 20 (jlv g b k x gg bb t o Ab d) → va_P (g.1, g.2.1) vwCl (gb_ws g σ ++ ([] : va_W)) H → va_D A (gb_ws g σ ++ ([] : va_W)) → va_S A s.heap H locs → CR σ Ac → W p l e room_1 s m #[Value.ref b] below meth c H locs cells slots Q (F0 m 1190 ls [])) (hW : bb ≠ o) (hW2 : ¬ mvW Ab.1 bb o (t : Int) = 0) : W p l e room_1 s m #[Value.ref b] below meth c H locs cells slots Q (F0 m 603 ls []) := by
  obtain ⟨hx, hb, hml, hown, hts, hK, hA, hC, hX, hbA, hbl⟩ := id X
  have hwf := CR_wf hCR
  have hI := hwf.1.1
  have hB : ∀ j, j < 6 → 0 ≤ lT (sB Ab.1 j) ∧ lT (sB Ab.1 j) ≤ 99 := fun j hj => jT_r hwf hInv.1 hj
  have hA0 := lA_r (s := Ab.1) (on := sY Ab.1) hI
  have hBb := hB bb hbb
  have hBo := hB o ho
  have hY := jY_r hwf
  have hr9 := mvW_r (s := Ab.1) (f := bb) (t := o) (n := (t : Int))
  refine lv_aload_n hx hb dL_law_603 rfl (lv_at hl 10 rfl) ?_
  refine lv_iload hx hb dL_law_604 (lv_at hl 6 rfl) ?_
  refine lv_iconst (v := 1) hx hb dL_law_606 (by decide) ?_
  obtain ⟨σ1, hf1, hCR⟩ := u_bin1 hCR hbb
  refine lw_cw (g := g) (nL := 20) (wr := ([] : va_W)) (as := [gI (nZ (bb : Int)), gI (1)]) (t := []) hx hb hml hown hts hK hA ⟨by show _ ≤ 600130; omega, by show _ ≤ 7301080; omega⟩ c_X9_bin (ci := 9) rfl w5_L_law_27 v_X9_bin ⟨rfl, rfl⟩ ⟨Nat.le_of_ble_eq_true rfl, Nat.le_of_ble_eq_true rfl⟩ dL_law_607 (k := 0) (j := 0) ⟨by decide +kernel, by decide +kernel⟩ rfl (gb_oks_c (v := gI (nZ (bb : Int))) trivial (gb_oks_c (v := gI (1)) trivial gb_oks_n)) rfl (Nat.le_of_ble_eq_true rfl) hf1 hP hD hS hl rfl (fun v9 σ9 H locs he hP hD hS => ?_) (Or.inl rfl)
  cases he
  refine W.eq (g2 := F0 m 610 ls [.int (nZ (lT (sB Ab.1 bb)))]) rfl ?_
  refine lv_istore (lv' := [(14, .int (nZ (lT (sB Ab.1 bb)))), (13, .int (0)), (12, .int (nZ (sm 6 (fun b => lT (sB Ab.1 b))))), (11, .int (nZ (lA Ab.1 (sY Ab.1)))), (10, .int (nZ Ab.2.2.1.length)), (9, .int (nZ (o : Int))), (8, .int (nZ (t : Int))), (7, .int (nZ (bb : Int))), (6, .int (nZ (gg : Int))), (5, .int (x)), (4, .int (nI k)), (1, .ref (g.2.2.1 0 0)), (0, .ref (b))]) hx hb dL_law_610 hl (by decide) rfl (fun ls hl => ?_)
  refine lv_aload_n hx hb dL_law_612 rfl (lv_at hl 11 rfl) ?_
  refine lv_iload hx hb dL_law_613 (lv_at hl 5 rfl) ?_
  refine lv_iconst (v := 1) hx hb dL_law_615 (by decide) ?_
  obtain ⟨σ2, hf2, hCR⟩ := u_bin1 hCR ho
  refine lw_cw (g := g) (nL := 20) (wr := ([] : va_W)) (as := [gI (nZ (o : Int)), gI (1)]) (t := []) hx hb hml hown hts hK hA ⟨by show _ ≤ 600130; omega, by show _ ≤ 7301080; omega⟩ c_X9_bin (ci := 9) rfl w5_L_law_27 v_X9_bin ⟨rfl, rfl⟩ ⟨Nat.le_of_ble_eq_true rfl, Nat.le_of_ble_eq_true rfl⟩ dL_law_616 (k := 0) (j := 0) ⟨by decide +kernel, by decide +kernel⟩ rfl (gb_oks_c (v := gI (nZ (o : Int))) trivial (gb_oks_c (v := gI (1)) trivial gb_oks_n)) rfl (Nat.le_of_ble_eq_true rfl) hf2 hP hD hS hl rfl (fun v9 σ9 H locs he hP hD hS => ?_) (Or.inl rfl)
  cases he
  refine W.eq (g2 := F0 m 619 ls [.int (nZ (lT (sB Ab.1 o)))]) rfl ?_
  refine lv_istore (lv' := [(15, .int (nZ (lT (sB Ab.1 o)))), (14, .int (nZ (lT (sB Ab.1 bb)))), (13, .int (0)), (12, .int (nZ (sm 6 (fun b => lT (sB Ab.1 b))))), (11, .int (nZ (lA Ab.1 (sY Ab.1)))), (10, .int (nZ Ab.2.2.1.length)), (9, .int (nZ (o : Int))), (8, .int (nZ (t : Int))), (7, .int (nZ (bb : Int))), (6, .int (nZ (gg : Int))), (5, .int (x)), (4, .int (nI k)), (1, .ref (g.2.2.1 0 0)), (0, .ref (b))]) hx hb dL_law_619 hl (by decide) rfl (fun ls hl => ?_)
  refine lv_aload_n hx hb dL_law_621 rfl (lv_at hl 12 rfl) ?_
  refine lv_iload hx hb dL_law_622 (lv_at hl 8 rfl) ?_
  refine lv_iload hx hb dL_law_624 (lv_at hl 6 rfl) ?_
  refine lv_iload hx hb dL_law_626 (lv_at hl 7 rfl) ?_
  obtain ⟨σ3, hf3, hCR⟩ := v_move_no hCR (n := t) hbb ho hW (by omega) (by omega)
  refine lw_cw (g := g) (nL := 20) (wr := ([] : va_W)) (as := [gI (nZ (bb : Int)), gI (nZ (o : Int)), gI (nZ (t : Int))]) (t := []) hx hb hml hown hts hK hA ⟨by show _ ≤ 600130; omega, by show _ ≤ 7301080; omega⟩ c_X9_move (ci := 9) rfl w5_L_law_121 v_X9_move ⟨rfl, rfl⟩ ⟨Nat.le_of_ble_eq_true rfl, Nat.le_of_ble_eq_true rfl⟩ dL_law_628 (k := 0) (j := 0) ⟨by decide +kernel, by decide +kernel⟩ rfl (gb_oks_c (v := gI (nZ (bb : Int))) trivial (gb_oks_c (v := gI (nZ (o : Int))) trivial (gb_oks_c (v := gI (nZ (t : Int))) trivial gb_oks_n))) rfl (Nat.le_of_ble_eq_true rfl) hf3 hP hD hS hl rfl (fun v9 σ9 H locs he hP hD hS => ?_) (Or.inl rfl)
  cases he
  refine W.eq (g2 := F0 m 631 ls [.int (nZ (mvW Ab.1 bb o (t : Int)))]) rfl ?_
  refine lv_istore (lv' := [(16, .int (nZ (mvW Ab.1 bb o (t : Int)))), (15, .int (nZ (lT (sB Ab.1 o)))), (14, .int (nZ (lT (sB Ab.1 bb)))), (13, .int (0)), (12, .int (nZ (sm 6 (fun b => lT (sB Ab.1 b))))), (11, .int (nZ (lA Ab.1 (sY Ab.1)))), (10, .int (nZ Ab.2.2.1.length)), (9, .int (nZ (o : Int))), (8, .int (nZ (t : Int))), (7, .int (nZ (bb : Int))), (6, .int (nZ (gg : Int))), (5, .int (x)), (4, .int (nI k)), (1, .ref (g.2.2.1 0 0)), (0, .ref (b))]) hx hb dL_law_631 hl (by decide) rfl (fun ls hl => ?_)
  refine lv_iload hx hb dL_law_633 (lv_at hl 0 rfl) ?_
  refine lv_if_lt (tgt := 642) hx hb dL_law_635 (by decide) (fun _ => ?_) (fun c9 => absurd (zy_lt (b := 0) (zr (by omega) (by omega)) (zr (by omega) (by omega)) (by omega)) c9)
  refine lv_iconst (v := 0) hx hb dL_law_642 (by decide) ?_
  refine lv_istore (lv' := [(13, .int (0)), (16, .int (nZ (mvW Ab.1 bb o (t : Int)))), (15, .int (nZ (lT (sB Ab.1 o)))), (14, .int (nZ (lT (sB Ab.1 bb)))), (12, .int (nZ (sm 6 (fun b => lT (sB Ab.1 b))))), (11, .int (nZ (lA Ab.1 (sY Ab.1)))), (10, .int (nZ Ab.2.2.1.length)), (9, .int (nZ (o : Int))), (8, .int (nZ (t : Int))), (7, .int (nZ (bb : Int))), (6, .int (nZ (gg : Int))), (5, .int (x)), (4, .int (nI k)), (1, .ref (g.2.2.1 0 0)), (0, .ref (b))]) hx hb dL_law_643 hl (by decide) rfl (fun ls hl => ?_)
  refine lv_iload hx hb dL_law_645 (lv_at hl 1 rfl) ?_
  refine lv_if_lt (tgt := 710) hx hb dL_law_647 (by decide) (fun _ => ?_) (fun c9 => absurd (zy_lt (b := 0) (zr (by omega) (by omega)) (zr (by omega) (by omega)) (by omega)) c9)
  refine lv_iload hx hb dL_law_710 (lv_at hl 1 rfl) ?_
  refine lv_if_ge (tgt := 736) hx hb dL_law_712 (by decide) (fun c9 => absurd c9 (zn_le (a := 0) (zr (by omega) (by omega)) (zr (by omega) (by omega)) (by omega))) (fun _ => ?_)
  refine lv_aload_n hx hb dL_law_715 rfl (lv_at hl 13 rfl) ?_
  obtain ⟨σ4, hf4, hCR⟩ := u_all hCR
  refine lw_cw (g := g) (nL := 20) (wr := ([] : va_W)) (as := []) (t := []) hx hb hml hown hts hK hA ⟨by show _ ≤ 600130; omega, by show _ ≤ 7301080; omega⟩ c_X9_all (ci := 9) rfl w5_L_law_57 v_X9_all ⟨rfl, rfl⟩ ⟨Nat.le_of_ble_eq_true rfl, Nat.le_of_ble_eq_true rfl⟩ dL_law_716 (k := 0) (j := 0) ⟨by decide +kernel, by decide +kernel⟩ rfl gb_oks_n rfl (Nat.le_of_ble_eq_true rfl) hf4 hP hD hS hl rfl (fun v9 σ9 H locs he hP hD hS => ?_) (Or.inl rfl)
  cases he
  refine W.eq (g2 := F0 m 719 ls [.int (nZ (lA Ab.1 (sY Ab.1)))]) rfl ?_
  refine lv_iload hx hb dL_law_719 (lv_at hl 5 rfl) ?_
  refine lv_icmp_ne (tgt := 749) hx hb dL_law_721 (by decide) (fun c9 => absurd rfl c9) (fun _ => ?_)
  refine lv_aload_n hx hb dL_law_724 rfl (lv_at hl 13 rfl) ?_
  refine lv_iload hx hb dL_law_725 (lv_at hl 9 rfl) ?_
  refine lv_iconst (v := 1) hx hb dL_law_727 (by decide) ?_
  obtain ⟨σ5, hf5, hCR⟩ := u_bin1 hCR hbb
  refine lw_cw (g := g) (nL := 20) (wr := ([] : va_W)) (as := [gI (nZ (bb : Int)), gI (1)]) (t := []) hx hb hml hown hts hK hA ⟨by show _ ≤ 600130; omega, by show _ ≤ 7301080; omega⟩ c_X9_bin (ci := 9) rfl w5_L_law_27 v_X9_bin ⟨rfl, rfl⟩ ⟨Nat.le_of_ble_eq_true rfl, Nat.le_of_ble_eq_true rfl⟩ dL_law_728 (k := 0) (j := 0) ⟨by decide +kernel, by decide +kernel⟩ rfl (gb_oks_c (v := gI (nZ (bb : Int))) trivial (gb_oks_c (v := gI (1)) trivial gb_oks_n)) rfl (Nat.le_of_ble_eq_true rfl) hf5 hP hD hS hl rfl (fun v9 σ9 H locs he hP hD hS => ?_) (Or.inl rfl)
  cases he
  refine W.eq (g2 := F0 m 731 ls [.int (nZ (lT (sB Ab.1 bb)))]) rfl ?_
  refine lv_iload hx hb dL_law_731 (lv_at hl 3 rfl) ?_
  refine lv_icmp_ne (tgt := 749) hx hb dL_law_733 (by decide) (fun c9 => absurd rfl c9) (fun _ => ?_)
  refine lv_iload hx hb dL_law_736 (lv_at hl 9 rfl) ?_
  refine lv_iload hx hb dL_law_738 (lv_at hl 7 rfl) ?_
  refine lv_icmp_ne (tgt := 1190) hx hb dL_law_740 (by decide) (fun _ => ?_) (fun c9 => absurd c9 (zn_eq (zr (by omega) (by omega)) (zr (by omega) (by omega)) (by omega)))
  exact k9 σ5 (Ab) (0) H locs ls (Or.inl ⟨rfl, rfl⟩) (lv_sub hl [0, 4, 5, 6, 7, 8, 9, 10, 11, 12, 13, 14] rfl) hP hD hS hCR
set_option maxHeartbeats 4000000 in
theorem lw_move3 {p : Program} {l : Launch} {e : Env} {s : State} {m : MethodId} {below : List Frame} {meth : Method} {c : Code} {g : gb_G} {A : Nat → Prop} {b L t1 t2 : Nat} {xs : Nat → Int32} {Q : State → Prop} (X : jLw p s m c g A b L xs t1 t2) {k gg bb t o : Nat} {x : Int32} {Ab : gb_Ab} {σ : gb_M} {H : Heap} {locs : List Loc} {cells slots : Nat} {ls : Array Slot} (hk : k < 20) (hgg : gg < 4) (hbb : bb < 6) (ht : 1 ≤ t ∧ t ≤ 16) (ho : o < 6) (hInv : jInv k Ab) (hc : cells ≤ 600130 ∧ slots ≤ 7301080) (hl : lv_has ls 20 (jlv g b k x gg bb t o Ab 0)) (hP : va_P (g.1, g.2.1) vwCl (gb_ws g σ ++ ([] : va_W)) H) (hD : va_D A (gb_ws g σ ++ ([] : va_W))) (hS : va_S A s.heap H locs) (hCR : CR σ Ab) (k9 : ∀ (σ : gb_M) (Ac : gb_Ab) (d : Int32) (H : Heap) (locs : List Loc) (ls : Array Slot), jEnd k Ab Ac d → lv_has ls 20 (jlv g b k x gg bb t o Ab d) → va_P (g.1, g.2.1) vwCl (gb_ws g σ ++ ([] : va_W)) H → va_D A (gb_ws g σ ++ ([] : va_W)) → va_S A s.heap H locs → CR σ Ac → W p l e room_1 s m #[Value.ref b] below meth c H locs cells slots Q (F0 m 1190 ls [])) (hW : bb ≠ o) (hW2 : mvW Ab.1 bb o (t : Int) = 0) : W p l e room_1 s m #[Value.ref b] below meth c H locs cells slots Q (F0 m 603 ls []) := by
  obtain ⟨hx, hb, hml, hown, hts, hK, hA, hC, hX, hbA, hbl⟩ := id X
  have hwf := CR_wf hCR
  have hI := hwf.1.1
  have hB : ∀ j, j < 6 → 0 ≤ lT (sB Ab.1 j) ∧ lT (sB Ab.1 j) ≤ 99 := fun j hj => jT_r hwf hInv.1 hj
  have hA0 := lA_r (s := Ab.1) (on := sY Ab.1) hI
  have hBb := hB bb hbb
  have hBo := hB o ho
  have hY := jY_r hwf
  have hmv := mvW_0 (s := Ab.1) (f := bb) (t := o) (n := (t : Int)) (by omega)
  have hmT := lT_move hwf.1 (f := bb) (t := o) (n := (t : Int)) hbb hW ⟨by omega, hmv.2.2.2.1⟩
  have hYm : sY (mvS Ab.1 bb o (t : Int)) = sY Ab.1 := rfl
  have hgm := (jgd_move hCR hbb ho hW (by omega) hW2)
  have hb1 := lV_r (on := sY Ab.1) hI hbb
  have hb2 := lV_r (on := sY Ab.1) hI ho
  have hb3 := lV_r (on := sY Ab.1) hgm.1 hbb
  have hb4 := lV_r (on := sY Ab.1) hgm.1 ho
  have hrow : (nZ (lV (mvS Ab.1 bb o (t : Int)) (sY Ab.1) (sB (mvS Ab.1 bb o (t : Int)) bb)) + nZ (lV (mvS Ab.1 bb o (t : Int)) (sY Ab.1) (sB (mvS Ab.1 bb o (t : Int)) o))).toInt64 - (nZ (lV (Ab.1) (sY Ab.1) (sB (Ab.1) bb)) + nZ (lV (Ab.1) (sY Ab.1) (sB (Ab.1) o))).toInt64 = (nZ (lA (setS Ab (mvS Ab.1 bb o (t : Int))).1 (sY (setS Ab (mvS Ab.1 bb o (t : Int))).1)) - nZ (lA Ab.1 (sY Ab.1))).toInt64 := jmvrow (lA_move hbb ho hW) ⟨⟨by omega, by omega⟩, by omega, by omega⟩ ⟨⟨by omega, by omega⟩, by omega, by omega⟩ ⟨⟨by omega, by omega⟩, by omega, by omega⟩ ⟨⟨by omega, by omega⟩, by omega, by omega⟩
  refine lv_aload_n hx hb dL_law_603 rfl (lv_at hl 10 rfl) ?_
  refine lv_iload hx hb dL_law_604 (lv_at hl 6 rfl) ?_
  refine lv_iconst (v := 1) hx hb dL_law_606 (by decide) ?_
  obtain ⟨σ1, hf1, hCR⟩ := u_bin1 hCR hbb
  refine lw_cw (g := g) (nL := 20) (wr := ([] : va_W)) (as := [gI (nZ (bb : Int)), gI (1)]) (t := []) hx hb hml hown hts hK hA ⟨by show _ ≤ 600130; omega, by show _ ≤ 7301080; omega⟩ c_X9_bin (ci := 9) rfl w5_L_law_27 v_X9_bin ⟨rfl, rfl⟩ ⟨Nat.le_of_ble_eq_true rfl, Nat.le_of_ble_eq_true rfl⟩ dL_law_607 (k := 0) (j := 0) ⟨by decide +kernel, by decide +kernel⟩ rfl (gb_oks_c (v := gI (nZ (bb : Int))) trivial (gb_oks_c (v := gI (1)) trivial gb_oks_n)) rfl (Nat.le_of_ble_eq_true rfl) hf1 hP hD hS hl rfl (fun v9 σ9 H locs he hP hD hS => ?_) (Or.inl rfl)
  cases he
  refine W.eq (g2 := F0 m 610 ls [.int (nZ (lT (sB Ab.1 bb)))]) rfl ?_
  refine lv_istore (lv' := [(14, .int (nZ (lT (sB Ab.1 bb)))), (13, .int (0)), (12, .int (nZ (sm 6 (fun b => lT (sB Ab.1 b))))), (11, .int (nZ (lA Ab.1 (sY Ab.1)))), (10, .int (nZ Ab.2.2.1.length)), (9, .int (nZ (o : Int))), (8, .int (nZ (t : Int))), (7, .int (nZ (bb : Int))), (6, .int (nZ (gg : Int))), (5, .int (x)), (4, .int (nI k)), (1, .ref (g.2.2.1 0 0)), (0, .ref (b))]) hx hb dL_law_610 hl (by decide) rfl (fun ls hl => ?_)
  refine lv_aload_n hx hb dL_law_612 rfl (lv_at hl 11 rfl) ?_
  refine lv_iload hx hb dL_law_613 (lv_at hl 5 rfl) ?_
  refine lv_iconst (v := 1) hx hb dL_law_615 (by decide) ?_
  obtain ⟨σ2, hf2, hCR⟩ := u_bin1 hCR ho
  refine lw_cw (g := g) (nL := 20) (wr := ([] : va_W)) (as := [gI (nZ (o : Int)), gI (1)]) (t := []) hx hb hml hown hts hK hA ⟨by show _ ≤ 600130; omega, by show _ ≤ 7301080; omega⟩ c_X9_bin (ci := 9) rfl w5_L_law_27 v_X9_bin ⟨rfl, rfl⟩ ⟨Nat.le_of_ble_eq_true rfl, Nat.le_of_ble_eq_true rfl⟩ dL_law_616 (k := 0) (j := 0) ⟨by decide +kernel, by decide +kernel⟩ rfl (gb_oks_c (v := gI (nZ (o : Int))) trivial (gb_oks_c (v := gI (1)) trivial gb_oks_n)) rfl (Nat.le_of_ble_eq_true rfl) hf2 hP hD hS hl rfl (fun v9 σ9 H locs he hP hD hS => ?_) (Or.inl rfl)
  cases he
  refine W.eq (g2 := F0 m 619 ls [.int (nZ (lT (sB Ab.1 o)))]) rfl ?_
  refine lv_istore (lv' := [(15, .int (nZ (lT (sB Ab.1 o)))), (14, .int (nZ (lT (sB Ab.1 bb)))), (13, .int (0)), (12, .int (nZ (sm 6 (fun b => lT (sB Ab.1 b))))), (11, .int (nZ (lA Ab.1 (sY Ab.1)))), (10, .int (nZ Ab.2.2.1.length)), (9, .int (nZ (o : Int))), (8, .int (nZ (t : Int))), (7, .int (nZ (bb : Int))), (6, .int (nZ (gg : Int))), (5, .int (x)), (4, .int (nI k)), (1, .ref (g.2.2.1 0 0)), (0, .ref (b))]) hx hb dL_law_619 hl (by decide) rfl (fun ls hl => ?_)
  refine lv_aload_n hx hb dL_law_621 rfl (lv_at hl 12 rfl) ?_
  refine lv_iload hx hb dL_law_622 (lv_at hl 8 rfl) ?_
  refine lv_iload hx hb dL_law_624 (lv_at hl 6 rfl) ?_
  refine lv_iload hx hb dL_law_626 (lv_at hl 7 rfl) ?_
  obtain ⟨σ3, hf3, hCA⟩ := v_move hCR (n := t) hbb ho hW (by omega) hW2
  refine lw_cw (g := g) (nL := 20) (wr := ([] : va_W)) (as := [gI (nZ (bb : Int)), gI (nZ (o : Int)), gI (nZ (t : Int))]) (t := []) hx hb hml hown hts hK hA ⟨by show _ ≤ 600130; omega, by show _ ≤ 7301080; omega⟩ c_X9_move (ci := 9) rfl w5_L_law_121 v_X9_move ⟨rfl, rfl⟩ ⟨Nat.le_of_ble_eq_true rfl, Nat.le_of_ble_eq_true rfl⟩ dL_law_628 (k := 0) (j := 0) ⟨by decide +kernel, by decide +kernel⟩ rfl (gb_oks_c (v := gI (nZ (bb : Int))) trivial (gb_oks_c (v := gI (nZ (o : Int))) trivial (gb_oks_c (v := gI (nZ (t : Int))) trivial gb_oks_n))) rfl (Nat.le_of_ble_eq_true rfl) hf3 hP hD hS hl rfl (fun v9 σ9 H locs he hP hD hS => ?_) (Or.inl rfl)
  cases he
  refine W.eq (g2 := F0 m 631 ls [.int (nZ (lT (sB (mvS Ab.1 bb o (t : Int)) o)))]) rfl ?_
  refine lv_istore (lv' := [(16, .int (nZ (lT (sB (mvS Ab.1 bb o (t : Int)) o)))), (15, .int (nZ (lT (sB Ab.1 o)))), (14, .int (nZ (lT (sB Ab.1 bb)))), (13, .int (0)), (12, .int (nZ (sm 6 (fun b => lT (sB Ab.1 b))))), (11, .int (nZ (lA Ab.1 (sY Ab.1)))), (10, .int (nZ Ab.2.2.1.length)), (9, .int (nZ (o : Int))), (8, .int (nZ (t : Int))), (7, .int (nZ (bb : Int))), (6, .int (nZ (gg : Int))), (5, .int (x)), (4, .int (nI k)), (1, .ref (g.2.2.1 0 0)), (0, .ref (b))]) hx hb dL_law_631 hl (by decide) rfl (fun ls hl => ?_)
  refine lv_iload hx hb dL_law_633 (lv_at hl 0 rfl) ?_
  refine lv_if_lt (tgt := 642) hx hb dL_law_635 (by decide) (fun c9 => absurd c9 (zn_lt (b := 0) (zr (by omega) (by omega)) (zr (by omega) (by omega)) (by omega))) (fun _ => ?_)
  refine lv_iconst (v := 1) hx hb dL_law_638 (by decide) ?_
  refine lv_goto (tgt := 643) hx hb dL_law_639 (by decide) ?_
  refine lv_istore (lv' := [(13, .int (1)), (16, .int (nZ (lT (sB (mvS Ab.1 bb o (t : Int)) o)))), (15, .int (nZ (lT (sB Ab.1 o)))), (14, .int (nZ (lT (sB Ab.1 bb)))), (12, .int (nZ (sm 6 (fun b => lT (sB Ab.1 b))))), (11, .int (nZ (lA Ab.1 (sY Ab.1)))), (10, .int (nZ Ab.2.2.1.length)), (9, .int (nZ (o : Int))), (8, .int (nZ (t : Int))), (7, .int (nZ (bb : Int))), (6, .int (nZ (gg : Int))), (5, .int (x)), (4, .int (nI k)), (1, .ref (g.2.2.1 0 0)), (0, .ref (b))]) hx hb dL_law_643 hl (by decide) rfl (fun ls hl => ?_)
  refine lv_iload hx hb dL_law_645 (lv_at hl 1 rfl) ?_
  refine lv_if_lt (tgt := 710) hx hb dL_law_647 (by decide) (fun c9 => absurd c9 (zn_lt (b := 0) (zr (by omega) (by omega)) (zr (by omega) (by omega)) (by omega))) (fun _ => ?_)
  refine lv_iload hx hb dL_law_650 (lv_at hl 1 rfl) ?_
  refine lv_iload hx hb dL_law_652 (lv_at hl 2 rfl) ?_
  refine lv_iload hx hb dL_law_654 (lv_at hl 8 rfl) ?_
  refine lv_iadd hx hb dL_law_656 ?_
  refine W.eq (g2 := F0 m 657 ls [.int (nZ (lT (sB Ab.1 o) + (t : Int))), .int (nZ (lT (sB (mvS Ab.1 bb o (t : Int)) o)))]) (by rw [show ((nZ (lT (sB Ab.1 o))) + (nZ (t : Int)) : Int32) = nZ (lT (sB Ab.1 o) + (t : Int)) from z_add _ _]) ?_
  refine lv_icmp_ne (tgt := 708) hx hb dL_law_657 (by decide) (fun c9 => absurd (congrArg nZ hmT.1) c9) (fun _ => ?_)
  refine lv_aload_n hx hb dL_law_660 rfl (lv_at hl 13 rfl) ?_
  refine lv_iload hx hb dL_law_661 (lv_at hl 9 rfl) ?_
  refine lv_iconst (v := 1) hx hb dL_law_663 (by decide) ?_
  obtain ⟨σ4, hf4, hCA⟩ := cr_bin1 hCA hbb
  refine lw_cw (g := g) (nL := 20) (wr := ([] : va_W)) (as := [gI (nZ (bb : Int)), gI (1)]) (t := []) hx hb hml hown hts hK hA ⟨by show _ ≤ 600130; omega, by show _ ≤ 7301080; omega⟩ c_X9_bin (ci := 9) rfl w5_L_law_27 v_X9_bin ⟨rfl, rfl⟩ ⟨Nat.le_of_ble_eq_true rfl, Nat.le_of_ble_eq_true rfl⟩ dL_law_664 (k := 0) (j := 0) ⟨by decide +kernel, by decide +kernel⟩ rfl (gb_oks_c (v := gI (nZ (bb : Int))) trivial (gb_oks_c (v := gI (1)) trivial gb_oks_n)) rfl (Nat.le_of_ble_eq_true rfl) hf4 hP hD hS hl rfl (fun v9 σ9 H locs he hP hD hS => ?_) (Or.inl rfl)
  cases he
  refine W.eq (g2 := F0 m 667 ls [.int (nZ (lT (sB (mvS Ab.1 bb o (t : Int)) bb)))]) rfl ?_
  refine lv_iload hx hb dL_law_667 (lv_at hl 3 rfl) ?_
  refine lv_iload hx hb dL_law_669 (lv_at hl 8 rfl) ?_
  refine lv_isub hx hb dL_law_671 ?_
  refine W.eq (g2 := F0 m 672 ls [.int (nZ (lT (sB Ab.1 bb) - (t : Int))), .int (nZ (lT (sB (mvS Ab.1 bb o (t : Int)) bb)))]) (by rw [show ((nZ (lT (sB Ab.1 bb))) - (nZ (t : Int)) : Int32) = nZ (lT (sB Ab.1 bb) - (t : Int)) from z_sub _ _]) ?_
  refine lv_icmp_ne (tgt := 708) hx hb dL_law_672 (by decide) (fun c9 => absurd (congrArg nZ hmT.2) c9) (fun _ => ?_)
  refine lv_aload_n hx hb dL_law_675 rfl (lv_at hl 13 rfl) ?_
  refine lv_iconst (v := 1) hx hb dL_law_676 (by decide) ?_
  obtain ⟨σ5, hf5, hCA⟩ := cr_count1 hCA
  refine lw_cw (g := g) (nL := 20) (wr := ([] : va_W)) (as := [gI (1)]) (t := []) hx hb hml hown hts hK hA ⟨by show _ ≤ 600130; omega, by show _ ≤ 7301080; omega⟩ c_X9_count (ci := 9) rfl w5_L_law_60 v_X9_count ⟨rfl, rfl⟩ ⟨Nat.le_of_ble_eq_true rfl, Nat.le_of_ble_eq_true rfl⟩ dL_law_677 (k := 0) (j := 0) ⟨by decide +kernel, by decide +kernel⟩ rfl (gb_oks_c (v := gI (1)) trivial gb_oks_n) rfl (Nat.le_of_ble_eq_true rfl) hf5 hP hD hS hl rfl (fun v9 σ9 H locs he hP hD hS => ?_) (Or.inl rfl)
  cases he
  refine W.eq (g2 := F0 m 680 ls [.int (nZ (sm 6 (fun b => lT (sB (mvS Ab.1 bb o (t : Int)) b))))]) rfl ?_
  refine lv_iload hx hb dL_law_680 (lv_at hl 4 rfl) ?_
  refine lv_icmp_ne (tgt := 708) hx hb dL_law_682 (by decide) (fun c9 => absurd (congrArg nZ (sT_move hwf.1 hbb ho hW ⟨by omega, hmv.2.2.2.1⟩)) c9) (fun _ => ?_)
  refine lv_aload_n hx hb dL_law_685 rfl (lv_at hl 13 rfl) ?_
  refine lv_iconst (v := 1) hx hb dL_law_686 (by decide) ?_
  refine W.eq (g2 := F0 m 687 ls [.int (nZ ((1 : Nat) : Int)), .ref (g.2.2.1 0 0)]) (by rw [show (1 : Int32) = nZ ((1 : Nat) : Int) from rfl]) ?_
  obtain ⟨σ6, hf6, hCA⟩ := c_row hCA (i := 1) (Nat.le_of_ble_eq_true rfl)
  refine lw_cw (g := g) (nL := 20) (wr := ([] : va_W)) (as := [gI (nZ ((1 : Nat) : Int))]) (t := []) hx hb hml hown hts hK hA ⟨by show _ ≤ 600130; omega, by show _ ≤ 7301080; omega⟩ c_X9_row (ci := 9) rfl w5_L_law_44 v_X9_row ⟨rfl, rfl⟩ ⟨Nat.le_of_ble_eq_true rfl, Nat.le_of_ble_eq_true rfl⟩ dL_law_687 (k := 0) (j := 0) ⟨by decide +kernel, by decide +kernel⟩ rfl (gb_oks_c (v := gI (nZ ((1 : Nat) : Int))) trivial gb_oks_n) rfl (Nat.le_of_ble_eq_true rfl) hf6 hP hD hS hl rfl (fun v9 σ9 H locs he hP hD hS => ?_) (Or.inr (Or.inr rfl))
  cases he
  refine W.eq (g2 := F0 m 690 ls [.long ((nZ (lV (mvS Ab.1 bb o (t : Int)) (sY Ab.1) (sB (mvS Ab.1 bb o (t : Int)) bb)) + nZ (lV (mvS Ab.1 bb o (t : Int)) (sY Ab.1) (sB (mvS Ab.1 bb o (t : Int)) o))).toInt64)]) rfl ?_
  refine lv_aload_n hx hb dL_law_690 rfl (lv_at hl 13 rfl) ?_
  refine lv_iconst (v := 0) hx hb dL_law_691 (by decide) ?_
  refine W.eq (g2 := F0 m 692 ls [.int (nZ ((0 : Nat) : Int)), .ref (g.2.2.1 0 0), .long ((nZ (lV (mvS Ab.1 bb o (t : Int)) (sY Ab.1) (sB (mvS Ab.1 bb o (t : Int)) bb)) + nZ (lV (mvS Ab.1 bb o (t : Int)) (sY Ab.1) (sB (mvS Ab.1 bb o (t : Int)) o))).toInt64)]) (by rw [show (0 : Int32) = nZ ((0 : Nat) : Int) from rfl]) ?_
  obtain ⟨σ7, hf7, hCA⟩ := c_row hCA (i := 0) (Nat.le_of_ble_eq_true rfl)
  refine lw_cw (g := g) (nL := 20) (wr := ([] : va_W)) (as := [gI (nZ ((0 : Nat) : Int))]) (t := [gL ((nZ (lV (mvS Ab.1 bb o (t : Int)) (sY Ab.1) (sB (mvS Ab.1 bb o (t : Int)) bb)) + nZ (lV (mvS Ab.1 bb o (t : Int)) (sY Ab.1) (sB (mvS Ab.1 bb o (t : Int)) o))).toInt64)]) hx hb hml hown hts hK hA ⟨by show _ ≤ 600130; omega, by show _ ≤ 7301080; omega⟩ c_X9_row (ci := 9) rfl w5_L_law_44 v_X9_row ⟨rfl, rfl⟩ ⟨Nat.le_of_ble_eq_true rfl, Nat.le_of_ble_eq_true rfl⟩ dL_law_692 (k := 0) (j := 0) ⟨by decide +kernel, by decide +kernel⟩ rfl (gb_oks_c (v := gI (nZ ((0 : Nat) : Int))) trivial gb_oks_n) rfl (Nat.le_of_ble_eq_true rfl) hf7 hP hD hS hl rfl (fun v9 σ9 H locs he hP hD hS => ?_) (Or.inr (Or.inr rfl))
  cases he
  refine W.eq (g2 := F0 m 695 ls [.long ((nZ (lV (Ab.1) (sY Ab.1) (sB (Ab.1) bb)) + nZ (lV (Ab.1) (sY Ab.1) (sB (Ab.1) o))).toInt64), .long ((nZ (lV (mvS Ab.1 bb o (t : Int)) (sY Ab.1) (sB (mvS Ab.1 bb o (t : Int)) bb)) + nZ (lV (mvS Ab.1 bb o (t : Int)) (sY Ab.1) (sB (mvS Ab.1 bb o (t : Int)) o))).toInt64)]) rfl ?_
  have hCR : CR σ7 (setS Ab (mvS Ab.1 bb o (t : Int))) := ⟨_, hCA⟩
  refine lv_lsub hx hb dL_law_695 ?_
  refine lv_aload_n hx hb dL_law_696 rfl (lv_at hl 13 rfl) ?_
  obtain ⟨σ8, hf8, hCR⟩ := u_all hCR
  refine lw_cw (g := g) (nL := 20) (wr := ([] : va_W)) (as := []) (t := [gL (((nZ (lV (mvS Ab.1 bb o (t : Int)) (sY Ab.1) (sB (mvS Ab.1 bb o (t : Int)) bb)) + nZ (lV (mvS Ab.1 bb o (t : Int)) (sY Ab.1) (sB (mvS Ab.1 bb o (t : Int)) o))).toInt64) - ((nZ (lV (Ab.1) (sY Ab.1) (sB (Ab.1) bb)) + nZ (lV (Ab.1) (sY Ab.1) (sB (Ab.1) o))).toInt64))]) hx hb hml hown hts hK hA ⟨by show _ ≤ 600130; omega, by show _ ≤ 7301080; omega⟩ c_X9_all (ci := 9) rfl w5_L_law_57 v_X9_all ⟨rfl, rfl⟩ ⟨Nat.le_of_ble_eq_true rfl, Nat.le_of_ble_eq_true rfl⟩ dL_law_697 (k := 0) (j := 0) ⟨by decide +kernel, by decide +kernel⟩ rfl gb_oks_n rfl (Nat.le_of_ble_eq_true rfl) hf8 hP hD hS hl rfl (fun v9 σ9 H locs he hP hD hS => ?_) (Or.inl rfl)
  cases he
  refine W.eq (g2 := F0 m 700 ls [.int (nZ (lA (setS Ab (mvS Ab.1 bb o (t : Int))).1 (sY (setS Ab (mvS Ab.1 bb o (t : Int))).1))), .long (((nZ (lV (mvS Ab.1 bb o (t : Int)) (sY Ab.1) (sB (mvS Ab.1 bb o (t : Int)) bb)) + nZ (lV (mvS Ab.1 bb o (t : Int)) (sY Ab.1) (sB (mvS Ab.1 bb o (t : Int)) o))).toInt64) - ((nZ (lV (Ab.1) (sY Ab.1) (sB (Ab.1) bb)) + nZ (lV (Ab.1) (sY Ab.1) (sB (Ab.1) o))).toInt64))]) rfl ?_
  refine lv_iload hx hb dL_law_700 (lv_at hl 5 rfl) ?_
  refine lv_isub hx hb dL_law_702 ?_
  refine lv_i2l (v := ((nZ (lA (setS Ab (mvS Ab.1 bb o (t : Int))).1 (sY (setS Ab (mvS Ab.1 bb o (t : Int))).1))) - (nZ (lA Ab.1 (sY Ab.1)))).toInt64) hx hb dL_law_703 (rfl) ?_
  refine W.lcmp hx hb dL_law_704 ?_
  refine lv_if_eq (tgt := 710) hx hb dL_law_705 (by decide) (fun _ => ?_) (fun c9 => absurd (jcmp hrow) c9)
  refine lv_iload hx hb dL_law_710 (lv_at hl 1 rfl) ?_
  refine lv_if_ge (tgt := 736) hx hb dL_law_712 (by decide) (fun _ => ?_) (fun c9 => absurd (zy_le (a := 0) (zr (by omega) (by omega)) (zr (by omega) (by omega)) (by omega)) c9)
  refine lv_iload hx hb dL_law_736 (lv_at hl 9 rfl) ?_
  refine lv_iload hx hb dL_law_738 (lv_at hl 7 rfl) ?_
  refine lv_icmp_ne (tgt := 1190) hx hb dL_law_740 (by decide) (fun _ => ?_) (fun c9 => absurd c9 (zn_eq (zr (by omega) (by omega)) (zr (by omega) (by omega)) (by omega)))
  exact k9 σ8 (setS Ab (mvS Ab.1 bb o (t : Int))) (1) H locs ls (Or.inr ⟨rfl, _, rfl, okX_move hwf.1 hInv.1 hbb ho hW (by omega) hW2, by have := hInv.2.2; rw [hYm]; omega⟩) (lv_sub hl [0, 4, 5, 6, 7, 8, 9, 10, 11, 12, 13, 14] rfl) hP hD hS hCR
