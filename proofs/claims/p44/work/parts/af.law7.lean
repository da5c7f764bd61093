/-! THE LAW: its orders (printed by wip/p44/law7.py) -/
theorem wj_L_lawo1a : ∀ w ∈ ([.classLink RL 73 RJ4, .instantiable RJ4 4, .initialized RJ4, .methodLink RL 75 yJ4_init_da8c8, .instanceMethod yJ4_init_da8c8, .initialized yJ4_init_da8c8.cls] : List Cond), w ∈ gb_J := by
  have h : ∀ w ∈ ([.classLink RL 73 RJ4, .instantiable RJ4 4, .initialized RJ4, .methodLink RL 75 yJ4_init_da8c8, .instanceMethod yJ4_init_da8c8, .initialized yJ4_init_da8c8.cls] : List Cond), w ∈ jsw ∨ (w ∈ lw_tbl ∧ goodWord w = true) := by decide +kernel
  exact gb_J_of h
set_option maxHeartbeats 4000000 in
theorem lw_o1a {p : Program} {l : Launch} {e : Env} {s : State} {m : MethodId} {below : List Frame} {meth : Method} {c : Code} {g : gb_G} {A : Nat → Prop} {b L t1 t2 : Nat} {xs : Nat → Int32} {Q : State → Prop} (X : jLw p s m c g A b L xs t1 t2) {k gg bb t o : Nat} {x : Int32} {Ab : gb_Ab} {σ : gb_M} {H : Heap} {locs : List Loc} {cells slots : Nat} {ls : Array Slot} (hgg : gg < 4) (ht : 1 ≤ t ∧ t ≤ 16) (l130 : jlit 130 ":" [58] A s) (l132 : jlit 132 "," [44] A s) (hc : cells + 5 ≤ 600130 ∧ slots + 1530 ≤ 7301080) (hl : lv_has ls 20 (jlv g b k x gg bb t o Ab 0)) (hP : va_P (g.1, g.2.1) vwCl (gb_ws g σ ++ ([] : va_W)) H) (hD : va_D A (gb_ws g σ ++ ([] : va_W))) (hS : va_S A s.heap H locs) (k9 : ∀ (h : Nat) (H : Heap) (locs : List Loc) (ls : Array Slot) (cells1 slots1 : Nat), cells1 ≤ cells + 5 → slots1 ≤ slots + 1530 → lv_has ls 20 (jlv g b k x gg bb t o Ab 0) → jst g A s σ h (((([] ++ dN gg) ++ [58]) ++ dN t)) H locs → W p l e room_1 s m #[Value.ref b] below meth c H locs cells1 slots1 Q (F0 m 947 ls [.ref h])) : W p l e room_1 s m #[Value.ref b] below meth c H locs cells slots Q (F0 m 925 ls []) := by
  obtain ⟨hx, hb, hml, hown, hts, hK, hA, hC, hX, hbA, hbl⟩ := id X
  have d1 := jdl_le gg
  have d2 := jdl_le t
  have d3 := jdl_le (jb x 16 2)
  have d4 := jdl_le (1 + jb x 18 3)
  have d5 := jb_lt x 16 2
  have d6 := jb_lt x 18 3
  refine va_new (ci := 11) (fs := [.null, .int 0, .int 0, .int 0]) (C := RJ4) (T := TJ4) (N := 4) hx hb hts winJ4 tyJ4 tyJ4_ok hown (hts _ (wj_L_lawo1a _ (List.mem_of_getElem? (i := 0) rfl))) (hts _ (wj_L_lawo1a _ (List.mem_of_getElem? (i := 1) rfl))) (hts _ (wj_L_lawo1a _ (List.mem_of_getElem? (i := 2) rfl))) hK hP hD hS hA rfl df_J4 (by show _ ≤ 600130; omega) (by show _ ≤ 7301080; omega) dL_law_925 (fun h H hP hD hS => ?_)
  have hP : va_P (g.1, g.2.1) vwCl (gb_ws g σ ++ ([(h, .inr (11, [.null, .int 0, .int 0, .int 0]))] : va_W)) H := hP
  have hD : va_D A (gb_ws g σ ++ ([(h, .inr (11, [.null, .int 0, .int 0, .int 0]))] : va_W)) := hD
  refine lv_dup hx hb dL_law_928 rfl ?_
  refine j_v (mc := 1) (ms := 16) (wr := gb_ws g σ) (wc := ([(h, .inr (11, [.null, .int 0, .int 0, .int 0]))] : va_W)) (va_runI (As := []) (rest := [.ref (h)]) ⟨hx, hb, hml, hown, hts⟩ (n_J4_init_da8c8 l g t1 t2 h _) (cwI 0 hts gi_J4_init_da8c8 rfl rfl rfl (hts _ (wj_L_lawo1a _ (List.mem_of_getElem? (i := 5) rfl))) (hts _ (wj_L_lawo1a _ (List.mem_of_getElem? (i := 3) rfl))) (hts _ (wj_L_lawo1a _ (List.mem_of_getElem? (i := 4) rfl))) rfl ⟨by decide +kernel, by decide +kernel, by decide +kernel⟩ ⟨Nat.le_of_ble_eq_true rfl, Nat.le_of_ble_eq_true rfl⟩) (jm_S (g := g) (jX_0 t1 t2) hK hC hS (P_r hP) (D_r hD) hA) rfl rfl hl.1 rfl (lv_room (Nat.le_of_ble_eq_true rfl)) dL_law_929 ⟨by show _ ≤ 600130; omega, by show _ ≤ 7301080; omega⟩) hP hD hS hA (fun w1 H locs hw hP hD hS => ?_)
  obtain ⟨q1, rfl⟩ := hw
  obtain ⟨c1, f1, hF, hB1, hB2, hP, hD⟩ : ∃ (c1 : Nat) (f1 : Nat → Int32), jF f1 ([] : List Nat) ∧ ([] : List Nat).length ≤ c1 ∧ c1 ≤ 502 ∧ va_P (g.1, g.2.1) vwCl (gb_ws g σ ++ sbW g h q1 c1 ([] : List Nat).length f1) H ∧ va_D A (gb_ws g σ ++ sbW g h q1 c1 ([] : List Nat).length f1) := ⟨16, fun _ => 0, ⟨fun _ => jFit_0, fun i hi => absurd hi (Nat.not_lt_zero _)⟩, by decide, by decide, hP, hD⟩
  have hP : va_P (g.1, g.2.1) vwCl (gb_ws g σ ++ ([(h, .inr (11, [.ref (q1), .int 0, .int 0, .int (nI (([] : List Nat)).length)])), (q1, .inl (g.2.2.2.2.1, c1, .inl (f1)))] : va_W)) H := hP
  have hD : va_D A (gb_ws g σ ++ ([(h, .inr (11, [.ref (q1), .int 0, .int 0, .int (nI (([] : List Nat)).length)])), (q1, .inl (g.2.2.2.2.1, c1, .inl (f1)))] : va_W)) := hD
  refine lv_iload hx hb dL_law_932 (lv_at hl 7 rfl) ?_
  refine W.eq (g2 := F0 m 934 ls [.int (nI gg), .ref (h)]) (by rw [show (nZ (gg : Int) : Int32) = nI gg from (nIZ gg).symm]) ?_
  refine j_r (mc := 1) (ms := 502) (wr := gb_ws g σ) (wc := ([(h, .inr (11, [.ref (q1), .int 0, .int 0, .int (nI (([] : List Nat)).length)])), (q1, .inl (g.2.2.2.2.1, c1, .inl (f1)))] : va_W)) (va_runV (As := [.int (nI gg)]) (rest := []) ⟨hx, hb, hml, hown, hts⟩ (n_J4_append_bf812 l g t1 t2 h q1 c1 f1 (([] : List Nat)) (gg) hF hB1 hB2 (by first | omega | decide | (simp only [List.length_append, List.length_cons, List.length_nil, dN_len]; omega)) (by omega) _) (cwV 1 hts gd_RL_80 rfl rfl rfl ⟨rfl, by decide +kernel, by decide +kernel, by decide +kernel⟩ ⟨Nat.le_of_ble_eq_true rfl, Nat.le_of_ble_eq_true rfl⟩) (jm_V (g := g) (jX_0 t1 t2) hK hC hS (P_r hP) (D_r hD) hA (va_recv hK (P_r hP) (ci := 11) (q0 := 0) rfl rfl)) rfl rfl hl.1 rfl (lv_room (Nat.le_of_ble_eq_true rfl)) dL_law_934 ⟨by show _ ≤ 600130; omega, by show _ ≤ 7301080; omega⟩) hP hD hS hA (fun r1 w1 H locs hw hP hD hS => ?_)
  obtain ⟨e9, q1, c1, f1, rfl, hF, hB1, hB2⟩ := hw
  have e9 := e9.symm
  subst e9
  have hP : va_P (g.1, g.2.1) vwCl (gb_ws g σ ++ ([(h, .inr (11, [.ref (q1), .int 0, .int 0, .int (nI ((([] : List Nat) ++ dN (gg))).length)])), (q1, .inl (g.2.2.2.2.1, c1, .inl (f1)))] : va_W)) H := hP
  have hD : va_D A (gb_ws g σ ++ ([(h, .inr (11, [.ref (q1), .int 0, .int 0, .int (nI ((([] : List Nat) ++ dN (gg))).length)])), (q1, .inl (g.2.2.2.2.1, c1, .inl (f1)))] : va_W)) := hD
  obtain ⟨sq, sv, sf, hR9, hL9, hS9⟩ := id l130
  refine va_ldcS hx hb hown hR9 dL_law_937 ?_
  refine j_r (mc := 1) (ms := 502) (wr := gb_ws g σ) (wc := ([(h, .inr (11, [.ref (q1), .int 0, .int 0, .int (nI ((([] : List Nat) ++ dN (gg))).length)])), (q1, .inl (g.2.2.2.2.1, c1, .inl (f1)))] : va_W)) (va_runV (As := [.ref (sq)]) (rest := []) ⟨hx, hb, hml, hown, hts⟩ (n_J4_append_15ec4 l g t1 t2 h q1 c1 f1 ((([] : List Nat) ++ dN (gg))) [58] sq sv _ sf hF hB1 hB2 (by first | omega | decide | (simp only [List.length_append, List.length_cons, List.length_nil, dN_len]; omega)) hS9 rfl (by decide) _) (cwV 1 hts gd_RL_85 rfl rfl rfl ⟨rfl, by decide +kernel, by decide +kernel, by decide +kernel⟩ ⟨Nat.le_of_ble_eq_true rfl, Nat.le_of_ble_eq_true rfl⟩) (jm_V (g := g) (jX_L t1 t2 sq sv _ sf) hK ⟨hC, hL9⟩ hS (P_r hP) (D_r hD) hA (va_recv hK (P_r hP) (ci := 11) (q0 := 0) rfl rfl)) rfl rfl hl.1 rfl (lv_room (Nat.le_of_ble_eq_true rfl)) dL_law_939 ⟨by show _ ≤ 600130; omega, by show _ ≤ 7301080; omega⟩) hP hD hS hA (fun r1 w1 H locs hw hP hD hS => ?_)
  obtain ⟨e9, q1, c1, f1, rfl, hF, hB1, hB2⟩ := hw
  have e9 := e9.symm
  subst e9
  have hP : va_P (g.1, g.2.1) vwCl (gb_ws g σ ++ ([(h, .inr (11, [.ref (q1), .int 0, .int 0, .int (nI (((([] : List Nat) ++ dN (gg)) ++ [58])).length)])), (q1, .inl (g.2.2.2.2.1, c1, .inl (f1)))] : va_W)) H := hP
  have hD : va_D A (gb_ws g σ ++ ([(h, .inr (11, [.ref (q1), .int 0, .int 0, .int (nI (((([] : List Nat) ++ dN (gg)) ++ [58])).length)])), (q1, .inl (g.2.2.2.2.1, c1, .inl (f1)))] : va_W)) := hD
  refine lv_iload hx hb dL_law_942 (lv_at hl 5 rfl) ?_
  refine W.eq (g2 := F0 m 944 ls [.int (nI t), .ref (h)]) (by rw [show (nZ (t : Int) : Int32) = nI t from (nIZ t).symm]) ?_
  refine j_r (mc := 1) (ms := 502) (wr := gb_ws g σ) (wc := ([(h, .inr (11, [.ref (q1), .int 0, .int 0, .int (nI (((([] : List Nat) ++ dN (gg)) ++ [58])).length)])), (q1, .inl (g.2.2.2.2.1, c1, .inl (f1)))] : va_W)) (va_runV (As := [.int (nI t)]) (rest := []) ⟨hx, hb, hml, hown, hts⟩ (n_J4_append_bf812 l g t1 t2 h q1 c1 f1 (((([] : List Nat) ++ dN (gg)) ++ [58])) (t) hF hB1 hB2 (by first | omega | decide | (simp only [List.length_append, List.length_cons, List.length_nil, dN_len]; omega)) (by omega) _) (cwV 1 hts gd_RL_80 rfl rfl rfl ⟨rfl, by decide +kernel, by decide +kernel, by decide +kernel⟩ ⟨Nat.le_of_ble_eq_true rfl, Nat.le_of_ble_eq_true rfl⟩) (jm_V (g := g) (jX_0 t1 t2) hK hC hS (P_r hP) (D_r hD) hA (va_recv hK (P_r hP) (ci := 11) (q0 := 0) rfl rfl)) rfl rfl hl.1 rfl (lv_room (Nat.le_of_ble_eq_true rfl)) dL_law_944 ⟨by show _ ≤ 600130; omega, by show _ ≤ 7301080; omega⟩) hP hD hS hA (fun r1 w1 H locs hw hP hD hS => ?_)
  obtain ⟨e9, q1, c1, f1, rfl, hF, hB1, hB2⟩ := hw
  have e9 := e9.symm
  subst e9
  have hP : va_P (g.1, g.2.1) vwCl (gb_ws g σ ++ ([(h, .inr (11, [.ref (q1), .int 0, .int 0, .int (nI ((((([] : List Nat) ++ dN (gg)) ++ [58]) ++ dN (t))).length)])), (q1, .inl (g.2.2.2.2.1, c1, .inl (f1)))] : va_W)) H := hP
  have hD : va_D A (gb_ws g σ ++ ([(h, .inr (11, [.ref (q1), .int 0, .int 0, .int (nI ((((([] : List Nat) ++ dN (gg)) ++ [58]) ++ dN (t))).length)])), (q1, .inl (g.2.2.2.2.1, c1, .inl (f1)))] : va_W)) := hD
  exact k9 _ H locs ls _ _ (by omega) (by omega) hl ⟨q1, c1, f1, hP, hD, hS, hF, hB1, hB2⟩
set_option maxHeartbeats 4000000 in
theorem lw_o1b {p : Program} {l : Launch} {e : Env} {s : State} {m : MethodId} {below : List Frame} {meth : Method} {c : Code} {g : gb_G} {A : Nat → Prop} {b L t1 t2 : Nat} {xs : Nat → Int32} {Q : State → Prop} (X : jLw p s m c g A b L xs t1 t2) {k gg bb t o : Nat} {x : Int32} {Ab : gb_Ab} {σ : gb_M} {H : Heap} {locs : List Loc} {cells slots : Nat} {ls : Array Slot} (hgg : gg < 4) (ht : 1 ≤ t ∧ t ≤ 16) (l130 : jlit 130 ":" [58] A s) (l132 : jlit 132 "," [44] A s) {h : Nat} {T0 : List Nat} (hlen : T0.length ≤ 5) (hc : cells + 3 ≤ 600130 ∧ slots + 1506 ≤ 7301080) (hl : lv_has ls 20 (jlv g b k x gg bb t o Ab 0)) (hJ : jst g A s σ h T0 H locs) (k9 : ∀ (h : Nat) (H : Heap) (locs : List Loc) (ls : Array Slot) (cells1 slots1 : Nat), cells1 ≤ cells + 3 → slots1 ≤ slots + 1506 → lv_has ls 20 (jlv g b k x gg bb t o Ab 0) → jst g A s σ h ((((T0 ++ [44]) ++ dN (jb x 16 2)) ++ [58])) H locs → W p l e room_1 s m #[Value.ref b] below meth c H locs cells1 slots1 Q (F0 m 967 ls [.ref h])) : W p l e room_1 s m #[Value.ref b] below meth c H locs cells slots Q (F0 m 947 ls [.ref h]) := by
  obtain ⟨hx, hb, hml, hown, hts, hK, hA, hC, hX, hbA, hbl⟩ := id X
  obtain ⟨q1, c1, f1, hP, hD, hS, hF, hB1, hB2⟩ := hJ
  have d1 := jdl_le gg
  have d2 := jdl_le t
  have d3 := jdl_le (jb x 16 2)
  have d4 := jdl_le (1 + jb x 18 3)
  have d5 := jb_lt x 16 2
  have d6 := jb_lt x 18 3
  obtain ⟨sq, sv, sf, hR9, hL9, hS9⟩ := id l132
  refine va_ldcS hx hb hown hR9 dL_law_947 ?_
  refine j_r (mc := 1) (ms := 502) (wr := gb_ws g σ) (wc := ([(h, .inr (11, [.ref (q1), .int 0, .int 0, .int (nI (T0).length)])), (q1, .inl (g.2.2.2.2.1, c1, .inl (f1)))] : va_W)) (va_runV (As := [.ref (sq)]) (rest := []) ⟨hx, hb, hml, hown, hts⟩ (n_J4_append_15ec4 l g t1 t2 h q1 c1 f1 (T0) [44] sq sv _ sf hF hB1 hB2 (by first | omega | decide | (simp only [List.length_append, List.length_cons, List.length_nil, dN_len]; omega)) hS9 rfl (by decide) _) (cwV 1 hts gd_RL_85 rfl rfl rfl ⟨rfl, by decide +kernel, by decide +kernel, by decide +kernel⟩ ⟨Nat.le_of_ble_eq_true rfl, Nat.le_of_ble_eq_true rfl⟩) (jm_V (g := g) (jX_L t1 t2 sq sv _ sf) hK ⟨hC, hL9⟩ hS (P_r hP) (D_r hD) hA (va_recv hK (P_r hP) (ci := 11) (q0 := 0) rfl rfl)) rfl rfl hl.1 rfl (lv_room (Nat.le_of_ble_eq_true rfl)) dL_law_949 ⟨by show _ ≤ 600130; omega, by show _ ≤ 7301080; omega⟩) hP hD hS hA (fun r1 w1 H locs hw hP hD hS => ?_)
  obtain ⟨e9, q1, c1, f1, rfl, hF, hB1, hB2⟩ := hw
  have e9 := e9.symm
  subst e9
  have hP : va_P (g.1, g.2.1) vwCl (gb_ws g σ ++ ([(h, .inr (11, [.ref (q1), .int 0, .int 0, .int (nI ((T0 ++ [44])).length)])), (q1, .inl (g.2.2.2.2.1, c1, .inl (f1)))] : va_W)) H := hP
  have hD : va_D A (gb_ws g σ ++ ([(h, .inr (11, [.ref (q1), .int 0, .int 0, .int (nI ((T0 ++ [44])).length)])), (q1, .inl (g.2.2.2.2.1, c1, .inl (f1)))] : va_W)) := hD
  refine lv_iload hx hb dL_law_952 (lv_at hl 8 rfl) ?_
  refine lv_bipush (v := 16) hx hb dL_law_954 (by decide) ?_
  refine lv_iushr (v := jv (x) (16)) hx hb dL_law_956 rfl ?_
  refine lv_iconst (v := 3) hx hb dL_law_957 (by decide) ?_
  refine lv_iand hx hb dL_law_958 ?_
  refine W.eq (g2 := F0 m 959 ls [.int (nI (jb x 16 2)), .ref (h)]) (by rw [show ((jv (x) (16)) &&& (3) : Int32) = nI (jb x 16 2) from jb_and _ _ _ _ (by decide)]) ?_
  refine j_r (mc := 1) (ms := 502) (wr := gb_ws g σ) (wc := ([(h, .inr (11, [.ref (q1), .int 0, .int 0, .int (nI ((T0 ++ [44])).length)])), (q1, .inl (g.2.2.2.2.1, c1, .inl (f1)))] : va_W)) (va_runV (As := [.int (nI (jb x 16 2))]) (rest := []) ⟨hx, hb, hml, hown, hts⟩ (n_J4_append_bf812 l g t1 t2 h q1 c1 f1 ((T0 ++ [44])) ((jb x 16 2)) hF hB1 hB2 (by first | omega | decide | (simp only [List.length_append, List.length_cons, List.length_nil, dN_len]; omega)) (by omega) _) (cwV 1 hts gd_RL_80 rfl rfl rfl ⟨rfl, by decide +kernel, by decide +kernel, by decide +kernel⟩ ⟨Nat.le_of_ble_eq_true rfl, Nat.le_of_ble_eq_true rfl⟩) (jm_V (g := g) (jX_0 t1 t2) hK hC hS (P_r hP) (D_r hD) hA (va_recv hK (P_r hP) (ci := 11) (q0 := 0) rfl rfl)) rfl rfl hl.1 rfl (lv_room (Nat.le_of_ble_eq_true rfl)) dL_law_959 ⟨by show _ ≤ 600130; omega, by show _ ≤ 7301080; omega⟩) hP hD hS hA (fun r1 w1 H locs hw hP hD hS => ?_)
  obtain ⟨e9, q1, c1, f1, rfl, hF, hB1, hB2⟩ := hw
  have e9 := e9.symm
  subst e9
  have hP : va_P (g.1, g.2.1) vwCl (gb_ws g σ ++ ([(h, .inr (11, [.ref (q1), .int 0, .int 0, .int (nI (((T0 ++ [44]) ++ dN ((jb x 16 2)))).length)])), (q1, .inl (g.2.2.2.2.1, c1, .inl (f1)))] : va_W)) H := hP
  have hD : va_D A (gb_ws g σ ++ ([(h, .inr (11, [.ref (q1), .int 0, .int 0, .int (nI (((T0 ++ [44]) ++ dN ((jb x 16 2)))).length)])), (q1, .inl (g.2.2.2.2.1, c1, .inl (f1)))] : va_W)) := hD
  obtain ⟨sq, sv, sf, hR9, hL9, hS9⟩ := id l130
  refine va_ldcS hx hb hown hR9 dL_law_962 ?_
  refine j_r (mc := 1) (ms := 502) (wr := gb_ws g σ) (wc := ([(h, .inr (11, [.ref (q1), .int 0, .int 0, .int (nI (((T0 ++ [44]) ++ dN ((jb x 16 2)))).length)])), (q1, .inl (g.2.2.2.2.1, c1, .inl (f1)))] : va_W)) (va_runV (As := [.ref (sq)]) (rest := []) ⟨hx, hb, hml, hown, hts⟩ (n_J4_append_15ec4 l g t1 t2 h q1 c1 f1 (((T0 ++ [44]) ++ dN ((jb x 16 2)))) [58] sq sv _ sf hF hB1 hB2 (by first | omega | decide | (simp only [List.length_append, List.length_cons, List.length_nil, dN_len]; omega)) hS9 rfl (by decide) _) (cwV 1 hts gd_RL_85 rfl rfl rfl ⟨rfl, by decide +kernel, by decide +kernel, by decide +kernel⟩ ⟨Nat.le_of_ble_eq_true rfl, Nat.le_of_ble_eq_true rfl⟩) (jm_V (g := g) (jX_L t1 t2 sq sv _ sf) hK ⟨hC, hL9⟩ hS (P_r hP) (D_r hD) hA (va_recv hK (P_r hP) (ci := 11) (q0 := 0) rfl rfl)) rfl rfl hl.1 rfl (lv_room (Nat.le_of_ble_eq_true rfl)) dL_law_964 ⟨by show _ ≤ 600130; omega, by show _ ≤ 7301080; omega⟩) hP hD hS hA (fun r1 w1 H locs hw hP hD hS => ?_)
  obtain ⟨e9, q1, c1, f1, rfl, hF, hB1, hB2⟩ := hw
  have e9 := e9.symm
  subst e9
  have hP : va_P (g.1, g.2.1) vwCl (gb_ws g σ ++ ([(h, .inr (11, [.ref (q1), .int 0, .int 0, .int (nI ((((T0 ++ [44]) ++ dN ((jb x 16 2))) ++ [58])).length)])), (q1, .inl (g.2.2.2.2.1, c1, .inl (f1)))] : va_W)) H := hP
  have hD : va_D A (gb_ws g σ ++ ([(h, .inr (11, [.ref (q1), .int 0, .int 0, .int (nI ((((T0 ++ [44]) ++ dN ((jb x 16 2))) ++ [58])).length)])), (q1, .inl (g.2.2.2.2.1, c1, .inl (f1)))] : va_W)) := hD
  exact k9 _ H locs ls _ _ (by omega) (by omega) hl ⟨q1, c1, f1, hP, hD, hS, hF, hB1, hB2⟩
set_option maxHeartbeats 4000000 in
theorem lw_o1c {p : Program} {l : Launch} {e : Env} {s : State} {m : MethodId} {below : List Frame} {meth : Method} {c : Code} {g : gb_G} {A : Nat → Prop} {b L t1 t2 : Nat} {xs : Nat → Int32} {Q : State → Prop} (X : jLw p s m c g A b L xs t1 t2) {k gg bb t o : Nat} {x : Int32} {Ab : gb_Ab} {σ : gb_M} {H : Heap} {locs : List Loc} {cells slots : Nat} {ls : Array Slot} (hgg : gg < 4) (ht : 1 ≤ t ∧ t ≤ 16)  {h : Nat} {T0 : List Nat} (hlen : T0.length ≤ 9) (hc : cells + 3 ≤ 600130 ∧ slots + 1008 ≤ 7301080) (hl : lv_has ls 20 (jlv g b k x gg bb t o Ab 0)) (hJ : jst g A s σ h T0 H locs) (k9 : ∀ (ps b1 : Nat) (f2 : Nat → Int32) (H : Heap) (locs : List Loc) (ls : Array Slot) (cells1 slots1 : Nat), cells1 ≤ cells + 3 → slots1 ≤ slots + 1008 → lv_has ls 20 ((14, .ref ps) :: jlv g b k x gg bb t o Ab 0) → va_P (g.1, g.2.1) vwCl (gb_ws g σ ++ stW g ps b1 (T0 ++ dN (1 + jb x 18 3)).length f2) H → va_D A (gb_ws g σ ++ stW g ps b1 (T0 ++ dN (1 + jb x 18 3)).length f2) → va_S A s.heap H locs → jF f2 (T0 ++ dN (1 + jb x 18 3)) → W p l e room_1 s m #[Value.ref b] below meth c H locs cells1 slots1 Q (F0 m 985 ls [])) : W p l e room_1 s m #[Value.ref b] below meth c H locs cells slots Q (F0 m 967 ls [.ref h]) := by
  obtain ⟨hx, hb, hml, hown, hts, hK, hA, hC, hX, hbA, hbl⟩ := id X
  obtain ⟨q1, c1, f1, hP, hD, hS, hF, hB1, hB2⟩ := hJ
  have d1 := jdl_le gg
  have d2 := jdl_le t
  have d3 := jdl_le (jb x 16 2)
  have d4 := jdl_le (1 + jb x 18 3)
  have d5 := jb_lt x 16 2
  have d6 := jb_lt x 18 3
  refine lv_iconst (v := 1) hx hb dL_law_967 (by decide) ?_
  refine lv_iload hx hb dL_law_968 (lv_at hl 8 rfl) ?_
  refine lv_bipush (v := 18) hx hb dL_law_970 (by decide) ?_
  refine lv_iushr (v := jv (x) (18)) hx hb dL_law_972 rfl ?_
  refine lv_bipush (v := 7) hx hb dL_law_973 (by decide) ?_
  refine lv_iand hx hb dL_law_975 ?_
  refine W.eq (g2 := F0 m 976 ls [.int (nI (jb x 18 3)), .int (1), .ref (h)]) (by rw [show ((jv (x) (18)) &&& (7) : Int32) = nI (jb x 18 3) from jb_and _ _ _ _ (by decide)]) ?_
  refine lv_iadd hx hb dL_law_976 ?_
  refine W.eq (g2 := F0 m 977 ls [.int (nI (1 + jb x 18 3)), .ref (h)]) (by rw [show ((1) + (nI (jb x 18 3)) : Int32) = nI (1 + jb x 18 3) from nI_add 1 _]) ?_
  refine j_r (mc := 1) (ms := 502) (wr := gb_ws g σ) (wc := ([(h, .inr (11, [.ref (q1), .int 0, .int 0, .int (nI (T0).length)])), (q1, .inl (g.2.2.2.2.1, c1, .inl (f1)))] : va_W)) (va_runV (As := [.int (nI (1 + jb x 18 3))]) (rest := []) ⟨hx, hb, hml, hown, hts⟩ (n_J4_append_bf812 l g t1 t2 h q1 c1 f1 (T0) ((1 + jb x 18 3)) hF hB1 hB2 (by first | omega | decide | (simp only [List.length_append, List.length_cons, List.length_nil, dN_len]; omega)) (by omega) _) (cwV 1 hts gd_RL_80 rfl rfl rfl ⟨rfl, by decide +kernel, by decide +kernel, by decide +kernel⟩ ⟨Nat.le_of_ble_eq_true rfl, Nat.le_of_ble_eq_true rfl⟩) (jm_V (g := g) (jX_0 t1 t2) hK hC hS (P_r hP) (D_r hD) hA (va_recv hK (P_r hP) (ci := 11) (q0 := 0) rfl rfl)) rfl rfl hl.1 rfl (lv_room (Nat.le_of_ble_eq_true rfl)) dL_law_977 ⟨by show _ ≤ 600130; omega, by show _ ≤ 7301080; omega⟩) hP hD hS hA (fun r1 w1 H locs hw hP hD hS => ?_)
  obtain ⟨e9, q1, c1, f1, rfl, hF, hB1, hB2⟩ := hw
  have e9 := e9.symm
  subst e9
  have hP : va_P (g.1, g.2.1) vwCl (gb_ws g σ ++ ([(h, .inr (11, [.ref (q1), .int 0, .int 0, .int (nI ((T0 ++ dN ((1 + jb x 18 3)))).length)])), (q1, .inl (g.2.2.2.2.1, c1, .inl (f1)))] : va_W)) H := hP
  have hD : va_D A (gb_ws g σ ++ ([(h, .inr (11, [.ref (q1), .int 0, .int 0, .int (nI ((T0 ++ dN ((1 + jb x 18 3)))).length)])), (q1, .inl (g.2.2.2.2.1, c1, .inl (f1)))] : va_W)) := hD
  refine j_r (mc := 2) (ms := 506) (wr := gb_ws g σ) (wc := ([(h, .inr (11, [.ref (q1), .int 0, .int 0, .int (nI ((T0 ++ dN ((1 + jb x 18 3)))).length)])), (q1, .inl (g.2.2.2.2.1, c1, .inl (f1)))] : va_W)) (va_runV (As := []) (rest := []) ⟨hx, hb, hml, hown, hts⟩ (n_J4_toString_0e30d l g t1 t2 h q1 c1 f1 ((T0 ++ dN ((1 + jb x 18 3)))) hF hB1 hB2 _) (cwV 0 hts gd_RL_94 rfl rfl rfl ⟨rfl, by decide +kernel, by decide +kernel, by decide +kernel⟩ ⟨Nat.le_of_ble_eq_true rfl, Nat.le_of_ble_eq_true rfl⟩) (jm_V (g := g) (jX_0 t1 t2) hK hC hS (P_r hP) (D_r hD) hA (va_recv hK (P_r hP) (ci := 11) (q0 := 0) rfl rfl)) rfl rfl hl.1 rfl (lv_room (Nat.le_of_ble_eq_true rfl)) dL_law_980 ⟨by show _ ≤ 600130; omega, by show _ ≤ 7301080; omega⟩) hP hD hS hA (fun ps w1 H locs hw hP hD hS => ?_)
  obtain ⟨b1, f2, rfl, hF2⟩ := hw
  have hP : va_P (g.1, g.2.1) vwCl (gb_ws g σ ++ ([(h, .inr (11, [.ref (q1), .int 0, .int 0, .int (nI ((T0 ++ dN ((1 + jb x 18 3)))).length)])), (q1, .inl (g.2.2.2.2.1, c1, .inl (f1))), (ps, .inr (10, [.ref b1, .int 0, .int 0, .int 0])), (b1, .inl (g.2.2.2.2.1, ((T0 ++ dN ((1 + jb x 18 3)))).length, .inl (f2)))] : va_W)) H := hP
  have hD : va_D A (gb_ws g σ ++ ([(h, .inr (11, [.ref (q1), .int 0, .int 0, .int (nI ((T0 ++ dN ((1 + jb x 18 3)))).length)])), (q1, .inl (g.2.2.2.2.1, c1, .inl (f1))), (ps, .inr (10, [.ref b1, .int 0, .int 0, .int 0])), (b1, .inl (g.2.2.2.2.1, ((T0 ++ dN ((1 + jb x 18 3)))).length, .inl (f2)))] : va_W)) := hD
  refine lv_astore (lv' := [(14, .ref (ps)), (13, .int (0)), (12, .int (nZ (sm 6 (fun b => lT (sB Ab.1 b))))), (11, .int (nZ (lA Ab.1 (sY Ab.1)))), (10, .int (nZ Ab.2.2.1.length)), (9, .int (nZ (o : Int))), (8, .int (nZ (t : Int))), (7, .int (nZ (bb : Int))), (6, .int (nZ (gg : Int))), (5, .int (x)), (4, .int (nI k)), (1, .ref (g.2.2.1 0 0)), (0, .ref (b))]) hx hb dL_law_983 hl (by decide) rfl (fun ls hl => ?_)
  have hP := P_dropl (b' := ([(ps, .inr (10, [.ref b1, .int 0, .int 0, .int 0])), (b1, .inl (g.2.2.2.2.1, ((T0 ++ dN ((1 + jb x 18 3)))).length, .inl (f2)))] : va_W)) hP [2, 3] rfl
  have hD := D_dropl (b' := ([(ps, .inr (10, [.ref b1, .int 0, .int 0, .int 0])), (b1, .inl (g.2.2.2.2.1, ((T0 ++ dN ((1 + jb x 18 3)))).length, .inl (f2)))] : va_W)) hD [2, 3] (by decide) rfl
  exact k9 ps b1 f2 H locs ls _ _ (by omega) (by omega) hl hP hD hS hF2
theorem lw_o1 {p : Program} {l : Launch} {e : Env} {s : State} {m : MethodId} {below : List Frame} {meth : Method} {c : Code} {g : gb_G} {A : Nat → Prop} {b L t1 t2 : Nat} {xs : Nat → Int32} {Q : State → Prop} (X : jLw p s m c g A b L xs t1 t2) {k gg bb t o : Nat} {x : Int32} {Ab : gb_Ab} {σ : gb_M} {H : Heap} {locs : List Loc} {cells slots : Nat} {ls : Array Slot} (hgg : gg < 4) (ht : 1 ≤ t ∧ t ≤ 16) (l130 : jlit 130 ":" [58] A s) (l132 : jlit 132 "," [44] A s) (hc : cells + 12 ≤ 600130 ∧ slots + 4100 ≤ 7301080) (hl : lv_has ls 20 (jlv g b k x gg bb t o Ab 0)) (hP : va_P (g.1, g.2.1) vwCl (gb_ws g σ ++ ([] : va_W)) H) (hD : va_D A (gb_ws g σ ++ ([] : va_W))) (hS : va_S A s.heap H locs) (k9 : ∀ (ps b1 : Nat) (f2 : Nat → Int32) (H : Heap) (locs : List Loc) (ls : Array Slot) (cells1 slots1 : Nat), cells1 ≤ cells + 12 → slots1 ≤ slots + 4100 → lv_has ls 20 ((14, .ref ps) :: jlv g b k x gg bb t o Ab 0) → va_P (g.1, g.2.1) vwCl (gb_ws g σ ++ stW g ps b1 (joT gg t (jb x 16 2) (1 + jb x 18 3)).length f2) H → va_D A (gb_ws g σ ++ stW g ps b1 (joT gg t (jb x 16 2) (1 + jb x 18 3)).length f2) → va_S A s.heap H locs → jF f2 (joT gg t (jb x 16 2) (1 + jb x 18 3)) → W p l e room_1 s m #[Value.ref b] below meth c H locs cells1 slots1 Q (F0 m 985 ls [])) : W p l e room_1 s m #[Value.ref b] below meth c H locs cells slots Q (F0 m 925 ls []) := by
  refine lw_o1a X hgg ht l130 l132 ⟨by omega, by omega⟩ hl hP hD hS (fun h H locs ls ca sa a1 a2 hl hJ => ?_)
  have e1 := jdl_le gg
  have e2 := jdl_le t
  have e3 := jdl_le (jb x 16 2)
  refine lw_o1b X hgg ht l130 l132 (by simp only [List.length_append, List.length_cons, List.length_nil, dN_len]; have := jdl_1 (v := gg) (by omega); omega) ⟨by omega, by omega⟩ hl hJ (fun h H locs ls cb sb b1 b2 hl hJ => ?_)
  refine lw_o1c X hgg ht (by simp only [List.length_append, List.length_cons, List.length_nil, dN_len]; have := jdl_1 (v := gg) (by omega); omega) ⟨by omega, by omega⟩ hl hJ (fun ps b1 f2 H locs ls cc sc d1 d2 hl hP hD hS hF => ?_)
  exact k9 ps b1 f2 H locs ls cc sc (by omega) (by omega) hl hP hD hS hF
