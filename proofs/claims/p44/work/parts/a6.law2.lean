/-! THE LAW: its text is said, its land told (printed by wip/p44/law2.py) -/
theorem gd_RL_85 : GoodIn gb_J (wsV RL 85 RJ4 yJ4_append_15ec4 (.code yJ4_append_15ec4 cJ4_append_15ec4 2 (some (.object "java/lang/StringBuilder")) :: gb_J)) := gj_in (l := [.methodLink RL 85 yJ4_append_15ec4, .instanceMethod yJ4_append_15ec4, .selects RJ4 yJ4_append_15ec4 yJ4_append_15ec4, .initialized RJ4]) (by
  have h : ∀ w ∈ ([.methodLink RL 85 yJ4_append_15ec4, .instanceMethod yJ4_append_15ec4, .selects RJ4 yJ4_append_15ec4 yJ4_append_15ec4, .initialized RJ4] ++ [.code yJ4_append_15ec4 cJ4_append_15ec4 2 (some (.object "java/lang/StringBuilder"))] : List Cond), w ∈ jsw ∨ (w ∈ lw_tbl ∧ goodWord w = true) := by decide +kernel
  exact gb_J_of h)
set_option maxHeartbeats 4000000 in
theorem lw_d {p : Program} {l : Launch} {e : Env} {s : State} {m : MethodId} {below : List Frame} {meth : Method} {c : Code} {g : gb_G} {A : Nat → Prop} {b L t1 t2 : Nat} {xs : Nat → Int32} {Q : State → Prop} (X : jLw p s m c g A b L xs t1 t2) (l83 : jlit 83 "l01" [108, 48, 49] A s) (l88 : jlit 88 ";l12" [59, 108, 49, 50] A s) (l90 : jlit 90 ";x03" [59, 120, 48, 51] A s) (l92 : jlit 92 ";l032" [59, 108, 48, 51, 50] A s) {h : Nat} {x : Int32} {T0 : List Nat} (hlen : T0.length ≤ 72) {σ : gb_M} {H : Heap} {locs : List Loc} {cells slots : Nat} {ls : Array Slot} (hc : cells + 5 ≤ 600130 ∧ slots + 2510 ≤ 7301080) (hl : lv_has ls 20 [(4, .int (nI 6)), (3, .ref h), (2, .int x), (1, .ref (g.2.2.1 0 0)), (0, .ref b)]) (hJ : jst g A s σ h T0 H locs) (k : ∀ (S : List Nat) (H : Heap) (locs : List Loc) (ls : Array Slot) (cells1 slots1 : Nat), cells1 ≤ cells + 5 → slots1 ≤ slots + 2510 → (S = [59, 120, 48, 51] ∨ S = [59, 108, 48, 51, 50]) → lv_has ls 20 [(4, .int (nI 6)), (3, .ref h), (2, .int x), (1, .ref (g.2.2.1 0 0)), (0, .ref b)] → jst g A s σ h (((((T0 ++ [108, 48, 49]) ++ dN (1 + jb x 12 3)) ++ [59, 108, 49, 50]) ++ dN (1 + jb x 15 4)) ++ S) H locs → W p l e room_1 s m #[Value.ref b] below meth c H locs cells1 slots1 Q (F0 m 202 ls [])) : W p l e room_1 s m #[Value.ref b] below meth c H locs cells slots Q (F0 m 146 ls []) := by
  obtain ⟨hx, hb, hml, hown, hts, hK, hA, hC, hX, hbA, hbl⟩ := id X
  obtain ⟨q1, c1, f1, hP, hD, hS, hF, hB1, hB2⟩ := hJ
  have d1 := jdl_le (1 + jb x 12 3)
  have d2 := jdl_le (1 + jb x 15 4)
  have d3 := jb_lt x 12 3
  have d4 := jb_lt x 15 4
  refine lv_aload_n hx hb dL_law_146 rfl (lv_at hl 1 rfl) ?_
  obtain ⟨sq, sv, sf, hR9, hL9, hS9⟩ := l83
  refine va_ldcS hx hb hown hR9 dL_law_147 ?_
  refine j_r (mc := 1) (ms := 502) (wr := gb_ws g σ) (wc := ([(h, .inr (11, [.ref (q1), .int 0, .int 0, .int (nI (T0).length)])), (q1, .inl (g.2.2.2.2.1, c1, .inl (f1)))] : va_W)) (va_runV (As := [.ref (sq)]) (rest := []) ⟨hx, hb, hml, hown, hts⟩ (n_J4_append_15ec4 l g t1 t2 h q1 c1 f1 (T0) [108, 48, 49] sq sv _ sf hF hB1 hB2 (by first | omega | (simp only [List.length_append, List.length_cons, List.length_nil, dN_len]; omega)) hS9 rfl (by decide) _) (cwV 1 hts gd_RL_85 rfl rfl rfl ⟨rfl, by decide +kernel, by decide +kernel, by decide +kernel⟩ ⟨Nat.le_of_ble_eq_true rfl, Nat.le_of_ble_eq_true rfl⟩) (jm_V (g := g) (jX_L t1 t2 sq sv _ sf) hK ⟨hC, hL9⟩ hS (P_r hP) (D_r hD) hA (va_recv hK (P_r hP) (ci := 11) (q0 := 0) rfl rfl)) rfl rfl hl.1 rfl (lv_room (Nat.le_of_ble_eq_true rfl)) dL_law_149 ⟨by show _ ≤ 600130; omega, by show _ ≤ 7301080; omega⟩) hP hD hS hA (fun r1 w1 H locs hw hP hD hS => ?_)
  obtain ⟨e9, q1, c1, f1, rfl, hF, hB1, hB2⟩ := hw
  have e9 := e9.symm
  subst e9
  have hP : va_P (g.1, g.2.1) vwCl (gb_ws g σ ++ ([(h, .inr (11, [.ref (q1), .int 0, .int 0, .int (nI ((T0 ++ [108, 48, 49])).length)])), (q1, .inl (g.2.2.2.2.1, c1, .inl (f1)))] : va_W)) H := hP
  have hD : va_D A (gb_ws g σ ++ ([(h, .inr (11, [.ref (q1), .int 0, .int 0, .int (nI ((T0 ++ [108, 48, 49])).length)])), (q1, .inl (g.2.2.2.2.1, c1, .inl (f1)))] : va_W)) := hD
  refine lv_iconst (v := 1) hx hb dL_law_152 (by decide) ?_
  refine lv_iload_n hx hb dL_law_153 rfl (lv_at hl 2 rfl) ?_
  refine lv_bipush (v := 12) hx hb dL_law_154 (by decide) ?_
  refine lv_iushr (v := jv (x) (12)) hx hb dL_law_156 rfl ?_
  refine lv_bipush (v := 7) hx hb dL_law_157 (by decide) ?_
  refine lv_iand hx hb dL_law_159 ?_
  refine W.eq (g2 := F0 m 160 ls [.int (nI (jb x 12 3)), .int (1), .ref (h)]) (by rw [show ((jv (x) (12)) &&& (7) : Int32) = nI (jb x 12 3) from jb_and _ _ _ _ (by decide)]) ?_
  refine lv_iadd hx hb dL_law_160 ?_
  refine W.eq (g2 := F0 m 161 ls [.int (nI (1 + jb x 12 3)), .ref (h)]) (by rw [show ((1) + (nI (jb x 12 3)) : Int32) = nI (1 + jb x 12 3) from nI_add 1 _]) ?_
  refine j_r (mc := 1) (ms := 502) (wr := gb_ws g σ) (wc := ([(h, .inr (11, [.ref (q1), .int 0, .int 0, .int (nI ((T0 ++ [108, 48, 49])).length)])), (q1, .inl (g.2.2.2.2.1, c1, .inl (f1)))] : va_W)) (va_runV (As := [.int (nI (1 + jb x 12 3))]) (rest := []) ⟨hx, hb, hml, hown, hts⟩ (n_J4_append_bf812 l g t1 t2 h q1 c1 f1 ((T0 ++ [108, 48, 49])) (1 + jb x 12 3) hF hB1 hB2 (by first | omega | (simp only [List.length_append, List.length_cons, List.length_nil, dN_len]; omega)) (by omega) _) (cwV 1 hts gd_RL_80 rfl rfl rfl ⟨rfl, by decide +kernel, by decide +kernel, by decide +kernel⟩ ⟨Nat.le_of_ble_eq_true rfl, Nat.le_of_ble_eq_true rfl⟩) (jm_V (g := g) (jX_0 t1 t2) hK hC hS (P_r hP) (D_r hD) hA (va_recv hK (P_r hP) (ci := 11) (q0 := 0) rfl rfl)) rfl rfl hl.1 rfl (lv_room (Nat.le_of_ble_eq_true rfl)) dL_law_161 ⟨by show _ ≤ 600130; omega, by show _ ≤ 7301080; omega⟩) hP hD hS hA (fun r1 w1 H locs hw hP hD hS => ?_)
  obtain ⟨e9, q1, c1, f1, rfl, hF, hB1, hB2⟩ := hw
  have e9 := e9.symm
  subst e9
  have hP : va_P (g.1, g.2.1) vwCl (gb_ws g σ ++ ([(h, .inr (11, [.ref (q1), .int 0, .int 0, .int (nI (((T0 ++ [108, 48, 49]) ++ dN (1 + jb x 12 3))).length)])), (q1, .inl (g.2.2.2.2.1, c1, .inl (f1)))] : va_W)) H := hP
  have hD : va_D A (gb_ws g σ ++ ([(h, .inr (11, [.ref (q1), .int 0, .int 0, .int (nI (((T0 ++ [108, 48, 49]) ++ dN (1 + jb x 12 3))).length)])), (q1, .inl (g.2.2.2.2.1, c1, .inl (f1)))] : va_W)) := hD
  obtain ⟨sq, sv, sf, hR9, hL9, hS9⟩ := l88
  refine va_ldcS hx hb hown hR9 dL_law_164 ?_
  refine j_r (mc := 1) (ms := 502) (wr := gb_ws g σ) (wc := ([(h, .inr (11, [.ref (q1), .int 0, .int 0, .int (nI (((T0 ++ [108, 48, 49]) ++ dN (1 + jb x 12 3))).length)])), (q1, .inl (g.2.2.2.2.1, c1, .inl (f1)))] : va_W)) (va_runV (As := [.ref (sq)]) (rest := []) ⟨hx, hb, hml, hown, hts⟩ (n_J4_append_15ec4 l g t1 t2 h q1 c1 f1 (((T0 ++ [108, 48, 49]) ++ dN (1 + jb x 12 3))) [59, 108, 49, 50] sq sv _ sf hF hB1 hB2 (by first | omega | (simp only [List.length_append, List.length_cons, List.length_nil, dN_len]; omega)) hS9 rfl (by decide) _) (cwV 1 hts gd_RL_85 rfl rfl rfl ⟨rfl, by decide +kernel, by decide +kernel, by decide +kernel⟩ ⟨Nat.le_of_ble_eq_true rfl, Nat.le_of_ble_eq_true rfl⟩) (jm_V (g := g) (jX_L t1 t2 sq sv _ sf) hK ⟨hC, hL9⟩ hS (P_r hP) (D_r hD) hA (va_recv hK (P_r hP) (ci := 11) (q0 := 0) rfl rfl)) rfl rfl hl.1 rfl (lv_room (Nat.le_of_ble_eq_true rfl)) dL_law_166 ⟨by show _ ≤ 600130; omega, by show _ ≤ 7301080; omega⟩) hP hD hS hA (fun r1 w1 H locs hw hP hD hS => ?_)
  obtain ⟨e9, q1, c1, f1, rfl, hF, hB1, hB2⟩ := hw
  have e9 := e9.symm
  subst e9
  have hP : va_P (g.1, g.2.1) vwCl (gb_ws g σ ++ ([(h, .inr (11, [.ref (q1), .int 0, .int 0, .int (nI ((((T0 ++ [108, 48, 49]) ++ dN (1 + jb x 12 3)) ++ [59, 108, 49, 50])).length)])), (q1, .inl (g.2.2.2.2.1, c1, .inl (f1)))] : va_W)) H := hP
  have hD : va_D A (gb_ws g σ ++ ([(h, .inr (11, [.ref (q1), .int 0, .int 0, .int (nI ((((T0 ++ [108, 48, 49]) ++ dN (1 + jb x 12 3)) ++ [59, 108, 49, 50])).length)])), (q1, .inl (g.2.2.2.2.1, c1, .inl (f1)))] : va_W)) := hD
  refine lv_iconst (v := 1) hx hb dL_law_169 (by decide) ?_
  refine lv_iload_n hx hb dL_law_170 rfl (lv_at hl 2 rfl) ?_
  refine lv_bipush (v := 15) hx hb dL_law_171 (by decide) ?_
  refine lv_iushr (v := jv (x) (15)) hx hb dL_law_173 rfl ?_
  refine lv_bipush (v := 15) hx hb dL_law_174 (by decide) ?_
  refine lv_iand hx hb dL_law_176 ?_
  refine W.eq (g2 := F0 m 177 ls [.int (nI (jb x 15 4)), .int (1), .ref (h)]) (by rw [show ((jv (x) (15)) &&& (15) : Int32) = nI (jb x 15 4) from jb_and _ _ _ _ (by decide)]) ?_
  refine lv_iadd hx hb dL_law_177 ?_
  refine W.eq (g2 := F0 m 178 ls [.int (nI (1 + jb x 15 4)), .ref (h)]) (by rw [show ((1) + (nI (jb x 15 4)) : Int32) = nI (1 + jb x 15 4) from nI_add 1 _]) ?_
  refine j_r (mc := 1) (ms := 502) (wr := gb_ws g σ) (wc := ([(h, .inr (11, [.ref (q1), .int 0, .int 0, .int (nI ((((T0 ++ [108, 48, 49]) ++ dN (1 + jb x 12 3)) ++ [59, 108, 49, 50])).length)])), (q1, .inl (g.2.2.2.2.1, c1, .inl (f1)))] : va_W)) (va_runV (As := [.int (nI (1 + jb x 15 4))]) (rest := []) ⟨hx, hb, hml, hown, hts⟩ (n_J4_append_bf812 l g t1 t2 h q1 c1 f1 ((((T0 ++ [108, 48, 49]) ++ dN (1 + jb x 12 3)) ++ [59, 108, 49, 50])) (1 + jb x 15 4) hF hB1 hB2 (by first | omega | (simp only [List.length_append, List.length_cons, List.length_nil, dN_len]; omega)) (by omega) _) (cwV 1 hts gd_RL_80 rfl rfl rfl ⟨rfl, by decide +kernel, by decide +kernel, by decide +kernel⟩ ⟨Nat.le_of_ble_eq_true rfl, Nat.le_of_ble_eq_true rfl⟩) (jm_V (g := g) (jX_0 t1 t2) hK hC hS (P_r hP) (D_r hD) hA (va_recv hK (P_r hP) (ci := 11) (q0 := 0) rfl rfl)) rfl rfl hl.1 rfl (lv_room (Nat.le_of_ble_eq_true rfl)) dL_law_178 ⟨by show _ ≤ 600130; omega, by show _ ≤ 7301080; omega⟩) hP hD hS hA (fun r1 w1 H locs hw hP hD hS => ?_)
  obtain ⟨e9, q1, c1, f1, rfl, hF, hB1, hB2⟩ := hw
  have e9 := e9.symm
  subst e9
  have hP : va_P (g.1, g.2.1) vwCl (gb_ws g σ ++ ([(h, .inr (11, [.ref (q1), .int 0, .int 0, .int (nI (((((T0 ++ [108, 48, 49]) ++ dN (1 + jb x 12 3)) ++ [59, 108, 49, 50]) ++ dN (1 + jb x 15 4))).length)])), (q1, .inl (g.2.2.2.2.1, c1, .inl (f1)))] : va_W)) H := hP
  have hD : va_D A (gb_ws g σ ++ ([(h, .inr (11, [.ref (q1), .int 0, .int 0, .int (nI (((((T0 ++ [108, 48, 49]) ++ dN (1 + jb x 12 3)) ++ [59, 108, 49, 50]) ++ dN (1 + jb x 15 4))).length)])), (q1, .inl (g.2.2.2.2.1, c1, .inl (f1)))] : va_W)) := hD
  refine lv_iload_n hx hb dL_law_181 rfl (lv_at hl 2 rfl) ?_
  refine lv_bipush (v := 20) hx hb dL_law_182 (by decide) ?_
  refine lv_iushr (v := jv (x) (20)) hx hb dL_law_184 rfl ?_
  refine lv_iconst (v := 1) hx hb dL_law_185 (by decide) ?_
  refine lv_iand hx hb dL_law_186 ?_
  refine W.eq (g2 := F0 m 187 ls [.int (nI (jb x 20 1)), .ref (h)]) (by rw [show ((jv (x) (20)) &&& (1) : Int32) = nI (jb x 20 1) from jb_and _ _ _ _ (by decide)]) ?_
  refine lv_iconst (v := 1) hx hb dL_law_187 (by decide) ?_
  refine lv_icmp_ne (tgt := 196) hx hb dL_law_188 (by decide) (fun c188 => ?_) (fun c188 => ?_)
  · skip
    obtain ⟨sq, sv, sf, hR9, hL9, hS9⟩ := l92
    refine va_ldcS hx hb hown hR9 dL_law_196 ?_
    refine j_r (mc := 1) (ms := 502) (wr := gb_ws g σ) (wc := ([(h, .inr (11, [.ref (q1), .int 0, .int 0, .int (nI (((((T0 ++ [108, 48, 49]) ++ dN (1 + jb x 12 3)) ++ [59, 108, 49, 50]) ++ dN (1 + jb x 15 4))).length)])), (q1, .inl (g.2.2.2.2.1, c1, .inl (f1)))] : va_W)) (va_runV (As := [.ref (sq)]) (rest := []) ⟨hx, hb, hml, hown, hts⟩ (n_J4_append_15ec4 l g t1 t2 h q1 c1 f1 (((((T0 ++ [108, 48, 49]) ++ dN (1 + jb x 12 3)) ++ [59, 108, 49, 50]) ++ dN (1 + jb x 15 4))) [59, 108, 48, 51, 50] sq sv _ sf hF hB1 hB2 (by first | omega | (simp only [List.length_append, List.length_cons, List.length_nil, dN_len]; omega)) hS9 rfl (by decide) _) (cwV 1 hts gd_RL_85 rfl rfl rfl ⟨rfl, by decide +kernel, by decide +kernel, by decide +kernel⟩ ⟨Nat.le_of_ble_eq_true rfl, Nat.le_of_ble_eq_true rfl⟩) (jm_V (g := g) (jX_L t1 t2 sq sv _ sf) hK ⟨hC, hL9⟩ hS (P_r hP) (D_r hD) hA (va_recv hK (P_r hP) (ci := 11) (q0 := 0) rfl rfl)) rfl rfl hl.1 rfl (lv_room (Nat.le_of_ble_eq_true rfl)) dL_law_198 ⟨by show _ ≤ 600130; omega, by show _ ≤ 7301080; omega⟩) hP hD hS hA (fun r1 w1 H locs hw hP hD hS => ?_)
    obtain ⟨e9, q1, c1, f1, rfl, hF, hB1, hB2⟩ := hw
    have e9 := e9.symm
    subst e9
    have hP : va_P (g.1, g.2.1) vwCl (gb_ws g σ ++ ([(h, .inr (11, [.ref (q1), .int 0, .int 0, .int (nI ((((((T0 ++ [108, 48, 49]) ++ dN (1 + jb x 12 3)) ++ [59, 108, 49, 50]) ++ dN (1 + jb x 15 4)) ++ [59, 108, 48, 51, 50])).length)])), (q1, .inl (g.2.2.2.2.1, c1, .inl (f1)))] : va_W)) H := hP
    have hD : va_D A (gb_ws g σ ++ ([(h, .inr (11, [.ref (q1), .int 0, .int 0, .int (nI ((((((T0 ++ [108, 48, 49]) ++ dN (1 + jb x 12 3)) ++ [59, 108, 49, 50]) ++ dN (1 + jb x 15 4)) ++ [59, 108, 48, 51, 50])).length)])), (q1, .inl (g.2.2.2.2.1, c1, .inl (f1)))] : va_W)) := hD
    refine lv_pop hx hb dL_law_201 rfl ?_
    exact k [59, 108, 48, 51, 50] H locs ls _ _ (by omega) (by omega) (Or.inr rfl) (lv_sub hl [0, 1, 2, 3, 4] rfl) ⟨q1, c1, f1, hP, hD, hS, hF, hB1, hB2⟩
  · skip
    obtain ⟨sq, sv, sf, hR9, hL9, hS9⟩ := l90
    refine va_ldcS hx hb hown hR9 dL_law_191 ?_
    refine lv_goto (tgt := 198) hx hb dL_law_193 (by decide) ?_
    refine j_r (mc := 1) (ms := 502) (wr := gb_ws g σ) (wc := ([(h, .inr (11, [.ref (q1), .int 0, .int 0, .int (nI (((((T0 ++ [108, 48, 49]) ++ dN (1 + jb x 12 3)) ++ [59, 108, 49, 50]) ++ dN (1 + jb x 15 4))).length)])), (q1, .inl (g.2.2.2.2.1, c1, .inl (f1)))] : va_W)) (va_runV (As := [.ref (sq)]) (rest := []) ⟨hx, hb, hml, hown, hts⟩ (n_J4_append_15ec4 l g t1 t2 h q1 c1 f1 (((((T0 ++ [108, 48, 49]) ++ dN (1 + jb x 12 3)) ++ [59, 108, 49, 50]) ++ dN (1 + jb x 15 4))) [59, 120, 48, 51] sq sv _ sf hF hB1 hB2 (by first | omega | (simp only [List.length_append, List.length_cons, List.length_nil, dN_len]; omega)) hS9 rfl (by decide) _) (cwV 1 hts gd_RL_85 rfl rfl rfl ⟨rfl, by decide +kernel, by decide +kernel, by decide +kernel⟩ ⟨Nat.le_of_ble_eq_true rfl, Nat.le_of_ble_eq_true rfl⟩) (jm_V (g := g) (jX_L t1 t2 sq sv _ sf) hK ⟨hC, hL9⟩ hS (P_r hP) (D_r hD) hA (va_recv hK (P_r hP) (ci := 11) (q0 := 0) rfl rfl)) rfl rfl hl.1 rfl (lv_room (Nat.le_of_ble_eq_true rfl)) dL_law_198 ⟨by show _ ≤ 600130; omega, by show _ ≤ 7301080; omega⟩) hP hD hS hA (fun r1 w1 H locs hw hP hD hS => ?_)
    obtain ⟨e9, q1, c1, f1, rfl, hF, hB1, hB2⟩ := hw
    have e9 := e9.symm
    subst e9
    have hP : va_P (g.1, g.2.1) vwCl (gb_ws g σ ++ ([(h, .inr (11, [.ref (q1), .int 0, .int 0, .int (nI ((((((T0 ++ [108, 48, 49]) ++ dN (1 + jb x 12 3)) ++ [59, 108, 49, 50]) ++ dN (1 + jb x 15 4)) ++ [59, 120, 48, 51])).length)])), (q1, .inl (g.2.2.2.2.1, c1, .inl (f1)))] : va_W)) H := hP
    have hD : va_D A (gb_ws g σ ++ ([(h, .inr (11, [.ref (q1), .int 0, .int 0, .int (nI ((((((T0 ++ [108, 48, 49]) ++ dN (1 + jb x 12 3)) ++ [59, 108, 49, 50]) ++ dN (1 + jb x 15 4)) ++ [59, 120, 48, 51])).length)])), (q1, .inl (g.2.2.2.2.1, c1, .inl (f1)))] : va_W)) := hD
    refine lv_pop hx hb dL_law_201 rfl ?_
    exact k [59, 120, 48, 51] H locs ls _ _ (by omega) (by omega) (Or.inl rfl) (lv_sub hl [0, 1, 2, 3, 4] rfl) ⟨q1, c1, f1, hP, hD, hS, hF, hB1, hB2⟩
theorem gd_RL_94 : GoodIn gb_J (wsV RL 94 RJ4 yJ4_toString_0e30d (.code yJ4_toString_0e30d cJ4_toString_0e30d 1 (some (.object "java/lang/String")) :: gb_J)) := gj_in (l := [.methodLink RL 94 yJ4_toString_0e30d, .instanceMethod yJ4_toString_0e30d, .selects RJ4 yJ4_toString_0e30d yJ4_toString_0e30d, .initialized RJ4]) (by
  have h : ∀ w ∈ ([.methodLink RL 94 yJ4_toString_0e30d, .instanceMethod yJ4_toString_0e30d, .selects RJ4 yJ4_toString_0e30d yJ4_toString_0e30d, .initialized RJ4] ++ [.code yJ4_toString_0e30d cJ4_toString_0e30d 1 (some (.object "java/lang/String"))] : List Cond), w ∈ jsw ∨ (w ∈ lw_tbl ∧ goodWord w = true) := by decide +kernel
  exact gb_J_of h)
theorem gd_RL_98 : GoodIn gb_J (va_wsS RL 98 yL_say (.code yL_say cL_say 5 none :: gb_J)) := gj_in (l := [.methodLink RL 98 yL_say, .static yL_say, .initialized yL_say.cls]) (by
  have h : ∀ w ∈ ([.methodLink RL 98 yL_say, .static yL_say, .initialized yL_say.cls] ++ [.code yL_say cL_say 5 none] : List Cond), w ∈ jsw ∨ (w ∈ lw_tbl ∧ goodWord w = true) := by decide +kernel
  exact gb_J_of h)
theorem w5_L_law_102 : ∀ w ∈ ([.methodLink RL 102 yX9_land, .instanceMethod yX9_land, .selects RX9 yX9_land yX9_land, .initialized RX9, .code yX9_land cX9_land 2 (some .int)] : List Cond), w ∈ gb_B := by
  have h : ∀ w ∈ ([.methodLink RL 102 yX9_land, .instanceMethod yX9_land, .selects RX9 yX9_land yX9_land, .initialized RX9, .code yX9_land cX9_land 2 (some .int)] : List Cond), w ∈ lw_tbl ∧ goodWord w = true := by decide +kernel
  exact fun w hw => List.mem_filter.mpr (h w hw)
theorem w5_L_law_105 : ∀ w ∈ ([.methodLink RL 105 yL_holds, .static yL_holds, .initialized yL_holds.cls, .code yL_holds cL_holds 15 (some .boolean)] : List Cond), w ∈ gb_B := by
  have h : ∀ w ∈ ([.methodLink RL 105 yL_holds, .static yL_holds, .initialized yL_holds.cls, .code yL_holds cL_holds 15 (some .boolean)] : List Cond), w ∈ lw_tbl ∧ goodWord w = true := by decide +kernel
  exact fun w hw => List.mem_filter.mpr (h w hw)
theorem gb_oks_0 : gb_oks [gR 0 0] := gb_oks_c (v := gR 0 0) ⟨by decide +kernel, by decide +kernel⟩ gb_oks_n
theorem yo_holds : yL_holds.cls ≠ "java/lang/invoke/MethodHandle" ∧ yL_holds.cls ≠ "java/lang/invoke/VarHandle" ∧ (parseMethodDescriptor yL_holds.desc).map (fun d => d.parameters.length) = some 1 := ⟨by decide +kernel, by decide +kernel, by decide +kernel⟩
set_option maxHeartbeats 4000000 in
theorem lw_e {p : Program} {l : Launch} {e : Env} {s : State} {m : MethodId} {below : List Frame} {meth : Method} {c : Code} {g : gb_G} {A : Nat → Prop} {b L t1 t2 : Nat} {xs : Nat → Int32} {Q : State → Prop} (X : jLw p s m c g A b L xs t1 t2) {h : Nat} {x : Int32} {TT : List Nat} (hS128 : ∀ n ∈ TT, n < 128) (hlen : TT.length ≤ 196) (hland : ∃ u, (ldT (TT.map (fun (x : Nat) => (x : Int)))).1 = some (u, 13)) {σ : gb_M} {H : Heap} {locs : List Loc} {cells slots : Nat} {ls : Array Slot} (hc : cells + 2 ≤ 600130 ∧ slots + 506 ≤ 7301080) (hl : lv_has ls 20 [(4, .int (nI 6)), (3, .ref h), (2, .int x), (1, .ref (g.2.2.1 0 0)), (0, .ref b)]) (hJ : jst g A s σ h (TT) H locs) (hCA : CA σ (setT gA0 [])) (k : ∀ (σ : gb_M) (Ab : gb_Ab) (H : Heap) (locs : List Loc) (ls : Array Slot) (cells1 slots1 : Nat), cells1 ≤ cells + 2 → slots1 ≤ slots + 506 → lv_has ls 20 [(4, .int (1)), (1, .ref (g.2.2.1 0 0)), (0, .ref b)] → va_P (g.1, g.2.1) vwCl (gb_ws g σ ++ ([] : va_W)) H → va_D A (gb_ws g σ ++ ([] : va_W)) → va_S A s.heap H locs → jInv 1 Ab → CR σ Ab → W p l e room_1 s m #[Value.ref b] below meth c H locs cells1 slots1 Q (F0 m 231 ls [])) : W p l e room_1 s m #[Value.ref b] below meth c H locs cells slots Q (F0 m 202 ls []) := by
  obtain ⟨hx, hb, hml, hown, hts, hK, hA, hC, hX, hbA, hbl⟩ := id X
  obtain ⟨q1, c1, f1, hP, hD, hS, hF, hB1, hB2⟩ := hJ
  refine lv_aload_n hx hb dL_law_202 rfl (lv_at hl 3 rfl) ?_
  refine lv_aload_n hx hb dL_law_203 rfl (lv_at hl 1 rfl) ?_
  refine j_r (mc := 2) (ms := 506) (wr := gb_ws g σ) (wc := ([(h, .inr (11, [.ref (q1), .int 0, .int 0, .int (nI (TT).length)])), (q1, .inl (g.2.2.2.2.1, c1, .inl (f1)))] : va_W)) (va_runV (As := []) (rest := [.ref (g.2.2.1 0 0)]) ⟨hx, hb, hml, hown, hts⟩ (n_J4_toString_0e30d l g t1 t2 h q1 c1 f1 (TT) hF hB1 hB2 _) (cwV 0 hts gd_RL_94 rfl rfl rfl ⟨rfl, by decide +kernel, by decide +kernel, by decide +kernel⟩ ⟨Nat.le_of_ble_eq_true rfl, Nat.le_of_ble_eq_true rfl⟩) (jm_V (g := g) (jX_0 t1 t2) hK hC hS (P_r hP) (D_r hD) hA (va_recv hK (P_r hP) (ci := 11) (q0 := 0) rfl rfl)) rfl rfl hl.1 rfl (lv_room (Nat.le_of_ble_eq_true rfl)) dL_law_204 ⟨by show _ ≤ 600130; omega, by show _ ≤ 7301080; omega⟩) hP hD hS hA (fun ps w1 H locs hw hP hD hS => ?_)
  obtain ⟨b1, f2, rfl, hF2⟩ := hw
  have hP : va_P (g.1, g.2.1) vwCl (gb_ws g σ ++ ([(h, .inr (11, [.ref (q1), .int 0, .int 0, .int (nI (TT).length)])), (q1, .inl (g.2.2.2.2.1, c1, .inl (f1))), (ps, .inr (10, [.ref b1, .int 0, .int 0, .int 0])), (b1, .inl (g.2.2.2.2.1, (TT).length, .inl (f2)))] : va_W)) H := hP
  have hD : va_D A (gb_ws g σ ++ ([(h, .inr (11, [.ref (q1), .int 0, .int 0, .int (nI (TT).length)])), (q1, .inl (g.2.2.2.2.1, c1, .inl (f1))), (ps, .inr (10, [.ref b1, .int 0, .int 0, .int 0])), (b1, .inl (g.2.2.2.2.1, (TT).length, .inl (f2)))] : va_W)) := hD
  have hP := P_dropl (b' := ([(ps, .inr (10, [.ref b1, .int 0, .int 0, .int 0])), (b1, .inl (g.2.2.2.2.1, (TT).length, .inl (f2)))] : va_W)) hP [2, 3] rfl
  have hD := D_dropl (b' := ([(ps, .inr (10, [.ref b1, .int 0, .int 0, .int 0])), (b1, .inl (g.2.2.2.2.1, (TT).length, .inl (f2)))] : va_W)) hD [2, 3] (by decide) rfl
  refine j_v (mc := 0) (ms := 0) (wr := []) (wc := (gb_ws g σ ++ ([(ps, .inr (10, [.ref b1, .int 0, .int 0, .int 0])), (b1, .inl (g.2.2.2.2.1, (TT).length, .inl (f2)))] : va_W))) (va_runS (As := [.ref (g.2.2.1 0 0), .ref (ps)]) (rest := []) ⟨hx, hb, hml, hown, hts⟩ (n_L_say l g t1 t2 ps b1 f2 (TT) σ gA0 hF2 hS128 hlen hCA _) (va_cwS 2 hts gd_RL_98 rfl rfl rfl ⟨by decide +kernel, by decide +kernel, by decide +kernel⟩ ⟨Nat.le_of_ble_eq_true rfl, Nat.le_of_ble_eq_true rfl⟩) (jm_S (g := g) (jX_0 t1 t2) hK hC hS hP hD hA) rfl rfl hl.1 rfl (lv_room (Nat.le_of_ble_eq_true rfl)) dL_law_207 ⟨by show _ ≤ 600130; omega, by show _ ≤ 7301080; omega⟩) hP hD hS hA (fun w1 H locs hw hP hD hS => ?_)
  obtain ⟨σ1, rfl, hCA⟩ := hw
  have hP : va_P (g.1, g.2.1) vwCl (gb_ws g σ1 ++ ([(ps, .inr (10, [.ref b1, .int 0, .int 0, .int 0])), (b1, .inl (g.2.2.2.2.1, (TT).length, .inl (f2)))] : va_W)) H := hP
  have hD : va_D A (gb_ws g σ1 ++ ([(ps, .inr (10, [.ref b1, .int 0, .int 0, .int 0])), (b1, .inl (g.2.2.2.2.1, (TT).length, .inl (f2)))] : va_W)) := hD
  have hP := P_dropl (b' := ([] : va_W)) hP [] rfl
  have hD := D_dropl (b' := ([] : va_W)) hD [] (by decide) rfl
  refine lv_aload_n hx hb dL_law_210 rfl (lv_at hl 3 rfl) ?_
  have ht := t_lands (A := setT gA0 (TT.map (fun (x : Nat) => (x : Int))))
  have hwf := hCA.2.2
  obtain ⟨u, hu⟩ := hland
  have huI : uI u := ldT_I hCA.1.2.2.2.1.2.2.2 u 13 hu
  obtain ⟨σ1, hf1, hCA⟩ := ht σ1 hCA
  refine lw_cw (g := g) (nL := 20) (wr := ([] : va_W)) (as := []) (t := []) hx hb hml hown hts hK hA ⟨by show _ ≤ 600130; omega, by show _ ≤ 7301080; omega⟩ c_X9_land (ci := 9) rfl w5_L_law_102 v_X9_land ⟨rfl, rfl⟩ ⟨Nat.le_of_ble_eq_true rfl, Nat.le_of_ble_eq_true rfl⟩ dL_law_211 (k := 0) (j := 0) ⟨by decide +kernel, by decide +kernel⟩ rfl gb_oks_n rfl (Nat.le_of_ble_eq_true rfl) hf1 hP hD hS hl rfl (fun v9 σ9 H locs he hP hD hS => ?_) (Or.inl rfl)
  cases he
  refine W.eq (g2 := F0 m 214 ls [.int (nZ (rlE (ldT (TT.map (fun (x : Nat) => (x : Int))))))]) rfl ?_
  obtain ⟨h13, hInv⟩ := ldA_13 (A := setT gA0 (TT.map (fun (x : Nat) => (x : Int)))) hCA.2.2 hu huI
  refine lv_bipush (v := 13) hx hb dL_law_214 (by decide) ?_
  refine lv_icmp_ne (tgt := 226) hx hb dL_law_216 (by decide) (fun c9 => absurd (show nZ (rlE (ldT (TT.map (fun (x : Nat) => (x : Int))))) = 13 from (congrArg nZ h13).trans (by decide)) c9) (fun _ => ?_)
  refine lv_aload_n hx hb dL_law_219 rfl (lv_at hl 3 rfl) ?_
  have hCR : CR _ (ldA (setT gA0 (TT.map (fun (x : Nat) => (x : Int)))) (ldT (TT.map (fun (x : Nat) => (x : Int))))) := ⟨_, hCA⟩
  obtain ⟨σ2, hf2, hCR⟩ := (fun σ h => u_holds hCA.2.2.1 hInv.1 h) σ1 hCR
  refine lw_cs (g := g) (nL := 20) (wr := ([] : va_W)) (as := [gR 0 0]) (t := []) hx hb hml hown hts hK hA ⟨by show _ ≤ 600130; omega, by show _ ≤ 7301080; omega⟩ c_L_holds w5_L_law_105 yo_holds ⟨rfl, rfl⟩ ⟨Nat.le_of_ble_eq_true rfl, Nat.le_of_ble_eq_true rfl⟩ dL_law_220 gb_oks_0 rfl (Nat.le_of_ble_eq_true rfl) hf2 hP hD hS hl rfl (fun v9 σ9 H locs he hP hD hS => ?_) (Or.inr (Or.inl rfl))
  cases he
  refine W.eq (g2 := F0 m 223 ls [.int (1)]) rfl ?_
  refine lv_if_ne (tgt := 228) hx hb dL_law_223 (by decide) (fun _ => ?_) (fun c9 => absurd c9 (by decide))
  refine lv_iconst (v := 1) hx hb dL_law_228 (by decide) ?_
  refine lv_istore (lv' := [(4, .int (1)), (3, .ref (h)), (2, .int (x)), (1, .ref (g.2.2.1 0 0)), (0, .ref (b))]) hx hb dL_law_229 hl (by decide) rfl (fun ls hl => ?_)
  exact k σ2 _ H locs ls _ _ (by omega) (by omega) (lv_sub hl [0, 3, 4] rfl) hP hD hS hInv hCR
theorem lw_eok (x : Int32) {S : List Nat} (hSd : S = [59, 120, 48, 51] ∨ S = [59, 108, 48, 51, 50]) : (∀ n ∈ jeT x S, n < 128) ∧ (jeT x S).length ≤ 196 ∧ ∃ u, (ldT ((jeT x S).map (fun (x : Nat) => (x : Int)))).1 = some (u, 13) := by
  refine ⟨jeT_128 x (by rcases hSd with rfl | rfl <;> decide), ?_, ?_⟩
  · have h1 := jbT_len x 6 (by omega)
    have d1 := jdl_le (1 + jb x 12 3)
    have d2 := jdl_le (1 + jb x 15 4)
    have h3 : S.length ≤ 5 := by rcases hSd with rfl | rfl <;> decide
    simp only [jeT, List.length_append, List.length_cons, List.length_nil, dN_len]
    omega
  · have d3 := jb_lt x 12 3
    have d4 := jb_lt x 15 4
    have hl : ∃ l, S.map (fun (n : Nat) => (n : Int)) = 59 :: l ∧ (l = xlT 0 3 ∨ l = llT 0 3 2) := by
      rcases hSd with rfl | rfl
      · exact ⟨xlT 0 3, by decide, Or.inl rfl⟩
      · exact ⟨llT 0 3 2, by decide, Or.inr rfl⟩
    obtain ⟨l, e1, e2⟩ := hl
    rw [jeT_lnd x e1]
    exact lnd_13 (fun g hg => jw_lt x g) (fun g hg => jk_lt x g) (fun b hb => jc_lt x b) (by omega) (by omega) e2
