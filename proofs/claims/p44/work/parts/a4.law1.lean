/-! THE LAW: the text of its land (printed by wip/p44/law1.py) -/
def jLw (p : Program) (s : State) (m : MethodId) (c : Code) (g : gb_G) (A : Nat → Prop) (b L : Nat) (xs : Nat → Int32) (t1 t2 : Nat) : Prop := p.tables.exec = Jvm.exec ∧ c.code = code ∧ c.maxLocals = 20 ∧ s.vm.findClass RL = some m.cls ∧ (∀ w ∈ gb_J, w.before #[Value.ref b] s = true) ∧ va_K (g.1, g.2.1) vwCl (gb_T g) s ∧ (∀ q, s.heap.size ≤ q → A q) ∧ jC t1 t2 A s s.heap ∧ va_X b L xs s s.heap ∧ ¬ A b ∧ b < s.heap.size
/-- a literal of the law -/
def jlit (k : Nat) (tx : String) (S : List Nat) (A : Nat → Prop) (s : State) : Prop := ∃ (q v : Nat) (f : Nat → Int32), vk_R RL k tx q s ∧ jL q v S.length f A s s.heap ∧ jF f S
/-- the class's cells, and a StringBuilder at h that holds T -/
def jst (g : gb_G) (A : Nat → Prop) (s : State) (σ : gb_M) (h : Nat) (T : List Nat) (H : Heap) (locs : List Loc) : Prop := ∃ (q1 c1 : Nat) (f1 : Nat → Int32), va_P (g.1, g.2.1) vwCl (gb_ws g σ ++ sbW g h q1 c1 T.length f1) H ∧ va_D A (gb_ws g σ ++ sbW g h q1 c1 T.length f1) ∧ va_S A s.heap H locs ∧ jF f1 T ∧ T.length ≤ c1 ∧ c1 ≤ 502
theorem dL_cell_0 : decode cL_cell 0 = .ok (.iload_n 1, 1) := by decide +kernel
theorem dL_cell_1 : decode cL_cell 1 = .ok (.aload_n 0, 1) := by decide +kernel
theorem dL_cell_2 : decode cL_cell 2 = .ok (.arraylength, 1) := by decide +kernel
theorem dL_cell_3 : decode cL_cell 3 = .ok (.if_icmp .ge 9, 3) := by decide +kernel
theorem dL_cell_6 : decode cL_cell 6 = .ok (.aload_n 0, 1) := by decide +kernel
theorem dL_cell_7 : decode cL_cell 7 = .ok (.iload_n 1, 1) := by decide +kernel
theorem dL_cell_8 : decode cL_cell 8 = .ok (.iaload, 1) := by decide +kernel
theorem dL_cell_9 : decode cL_cell 9 = .ok (.goto 4, 3) := by decide +kernel
theorem dL_cell_12 : decode cL_cell 12 = .ok (.iconst 0, 1) := by decide +kernel
theorem dL_cell_13 : decode cL_cell 13 = .ok (.ireturn, 1) := by decide +kernel
set_option maxHeartbeats 4000000 in
theorem n_L_cell (l : Launch) (g : gb_G) (t1 t2 b L : Nat) (xs : Nat → Int32) (k : Nat) (hk : k < 1000) (hL : L < 1000) : Met l yL_cell (.code yL_cell cL_cell 2 (some .int) :: gb_J) ({ frames := 2, cells := 0, slots := 0, locals := 100 }) (jp g (jS b L xs) [.ref b, .int (nI k)] ([] : va_W)) (vp_Si (fun r => r = jcl L xs k)) 0 0 (fun _ => False) := by
  refine Met.ofW (cc := cL_cell) (maxL := 2) (ret := some .int) (by decide +kernel) rfl ?_
  intro p e s m args below meth c s₁ B hml hv
  obtain ⟨rfl, hP, hK, hC⟩ := hv
  have hx := B.exec
  have hb := B.bytes
  have hr := B.returns
  have hlocks := B.notSynchronized
  have hS : va_S (fun _ => False) s.heap s.heap [] := va_S.rf
  have hl := lv_entry ([.ref b, .int (nI k)]) (n := 2) (Nat.le_of_ble_eq_true rfl)
  rw [lg_entry_eq]
  generalize (lg_sl ([.ref b, .int (nI k)]) ++ List.replicate (2 - (lg_sl ([.ref b, .int (nI k)])).length) Slot.unset).toArray = ls at hl ⊢
  have hl : lv_has ls 2 [(0, .ref b), (1, .int (nI k))] := hl
  refine lv_iload_n hx hb dL_cell_0 rfl (lv_at hl 1 rfl) ?_
  refine lv_aload_n hx hb dL_cell_1 rfl (lv_at hl 0 rfl) ?_
  refine va_slen hx hb hC.1 hC.2.2 hC.2.1 hS dL_cell_2 ?_
  refine W.eq (g2 := F0 m 3 ls [.int (nI L), .int (nI k)]) rfl ?_
  refine lv_icmp_ge (tgt := 12) hx hb dL_cell_3 (by decide) (fun c3 => ?_) (fun c3 => ?_)
  · have c8 : L ≤ k := (nI_leI (by omega) (by omega)).mp c3
    refine lv_iconst (v := 0) hx hb dL_cell_12 (by decide) ?_
    exact W.iret (v := 0) hx hb hr (fun t ht hW => ⟨0, rfl, (if_neg (by omega)).symm, ht⟩) (fun q h => by cases h) dL_cell_13
  · have c8 : k < L := by
      rcases Nat.lt_or_ge k L with h | h
      · exact h
      · exact absurd ((nI_leI (by omega) (by omega)).mpr h) c3
    refine lv_aload_n hx hb dL_cell_6 rfl (lv_at hl 0 rfl) ?_
    refine lv_iload_n hx hb dL_cell_7 rfl (lv_at hl 1 rfl) ?_
    refine va_sld hx hb hC.1 hC.2.2 hC.2.1 hS (pk_in k L c8) dL_cell_8 ?_
    refine W.eq (g2 := F0 m 9 ls [.int (xs k)]) (by rw [j_cl (by omega)]) ?_
    refine lv_goto (tgt := 13) hx hb dL_cell_9 (by decide) ?_
    exact W.iret (v := xs k) hx hb hr (fun t ht hW => ⟨xs k, rfl, (if_pos c8).symm, ht⟩) (fun q h => by cases h) dL_cell_13
theorem gd_RL_67 : GoodIn gb_J (va_wsS RL 67 yL_cell (.code yL_cell cL_cell 2 (some .int) :: gb_J)) := gj_in (l := [.methodLink RL 67 yL_cell, .static yL_cell, .initialized yL_cell.cls]) (by
  have h : ∀ w ∈ ([.methodLink RL 67 yL_cell, .static yL_cell, .initialized yL_cell.cls] ++ [.code yL_cell cL_cell 2 (some .int)] : List Cond), w ∈ jsw ∨ (w ∈ lw_tbl ∧ goodWord w = true) := by decide +kernel
  exact gb_J_of h)
theorem gi_J4_init_da8c8 : GoodIn gb_J (.code yJ4_init_da8c8 cJ4_init_da8c8 1 none :: gb_J) := gj_in (l := []) (by
  have h : ∀ w ∈ ([.code yJ4_init_da8c8 cJ4_init_da8c8 1 none] : List Cond), w ∈ jsw ∨ (w ∈ lw_tbl ∧ goodWord w = true) := by decide +kernel
  exact gb_J_of h)
theorem wj_L_lawa : ∀ w ∈ ([.classLink RL 73 RJ4, .instantiable RJ4 4, .initialized RJ4, .methodLink RL 75 yJ4_init_da8c8, .instanceMethod yJ4_init_da8c8, .initialized yJ4_init_da8c8.cls] : List Cond), w ∈ gb_J := by
  have h : ∀ w ∈ ([.classLink RL 73 RJ4, .instantiable RJ4 4, .initialized RJ4, .methodLink RL 75 yJ4_init_da8c8, .instanceMethod yJ4_init_da8c8, .initialized yJ4_init_da8c8.cls] : List Cond), w ∈ jsw ∨ (w ∈ lw_tbl ∧ goodWord w = true) := by decide +kernel
  exact gb_J_of h
set_option maxHeartbeats 4000000 in
theorem lw_a {p : Program} {l : Launch} {e : Env} {s : State} {m : MethodId} {below : List Frame} {meth : Method} {c : Code} {g : gb_G} {A : Nat → Prop} {b L t1 t2 : Nat} {xs : Nat → Int32} {Q : State → Prop} (X : jLw p s m c g A b L xs t1 t2) (hL : L < 1000) {σ : gb_M} {H : Heap} {locs : List Loc} {cells slots : Nat} {ls : Array Slot} (hc : cells + 2 ≤ 600130 ∧ slots + 20 ≤ 7301080) (hl : lv_has ls 20 [(1, .ref (g.2.2.1 0 0)), (0, .ref b)]) (hP : va_P (g.1, g.2.1) vwCl (gb_ws g σ ++ ([] : va_W)) H) (hD : va_D A (gb_ws g σ ++ ([] : va_W))) (hS : va_S A s.heap H locs) (k : ∀ (h : Nat) (H : Heap) (locs : List Loc) (ls : Array Slot) (cells1 slots1 : Nat), cells1 ≤ cells + 2 → slots1 ≤ slots + 20 → lv_has ls 20 [(4, .int 0), (3, .ref h), (2, .int (jcl L xs 0)), (1, .ref (g.2.2.1 0 0)), (0, .ref b)] → jst g A s σ h [] H locs → W p l e room_1 s m #[Value.ref b] below meth c H locs cells1 slots1 Q (F0 m 25 ls [])) : W p l e room_1 s m #[Value.ref b] below meth c H locs cells slots Q (F0 m 8 ls []) := by
  obtain ⟨hx, hb, hml, hown, hts, hK, hA, hC, hX, hbA, hbl⟩ := id X
  refine lv_aload_n hx hb dL_law_8 rfl (lv_at hl 1 rfl) ?_
  refine lv_iconst (v := 0) hx hb dL_law_9 (by decide) ?_
  refine W.eq (g2 := F0 m 10 ls [.int (nI 0), .ref (b)]) (by rw [show (0 : Int32) = nI 0 from rfl]) ?_
  refine vp_callSi (va_Run.run (va_runS (As := [.ref (b), .int (nI 0)]) (rest := []) ⟨hx, hb, hml, hown, hts⟩ (n_L_cell l g t1 t2 b L xs 0 (by omega) hL) (va_cwS 2 hts gd_RL_67 rfl rfl rfl ⟨by decide +kernel, by decide +kernel, by decide +kernel⟩ ⟨Nat.le_of_ble_eq_true rfl, Nat.le_of_ble_eq_true rfl⟩) (jp_S (g := g) (jX_S b L xs) hK ⟨hX, hbA, hbl⟩ hS (P_r hP)) rfl rfl hl.1 rfl (lv_room (Nat.le_of_ble_eq_true rfl)) dL_law_10 ⟨by show _ ≤ 600130; omega, by show _ ≤ 7301080; omega⟩)) (fun r9 e9 => ?_)
  subst e9
  refine lv_istore_n (lv' := [(2, .int (jcl L xs 0)), (1, .ref (g.2.2.1 0 0)), (0, .ref (b))]) hx hb dL_law_13 rfl hl (by decide) rfl (fun ls hl => ?_)
  refine va_new (ci := 11) (fs := [.null, .int 0, .int 0, .int 0]) (C := RJ4) (T := TJ4) (N := 4) hx hb hts winJ4 tyJ4 tyJ4_ok hown (hts _ (wj_L_lawa _ (List.mem_of_getElem? (i := 0) rfl))) (hts _ (wj_L_lawa _ (List.mem_of_getElem? (i := 1) rfl))) (hts _ (wj_L_lawa _ (List.mem_of_getElem? (i := 2) rfl))) hK hP hD hS hA rfl df_J4 (by show _ ≤ 600130; omega) (by show _ ≤ 7301080; omega) dL_law_14 (fun h H hP hD hS => ?_)
  have hP : va_P (g.1, g.2.1) vwCl (gb_ws g σ ++ ([(h, .inr (11, [.null, .int 0, .int 0, .int 0]))] : va_W)) H := hP
  have hD : va_D A (gb_ws g σ ++ ([(h, .inr (11, [.null, .int 0, .int 0, .int 0]))] : va_W)) := hD
  refine lv_dup hx hb dL_law_17 rfl ?_
  refine j_v (mc := 1) (ms := 16) (wr := gb_ws g σ) (wc := ([(h, .inr (11, [.null, .int 0, .int 0, .int 0]))] : va_W)) (va_runI (As := []) (rest := [.ref (h)]) ⟨hx, hb, hml, hown, hts⟩ (n_J4_init_da8c8 l g t1 t2 h _) (cwI 0 hts gi_J4_init_da8c8 rfl rfl rfl (hts _ (wj_L_lawa _ (List.mem_of_getElem? (i := 5) rfl))) (hts _ (wj_L_lawa _ (List.mem_of_getElem? (i := 3) rfl))) (hts _ (wj_L_lawa _ (List.mem_of_getElem? (i := 4) rfl))) rfl ⟨by decide +kernel, by decide +kernel, by decide +kernel⟩ ⟨Nat.le_of_ble_eq_true rfl, Nat.le_of_ble_eq_true rfl⟩) (jm_S (g := g) (jX_0 t1 t2) hK hC hS (P_r hP) (D_r hD) hA) rfl rfl hl.1 rfl (lv_room (Nat.le_of_ble_eq_true rfl)) dL_law_18 ⟨by show _ ≤ 600130; omega, by show _ ≤ 7301080; omega⟩) hP hD hS hA (fun w1 H locs hw hP hD hS => ?_)
  obtain ⟨q, rfl⟩ := hw
  have hP : va_P (g.1, g.2.1) vwCl (gb_ws g σ ++ ([(h, .inr (11, [.ref (q), .int 0, .int 0, .int (nI 0)])), (q, .inl (g.2.2.2.2.1, 16, .inl (fun _ => 0)))] : va_W)) H := hP
  have hD : va_D A (gb_ws g σ ++ ([(h, .inr (11, [.ref (q), .int 0, .int 0, .int (nI 0)])), (q, .inl (g.2.2.2.2.1, 16, .inl (fun _ => 0)))] : va_W)) := hD
  refine lv_astore_n (lv' := [(3, .ref (h)), (2, .int (jcl L xs 0)), (1, .ref (g.2.2.1 0 0)), (0, .ref (b))]) hx hb dL_law_21 rfl hl (by decide) rfl (fun ls hl => ?_)
  refine lv_iconst (v := 0) hx hb dL_law_22 (by decide) ?_
  refine lv_istore (lv' := [(4, .int (0)), (3, .ref (h)), (2, .int (jcl L xs 0)), (1, .ref (g.2.2.1 0 0)), (0, .ref (b))]) hx hb dL_law_23 hl (by decide) rfl (fun ls hl => ?_)
  refine k h H locs ls _ _ ?_ ?_ (lv_sub hl [0, 1, 2, 3, 4] rfl) ⟨q, 16, _, hP, hD, hS, ⟨fun _ => jFit_0, fun i hi => absurd hi (Nat.not_lt_zero _)⟩, by decide, by decide⟩
  · omega
  · omega
theorem gd_RL_76 : GoodIn gb_J (wsV RL 76 RJ4 yJ4_append_cf468 (.code yJ4_append_cf468 cJ4_append_cf468 2 (some (.object "java/lang/StringBuilder")) :: gb_J)) := gj_in (l := [.methodLink RL 76 yJ4_append_cf468, .instanceMethod yJ4_append_cf468, .selects RJ4 yJ4_append_cf468 yJ4_append_cf468, .initialized RJ4]) (by
  have h : ∀ w ∈ ([.methodLink RL 76 yJ4_append_cf468, .instanceMethod yJ4_append_cf468, .selects RJ4 yJ4_append_cf468 yJ4_append_cf468, .initialized RJ4] ++ [.code yJ4_append_cf468 cJ4_append_cf468 2 (some (.object "java/lang/StringBuilder"))] : List Cond), w ∈ jsw ∨ (w ∈ lw_tbl ∧ goodWord w = true) := by decide +kernel
  exact gb_J_of h)
theorem gd_RL_80 : GoodIn gb_J (wsV RL 80 RJ4 yJ4_append_bf812 (.code yJ4_append_bf812 cJ4_append_bf812 2 (some (.object "java/lang/StringBuilder")) :: gb_J)) := gj_in (l := [.methodLink RL 80 yJ4_append_bf812, .instanceMethod yJ4_append_bf812, .selects RJ4 yJ4_append_bf812 yJ4_append_bf812, .initialized RJ4]) (by
  have h : ∀ w ∈ ([.methodLink RL 80 yJ4_append_bf812, .instanceMethod yJ4_append_bf812, .selects RJ4 yJ4_append_bf812 yJ4_append_bf812, .initialized RJ4] ++ [.code yJ4_append_bf812 cJ4_append_bf812 2 (some (.object "java/lang/StringBuilder"))] : List Cond), w ∈ jsw ∨ (w ∈ lw_tbl ∧ goodWord w = true) := by decide +kernel
  exact gb_J_of h)
set_option maxHeartbeats 4000000 in
theorem lw_b {p : Program} {l : Launch} {e : Env} {s : State} {m : MethodId} {below : List Frame} {meth : Method} {c : Code} {g : gb_G} {A : Nat → Prop} {b L t1 t2 : Nat} {xs : Nat → Int32} {Q : State → Prop} (X : jLw p s m c g A b L xs t1 t2)  {h i : Nat} {x : Int32} {σ : gb_M} {H : Heap} {locs : List Loc} {cells slots : Nat} {ls : Array Slot} (hc : cells + 7 ≤ 600130 ∧ slots + 3514 ≤ 7301080) (hl : lv_has ls 20 [(4, .int (nI i)), (3, .ref h), (2, .int x), (1, .ref (g.2.2.1 0 0)), (0, .ref b)]) (hJ : jst g A s σ h (jgT x i) H locs) (k : ∀ (H : Heap) (locs : List Loc) (ls : Array Slot) (cells1 slots1 : Nat), cells1 ≤ cells + 7 → slots1 ≤ slots + 3514 → lv_has ls 20 [(4, .int (nI (i + 1))), (3, .ref h), (2, .int x), (1, .ref (g.2.2.1 0 0)), (0, .ref b)] → jst g A s σ h (jgT x (i + 1)) H locs → W p l e room_1 s m #[Value.ref b] below meth c H locs cells1 slots1 Q (F0 m 25 ls [])) (hi : i < 4) : W p l e room_1 s m #[Value.ref b] below meth c H locs cells slots Q (F0 m 25 ls []) := by
  obtain ⟨hx, hb, hml, hown, hts, hK, hA, hC, hX, hbA, hbl⟩ := id X
  obtain ⟨q1, c1, f1, hP, hD, hS, hF, hB1, hB2⟩ := hJ
  have hlen := jgT_len x i (by omega)
  have d1 := jdl_le i
  have d2 := jdl_le (jw x i)
  have d3 := jdl_le (jk x i)
  refine lv_iload hx hb dL_law_25 (lv_at hl 0 rfl) ?_
  refine lv_iconst (v := 4) hx hb dL_law_27 (by decide) ?_
  refine lv_icmp_ge (tgt := 93) hx hb dL_law_28 (by decide) (fun c9 => absurd c9 (show ¬ nI 4 ≤ nI i from nI_ge (by omega) (by omega))) (fun _ => ?_)
  refine lv_aload_n hx hb dL_law_31 rfl (lv_at hl 1 rfl) ?_
  refine lv_bipush (v := 103) hx hb dL_law_32 (by decide) ?_
  refine W.eq (g2 := F0 m 34 ls [.int (nI 103), .ref (h)]) (by rw [show (103 : Int32) = nI 103 from rfl]) ?_
  refine j_r (mc := 1) (ms := 502) (wr := gb_ws g σ) (wc := ([(h, .inr (11, [.ref (q1), .int 0, .int 0, .int (nI (jgT x i).length)])), (q1, .inl (g.2.2.2.2.1, c1, .inl (f1)))] : va_W)) (va_runV (As := [.int (nI 103)]) (rest := []) ⟨hx, hb, hml, hown, hts⟩ (n_J4_append_cf468 l g t1 t2 h q1 c1 f1 (jgT x i) 103 hF hB1 hB2 (by first | omega | (simp only [List.length_append, List.length_cons, List.length_nil, dN_len]; omega)) (by omega) _) (cwV 1 hts gd_RL_76 rfl rfl rfl ⟨rfl, by decide +kernel, by decide +kernel, by decide +kernel⟩ ⟨Nat.le_of_ble_eq_true rfl, Nat.le_of_ble_eq_true rfl⟩) (jm_V (g := g) (jX_0 t1 t2) hK hC hS (P_r hP) (D_r hD) hA (va_recv hK (P_r hP) (ci := 11) (q0 := 0) rfl rfl)) rfl rfl hl.1 rfl (lv_room (Nat.le_of_ble_eq_true rfl)) dL_law_34 ⟨by show _ ≤ 600130; omega, by show _ ≤ 7301080; omega⟩) hP hD hS hA (fun r1 w1 H locs hw hP hD hS => ?_)
  obtain ⟨e9, q1, c1, f1, rfl, hF, hB1, hB2⟩ := hw
  have e9 := e9.symm
  subst e9
  have hP : va_P (g.1, g.2.1) vwCl (gb_ws g σ ++ ([(h, .inr (11, [.ref (q1), .int 0, .int 0, .int (nI ((jgT x i ++ [103])).length)])), (q1, .inl (g.2.2.2.2.1, c1, .inl (f1)))] : va_W)) H := hP
  have hD : va_D A (gb_ws g σ ++ ([(h, .inr (11, [.ref (q1), .int 0, .int 0, .int (nI ((jgT x i ++ [103])).length)])), (q1, .inl (g.2.2.2.2.1, c1, .inl (f1)))] : va_W)) := hD
  refine lv_iload hx hb dL_law_37 (lv_at hl 0 rfl) ?_
  refine j_r (mc := 1) (ms := 502) (wr := gb_ws g σ) (wc := ([(h, .inr (11, [.ref (q1), .int 0, .int 0, .int (nI ((jgT x i ++ [103])).length)])), (q1, .inl (g.2.2.2.2.1, c1, .inl (f1)))] : va_W)) (va_runV (As := [.int (nI i)]) (rest := []) ⟨hx, hb, hml, hown, hts⟩ (n_J4_append_bf812 l g t1 t2 h q1 c1 f1 ((jgT x i ++ [103])) (i) hF hB1 hB2 (by first | omega | (simp only [List.length_append, List.length_cons, List.length_nil, dN_len]; omega)) (by omega) _) (cwV 1 hts gd_RL_80 rfl rfl rfl ⟨rfl, by decide +kernel, by decide +kernel, by decide +kernel⟩ ⟨Nat.le_of_ble_eq_true rfl, Nat.le_of_ble_eq_true rfl⟩) (jm_V (g := g) (jX_0 t1 t2) hK hC hS (P_r hP) (D_r hD) hA (va_recv hK (P_r hP) (ci := 11) (q0 := 0) rfl rfl)) rfl rfl hl.1 rfl (lv_room (Nat.le_of_ble_eq_true rfl)) dL_law_39 ⟨by show _ ≤ 600130; omega, by show _ ≤ 7301080; omega⟩) hP hD hS hA (fun r1 w1 H locs hw hP hD hS => ?_)
  obtain ⟨e9, q1, c1, f1, rfl, hF, hB1, hB2⟩ := hw
  have e9 := e9.symm
  subst e9
  have hP : va_P (g.1, g.2.1) vwCl (gb_ws g σ ++ ([(h, .inr (11, [.ref (q1), .int 0, .int 0, .int (nI (((jgT x i ++ [103]) ++ dN (i))).length)])), (q1, .inl (g.2.2.2.2.1, c1, .inl (f1)))] : va_W)) H := hP
  have hD : va_D A (gb_ws g σ ++ ([(h, .inr (11, [.ref (q1), .int 0, .int 0, .int (nI (((jgT x i ++ [103]) ++ dN (i))).length)])), (q1, .inl (g.2.2.2.2.1, c1, .inl (f1)))] : va_W)) := hD
  refine lv_bipush (v := 119) hx hb dL_law_42 (by decide) ?_
  refine W.eq (g2 := F0 m 44 ls [.int (nI 119), .ref (h)]) (by rw [show (119 : Int32) = nI 119 from rfl]) ?_
  refine j_r (mc := 1) (ms := 502) (wr := gb_ws g σ) (wc := ([(h, .inr (11, [.ref (q1), .int 0, .int 0, .int (nI (((jgT x i ++ [103]) ++ dN (i))).length)])), (q1, .inl (g.2.2.2.2.1, c1, .inl (f1)))] : va_W)) (va_runV (As := [.int (nI 119)]) (rest := []) ⟨hx, hb, hml, hown, hts⟩ (n_J4_append_cf468 l g t1 t2 h q1 c1 f1 (((jgT x i ++ [103]) ++ dN (i))) 119 hF hB1 hB2 (by first | omega | (simp only [List.length_append, List.length_cons, List.length_nil, dN_len]; omega)) (by omega) _) (cwV 1 hts gd_RL_76 rfl rfl rfl ⟨rfl, by decide +kernel, by decide +kernel, by decide +kernel⟩ ⟨Nat.le_of_ble_eq_true rfl, Nat.le_of_ble_eq_true rfl⟩) (jm_V (g := g) (jX_0 t1 t2) hK hC hS (P_r hP) (D_r hD) hA (va_recv hK (P_r hP) (ci := 11) (q0 := 0) rfl rfl)) rfl rfl hl.1 rfl (lv_room (Nat.le_of_ble_eq_true rfl)) dL_law_44 ⟨by show _ ≤ 600130; omega, by show _ ≤ 7301080; omega⟩) hP hD hS hA (fun r1 w1 H locs hw hP hD hS => ?_)
  obtain ⟨e9, q1, c1, f1, rfl, hF, hB1, hB2⟩ := hw
  have e9 := e9.symm
  subst e9
  have hP : va_P (g.1, g.2.1) vwCl (gb_ws g σ ++ ([(h, .inr (11, [.ref (q1), .int 0, .int 0, .int (nI ((((jgT x i ++ [103]) ++ dN (i)) ++ [119])).length)])), (q1, .inl (g.2.2.2.2.1, c1, .inl (f1)))] : va_W)) H := hP
  have hD : va_D A (gb_ws g σ ++ ([(h, .inr (11, [.ref (q1), .int 0, .int 0, .int (nI ((((jgT x i ++ [103]) ++ dN (i)) ++ [119])).length)])), (q1, .inl (g.2.2.2.2.1, c1, .inl (f1)))] : va_W)) := hD
  refine lv_bipush (v := 10) hx hb dL_law_47 (by decide) ?_
  refine lv_iload_n hx hb dL_law_49 rfl (lv_at hl 2 rfl) ?_
  refine lv_iconst (v := 3) hx hb dL_law_50 (by decide) ?_
  refine lv_iload hx hb dL_law_51 (lv_at hl 0 rfl) ?_
  refine lv_imul hx hb dL_law_53 ?_
  refine lv_iushr (v := jv (x) ((3) * (nI i))) hx hb dL_law_54 rfl ?_
  refine lv_bipush (v := 63) hx hb dL_law_55 (by decide) ?_
  refine lv_iand hx hb dL_law_57 ?_
  refine W.eq (g2 := F0 m 58 ls [.int (nI (jb x (3 * nI i) 6)), .int (10), .ref (h)]) (by rw [show ((jv (x) ((3) * (nI i))) &&& (63) : Int32) = nI (jb x (3 * nI i) 6) from jb_and _ _ _ _ (by decide)]) ?_
  refine lv_iadd hx hb dL_law_58 ?_
  refine W.eq (g2 := F0 m 59 ls [.int (nI (jw x i)), .ref (h)]) (by rw [show ((10) + (nI (jb x (3 * nI i) 6)) : Int32) = nI (jw x i) from nI_add 10 _]) ?_
  refine j_r (mc := 1) (ms := 502) (wr := gb_ws g σ) (wc := ([(h, .inr (11, [.ref (q1), .int 0, .int 0, .int (nI ((((jgT x i ++ [103]) ++ dN (i)) ++ [119])).length)])), (q1, .inl (g.2.2.2.2.1, c1, .inl (f1)))] : va_W)) (va_runV (As := [.int (nI (jw x i))]) (rest := []) ⟨hx, hb, hml, hown, hts⟩ (n_J4_append_bf812 l g t1 t2 h q1 c1 f1 ((((jgT x i ++ [103]) ++ dN (i)) ++ [119])) (jw x i) hF hB1 hB2 (by first | omega | (simp only [List.length_append, List.length_cons, List.length_nil, dN_len]; omega)) (jw_lt x i) _) (cwV 1 hts gd_RL_80 rfl rfl rfl ⟨rfl, by decide +kernel, by decide +kernel, by decide +kernel⟩ ⟨Nat.le_of_ble_eq_true rfl, Nat.le_of_ble_eq_true rfl⟩) (jm_V (g := g) (jX_0 t1 t2) hK hC hS (P_r hP) (D_r hD) hA (va_recv hK (P_r hP) (ci := 11) (q0 := 0) rfl rfl)) rfl rfl hl.1 rfl (lv_room (Nat.le_of_ble_eq_true rfl)) dL_law_59 ⟨by show _ ≤ 600130; omega, by show _ ≤ 7301080; omega⟩) hP hD hS hA (fun r1 w1 H locs hw hP hD hS => ?_)
  obtain ⟨e9, q1, c1, f1, rfl, hF, hB1, hB2⟩ := hw
  have e9 := e9.symm
  subst e9
  have hP : va_P (g.1, g.2.1) vwCl (gb_ws g σ ++ ([(h, .inr (11, [.ref (q1), .int 0, .int 0, .int (nI (((((jgT x i ++ [103]) ++ dN (i)) ++ [119]) ++ dN (jw x i))).length)])), (q1, .inl (g.2.2.2.2.1, c1, .inl (f1)))] : va_W)) H := hP
  have hD : va_D A (gb_ws g σ ++ ([(h, .inr (11, [.ref (q1), .int 0, .int 0, .int (nI (((((jgT x i ++ [103]) ++ dN (i)) ++ [119]) ++ dN (jw x i))).length)])), (q1, .inl (g.2.2.2.2.1, c1, .inl (f1)))] : va_W)) := hD
  refine lv_bipush (v := 107) hx hb dL_law_62 (by decide) ?_
  refine W.eq (g2 := F0 m 64 ls [.int (nI 107), .ref (h)]) (by rw [show (107 : Int32) = nI 107 from rfl]) ?_
  refine j_r (mc := 1) (ms := 502) (wr := gb_ws g σ) (wc := ([(h, .inr (11, [.ref (q1), .int 0, .int 0, .int (nI (((((jgT x i ++ [103]) ++ dN (i)) ++ [119]) ++ dN (jw x i))).length)])), (q1, .inl (g.2.2.2.2.1, c1, .inl (f1)))] : va_W)) (va_runV (As := [.int (nI 107)]) (rest := []) ⟨hx, hb, hml, hown, hts⟩ (n_J4_append_cf468 l g t1 t2 h q1 c1 f1 (((((jgT x i ++ [103]) ++ dN (i)) ++ [119]) ++ dN (jw x i))) 107 hF hB1 hB2 (by first | omega | (simp only [List.length_append, List.length_cons, List.length_nil, dN_len]; omega)) (by omega) _) (cwV 1 hts gd_RL_76 rfl rfl rfl ⟨rfl, by decide +kernel, by decide +kernel, by decide +kernel⟩ ⟨Nat.le_of_ble_eq_true rfl, Nat.le_of_ble_eq_true rfl⟩) (jm_V (g := g) (jX_0 t1 t2) hK hC hS (P_r hP) (D_r hD) hA (va_recv hK (P_r hP) (ci := 11) (q0 := 0) rfl rfl)) rfl rfl hl.1 rfl (lv_room (Nat.le_of_ble_eq_true rfl)) dL_law_64 ⟨by show _ ≤ 600130; omega, by show _ ≤ 7301080; omega⟩) hP hD hS hA (fun r1 w1 H locs hw hP hD hS => ?_)
  obtain ⟨e9, q1, c1, f1, rfl, hF, hB1, hB2⟩ := hw
  have e9 := e9.symm
  subst e9
  have hP : va_P (g.1, g.2.1) vwCl (gb_ws g σ ++ ([(h, .inr (11, [.ref (q1), .int 0, .int 0, .int (nI ((((((jgT x i ++ [103]) ++ dN (i)) ++ [119]) ++ dN (jw x i)) ++ [107])).length)])), (q1, .inl (g.2.2.2.2.1, c1, .inl (f1)))] : va_W)) H := hP
  have hD : va_D A (gb_ws g σ ++ ([(h, .inr (11, [.ref (q1), .int 0, .int 0, .int (nI ((((((jgT x i ++ [103]) ++ dN (i)) ++ [119]) ++ dN (jw x i)) ++ [107])).length)])), (q1, .inl (g.2.2.2.2.1, c1, .inl (f1)))] : va_W)) := hD
  refine lv_iload_n hx hb dL_law_67 rfl (lv_at hl 2 rfl) ?_
  refine lv_iconst (v := 2) hx hb dL_law_68 (by decide) ?_
  refine lv_iload hx hb dL_law_69 (lv_at hl 0 rfl) ?_
  refine lv_imul hx hb dL_law_71 ?_
  refine lv_iconst (v := 5) hx hb dL_law_72 (by decide) ?_
  refine lv_iadd hx hb dL_law_73 ?_
  refine lv_iushr (v := jv (x) (((2) * (nI i)) + (5))) hx hb dL_law_74 rfl ?_
  refine lv_bipush (v := 15) hx hb dL_law_75 (by decide) ?_
  refine lv_iand hx hb dL_law_77 ?_
  refine W.eq (g2 := F0 m 78 ls [.int (nI (jk x i)), .ref (h)]) (by rw [show ((jv (x) (((2) * (nI i)) + (5))) &&& (15) : Int32) = nI (jk x i) from jb_and _ _ _ _ (by decide)]) ?_
  refine j_r (mc := 1) (ms := 502) (wr := gb_ws g σ) (wc := ([(h, .inr (11, [.ref (q1), .int 0, .int 0, .int (nI ((((((jgT x i ++ [103]) ++ dN (i)) ++ [119]) ++ dN (jw x i)) ++ [107])).length)])), (q1, .inl (g.2.2.2.2.1, c1, .inl (f1)))] : va_W)) (va_runV (As := [.int (nI (jk x i))]) (rest := []) ⟨hx, hb, hml, hown, hts⟩ (n_J4_append_bf812 l g t1 t2 h q1 c1 f1 ((((((jgT x i ++ [103]) ++ dN (i)) ++ [119]) ++ dN (jw x i)) ++ [107])) (jk x i) hF hB1 hB2 (by first | omega | (simp only [List.length_append, List.length_cons, List.length_nil, dN_len]; omega)) (jk_lt x i) _) (cwV 1 hts gd_RL_80 rfl rfl rfl ⟨rfl, by decide +kernel, by decide +kernel, by decide +kernel⟩ ⟨Nat.le_of_ble_eq_true rfl, Nat.le_of_ble_eq_true rfl⟩) (jm_V (g := g) (jX_0 t1 t2) hK hC hS (P_r hP) (D_r hD) hA (va_recv hK (P_r hP) (ci := 11) (q0 := 0) rfl rfl)) rfl rfl hl.1 rfl (lv_room (Nat.le_of_ble_eq_true rfl)) dL_law_78 ⟨by show _ ≤ 600130; omega, by show _ ≤ 7301080; omega⟩) hP hD hS hA (fun r1 w1 H locs hw hP hD hS => ?_)
  obtain ⟨e9, q1, c1, f1, rfl, hF, hB1, hB2⟩ := hw
  have e9 := e9.symm
  subst e9
  have hP : va_P (g.1, g.2.1) vwCl (gb_ws g σ ++ ([(h, .inr (11, [.ref (q1), .int 0, .int 0, .int (nI (((((((jgT x i ++ [103]) ++ dN (i)) ++ [119]) ++ dN (jw x i)) ++ [107]) ++ dN (jk x i))).length)])), (q1, .inl (g.2.2.2.2.1, c1, .inl (f1)))] : va_W)) H := hP
  have hD : va_D A (gb_ws g σ ++ ([(h, .inr (11, [.ref (q1), .int 0, .int 0, .int (nI (((((((jgT x i ++ [103]) ++ dN (i)) ++ [119]) ++ dN (jw x i)) ++ [107]) ++ dN (jk x i))).length)])), (q1, .inl (g.2.2.2.2.1, c1, .inl (f1)))] : va_W)) := hD
  refine lv_bipush (v := 59) hx hb dL_law_81 (by decide) ?_
  refine W.eq (g2 := F0 m 83 ls [.int (nI 59), .ref (h)]) (by rw [show (59 : Int32) = nI 59 from rfl]) ?_
  refine j_r (mc := 1) (ms := 502) (wr := gb_ws g σ) (wc := ([(h, .inr (11, [.ref (q1), .int 0, .int 0, .int (nI (((((((jgT x i ++ [103]) ++ dN (i)) ++ [119]) ++ dN (jw x i)) ++ [107]) ++ dN (jk x i))).length)])), (q1, .inl (g.2.2.2.2.1, c1, .inl (f1)))] : va_W)) (va_runV (As := [.int (nI 59)]) (rest := []) ⟨hx, hb, hml, hown, hts⟩ (n_J4_append_cf468 l g t1 t2 h q1 c1 f1 (((((((jgT x i ++ [103]) ++ dN (i)) ++ [119]) ++ dN (jw x i)) ++ [107]) ++ dN (jk x i))) 59 hF hB1 hB2 (by first | omega | (simp only [List.length_append, List.length_cons, List.length_nil, dN_len]; omega)) (by omega) _) (cwV 1 hts gd_RL_76 rfl rfl rfl ⟨rfl, by decide +kernel, by decide +kernel, by decide +kernel⟩ ⟨Nat.le_of_ble_eq_true rfl, Nat.le_of_ble_eq_true rfl⟩) (jm_V (g := g) (jX_0 t1 t2) hK hC hS (P_r hP) (D_r hD) hA (va_recv hK (P_r hP) (ci := 11) (q0 := 0) rfl rfl)) rfl rfl hl.1 rfl (lv_room (Nat.le_of_ble_eq_true rfl)) dL_law_83 ⟨by show _ ≤ 600130; omega, by show _ ≤ 7301080; omega⟩) hP hD hS hA (fun r1 w1 H locs hw hP hD hS => ?_)
  obtain ⟨e9, q1, c1, f1, rfl, hF, hB1, hB2⟩ := hw
  have e9 := e9.symm
  subst e9
  have hP : va_P (g.1, g.2.1) vwCl (gb_ws g σ ++ ([(h, .inr (11, [.ref (q1), .int 0, .int 0, .int (nI ((((((((jgT x i ++ [103]) ++ dN (i)) ++ [119]) ++ dN (jw x i)) ++ [107]) ++ dN (jk x i)) ++ [59])).length)])), (q1, .inl (g.2.2.2.2.1, c1, .inl (f1)))] : va_W)) H := hP
  have hD : va_D A (gb_ws g σ ++ ([(h, .inr (11, [.ref (q1), .int 0, .int 0, .int (nI ((((((((jgT x i ++ [103]) ++ dN (i)) ++ [119]) ++ dN (jw x i)) ++ [107]) ++ dN (jk x i)) ++ [59])).length)])), (q1, .inl (g.2.2.2.2.1, c1, .inl (f1)))] : va_W)) := hD
  refine lv_pop hx hb dL_law_86 rfl ?_
  refine lv_iinc (v := nI (i + 1)) (lv' := [(4, .int (nI (i + 1))), (3, .ref (h)), (2, .int (x)), (1, .ref (g.2.2.1 0 0)), (0, .ref (b))]) hx hb dL_law_87 hl (k := 0) rfl ((nI_succ i).symm) (by decide) rfl (fun ls hl => ?_)
  refine lv_goto (tgt := 25) hx hb dL_law_90 (by decide) ?_
  refine k H locs ls _ _ ?_ ?_ (lv_sub hl [0, 1, 2, 3, 4] rfl) ⟨q1, c1, f1, hP, hD, hS, hF, hB1, hB2⟩
  · omega
  · omega
set_option maxHeartbeats 4000000 in
theorem lw_b2 {p : Program} {l : Launch} {e : Env} {s : State} {m : MethodId} {below : List Frame} {meth : Method} {c : Code} {g : gb_G} {A : Nat → Prop} {b L t1 t2 : Nat} {xs : Nat → Int32} {Q : State → Prop} (X : jLw p s m c g A b L xs t1 t2) {h : Nat} {x : Int32} {H : Heap} {locs : List Loc} {cells slots : Nat} {ls : Array Slot} (hl : lv_has ls 20 [(4, .int (nI 4)), (3, .ref h), (2, .int x), (1, .ref (g.2.2.1 0 0)), (0, .ref b)]) (k : ∀ ls : Array Slot, lv_has ls 20 [(4, .int (0)), (3, .ref h), (2, .int x), (1, .ref (g.2.2.1 0 0)), (0, .ref b)] → W p l e room_1 s m #[Value.ref b] below meth c H locs cells slots Q (F0 m 96 ls [])) : W p l e room_1 s m #[Value.ref b] below meth c H locs cells slots Q (F0 m 25 ls []) := by
  obtain ⟨hx, hb, hml, hown, hts, hK, hA, hC, hX, hbA, hbl⟩ := id X
  refine lv_iload hx hb dL_law_25 (lv_at hl 0 rfl) ?_
  refine lv_iconst (v := 4) hx hb dL_law_27 (by decide) ?_
  refine lv_icmp_ge (tgt := 93) hx hb dL_law_28 (by decide) (fun _ => ?_) (fun c9 => absurd (nI_le (Nat.le_refl 4) (by omega)) c9)
  refine lv_iconst (v := 0) hx hb dL_law_93 (by decide) ?_
  refine lv_istore (lv' := [(4, .int (0)), (3, .ref (h)), (2, .int (x)), (1, .ref (g.2.2.1 0 0)), (0, .ref (b))]) hx hb dL_law_94 hl (by decide) rfl (fun ls hl => ?_)
  exact k ls (lv_sub hl [0, 1, 2, 3, 4] rfl)
set_option maxHeartbeats 4000000 in
theorem lw_c {p : Program} {l : Launch} {e : Env} {s : State} {m : MethodId} {below : List Frame} {meth : Method} {c : Code} {g : gb_G} {A : Nat → Prop} {b L t1 t2 : Nat} {xs : Nat → Int32} {Q : State → Prop} (X : jLw p s m c g A b L xs t1 t2)  {h i : Nat} {x : Int32} {σ : gb_M} {H : Heap} {locs : List Loc} {cells slots : Nat} {ls : Array Slot} (hc : cells + 5 ≤ 600130 ∧ slots + 2510 ≤ 7301080) (hl : lv_has ls 20 [(4, .int (nI i)), (3, .ref h), (2, .int x), (1, .ref (g.2.2.1 0 0)), (0, .ref b)]) (hJ : jst g A s σ h (jbT x i) H locs) (k : ∀ (H : Heap) (locs : List Loc) (ls : Array Slot) (cells1 slots1 : Nat), cells1 ≤ cells + 5 → slots1 ≤ slots + 2510 → lv_has ls 20 [(4, .int (nI (i + 1))), (3, .ref h), (2, .int x), (1, .ref (g.2.2.1 0 0)), (0, .ref b)] → jst g A s σ h (jbT x (i + 1)) H locs → W p l e room_1 s m #[Value.ref b] below meth c H locs cells1 slots1 Q (F0 m 96 ls [])) (hi : i < 6) : W p l e room_1 s m #[Value.ref b] below meth c H locs cells slots Q (F0 m 96 ls []) := by
  obtain ⟨hx, hb, hml, hown, hts, hK, hA, hC, hX, hbA, hbl⟩ := id X
  obtain ⟨q1, c1, f1, hP, hD, hS, hF, hB1, hB2⟩ := hJ
  have hlen := jbT_len x i (by omega)
  have d1 := jdl_le i
  have d2 := jdl_le (jc x i)
  refine lv_iload hx hb dL_law_96 (lv_at hl 0 rfl) ?_
  refine lv_bipush (v := 6) hx hb dL_law_98 (by decide) ?_
  refine lv_icmp_ge (tgt := 146) hx hb dL_law_100 (by decide) (fun c9 => absurd c9 (show ¬ nI 6 ≤ nI i from nI_ge (by omega) (by omega))) (fun _ => ?_)
  refine lv_aload_n hx hb dL_law_103 rfl (lv_at hl 1 rfl) ?_
  refine lv_bipush (v := 98) hx hb dL_law_104 (by decide) ?_
  refine W.eq (g2 := F0 m 106 ls [.int (nI 98), .ref (h)]) (by rw [show (98 : Int32) = nI 98 from rfl]) ?_
  refine j_r (mc := 1) (ms := 502) (wr := gb_ws g σ) (wc := ([(h, .inr (11, [.ref (q1), .int 0, .int 0, .int (nI (jbT x i).length)])), (q1, .inl (g.2.2.2.2.1, c1, .inl (f1)))] : va_W)) (va_runV (As := [.int (nI 98)]) (rest := []) ⟨hx, hb, hml, hown, hts⟩ (n_J4_append_cf468 l g t1 t2 h q1 c1 f1 (jbT x i) 98 hF hB1 hB2 (by first | omega | (simp only [List.length_append, List.length_cons, List.length_nil, dN_len]; omega)) (by omega) _) (cwV 1 hts gd_RL_76 rfl rfl rfl ⟨rfl, by decide +kernel, by decide +kernel, by decide +kernel⟩ ⟨Nat.le_of_ble_eq_true rfl, Nat.le_of_ble_eq_true rfl⟩) (jm_V (g := g) (jX_0 t1 t2) hK hC hS (P_r hP) (D_r hD) hA (va_recv hK (P_r hP) (ci := 11) (q0 := 0) rfl rfl)) rfl rfl hl.1 rfl (lv_room (Nat.le_of_ble_eq_true rfl)) dL_law_106 ⟨by show _ ≤ 600130; omega, by show _ ≤ 7301080; omega⟩) hP hD hS hA (fun r1 w1 H locs hw hP hD hS => ?_)
  obtain ⟨e9, q1, c1, f1, rfl, hF, hB1, hB2⟩ := hw
  have e9 := e9.symm
  subst e9
  have hP : va_P (g.1, g.2.1) vwCl (gb_ws g σ ++ ([(h, .inr (11, [.ref (q1), .int 0, .int 0, .int (nI ((jbT x i ++ [98])).length)])), (q1, .inl (g.2.2.2.2.1, c1, .inl (f1)))] : va_W)) H := hP
  have hD : va_D A (gb_ws g σ ++ ([(h, .inr (11, [.ref (q1), .int 0, .int 0, .int (nI ((jbT x i ++ [98])).length)])), (q1, .inl (g.2.2.2.2.1, c1, .inl (f1)))] : va_W)) := hD
  refine lv_iload hx hb dL_law_109 (lv_at hl 0 rfl) ?_
  refine j_r (mc := 1) (ms := 502) (wr := gb_ws g σ) (wc := ([(h, .inr (11, [.ref (q1), .int 0, .int 0, .int (nI ((jbT x i ++ [98])).length)])), (q1, .inl (g.2.2.2.2.1, c1, .inl (f1)))] : va_W)) (va_runV (As := [.int (nI i)]) (rest := []) ⟨hx, hb, hml, hown, hts⟩ (n_J4_append_bf812 l g t1 t2 h q1 c1 f1 ((jbT x i ++ [98])) (i) hF hB1 hB2 (by first | omega | (simp only [List.length_append, List.length_cons, List.length_nil, dN_len]; omega)) (by omega) _) (cwV 1 hts gd_RL_80 rfl rfl rfl ⟨rfl, by decide +kernel, by decide +kernel, by decide +kernel⟩ ⟨Nat.le_of_ble_eq_true rfl, Nat.le_of_ble_eq_true rfl⟩) (jm_V (g := g) (jX_0 t1 t2) hK hC hS (P_r hP) (D_r hD) hA (va_recv hK (P_r hP) (ci := 11) (q0 := 0) rfl rfl)) rfl rfl hl.1 rfl (lv_room (Nat.le_of_ble_eq_true rfl)) dL_law_111 ⟨by show _ ≤ 600130; omega, by show _ ≤ 7301080; omega⟩) hP hD hS hA (fun r1 w1 H locs hw hP hD hS => ?_)
  obtain ⟨e9, q1, c1, f1, rfl, hF, hB1, hB2⟩ := hw
  have e9 := e9.symm
  subst e9
  have hP : va_P (g.1, g.2.1) vwCl (gb_ws g σ ++ ([(h, .inr (11, [.ref (q1), .int 0, .int 0, .int (nI (((jbT x i ++ [98]) ++ dN (i))).length)])), (q1, .inl (g.2.2.2.2.1, c1, .inl (f1)))] : va_W)) H := hP
  have hD : va_D A (gb_ws g σ ++ ([(h, .inr (11, [.ref (q1), .int 0, .int 0, .int (nI (((jbT x i ++ [98]) ++ dN (i))).length)])), (q1, .inl (g.2.2.2.2.1, c1, .inl (f1)))] : va_W)) := hD
  refine lv_bipush (v := 99) hx hb dL_law_114 (by decide) ?_
  refine W.eq (g2 := F0 m 116 ls [.int (nI 99), .ref (h)]) (by rw [show (99 : Int32) = nI 99 from rfl]) ?_
  refine j_r (mc := 1) (ms := 502) (wr := gb_ws g σ) (wc := ([(h, .inr (11, [.ref (q1), .int 0, .int 0, .int (nI (((jbT x i ++ [98]) ++ dN (i))).length)])), (q1, .inl (g.2.2.2.2.1, c1, .inl (f1)))] : va_W)) (va_runV (As := [.int (nI 99)]) (rest := []) ⟨hx, hb, hml, hown, hts⟩ (n_J4_append_cf468 l g t1 t2 h q1 c1 f1 (((jbT x i ++ [98]) ++ dN (i))) 99 hF hB1 hB2 (by first | omega | (simp only [List.length_append, List.length_cons, List.length_nil, dN_len]; omega)) (by omega) _) (cwV 1 hts gd_RL_76 rfl rfl rfl ⟨rfl, by decide +kernel, by decide +kernel, by decide +kernel⟩ ⟨Nat.le_of_ble_eq_true rfl, Nat.le_of_ble_eq_true rfl⟩) (jm_V (g := g) (jX_0 t1 t2) hK hC hS (P_r hP) (D_r hD) hA (va_recv hK (P_r hP) (ci := 11) (q0 := 0) rfl rfl)) rfl rfl hl.1 rfl (lv_room (Nat.le_of_ble_eq_true rfl)) dL_law_116 ⟨by show _ ≤ 600130; omega, by show _ ≤ 7301080; omega⟩) hP hD hS hA (fun r1 w1 H locs hw hP hD hS => ?_)
  obtain ⟨e9, q1, c1, f1, rfl, hF, hB1, hB2⟩ := hw
  have e9 := e9.symm
  subst e9
  have hP : va_P (g.1, g.2.1) vwCl (gb_ws g σ ++ ([(h, .inr (11, [.ref (q1), .int 0, .int 0, .int (nI ((((jbT x i ++ [98]) ++ dN (i)) ++ [99])).length)])), (q1, .inl (g.2.2.2.2.1, c1, .inl (f1)))] : va_W)) H := hP
  have hD : va_D A (gb_ws g σ ++ ([(h, .inr (11, [.ref (q1), .int 0, .int 0, .int (nI ((((jbT x i ++ [98]) ++ dN (i)) ++ [99])).length)])), (q1, .inl (g.2.2.2.2.1, c1, .inl (f1)))] : va_W)) := hD
  refine lv_bipush (v := 8) hx hb dL_law_119 (by decide) ?_
  refine lv_iload_n hx hb dL_law_121 rfl (lv_at hl 2 rfl) ?_
  refine lv_iconst (v := 2) hx hb dL_law_122 (by decide) ?_
  refine lv_iload hx hb dL_law_123 (lv_at hl 0 rfl) ?_
  refine lv_imul hx hb dL_law_125 ?_
  refine lv_iushr (v := jv (x) ((2) * (nI i))) hx hb dL_law_126 rfl ?_
  refine lv_bipush (v := 31) hx hb dL_law_127 (by decide) ?_
  refine lv_iand hx hb dL_law_129 ?_
  refine W.eq (g2 := F0 m 130 ls [.int (nI (jb x (2 * nI i) 5)), .int (8), .ref (h)]) (by rw [show ((jv (x) ((2) * (nI i))) &&& (31) : Int32) = nI (jb x (2 * nI i) 5) from jb_and _ _ _ _ (by decide)]) ?_
  refine lv_iadd hx hb dL_law_130 ?_
  refine W.eq (g2 := F0 m 131 ls [.int (nI (jc x i)), .ref (h)]) (by rw [show ((8) + (nI (jb x (2 * nI i) 5)) : Int32) = nI (jc x i) from nI_add 8 _]) ?_
  refine j_r (mc := 1) (ms := 502) (wr := gb_ws g σ) (wc := ([(h, .inr (11, [.ref (q1), .int 0, .int 0, .int (nI ((((jbT x i ++ [98]) ++ dN (i)) ++ [99])).length)])), (q1, .inl (g.2.2.2.2.1, c1, .inl (f1)))] : va_W)) (va_runV (As := [.int (nI (jc x i))]) (rest := []) ⟨hx, hb, hml, hown, hts⟩ (n_J4_append_bf812 l g t1 t2 h q1 c1 f1 ((((jbT x i ++ [98]) ++ dN (i)) ++ [99])) (jc x i) hF hB1 hB2 (by first | omega | (simp only [List.length_append, List.length_cons, List.length_nil, dN_len]; omega)) (jc_lt x i) _) (cwV 1 hts gd_RL_80 rfl rfl rfl ⟨rfl, by decide +kernel, by decide +kernel, by decide +kernel⟩ ⟨Nat.le_of_ble_eq_true rfl, Nat.le_of_ble_eq_true rfl⟩) (jm_V (g := g) (jX_0 t1 t2) hK hC hS (P_r hP) (D_r hD) hA (va_recv hK (P_r hP) (ci := 11) (q0 := 0) rfl rfl)) rfl rfl hl.1 rfl (lv_room (Nat.le_of_ble_eq_true rfl)) dL_law_131 ⟨by show _ ≤ 600130; omega, by show _ ≤ 7301080; omega⟩) hP hD hS hA (fun r1 w1 H locs hw hP hD hS => ?_)
  obtain ⟨e9, q1, c1, f1, rfl, hF, hB1, hB2⟩ := hw
  have e9 := e9.symm
  subst e9
  have hP : va_P (g.1, g.2.1) vwCl (gb_ws g σ ++ ([(h, .inr (11, [.ref (q1), .int 0, .int 0, .int (nI (((((jbT x i ++ [98]) ++ dN (i)) ++ [99]) ++ dN (jc x i))).length)])), (q1, .inl (g.2.2.2.2.1, c1, .inl (f1)))] : va_W)) H := hP
  have hD : va_D A (gb_ws g σ ++ ([(h, .inr (11, [.ref (q1), .int 0, .int 0, .int (nI (((((jbT x i ++ [98]) ++ dN (i)) ++ [99]) ++ dN (jc x i))).length)])), (q1, .inl (g.2.2.2.2.1, c1, .inl (f1)))] : va_W)) := hD
  refine lv_bipush (v := 59) hx hb dL_law_134 (by decide) ?_
  refine W.eq (g2 := F0 m 136 ls [.int (nI 59), .ref (h)]) (by rw [show (59 : Int32) = nI 59 from rfl]) ?_
  refine j_r (mc := 1) (ms := 502) (wr := gb_ws g σ) (wc := ([(h, .inr (11, [.ref (q1), .int 0, .int 0, .int (nI (((((jbT x i ++ [98]) ++ dN (i)) ++ [99]) ++ dN (jc x i))).length)])), (q1, .inl (g.2.2.2.2.1, c1, .inl (f1)))] : va_W)) (va_runV (As := [.int (nI 59)]) (rest := []) ⟨hx, hb, hml, hown, hts⟩ (n_J4_append_cf468 l g t1 t2 h q1 c1 f1 (((((jbT x i ++ [98]) ++ dN (i)) ++ [99]) ++ dN (jc x i))) 59 hF hB1 hB2 (by first | omega | (simp only [List.length_append, List.length_cons, List.length_nil, dN_len]; omega)) (by omega) _) (cwV 1 hts gd_RL_76 rfl rfl rfl ⟨rfl, by decide +kernel, by decide +kernel, by decide +kernel⟩ ⟨Nat.le_of_ble_eq_true rfl, Nat.le_of_ble_eq_true rfl⟩) (jm_V (g := g) (jX_0 t1 t2) hK hC hS (P_r hP) (D_r hD) hA (va_recv hK (P_r hP) (ci := 11) (q0 := 0) rfl rfl)) rfl rfl hl.1 rfl (lv_room (Nat.le_of_ble_eq_true rfl)) dL_law_136 ⟨by show _ ≤ 600130; omega, by show _ ≤ 7301080; omega⟩) hP hD hS hA (fun r1 w1 H locs hw hP hD hS => ?_)
  obtain ⟨e9, q1, c1, f1, rfl, hF, hB1, hB2⟩ := hw
  have e9 := e9.symm
  subst e9
  have hP : va_P (g.1, g.2.1) vwCl (gb_ws g σ ++ ([(h, .inr (11, [.ref (q1), .int 0, .int 0, .int (nI ((((((jbT x i ++ [98]) ++ dN (i)) ++ [99]) ++ dN (jc x i)) ++ [59])).length)])), (q1, .inl (g.2.2.2.2.1, c1, .inl (f1)))] : va_W)) H := hP
  have hD : va_D A (gb_ws g σ ++ ([(h, .inr (11, [.ref (q1), .int 0, .int 0, .int (nI ((((((jbT x i ++ [98]) ++ dN (i)) ++ [99]) ++ dN (jc x i)) ++ [59])).length)])), (q1, .inl (g.2.2.2.2.1, c1, .inl (f1)))] : va_W)) := hD
  refine lv_pop hx hb dL_law_139 rfl ?_
  refine lv_iinc (v := nI (i + 1)) (lv' := [(4, .int (nI (i + 1))), (3, .ref (h)), (2, .int (x)), (1, .ref (g.2.2.1 0 0)), (0, .ref (b))]) hx hb dL_law_140 hl (k := 0) rfl ((nI_succ i).symm) (by decide) rfl (fun ls hl => ?_)
  refine lv_goto (tgt := 96) hx hb dL_law_143 (by decide) ?_
  refine k H locs ls _ _ ?_ ?_ (lv_sub hl [0, 1, 2, 3, 4] rfl) ⟨q1, c1, f1, hP, hD, hS, hF, hB1, hB2⟩
  · omega
  · omega
set_option maxHeartbeats 4000000 in
theorem lw_c2 {p : Program} {l : Launch} {e : Env} {s : State} {m : MethodId} {below : List Frame} {meth : Method} {c : Code} {g : gb_G} {A : Nat → Prop} {b L t1 t2 : Nat} {xs : Nat → Int32} {Q : State → Prop} (X : jLw p s m c g A b L xs t1 t2) {h : Nat} {x : Int32} {H : Heap} {locs : List Loc} {cells slots : Nat} {ls : Array Slot} (hl : lv_has ls 20 [(4, .int (nI 6)), (3, .ref h), (2, .int x), (1, .ref (g.2.2.1 0 0)), (0, .ref b)]) (k : ∀ ls : Array Slot, lv_has ls 20 [(4, .int (nI 6)), (3, .ref h), (2, .int x), (1, .ref (g.2.2.1 0 0)), (0, .ref b)] → W p l e room_1 s m #[Value.ref b] below meth c H locs cells slots Q (F0 m 146 ls [])) : W p l e room_1 s m #[Value.ref b] below meth c H locs cells slots Q (F0 m 96 ls []) := by
  obtain ⟨hx, hb, hml, hown, hts, hK, hA, hC, hX, hbA, hbl⟩ := id X
  refine lv_iload hx hb dL_law_96 (lv_at hl 0 rfl) ?_
  refine lv_bipush (v := 6) hx hb dL_law_98 (by decide) ?_
  refine lv_icmp_ge (tgt := 146) hx hb dL_law_100 (by decide) (fun _ => ?_) (fun c9 => absurd (nI_le (Nat.le_refl 6) (by omega)) c9)
  exact k ls (lv_sub hl [0, 1, 2, 3, 4] rfl)
