/-! ROW: the law's case -/
theorem All_36 {σ σ' : gb_M} {A : gb_Ab} (f : gb_fP (fun k => 36 ≤ k) σ σ') (hM : MC σ' A) (h : gb_All σ A) : gb_All σ' A := ⟨CC_fP f (fun k hk => by omega) h.1, hM, fun b hb => by rw [f.1 31 0 b (by omega)]; exact h.2.2.1 b hb, h.2.2.2⟩
theorem i_nlt {a b : Int32} (h : a < b) : ¬ b ≤ a := by
  rw [Int32.lt_iff_toInt_lt] at h
  rw [Int32.le_iff_toInt_le]
  omega
/-- what the reference answers where the class has answered -/
theorem row_ok {σ : gb_M} {A : gb_Ab} (hA : gb_All σ A) {a : Int32} (c1 : ¬ a < 0) (c2 : a < σ.1 21 0 1) : ∃ σ2, f_X10_row [gR 36 0, gI a] (gb_sl σ 54 0 0 (σ.2 22 0 a.toNatClampNeg)) = some (some (gL (σ.2 22 0 a.toNatClampNeg)), σ2) ∧ gb_All σ2 A ∧ σ2.1 36 0 10 = 0 ∧ σ2.2 54 0 0 = σ.2 22 0 a.toNatClampNeg := by
  have hz := nZ_rz a
  have ea := nZ_of a
  by_cases h : 0 ≤ a.toInt ∧ a.toInt < A.2.2.2.2.length
  · have ei : a = nZ (a.toInt.toNat : Nat) := ea.trans (congrArg nZ (by omega))
    obtain ⟨-, -, r3, -, r5⟩ := c_row_t hA.1 (i := a.toInt.toNat) (by omega)
    rw [← ei] at r5
    have hA' := All_x (σ' := gb_sl σ 54 0 0 (σ.2 22 0 a.toNatClampNeg)) (fP_sl fP_rf rfl) hA
    obtain ⟨t1, t2, t3⟩ := m_row_t hA'.2.1 (i := a.toInt.toNat) (by omega)
    rw [← ei] at t1
    rw [r5, r3] at t1 t2 t3 hA' ⊢
    exact ⟨_, t1, All_36 (fP_si fP_rf (by omega)) t2 hA', t3, by rw [si_2, sl_s]⟩
  · have := c_row_f hA.1 hz h
    rw [← ea] at this
    rcases this with z | z
    · exact absurd z c1
    · exact absurd z.2 (i_nlt c2)
theorem row_no {σ : gb_M} {A : gb_Ab} (hA : gb_All σ A) {a : Int32} (c : a < 0 ∨ σ.1 21 0 1 ≤ a) : ∃ x σ2, f_X10_row [gR 36 0, gI a] σ = some (some (gL x), σ2) ∧ gb_All σ2 A ∧ σ2.1 36 0 10 = 1 := by
  have hz := nZ_rz a
  have ea := nZ_of a
  by_cases h : 0 ≤ a.toInt ∧ a.toInt < A.2.2.2.2.length
  · have ei : a = nZ (a.toInt.toNat : Nat) := ea.trans (congrArg nZ (by omega))
    obtain ⟨r1, r2, -, -, -⟩ := c_row_t hA.1 (i := a.toInt.toNat) (by omega)
    rw [← ei] at r1 r2
    rcases c with z | z
    · exact absurd z r1
    · exact absurd z (i_nlt r2)
  · obtain ⟨x, t1, t2, t3⟩ := m_row_f hA.2.1 hz h
    rw [← ea] at t1
    exact ⟨x, _, t1, All_36 (fP_si (fP_si fP_rf (by omega)) (by omega)) t2 hA, t3⟩
theorem xw_3 : (∀ w ∈ ([.methodLink RL 184 yL_row, .static yL_row, .initialized yL_row.cls, .codeWith yL_row cL_row 4 (some .int) [(0, 8, 11, 13)]] : List Cond), w ∈ gb_B) ∧ (∀ w ∈ ([.methodLink RL 189 yX10_row, .instanceMethod yX10_row, .selects RX10 yX10_row yX10_row, .initialized RX10, .code yX10_row cX10_row 2 (some .long)] : List Cond), w ∈ gb_B) ∧ ∀ w ∈ ([.methodLink RL 190 yX10_thrown, .instanceMethod yX10_thrown, .selects RX10 yX10_thrown yX10_thrown, .initialized RX10, .code yX10_thrown cX10_thrown 1 (some .int)] : List Cond), w ∈ gb_B := by
  have h1 : ∀ w ∈ ([.methodLink RL 184 yL_row, .static yL_row, .initialized yL_row.cls, .codeWith yL_row cL_row 4 (some .int) [(0, 8, 11, 13)]] : List Cond), w ∈ lw_tbl ∧ goodWord w = true := by decide +kernel
  have h2 : ∀ w ∈ ([.methodLink RL 189 yX10_row, .instanceMethod yX10_row, .selects RX10 yX10_row yX10_row, .initialized RX10, .code yX10_row cX10_row 2 (some .long)] : List Cond), w ∈ lw_tbl ∧ goodWord w = true := by decide +kernel
  have h3 : ∀ w ∈ ([.methodLink RL 190 yX10_thrown, .instanceMethod yX10_thrown, .selects RX10 yX10_thrown yX10_thrown, .initialized RX10, .code yX10_thrown cX10_thrown 1 (some .int)] : List Cond), w ∈ lw_tbl ∧ goodWord w = true := by decide +kernel
  exact ⟨fun w hw => List.mem_filter.mpr (h1 w hw), fun w hw => List.mem_filter.mpr (h2 w hw), fun w hw => List.mem_filter.mpr (h3 w hw)⟩
section C40
variable {p : Program} {l : Launch} {e : Env} {s : State} {m : MethodId} {below : List Frame} {meth : Method} {c : Code} {g : gb_G} {A : Nat → Prop} {cells slots b L : Nat} {xs : Nat → Int32} {Q : State → Prop}
/-- behind the class's answer -/
theorem lw_40b (X : gb_Lw p s m c g A cells slots b L xs) {i : Int32} {H : Heap} {locs : List Loc} {arr : Array Slot} {σ σ2 : gb_M} {A0 : gb_Ab} {r : Int32} {y : Int64} (hP : va_P (g.1, g.2.1) vwCl (gb_ws g σ) H) (hS : va_S A s.heap H locs) (hv : lv_has arr 8 (lw_l g b i)) (hks : ∀ k ∈ ([1, 2, 3] : List Int), vp_in (i + Int32.ofInt k) L)
    (hf : f_X10_row [gR 36 0, gI (lw_x xs i 1)] σ = some (some (gL y), σ2)) (hAll : gb_All σ2 A0) (ht : σ2.1 36 0 10 = r) (ho : r = 0 → σ2.2 54 0 0 = y)
    (hnext : ∀ (σ' : gb_M) (A' : gb_Ab) (H1 : Heap) (locs1 : List Loc) (arr1 : Array Slot), lv_has arr1 8 (lw_l g b i) → gb_All σ' A' → va_P (g.1, g.2.1) vwCl (gb_ws g σ') H1 → va_S A s.heap H1 locs1 → W p l e room_1 s m #[Value.ref b] below meth c H1 locs1 cells slots Q (F0 m 1331 arr1 [])) : W p l e room_1 s m #[Value.ref b] below meth c H locs cells slots Q (F0 m 1287 arr [.int r]) := by
  obtain ⟨hx, hb, hml, hown, hts, hK, hA, hD, hcs, hX, hbl, hbA⟩ := id X
  have d0 : decode code 1287 = .ok (.istore 5, 2) := by decide +kernel
  have d1 : decode code 1289 = .ok (.aload_n 2, 1) := by decide +kernel
  have d2 : dArgs code 1290 [1] := ⟨by decide +kernel, by decide +kernel, by decide +kernel, by decide +kernel, by decide +kernel, trivial⟩
  have d3 : decode code 1296 = .ok (.invokevirtual 189, 3) := by decide +kernel
  have d4 : decode code 1299 = .ok (.lstore 6, 2) := by decide +kernel
  have d5 : decode code 1301 = .ok (.aload_n 2, 1) := by decide +kernel
  have d6 : decode code 1302 = .ok (.invokevirtual 190, 3) := by decide +kernel
  have d7 : decode code 1305 = .ok (.iload 5, 2) := by decide +kernel
  have d8 : decode code 1307 = .ok (.if_icmp .eq 5, 3) := by decide +kernel
  have d9 : decode code 1312 = .ok (.iload 5, 2) := by decide +kernel
  have d10 : decode code 1314 = .ok (.ifCond .ne 14, 3) := by decide +kernel
  have d11 : decode code 1317 = .ok (.aload_n 3, 1) := by decide +kernel
  have d12 : decode code 1318 = .ok (.iconst 0, 1) := by decide +kernel
  have d13 : decode code 1319 = .ok (.laload, 1) := by decide +kernel
  have d14 : decode code 1320 = .ok (.lload 6, 2) := by decide +kernel
  have d15 : decode code 1322 = .ok (.lcmp, 1) := by decide +kernel
  have d16 : decode code 1323 = .ok (.ifCond .eq 5, 3) := by decide +kernel
  have d17 : decode code 1328 = .ok (.goto 3, 3) := by decide +kernel
  refine lv_istore (lv' := (5, .int r) :: lw_l g b i) hx hb d0 hv (by decide) rfl (fun arr hv => ?_)
  have hv1 : lv_has arr 8 (lw_l g b i) := lv_sub hv [1, 2, 3, 4, 5] rfl
  refine lv_aload_n hx hb d1 rfl (lv_at hv 4 rfl) ?_
  refine lw_args X hS hv1 [1] 1290 _ d2 (fun k hk => hks k (lw_in1 hk)) ?_
  refine lw_cv (g := g) (nL := 8) hx hb hml hown hts hK hA hD hcs c_X10_row (ci := 10) rfl xw_3.2.1 v_X10_row ⟨rfl, rfl⟩ ⟨Nat.le_of_ble_eq_true rfl, Nat.le_of_ble_eq_true rfl⟩ d3 (k := 36) (j := 0) ⟨by decide +kernel, by decide +kernel⟩ rfl (as := [gI (lw_x xs i 1)]) (fun v hv => by cases List.mem_singleton.mp hv; trivial) rfl (t := []) (Nat.zero_le _) hf hP hS hv rfl ?_ (Or.inr (Or.inr rfl))
  intro v σ' H1 locs1 he hk1 hP1 hS1
  obtain ⟨h1, rfl⟩ := Prod.mk.inj he
  cases h1
  refine lv_lstore (lv' := (6, .long y) :: (5, .int r) :: lw_l g b i) hx hb d4 hv (by decide) rfl (fun arr hv => ?_)
  refine lv_aload_n hx hb d5 rfl (lv_at hv 5 rfl) ?_
  refine lw_cv (g := g) (nL := 8) hx hb hml hown hts hK hA hD hcs c_X10_thrown (ci := 10) rfl xw_3.2.2 v_X10_thrown ⟨rfl, rfl⟩ ⟨Nat.le_of_ble_eq_true rfl, Nat.le_of_ble_eq_true rfl⟩ d6 (k := 36) (j := 0) ⟨by decide +kernel, by decide +kernel⟩ rfl (as := []) (fun v hv => by cases hv) rfl (t := []) (Nat.zero_le _) (e_X10_thrown σ2) hP1 hS1 hv rfl ?_ (Or.inl rfl)
  intro v σ3 H2 locs2 he2 hk2 hP2 hS2
  obtain ⟨h2, rfl⟩ := Prod.mk.inj he2
  cases h2
  have hv2 : lv_has arr 8 (lw_l g b i) := lv_sub hv [2, 3, 4, 5, 6] rfl
  have go : W p l e room_1 s m #[Value.ref b] below meth c H2 locs2 cells slots Q (F0 m 1328 arr []) := lv_goto (tgt := 1331) hx hb d17 (by decide) (hnext _ _ _ _ _ hv2 hAll hP2 hS2)
  refine lv_iload hx hb d7 (lv_at hv 1 rfl) ?_
  refine lv_icmp_eq (tgt := 1312) hx hb d8 (by decide) (fun _ => ?_) (fun z => absurd ht z)
  refine lv_iload hx hb d9 (lv_at hv 1 rfl) ?_
  refine lv_if_ne (tgt := 1328) hx hb d10 (by decide) (fun _ => go) (fun r0 => ?_)
  refine lv_aload_n hx hb d11 rfl (lv_at hv 6 rfl) ?_
  refine lv_iconst (v := 0) hx hb d12 (by decide) ?_
  refine lw_lald (k := 54) (j := 0) (a := 0) hx hb hK ⟨by decide +kernel, by decide +kernel⟩ rfl (by decide +kernel) hP2 d13 ?_
  refine lv_lload hx hb d14 (lv_at hv 0 rfl) ?_
  refine W.lcmp hx hb d15 ?_
  refine lv_if_eq (tgt := 1328) hx hb d16 (by decide) (fun _ => go) (fun z => absurd ((lg_cmp_eq _ _).mpr (ho r0)) z)
theorem lw_case_40 (X : gb_Lw p s m c g A cells slots b L xs) (X1 : gb_Lw p s m c g A (cells + 1) (slots + 6) b L xs) (hl0 : l.stackTraces = false) (hxw : gb_xw s) (hxs : gb_xs A s s.heap) {i : Int32} {H : Heap} {locs : List Loc} {arr : Array Slot} {σ : gb_M} {A0 : gb_Ab} (hP : va_P (g.1, g.2.1) vwCl (gb_ws g σ) H) (hS : va_S A s.heap H locs) (hv : lv_has arr 8 (lw_l g b i)) (hAll : gb_All σ A0) (hks : ∀ k ∈ ([1, 2, 3] : List Int), vp_in (i + Int32.ofInt k) L)
    (hnext : ∀ (σ' : gb_M) (A' : gb_Ab) (H1 : Heap) (locs1 : List Loc) (arr1 : Array Slot), lv_has arr1 8 (lw_l g b i) → gb_All σ' A' → va_P (g.1, g.2.1) vwCl (gb_ws g σ') H1 → va_S A s.heap H1 locs1 → W p l e room_1 s m #[Value.ref b] below meth c H1 locs1 (cells + 1) (slots + 6) Q (F0 m 1331 arr1 [])) : W p l e room_1 s m #[Value.ref b] below meth c H locs cells slots Q (F0 m 1276 arr []) := by
  obtain ⟨hx, hb, hml, hown, hts, hK, hA, hD, hcs, hX, hbl, hbA⟩ := id X
  have d1 : decode code 1276 = .ok (.aload_n 1, 1) := by decide +kernel
  have d2 : dArgs code 1277 [1] := ⟨by decide +kernel, by decide +kernel, by decide +kernel, by decide +kernel, by decide +kernel, trivial⟩
  have d3 : decode code 1283 = .ok (.aload_n 3, 1) := by decide +kernel
  have d4 : decode code 1284 = .ok (.invokestatic 184, 3) := by decide +kernel
  have h8 : σ.1 21 0 1 ≤ 8 := by
    obtain ⟨r1, r2, -⟩ := hAll.1.2.2.2.2
    rw [r1, z8, z_le ⟨by omega, by omega⟩ ⟨by omega, by omega⟩]; omega
  have hF : ∀ q, va_A (gb_ws g σ) H.size q → A q := gb_A_in (hD σ) hA hS.1
  have hG : GoodIn gb_B (va_wsS RL 184 yL_row (.codeWith yL_row cL_row 4 (some .int) [(0, 8, 11, 13)] :: gb_B)) := by
    intro w hw1
    rcases List.mem_append.mp hw1 with h1 | h1
    · exact gb_B_in w (xw_3.1 w (List.mem_append_left ([Cond.codeWith yL_row cL_row 4 (some .int) [(0, 8, 11, 13)]]) h1))
    · rcases List.mem_cons.mp h1 with rfl | h1
      · exact gb_B_in _ (xw_3.1 _ (List.mem_of_getElem? (i := 3) rfl))
      · exact gb_B_in w h1
  refine lv_aload_n hx hb d1 rfl (lv_at hv 2 rfl) ?_
  refine lw_args X hS hv [1] 1277 _ d2 (fun k hk => hks k (lw_in1 hk)) ?_
  refine lv_aload_n hx hb d3 rfl (lv_at hv 4 rfl) ?_
  refine vx_calli (a := ([.ref (g.2.2.1 0 0), .int (lw_x xs i 1), .ref (g.2.2.1 54 0)] : List Value).toArray) (vx_runSX (As := [.ref (g.2.2.1 0 0), .int (lw_x xs i 1), .ref (g.2.2.1 54 0)]) (rest := []) ⟨hx, hb, hml, hown, hts⟩ (c_L_row l hl0 g (lw_x xs i 1) σ H.size h8) (vx_cwSW 3 hts hG rfl rfl rfl ⟨by decide +kernel, by decide +kernel, by decide +kernel⟩ ⟨Nat.le_of_ble_eq_true rfl, Nat.le_of_ble_eq_true rfl⟩) ⟨gb_blX, fun U hU hW => ⟨rfl, by rw [hU], by rw [hU]; exact hP, va_K.moved hW.alike hK, (hD σ).weaken (fun _ _ _ _ => trivial), gb_xw.moved hW hxw, by rw [hU]; exact ((hxs.kept hS.2.1).moved hW.alike).narrow hF⟩⟩ rfl rfl hv.1 rfl (lv_room (Nat.le_of_ble_eq_true rfl)) d4 ⟨X1.2.2.2.2.2.2.2.2.1.1, X1.2.2.2.2.2.2.2.2.1.2⟩) hS (fun q _ h => hF q h) hF (fun q _ h => hF q h) ?_ ?_
  · intro E ce q9 u t H1 locs1 ht hvm hp
    exact hp.elim
  · intro r u t H1 locs1 ht hvm hp hB hge hkp hS1
    obtain ⟨hP1, -, -⟩ := hB
    rw [ht] at hP1
    rcases hp with ⟨rfl, c1, c2, rfl⟩ | ⟨rfl, c1, rfl⟩
    · obtain ⟨σ2, t1, t2, t3, t4⟩ := row_ok hAll c1 c2
      exact lw_40b X1 hP1 hS1 hv hks t1 t2 t3 (fun _ => t4) hnext
    · obtain ⟨x, σ2, t1, t2, t3⟩ := row_no hAll c1
      exact lw_40b X1 hP1 hS1 hv hks t1 t2 t3 (fun z => absurd z (by decide)) hnext
end C40
