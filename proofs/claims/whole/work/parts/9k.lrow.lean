/-! ROW: the law's method, that catches -/
section LST
variable {p : Program} {l : Launch} {e : Env} {R : Room} {s : State} {m : MethodId} {args : Array Value} {below : List Frame} {meth : Method} {c : Code} {g : gb_G} {A : Nat → Prop} {cells slots pc : Nat} {Q : State → Prop} {cc : ByteArray}
theorem lw_last {k j N : Nat} {φ : Nat → Nat → Nat × Nat} {a : Int32} {x : Int64} (hx : p.tables.exec = Jvm.exec) (hb : c.code = cc) (hK : va_K (g.1, g.2.1) vwCl (gb_T g) s) (hok : gb_ok (gR k j)) (hkd : gb_kd k = .inr (2, N, φ)) (hi : gb_in a N = true) {σ : gb_M} {H : Heap} {locs : List Loc} {arr : Array Slot} {st : List Value} (hP : va_P (g.1, g.2.1) vwCl (gb_ws g σ) H) (hD : va_D A (gb_ws g σ)) (hS : va_S A s.heap H locs) (d : decode cc pc = .ok (.lastore, 1)) (h : ∀ (H1 : Heap) (locs1 : List Loc), va_P (g.1, g.2.1) vwCl (gb_ws g (gb_sl σ k j a.toNatClampNeg x)) H1 → va_D A (gb_ws g (gb_sl σ k j a.toNatClampNeg x)) → va_S A s.heap H1 locs1 → W p l e R s m args below meth c H1 locs1 cells slots Q (F0 m (pc + 1) arr st)) : W p l e R s m args below meth c H locs cells slots Q (F0 m pc arr (.long x :: .int a :: .ref (g.2.2.1 k j) :: st)) := by
  obtain ⟨q0, hq0, h0⟩ := gb_at (k := k) (j := j) hok
  have he := h0 g σ
  unfold gb_en at he
  rw [show gb_kd (k, j).1 = .inr (2, N, φ) from hkd] at he
  refine va_last (D := (g.1, g.2.1)) hx hb hK hP hD hS q0 2 he rfl (gb_in_s hi) d (fun H1 locs1 hP1 hD1 hS1 => ?_)
  have hset := gb_set (g := g) (σ := σ) (σ' := gb_sl σ k j a.toNatClampNeg x) hq0 gb_sl_o (x := gb_cell g (gb_kd k) j ((gb_sl σ k j a.toNatClampNeg x).1 k j) ((gb_sl σ k j a.toNatClampNeg x).2 k j)) rfl
  rw [hkd, (gb_sl_s σ k j a.toNatClampNeg x).1, (gb_sl_s σ k j a.toNatClampNeg x).2] at hset
  exact h H1 locs1 (by rw [← hset]; exact hP1) (by rw [← hset]; exact hD1) hS1
end LST
theorem xw_2 : ∀ w ∈ ([.methodLink RL 7 yX9_row, .instanceMethod yX9_row, .selects RX9 yX9_row yX9_row, .initialized RX9, .code yX9_row cX9_row 2 (some .long), .classLink RL 13 gNE] : List Cond), w ∈ gb_B := by
  have h : ∀ w ∈ ([.methodLink RL 7 yX9_row, .instanceMethod yX9_row, .selects RX9 yX9_row yX9_row, .initialized RX9, .code yX9_row cX9_row 2 (some .long), .classLink RL 13 gNE] : List Cond), w ∈ lw_tbl ∧ goodWord w = true := by decide +kernel
  exact fun w hw => List.mem_filter.mpr (h w hw)
def gb_rmY : Room := { frames := 8, cells := 1, slots := 6, locals := 140 }
set_option maxHeartbeats 4000000 in
theorem c_L_row (l : Launch) (hl0 : l.stackTraces = false) (g : gb_G) (a : Int32) (σ : gb_M) (sz : Nat) (h8 : σ.1 21 0 1 ≤ 8) : vx_Met l yL_row (.codeWith yL_row cL_row 4 (some .int) [(0, 8, 11, 13)] :: gb_B) gb_rmY (gb_PcX g [gR 0 0, gI a, gR 54 0] σ sz) (va_Qi (fun (r : Int32) (u : gb_M) => (r = 0 ∧ ¬ a < 0 ∧ a < σ.1 21 0 1 ∧ u = gb_sl σ 54 0 0 (σ.2 22 0 a.toNatClampNeg)) ∨ (r = 1 ∧ (a < 0 ∨ σ.1 21 0 1 ≤ a) ∧ u = σ)) (gb_Bs g (va_A (gb_ws g σ) sz)) (va_A (gb_ws g σ) sz)) (vx_X (fun _ : gb_M => False) (fun _ _ _ => True) (va_A (gb_ws g σ) sz)) 1 6 (va_A (gb_ws g σ) sz) := by
  refine vx_ofWH (cc := cL_row) (maxL := 4) (ret := some .int) (hh := [(0, 8, 11, 13)]) (ws' := gb_B) (by decide +kernel) rfl ?_
  intro p e s m args below meth c s₁ B hml hv
  obtain ⟨rfl, hsz, hP, hK, hD0, hxw, hxs⟩ := hv
  have hx := B.exec
  have hb := B.bytes
  have hr := B.returns
  have hts0 := atoms_spec (ws := .codeWith yL_row cL_row 4 (some .int) [(0, 8, 11, 13)] :: gb_B) B.pre
  have htb := vx_table (x := yL_row) B (hts0 _ List.mem_cons_self)
  have hts : ∀ w ∈ gb_B, w.before (([gR 0 0, gI a, gR 54 0] : List gb_V).map (gb_v g)).toArray s = true := fun w hw => hts0 w (List.mem_cons_of_mem _ hw)
  have hown : s.vm.findClass RL = some m.cls := findClass_of_methodNamed B.named
  have hlocks := B.notSynchronized
  subst hsz
  have hD : va_D (va_A (gb_ws g σ) s.heap.size) (gb_ws g σ) := hD0.self (sz := s.heap.size)
  have hS : va_S (va_A (gb_ws g σ) s.heap.size) s.heap s.heap [] := va_S.rf
  have hl := lv_entry ([.ref (g.2.2.1 0 0), .int a, .ref (g.2.2.1 54 0)]) (n := 4) (Nat.le_of_ble_eq_true rfl)
  have ea : (([gR 0 0, gI a, gR 54 0] : List gb_V).map (gb_v g)) = [.ref (g.2.2.1 0 0), .int a, .ref (g.2.2.1 54 0)] := rfl
  rw [ea] at hts ⊢
  rw [lg_entry_eq]
  generalize (lg_sl ([.ref (g.2.2.1 0 0), .int a, .ref (g.2.2.1 54 0)]) ++ List.replicate (4 - (lg_sl ([.ref (g.2.2.1 0 0), .int a, .ref (g.2.2.1 54 0)])).length) Slot.unset).toArray = ls at hl ⊢
  have hl : lv_has ls 4 [(0, .ref (g.2.2.1 0 0)), (1, .int a), (2, .ref (g.2.2.1 54 0))] := hl
  have hG : GoodIn gb_B (wsV RL 7 RX9 yX9_row (.code yX9_row cX9_row 2 (some .long) :: gb_B)) := by
    intro w hw1
    rcases List.mem_append.mp hw1 with h1 | h1
    · exact gb_B_in w (xw_2 w (List.mem_append_left ([Cond.code yX9_row cX9_row 2 (some .long), .classLink RL 13 gNE]) h1))
    · rcases List.mem_cons.mp h1 with rfl | h1
      · exact gb_B_in _ (xw_2 _ (List.mem_of_getElem? (i := 4) rfl))
      · exact gb_B_in w h1
  have hLk := hts _ (xw_2 _ (List.mem_of_getElem? (i := 5) rfl))
  have hCa : (Cond.castable gNE gNE).before #[] s = true := hxw _ (List.mem_of_getElem? (i := 3) rfl)
  have hRcv := gb_rcv (r := (0, 0)) (ci := 9) ⟨by decide +kernel, by decide +kernel⟩ rfl rfl hK hP
  refine lv_aload_n hx hb dL_row_0 rfl (lv_at hl 2 rfl) ?_
  refine lv_iconst (v := 0) hx hb dL_row_1 (by decide) ?_
  refine lv_aload_n hx hb dL_row_2 rfl (lv_at hl 0 rfl) ?_
  refine lv_iload_n hx hb dL_row_3 rfl (lv_at hl 1 rfl) ?_
  refine vx_calll (a := (Value.ref (g.2.2.1 0 0) :: [.int a]).toArray) (vx_runV (As := [.int a]) (rest := [.int 0, .ref (g.2.2.1 54 0)]) ⟨hx, hb, hml, hown, hts⟩ (c_X9_row l hl0 g a σ s.heap.size h8) (cwV 1 hts hG rfl rfl rfl ⟨rfl, by decide +kernel, by decide +kernel, by decide +kernel⟩ ⟨Nat.le_of_ble_eq_true rfl, Nat.le_of_ble_eq_true rfl⟩) ⟨gb_blX, hRcv, fun U hU hW => ⟨rfl, by rw [hU], by rw [hU]; exact hP, va_K.moved hW.alike hK, hD0, gb_xw.moved hW hxw, by rw [hU]; exact hxs.moved hW.alike⟩⟩ rfl rfl hl.1 rfl (lv_room (Nat.le_of_ble_eq_true rfl)) dL_row_4 ⟨Nat.le_of_ble_eq_true rfl, Nat.le_of_ble_eq_true rfl⟩) hS (fun q _ h => h) (fun q h => h) (fun q _ h => h) ?_ ?_
  · intro E ce q9 u t H1 locs1 ht hvm hp hB hge hkp hS1 hce hcv hcl
    obtain ⟨rfl, hbad⟩ := hp
    obtain ⟨rfl, hP1, hK1, hD1⟩ := hB
    rw [ht] at hP1
    refine vx_catch (own := RL) (name := gNE) (E := gNE) hown [] ⟨0, 8, 11, 13⟩ [] (by rw [htb]; rfl) (fun z hz => by cases hz) rfl (by decide) hLk (va_tabs rfl rfl hCa) hce hcv hcl ?_
    refine lv_astore_n (lv' := [(3, .ref q9), (0, .ref (g.2.2.1 0 0)), (1, .int a), (2, .ref (g.2.2.1 54 0))]) hx hb dL_row_11 rfl hl (by decide) rfl (fun ls hl => ?_)
    refine lv_iconst (v := 1) hx hb dL_row_12 (by decide) ?_
    refine vx_ret ?_
    exact W.iret (v := 1) hx hb hr (fun t2 ht2 hW => ⟨⟨1, u, rfl, Or.inr ⟨rfl, hbad, rfl⟩, by rw [ht2]; exact hP1, va_K.moved hW.alike hK, hD1⟩, hS1.F ht2⟩) hS1.2.2 dL_row_13
  · intro r u t H1 locs1 ht hvm hp hB hge hkp hS1
    obtain ⟨⟨c1, c2, rfl⟩, rfl⟩ := hp
    obtain ⟨hP1, hK1, hD1⟩ := hB
    rw [ht] at hP1
    refine lw_last (k := 54) (j := 0) (a := 0) hx hb hK ⟨by decide +kernel, by decide +kernel⟩ rfl (by decide +kernel) hP1 hD1 hS1 dL_row_7 (fun H2 locs2 hP2 hD2 hS2 => ?_)
    refine lv_goto (tgt := 14) hx hb dL_row_8 (by decide) ?_
    refine lv_iconst (v := 0) hx hb dL_row_14 (by decide) ?_
    refine vx_ret ?_
    exact W.iret (v := 0) hx hb hr (fun t2 ht2 hW => ⟨⟨0, _, rfl, Or.inl ⟨rfl, c1, c2, rfl⟩, by rw [ht2]; exact hP2, va_K.moved hW.alike hK, hD2⟩, hS2.F ht2⟩) hS2.2.2 dL_row_15
