/-! CONSTRUCTORS that make arrays only (printed by wip/p44/ctor.py) -/
theorem w_X8_init : ∀ w ∈ ([.methodLink RX8 3 objectInit, .instanceMethod objectInit, .code objectInit ⟨#[0xb1]⟩ 1 none, .arrayClass .int, .arrayClass .long, .arrayClass .byte] : List Cond), w ∈ gb_B := by
  have h : ∀ w ∈ ([.methodLink RX8 3 objectInit, .instanceMethod objectInit, .code objectInit ⟨#[0xb1]⟩ 1 none, .arrayClass .int, .arrayClass .long, .arrayClass .byte] : List Cond), w ∈ lw_tbl ∧ goodWord w = true := by decide +kernel
  exact fun w hw => List.mem_filter.mpr (h w hw)
theorem wf_X8_init : ∀ w ∈ ([.fieldLink RX8 11 "GrainBins$Text" "signs" "[I"] : List Cond), w ∈ gb_B := by
  have h : ∀ w ∈ ([.fieldLink RX8 11 "GrainBins$Text" "signs" "[I"] : List Cond), w ∈ lw_tbl ∧ goodWord w = true := by decide +kernel
  exact fun w hw => List.mem_filter.mpr (h w hw)
theorem dX8_init_0 : decode cX8_init 0 = .ok (.aload_n 0, 1) := by decide +kernel
theorem dX8_init_1 : decode cX8_init 1 = .ok (.invokespecial 3, 3) := by decide +kernel
theorem dX8_init_4 : decode cX8_init 4 = .ok (.aload_n 0, 1) := by decide +kernel
theorem dX8_init_5 : decode cX8_init 5 = .ok (.sipush 200, 3) := by decide +kernel
theorem dX8_init_8 : decode cX8_init 8 = .ok (.newarray .int, 2) := by decide +kernel
theorem dX8_init_10 : decode cX8_init 10 = .ok (.putfield 11, 3) := by decide +kernel
theorem dX8_init_13 : decode cX8_init 13 = .ok (.return_, 1) := by decide +kernel
set_option maxHeartbeats 4000000 in
theorem n_X8_init (l : Launch) (g : gb_G) (h0  : Nat) (sz : Nat) : Met l yX8_init (.code yX8_init cX8_init 1 none :: gb_B) ({ frames := 2, cells := 1, slots := 200, locals := 60 }) (va_Pc [.ref h0] (fun U => U.heap.size = sz ∧ va_P (g.1, g.2.1) vwCl [(h0, .inr (8, [.null, .int 0, .int 0]))] U.heap ∧ va_K (g.1, g.2.1) vwCl (gb_T g) U ∧ va_D (fun _ => True) [(h0, .inr (8, [.null, .int 0, .int 0]))])) (va_Qv (fun _ : Unit => True) (fun _ t => ∃ q0 : Nat, va_P (g.1, g.2.1) vwCl [(h0, .inr (8, [.ref q0, .int 0, .int 0])), (q0, .inl (g.2.2.2.1, 200, .inl (fun _ => 0)))] t.heap ∧ va_K (g.1, g.2.1) vwCl (gb_T g) t ∧ va_D (va_A [(h0, .inr (8, [.null, .int 0, .int 0]))] sz) [(h0, .inr (8, [.ref q0, .int 0, .int 0])), (q0, .inl (g.2.2.2.1, 200, .inl (fun _ => 0)))]) (va_A [(h0, .inr (8, [.null, .int 0, .int 0]))] sz)) 1 200 (va_A [(h0, .inr (8, [.null, .int 0, .int 0]))] sz) := by
  refine Met.ofW (cc := cX8_init) (maxL := 1) (ret := none) (by decide +kernel) rfl ?_
  intro p e s m args below meth c s₁ B hml hv
  obtain ⟨rfl, hsz, hP, hK, hD0⟩ := hv
  have hx := B.exec
  have hb := B.bytes
  have hr := B.returns
  have hts0 := atoms_spec (ws := .code yX8_init cX8_init 1 none :: gb_B) B.pre
  have hts : ∀ w ∈ gb_B, w.before ([.ref h0] : List Value).toArray s = true := fun w hw => hts0 w (List.mem_cons_of_mem _ hw)
  have hown : s.vm.findClass RX8 = some m.cls := findClass_of_methodNamed B.named
  have hlocks := B.notSynchronized
  have hin : meth.name = "<init>" := (name_of_methodNamed B.named B.method).1
  subst hsz
  have hD := hD0.self (sz := s.heap.size)
  generalize hAe : va_A [(h0, .inr (8, [.null, .int 0, .int 0]))] s.heap.size = A at hD ⊢
  have hA : ∀ q : Nat, s.heap.size ≤ q → A q := fun q h => by rw [← hAe]; exact Or.inr h
  have hS : va_S A s.heap s.heap [] := va_S.rf
  have hl := lv_entry ([.ref h0]) (n := 1) (Nat.le_of_ble_eq_true rfl)
  rw [lg_entry_eq]
  generalize (lg_sl ([.ref h0]) ++ List.replicate (1 - (lg_sl ([.ref h0])).length) Slot.unset).toArray = ls at hl ⊢
  have hl : lv_has ls 1 [(0, .ref h0)] := hl
  refine lv_aload_n hx hb dX8_init_0 rfl (lv_at hl 0 rfl) ?_
  refine W.objInit hx hb hown (hts (.methodLink RX8 3 objectInit) (w_X8_init _ (List.mem_of_getElem? (i := 0) rfl))) (hts (.instanceMethod objectInit) (w_X8_init _ (List.mem_of_getElem? (i := 1) rfl))) (hts _ (w_X8_init _ (List.mem_of_getElem? (i := 2) rfl))) rfl (by rw [hml]; exact hl.1) rfl dX8_init_1 (Nat.le_of_ble_eq_true rfl) (Nat.le_of_ble_eq_true rfl) ?_
  refine W.eq (g2 := F0 m 4 ls []) rfl ?_
  refine lv_aload_n hx hb dX8_init_4 rfl (lv_at hl 0 rfl) ?_
  refine lv_sipush (v := 200) hx hb dX8_init_5 (by decide) ?_
  refine lw_newi (N := 200) hx hb (hts _ (w_X8_init _ (List.mem_of_getElem? (i := 3) rfl))) hK hP hD hS hA (by decide) (by decide) (by decide) (Nat.le_of_ble_eq_true rfl) (Nat.le_of_ble_eq_true rfl) dX8_init_8 (fun q0 H hP hD hS => ?_)
  have hP : va_P (g.1, g.2.1) vwCl [(h0, .inr (8, [.null, .int 0, .int 0])), (q0, .inl (g.2.2.2.1, 200, .inl (fun _ => 0)))] H := hP
  have hD : va_D A [(h0, .inr (8, [.null, .int 0, .int 0])), (q0, .inl (g.2.2.2.1, 200, .inl (fun _ => 0)))] := hD
  refine va_putF (D := (g.1, g.2.1)) (ci := 8) (v := .ref q0) (ty := tyX8 0) (C := RX8) (T := TX8) (N := 3) hx hb hts winX8 tyX8 tyX8_ok nmX8 hown hK hP hD hS 0 rfl rfl 0 (by decide) (hts _ (wf_X8_init _ (List.mem_of_getElem? (i := 0) rfl))) (fun _ h9 => h9) rfl hin rfl (tyX8_ok 0 (by decide)) rfl rfl (Nat.le_of_ble_eq_true rfl) dX8_init_10 (fun H locs hP hD hS => ?_)
  have hP : va_P (g.1, g.2.1) vwCl [(h0, .inr (8, [.ref q0, .int 0, .int 0])), (q0, .inl (g.2.2.2.1, 200, .inl (fun _ => 0)))] H := hP
  have hD : va_D A [(h0, .inr (8, [.ref q0, .int 0, .int 0])), (q0, .inl (g.2.2.2.1, 200, .inl (fun _ => 0)))] := hD
  exact W.vret hx hb hr (fun t ht hW => ⟨⟨(), rfl, trivial, q0, by rw [ht]; exact hP, va_K.moved hW.alike hK, hD⟩, hS.F ht⟩) hS.2.2 dX8_init_13
theorem w_X4_init : ∀ w ∈ ([.methodLink RX4 1 objectInit, .instanceMethod objectInit, .code objectInit ⟨#[0xb1]⟩ 1 none, .arrayClass .int, .arrayClass .long, .arrayClass .byte] : List Cond), w ∈ gb_B := by
  have h : ∀ w ∈ ([.methodLink RX4 1 objectInit, .instanceMethod objectInit, .code objectInit ⟨#[0xb1]⟩ 1 none, .arrayClass .int, .arrayClass .long, .arrayClass .byte] : List Cond), w ∈ lw_tbl ∧ goodWord w = true := by decide +kernel
  exact fun w hw => List.mem_filter.mpr (h w hw)
theorem wf_X4_init : ∀ w ∈ ([.fieldLink RX4 9 "GrainBins$Row" "at" "[J"] : List Cond), w ∈ gb_B := by
  have h : ∀ w ∈ ([.fieldLink RX4 9 "GrainBins$Row" "at" "[J"] : List Cond), w ∈ lw_tbl ∧ goodWord w = true := by decide +kernel
  exact fun w hw => List.mem_filter.mpr (h w hw)
theorem dX4_init_0 : decode cX4_init 0 = .ok (.aload_n 0, 1) := by decide +kernel
theorem dX4_init_1 : decode cX4_init 1 = .ok (.invokespecial 1, 3) := by decide +kernel
theorem dX4_init_4 : decode cX4_init 4 = .ok (.aload_n 0, 1) := by decide +kernel
theorem dX4_init_5 : decode cX4_init 5 = .ok (.bipush 8, 2) := by decide +kernel
theorem dX4_init_7 : decode cX4_init 7 = .ok (.newarray .long, 2) := by decide +kernel
theorem dX4_init_9 : decode cX4_init 9 = .ok (.putfield 9, 3) := by decide +kernel
theorem dX4_init_12 : decode cX4_init 12 = .ok (.return_, 1) := by decide +kernel
set_option maxHeartbeats 4000000 in
theorem n_X4_init (l : Launch) (g : gb_G) (h0  : Nat) (sz : Nat) : Met l yX4_init (.code yX4_init cX4_init 1 none :: gb_B) ({ frames := 2, cells := 1, slots := 8, locals := 60 }) (va_Pc [.ref h0] (fun U => U.heap.size = sz ∧ va_P (g.1, g.2.1) vwCl [(h0, .inr (4, [.null, .int 0]))] U.heap ∧ va_K (g.1, g.2.1) vwCl (gb_T g) U ∧ va_D (fun _ => True) [(h0, .inr (4, [.null, .int 0]))])) (va_Qv (fun _ : Unit => True) (fun _ t => ∃ q0 : Nat, va_P (g.1, g.2.1) vwCl [(h0, .inr (4, [.ref q0, .int 0])), (q0, .inl (g.2.2.2.2.2.1, 8, .inr (.inl (fun _ => 0))))] t.heap ∧ va_K (g.1, g.2.1) vwCl (gb_T g) t ∧ va_D (va_A [(h0, .inr (4, [.null, .int 0]))] sz) [(h0, .inr (4, [.ref q0, .int 0])), (q0, .inl (g.2.2.2.2.2.1, 8, .inr (.inl (fun _ => 0))))]) (va_A [(h0, .inr (4, [.null, .int 0]))] sz)) 1 8 (va_A [(h0, .inr (4, [.null, .int 0]))] sz) := by
  refine Met.ofW (cc := cX4_init) (maxL := 1) (ret := none) (by decide +kernel) rfl ?_
  intro p e s m args below meth c s₁ B hml hv
  obtain ⟨rfl, hsz, hP, hK, hD0⟩ := hv
  have hx := B.exec
  have hb := B.bytes
  have hr := B.returns
  have hts0 := atoms_spec (ws := .code yX4_init cX4_init 1 none :: gb_B) B.pre
  have hts : ∀ w ∈ gb_B, w.before ([.ref h0] : List Value).toArray s = true := fun w hw => hts0 w (List.mem_cons_of_mem _ hw)
  have hown : s.vm.findClass RX4 = some m.cls := findClass_of_methodNamed B.named
  have hlocks := B.notSynchronized
  have hin : meth.name = "<init>" := (name_of_methodNamed B.named B.method).1
  subst hsz
  have hD := hD0.self (sz := s.heap.size)
  generalize hAe : va_A [(h0, .inr (4, [.null, .int 0]))] s.heap.size = A at hD ⊢
  have hA : ∀ q : Nat, s.heap.size ≤ q → A q := fun q h => by rw [← hAe]; exact Or.inr h
  have hS : va_S A s.heap s.heap [] := va_S.rf
  have hl := lv_entry ([.ref h0]) (n := 1) (Nat.le_of_ble_eq_true rfl)
  rw [lg_entry_eq]
  generalize (lg_sl ([.ref h0]) ++ List.replicate (1 - (lg_sl ([.ref h0])).length) Slot.unset).toArray = ls at hl ⊢
  have hl : lv_has ls 1 [(0, .ref h0)] := hl
  refine lv_aload_n hx hb dX4_init_0 rfl (lv_at hl 0 rfl) ?_
  refine W.objInit hx hb hown (hts (.methodLink RX4 1 objectInit) (w_X4_init _ (List.mem_of_getElem? (i := 0) rfl))) (hts (.instanceMethod objectInit) (w_X4_init _ (List.mem_of_getElem? (i := 1) rfl))) (hts _ (w_X4_init _ (List.mem_of_getElem? (i := 2) rfl))) rfl (by rw [hml]; exact hl.1) rfl dX4_init_1 (Nat.le_of_ble_eq_true rfl) (Nat.le_of_ble_eq_true rfl) ?_
  refine W.eq (g2 := F0 m 4 ls []) rfl ?_
  refine lv_aload_n hx hb dX4_init_4 rfl (lv_at hl 0 rfl) ?_
  refine lv_bipush (v := 8) hx hb dX4_init_5 (by decide) ?_
  refine lw_newl (N := 8) hx hb (hts _ (w_X4_init _ (List.mem_of_getElem? (i := 4) rfl))) hK hP hD hS hA (by decide) (by decide) (by decide) (Nat.le_of_ble_eq_true rfl) (Nat.le_of_ble_eq_true rfl) dX4_init_7 (fun q0 H hP hD hS => ?_)
  have hP : va_P (g.1, g.2.1) vwCl [(h0, .inr (4, [.null, .int 0])), (q0, .inl (g.2.2.2.2.2.1, 8, .inr (.inl (fun _ => 0))))] H := hP
  have hD : va_D A [(h0, .inr (4, [.null, .int 0])), (q0, .inl (g.2.2.2.2.2.1, 8, .inr (.inl (fun _ => 0))))] := hD
  refine va_putF (D := (g.1, g.2.1)) (ci := 4) (v := .ref q0) (ty := tyX4 0) (C := RX4) (T := TX4) (N := 2) hx hb hts winX4 tyX4 tyX4_ok nmX4 hown hK hP hD hS 0 rfl rfl 0 (by decide) (hts _ (wf_X4_init _ (List.mem_of_getElem? (i := 0) rfl))) (fun _ h9 => h9) rfl hin rfl (tyX4_ok 0 (by decide)) rfl rfl (Nat.le_of_ble_eq_true rfl) dX4_init_9 (fun H locs hP hD hS => ?_)
  have hP : va_P (g.1, g.2.1) vwCl [(h0, .inr (4, [.ref q0, .int 0])), (q0, .inl (g.2.2.2.2.2.1, 8, .inr (.inl (fun _ => 0))))] H := hP
  have hD : va_D A [(h0, .inr (4, [.ref q0, .int 0])), (q0, .inl (g.2.2.2.2.2.1, 8, .inr (.inl (fun _ => 0))))] := hD
  exact W.vret hx hb hr (fun t ht hW => ⟨⟨(), rfl, trivial, q0, by rw [ht]; exact hP, va_K.moved hW.alike hK, hD⟩, hS.F ht⟩) hS.2.2 dX4_init_12
theorem w_X2_init : ∀ w ∈ ([.methodLink RX2 3 objectInit, .instanceMethod objectInit, .code objectInit ⟨#[0xb1]⟩ 1 none, .arrayClass .int, .arrayClass .long, .arrayClass .byte] : List Cond), w ∈ gb_B := by
  have h : ∀ w ∈ ([.methodLink RX2 3 objectInit, .instanceMethod objectInit, .code objectInit ⟨#[0xb1]⟩ 1 none, .arrayClass .int, .arrayClass .long, .arrayClass .byte] : List Cond), w ∈ lw_tbl ∧ goodWord w = true := by decide +kernel
  exact fun w hw => List.mem_filter.mpr (h w hw)
theorem wf_X2_init : ∀ w ∈ ([.fieldLink RX2 11 "GrainBins$Orders" "grade" "[I", .fieldLink RX2 15 "GrainBins$Orders" "tons" "[I", .fieldLink RX2 18 "GrainBins$Orders" "since" "[I"] : List Cond), w ∈ gb_B := by
  have h : ∀ w ∈ ([.fieldLink RX2 11 "GrainBins$Orders" "grade" "[I", .fieldLink RX2 15 "GrainBins$Orders" "tons" "[I", .fieldLink RX2 18 "GrainBins$Orders" "since" "[I"] : List Cond), w ∈ lw_tbl ∧ goodWord w = true := by decide +kernel
  exact fun w hw => List.mem_filter.mpr (h w hw)
theorem dX2_init_0 : decode cX2_init 0 = .ok (.aload_n 0, 1) := by decide +kernel
theorem dX2_init_1 : decode cX2_init 1 = .ok (.invokespecial 3, 3) := by decide +kernel
theorem dX2_init_4 : decode cX2_init 4 = .ok (.aload_n 0, 1) := by decide +kernel
theorem dX2_init_5 : decode cX2_init 5 = .ok (.bipush 6, 2) := by decide +kernel
theorem dX2_init_7 : decode cX2_init 7 = .ok (.newarray .int, 2) := by decide +kernel
theorem dX2_init_9 : decode cX2_init 9 = .ok (.putfield 11, 3) := by decide +kernel
theorem dX2_init_12 : decode cX2_init 12 = .ok (.aload_n 0, 1) := by decide +kernel
theorem dX2_init_13 : decode cX2_init 13 = .ok (.bipush 6, 2) := by decide +kernel
theorem dX2_init_15 : decode cX2_init 15 = .ok (.newarray .int, 2) := by decide +kernel
theorem dX2_init_17 : decode cX2_init 17 = .ok (.putfield 15, 3) := by decide +kernel
theorem dX2_init_20 : decode cX2_init 20 = .ok (.aload_n 0, 1) := by decide +kernel
theorem dX2_init_21 : decode cX2_init 21 = .ok (.bipush 6, 2) := by decide +kernel
theorem dX2_init_23 : decode cX2_init 23 = .ok (.newarray .int, 2) := by decide +kernel
theorem dX2_init_25 : decode cX2_init 25 = .ok (.putfield 18, 3) := by decide +kernel
theorem dX2_init_28 : decode cX2_init 28 = .ok (.return_, 1) := by decide +kernel
set_option maxHeartbeats 4000000 in
theorem n_X2_init (l : Launch) (g : gb_G) (h0  : Nat) (sz : Nat) : Met l yX2_init (.code yX2_init cX2_init 1 none :: gb_B) ({ frames := 2, cells := 3, slots := 18, locals := 60 }) (va_Pc [.ref h0] (fun U => U.heap.size = sz ∧ va_P (g.1, g.2.1) vwCl [(h0, .inr (2, [.null, .null, .null, .int 0]))] U.heap ∧ va_K (g.1, g.2.1) vwCl (gb_T g) U ∧ va_D (fun _ => True) [(h0, .inr (2, [.null, .null, .null, .int 0]))])) (va_Qv (fun _ : Unit => True) (fun _ t => ∃ q0 q1 q2 : Nat, va_P (g.1, g.2.1) vwCl [(h0, .inr (2, [.ref q0, .ref q1, .ref q2, .int 0])), (q0, .inl (g.2.2.2.1, 6, .inl (fun _ => 0))), (q1, .inl (g.2.2.2.1, 6, .inl (fun _ => 0))), (q2, .inl (g.2.2.2.1, 6, .inl (fun _ => 0)))] t.heap ∧ va_K (g.1, g.2.1) vwCl (gb_T g) t ∧ va_D (va_A [(h0, .inr (2, [.null, .null, .null, .int 0]))] sz) [(h0, .inr (2, [.ref q0, .ref q1, .ref q2, .int 0])), (q0, .inl (g.2.2.2.1, 6, .inl (fun _ => 0))), (q1, .inl (g.2.2.2.1, 6, .inl (fun _ => 0))), (q2, .inl (g.2.2.2.1, 6, .inl (fun _ => 0)))]) (va_A [(h0, .inr (2, [.null, .null, .null, .int 0]))] sz)) 3 18 (va_A [(h0, .inr (2, [.null, .null, .null, .int 0]))] sz) := by
  refine Met.ofW (cc := cX2_init) (maxL := 1) (ret := none) (by decide +kernel) rfl ?_
  intro p e s m args below meth c s₁ B hml hv
  obtain ⟨rfl, hsz, hP, hK, hD0⟩ := hv
  have hx := B.exec
  have hb := B.bytes
  have hr := B.returns
  have hts0 := atoms_spec (ws := .code yX2_init cX2_init 1 none :: gb_B) B.pre
  have hts : ∀ w ∈ gb_B, w.before ([.ref h0] : List Value).toArray s = true := fun w hw => hts0 w (List.mem_cons_of_mem _ hw)
  have hown : s.vm.findClass RX2 = some m.cls := findClass_of_methodNamed B.named
  have hlocks := B.notSynchronized
  have hin : meth.name = "<init>" := (name_of_methodNamed B.named B.method).1
  subst hsz
  have hD := hD0.self (sz := s.heap.size)
  generalize hAe : va_A [(h0, .inr (2, [.null, .null, .null, .int 0]))] s.heap.size = A at hD ⊢
  have hA : ∀ q : Nat, s.heap.size ≤ q → A q := fun q h => by rw [← hAe]; exact Or.inr h
  have hS : va_S A s.heap s.heap [] := va_S.rf
  have hl := lv_entry ([.ref h0]) (n := 1) (Nat.le_of_ble_eq_true rfl)
  rw [lg_entry_eq]
  generalize (lg_sl ([.ref h0]) ++ List.replicate (1 - (lg_sl ([.ref h0])).length) Slot.unset).toArray = ls at hl ⊢
  have hl : lv_has ls 1 [(0, .ref h0)] := hl
  refine lv_aload_n hx hb dX2_init_0 rfl (lv_at hl 0 rfl) ?_
  refine W.objInit hx hb hown (hts (.methodLink RX2 3 objectInit) (w_X2_init _ (List.mem_of_getElem? (i := 0) rfl))) (hts (.instanceMethod objectInit) (w_X2_init _ (List.mem_of_getElem? (i := 1) rfl))) (hts _ (w_X2_init _ (List.mem_of_getElem? (i := 2) rfl))) rfl (by rw [hml]; exact hl.1) rfl dX2_init_1 (Nat.le_of_ble_eq_true rfl) (Nat.le_of_ble_eq_true rfl) ?_
  refine W.eq (g2 := F0 m 4 ls []) rfl ?_
  refine lv_aload_n hx hb dX2_init_4 rfl (lv_at hl 0 rfl) ?_
  refine lv_bipush (v := 6) hx hb dX2_init_5 (by decide) ?_
  refine lw_newi (N := 6) hx hb (hts _ (w_X2_init _ (List.mem_of_getElem? (i := 3) rfl))) hK hP hD hS hA (by decide) (by decide) (by decide) (Nat.le_of_ble_eq_true rfl) (Nat.le_of_ble_eq_true rfl) dX2_init_7 (fun q0 H hP hD hS => ?_)
  have hP : va_P (g.1, g.2.1) vwCl [(h0, .inr (2, [.null, .null, .null, .int 0])), (q0, .inl (g.2.2.2.1, 6, .inl (fun _ => 0)))] H := hP
  have hD : va_D A [(h0, .inr (2, [.null, .null, .null, .int 0])), (q0, .inl (g.2.2.2.1, 6, .inl (fun _ => 0)))] := hD
  refine va_putF (D := (g.1, g.2.1)) (ci := 2) (v := .ref q0) (ty := tyX2 0) (C := RX2) (T := TX2) (N := 4) hx hb hts winX2 tyX2 tyX2_ok nmX2 hown hK hP hD hS 0 rfl rfl 0 (by decide) (hts _ (wf_X2_init _ (List.mem_of_getElem? (i := 0) rfl))) (fun _ h9 => h9) rfl hin rfl (tyX2_ok 0 (by decide)) rfl rfl (Nat.le_of_ble_eq_true rfl) dX2_init_9 (fun H locs hP hD hS => ?_)
  have hP : va_P (g.1, g.2.1) vwCl [(h0, .inr (2, [.ref q0, .null, .null, .int 0])), (q0, .inl (g.2.2.2.1, 6, .inl (fun _ => 0)))] H := hP
  have hD : va_D A [(h0, .inr (2, [.ref q0, .null, .null, .int 0])), (q0, .inl (g.2.2.2.1, 6, .inl (fun _ => 0)))] := hD
  refine lv_aload_n hx hb dX2_init_12 rfl (lv_at hl 0 rfl) ?_
  refine lv_bipush (v := 6) hx hb dX2_init_13 (by decide) ?_
  refine lw_newi (N := 6) hx hb (hts _ (w_X2_init _ (List.mem_of_getElem? (i := 3) rfl))) hK hP hD hS hA (by decide) (by decide) (by decide) (Nat.le_of_ble_eq_true rfl) (Nat.le_of_ble_eq_true rfl) dX2_init_15 (fun q1 H hP hD hS => ?_)
  have hP : va_P (g.1, g.2.1) vwCl [(h0, .inr (2, [.ref q0, .null, .null, .int 0])), (q0, .inl (g.2.2.2.1, 6, .inl (fun _ => 0))), (q1, .inl (g.2.2.2.1, 6, .inl (fun _ => 0)))] H := hP
  have hD : va_D A [(h0, .inr (2, [.ref q0, .null, .null, .int 0])), (q0, .inl (g.2.2.2.1, 6, .inl (fun _ => 0))), (q1, .inl (g.2.2.2.1, 6, .inl (fun _ => 0)))] := hD
  refine va_putF (D := (g.1, g.2.1)) (ci := 2) (v := .ref q1) (ty := tyX2 1) (C := RX2) (T := TX2) (N := 4) hx hb hts winX2 tyX2 tyX2_ok nmX2 hown hK hP hD hS 0 rfl rfl 1 (by decide) (hts _ (wf_X2_init _ (List.mem_of_getElem? (i := 1) rfl))) (fun _ h9 => h9) rfl hin rfl (tyX2_ok 1 (by decide)) rfl rfl (Nat.le_of_ble_eq_true rfl) dX2_init_17 (fun H locs hP hD hS => ?_)
  have hP : va_P (g.1, g.2.1) vwCl [(h0, .inr (2, [.ref q0, .ref q1, .null, .int 0])), (q0, .inl (g.2.2.2.1, 6, .inl (fun _ => 0))), (q1, .inl (g.2.2.2.1, 6, .inl (fun _ => 0)))] H := hP
  have hD : va_D A [(h0, .inr (2, [.ref q0, .ref q1, .null, .int 0])), (q0, .inl (g.2.2.2.1, 6, .inl (fun _ => 0))), (q1, .inl (g.2.2.2.1, 6, .inl (fun _ => 0)))] := hD
  refine lv_aload_n hx hb dX2_init_20 rfl (lv_at hl 0 rfl) ?_
  refine lv_bipush (v := 6) hx hb dX2_init_21 (by decide) ?_
  refine lw_newi (N := 6) hx hb (hts _ (w_X2_init _ (List.mem_of_getElem? (i := 3) rfl))) hK hP hD hS hA (by decide) (by decide) (by decide) (Nat.le_of_ble_eq_true rfl) (Nat.le_of_ble_eq_true rfl) dX2_init_23 (fun q2 H hP hD hS => ?_)
  have hP : va_P (g.1, g.2.1) vwCl [(h0, .inr (2, [.ref q0, .ref q1, .null, .int 0])), (q0, .inl (g.2.2.2.1, 6, .inl (fun _ => 0))), (q1, .inl (g.2.2.2.1, 6, .inl (fun _ => 0))), (q2, .inl (g.2.2.2.1, 6, .inl (fun _ => 0)))] H := hP
  have hD : va_D A [(h0, .inr (2, [.ref q0, .ref q1, .null, .int 0])), (q0, .inl (g.2.2.2.1, 6, .inl (fun _ => 0))), (q1, .inl (g.2.2.2.1, 6, .inl (fun _ => 0))), (q2, .inl (g.2.2.2.1, 6, .inl (fun _ => 0)))] := hD
  refine va_putF (D := (g.1, g.2.1)) (ci := 2) (v := .ref q2) (ty := tyX2 2) (C := RX2) (T := TX2) (N := 4) hx hb hts winX2 tyX2 tyX2_ok nmX2 hown hK hP hD hS 0 rfl rfl 2 (by decide) (hts _ (wf_X2_init _ (List.mem_of_getElem? (i := 2) rfl))) (fun _ h9 => h9) rfl hin rfl (tyX2_ok 2 (by decide)) rfl rfl (Nat.le_of_ble_eq_true rfl) dX2_init_25 (fun H locs hP hD hS => ?_)
  have hP : va_P (g.1, g.2.1) vwCl [(h0, .inr (2, [.ref q0, .ref q1, .ref q2, .int 0])), (q0, .inl (g.2.2.2.1, 6, .inl (fun _ => 0))), (q1, .inl (g.2.2.2.1, 6, .inl (fun _ => 0))), (q2, .inl (g.2.2.2.1, 6, .inl (fun _ => 0)))] H := hP
  have hD : va_D A [(h0, .inr (2, [.ref q0, .ref q1, .ref q2, .int 0])), (q0, .inl (g.2.2.2.1, 6, .inl (fun _ => 0))), (q1, .inl (g.2.2.2.1, 6, .inl (fun _ => 0))), (q2, .inl (g.2.2.2.1, 6, .inl (fun _ => 0)))] := hD
  exact W.vret hx hb hr (fun t ht hW => ⟨⟨(), rfl, trivial, q0, q1, q2, by rw [ht]; exact hP, va_K.moved hW.alike hK, hD⟩, hS.F ht⟩) hS.2.2 dX2_init_28
theorem w_X6_init : ∀ w ∈ ([.methodLink RX6 3 objectInit, .instanceMethod objectInit, .code objectInit ⟨#[0xb1]⟩ 1 none, .arrayClass .int, .arrayClass .long, .arrayClass .byte] : List Cond), w ∈ gb_B := by
  have h : ∀ w ∈ ([.methodLink RX6 3 objectInit, .instanceMethod objectInit, .code objectInit ⟨#[0xb1]⟩ 1 none, .arrayClass .int, .arrayClass .long, .arrayClass .byte] : List Cond), w ∈ lw_tbl ∧ goodWord w = true := by decide +kernel
  exact fun w hw => List.mem_filter.mpr (h w hw)
theorem wf_X6_init : ∀ w ∈ ([.fieldLink RX6 11 "GrainBins$Script" "signs" "[I"] : List Cond), w ∈ gb_B := by
  have h : ∀ w ∈ ([.fieldLink RX6 11 "GrainBins$Script" "signs" "[I"] : List Cond), w ∈ lw_tbl ∧ goodWord w = true := by decide +kernel
  exact fun w hw => List.mem_filter.mpr (h w hw)
theorem dX6_init_0 : decode cX6_init 0 = .ok (.aload_n 0, 1) := by decide +kernel
theorem dX6_init_1 : decode cX6_init 1 = .ok (.invokespecial 3, 3) := by decide +kernel
theorem dX6_init_4 : decode cX6_init 4 = .ok (.aload_n 0, 1) := by decide +kernel
theorem dX6_init_5 : decode cX6_init 5 = .ok (.sipush 200, 3) := by decide +kernel
theorem dX6_init_8 : decode cX6_init 8 = .ok (.newarray .int, 2) := by decide +kernel
theorem dX6_init_10 : decode cX6_init 10 = .ok (.putfield 11, 3) := by decide +kernel
theorem dX6_init_13 : decode cX6_init 13 = .ok (.return_, 1) := by decide +kernel
set_option maxHeartbeats 4000000 in
theorem n_X6_init (l : Launch) (g : gb_G) (h0  : Nat) (sz : Nat) : Met l yX6_init (.code yX6_init cX6_init 1 none :: gb_B) ({ frames := 2, cells := 1, slots := 200, locals := 60 }) (va_Pc [.ref h0] (fun U => U.heap.size = sz ∧ va_P (g.1, g.2.1) vwCl [(h0, .inr (6, [.null, .int 0]))] U.heap ∧ va_K (g.1, g.2.1) vwCl (gb_T g) U ∧ va_D (fun _ => True) [(h0, .inr (6, [.null, .int 0]))])) (va_Qv (fun _ : Unit => True) (fun _ t => ∃ q0 : Nat, va_P (g.1, g.2.1) vwCl [(h0, .inr (6, [.ref q0, .int 0])), (q0, .inl (g.2.2.2.1, 200, .inl (fun _ => 0)))] t.heap ∧ va_K (g.1, g.2.1) vwCl (gb_T g) t ∧ va_D (va_A [(h0, .inr (6, [.null, .int 0]))] sz) [(h0, .inr (6, [.ref q0, .int 0])), (q0, .inl (g.2.2.2.1, 200, .inl (fun _ => 0)))]) (va_A [(h0, .inr (6, [.null, .int 0]))] sz)) 1 200 (va_A [(h0, .inr (6, [.null, .int 0]))] sz) := by
  refine Met.ofW (cc := cX6_init) (maxL := 1) (ret := none) (by decide +kernel) rfl ?_
  intro p e s m args below meth c s₁ B hml hv
  obtain ⟨rfl, hsz, hP, hK, hD0⟩ := hv
  have hx := B.exec
  have hb := B.bytes
  have hr := B.returns
  have hts0 := atoms_spec (ws := .code yX6_init cX6_init 1 none :: gb_B) B.pre
  have hts : ∀ w ∈ gb_B, w.before ([.ref h0] : List Value).toArray s = true := fun w hw => hts0 w (List.mem_cons_of_mem _ hw)
  have hown : s.vm.findClass RX6 = some m.cls := findClass_of_methodNamed B.named
  have hlocks := B.notSynchronized
  have hin : meth.name = "<init>" := (name_of_methodNamed B.named B.method).1
  subst hsz
  have hD := hD0.self (sz := s.heap.size)
  generalize hAe : va_A [(h0, .inr (6, [.null, .int 0]))] s.heap.size = A at hD ⊢
  have hA : ∀ q : Nat, s.heap.size ≤ q → A q := fun q h => by rw [← hAe]; exact Or.inr h
  have hS : va_S A s.heap s.heap [] := va_S.rf
  have hl := lv_entry ([.ref h0]) (n := 1) (Nat.le_of_ble_eq_true rfl)
  rw [lg_entry_eq]
  generalize (lg_sl ([.ref h0]) ++ List.replicate (1 - (lg_sl ([.ref h0])).length) Slot.unset).toArray = ls at hl ⊢
  have hl : lv_has ls 1 [(0, .ref h0)] := hl
  refine lv_aload_n hx hb dX6_init_0 rfl (lv_at hl 0 rfl) ?_
  refine W.objInit hx hb hown (hts (.methodLink RX6 3 objectInit) (w_X6_init _ (List.mem_of_getElem? (i := 0) rfl))) (hts (.instanceMethod objectInit) (w_X6_init _ (List.mem_of_getElem? (i := 1) rfl))) (hts _ (w_X6_init _ (List.mem_of_getElem? (i := 2) rfl))) rfl (by rw [hml]; exact hl.1) rfl dX6_init_1 (Nat.le_of_ble_eq_true rfl) (Nat.le_of_ble_eq_true rfl) ?_
  refine W.eq (g2 := F0 m 4 ls []) rfl ?_
  refine lv_aload_n hx hb dX6_init_4 rfl (lv_at hl 0 rfl) ?_
  refine lv_sipush (v := 200) hx hb dX6_init_5 (by decide) ?_
  refine lw_newi (N := 200) hx hb (hts _ (w_X6_init _ (List.mem_of_getElem? (i := 3) rfl))) hK hP hD hS hA (by decide) (by decide) (by decide) (Nat.le_of_ble_eq_true rfl) (Nat.le_of_ble_eq_true rfl) dX6_init_8 (fun q0 H hP hD hS => ?_)
  have hP : va_P (g.1, g.2.1) vwCl [(h0, .inr (6, [.null, .int 0])), (q0, .inl (g.2.2.2.1, 200, .inl (fun _ => 0)))] H := hP
  have hD : va_D A [(h0, .inr (6, [.null, .int 0])), (q0, .inl (g.2.2.2.1, 200, .inl (fun _ => 0)))] := hD
  refine va_putF (D := (g.1, g.2.1)) (ci := 6) (v := .ref q0) (ty := tyX6 0) (C := RX6) (T := TX6) (N := 2) hx hb hts winX6 tyX6 tyX6_ok nmX6 hown hK hP hD hS 0 rfl rfl 0 (by decide) (hts _ (wf_X6_init _ (List.mem_of_getElem? (i := 0) rfl))) (fun _ h9 => h9) rfl hin rfl (tyX6_ok 0 (by decide)) rfl rfl (Nat.le_of_ble_eq_true rfl) dX6_init_10 (fun H locs hP hD hS => ?_)
  have hP : va_P (g.1, g.2.1) vwCl [(h0, .inr (6, [.ref q0, .int 0])), (q0, .inl (g.2.2.2.1, 200, .inl (fun _ => 0)))] H := hP
  have hD : va_D A [(h0, .inr (6, [.ref q0, .int 0])), (q0, .inl (g.2.2.2.1, 200, .inl (fun _ => 0)))] := hD
  exact W.vret hx hb hr (fun t ht hW => ⟨⟨(), rfl, trivial, q0, by rw [ht]; exact hP, va_K.moved hW.alike hK, hD⟩, hS.F ht⟩) hS.2.2 dX6_init_13
theorem w_X7_init : ∀ w ∈ ([.methodLink RX7 3 objectInit, .instanceMethod objectInit, .code objectInit ⟨#[0xb1]⟩ 1 none, .arrayClass .int, .arrayClass .long, .arrayClass .byte] : List Cond), w ∈ gb_B := by
  have h : ∀ w ∈ ([.methodLink RX7 3 objectInit, .instanceMethod objectInit, .code objectInit ⟨#[0xb1]⟩ 1 none, .arrayClass .int, .arrayClass .long, .arrayClass .byte] : List Cond), w ∈ lw_tbl ∧ goodWord w = true := by decide +kernel
  exact fun w hw => List.mem_filter.mpr (h w hw)
theorem wf_X7_init : ∀ w ∈ ([.fieldLink RX7 9 "GrainBins$Store" "worth" "[I", .fieldLink RX7 15 "GrainBins$Store" "open" "[I", .fieldLink RX7 18 "GrainBins$Store" "layers" "[I", .fieldLink RX7 21 "GrainBins$Store" "total" "[I", .fieldLink RX7 24 "GrainBins$Store" "grade" "[I", .fieldLink RX7 27 "GrainBins$Store" "tons" "[I", .fieldLink RX7 30 "GrainBins$Store" "since" "[I", .fieldLink RX7 33 "GrainBins$Store" "has" "[I", .fieldLink RX7 36 "GrainBins$Store" "rules" "LGrainBins$Rules;"] : List Cond), w ∈ gb_B := by
  have h : ∀ w ∈ ([.fieldLink RX7 9 "GrainBins$Store" "worth" "[I", .fieldLink RX7 15 "GrainBins$Store" "open" "[I", .fieldLink RX7 18 "GrainBins$Store" "layers" "[I", .fieldLink RX7 21 "GrainBins$Store" "total" "[I", .fieldLink RX7 24 "GrainBins$Store" "grade" "[I", .fieldLink RX7 27 "GrainBins$Store" "tons" "[I", .fieldLink RX7 30 "GrainBins$Store" "since" "[I", .fieldLink RX7 33 "GrainBins$Store" "has" "[I", .fieldLink RX7 36 "GrainBins$Store" "rules" "LGrainBins$Rules;"] : List Cond), w ∈ lw_tbl ∧ goodWord w = true := by decide +kernel
  exact fun w hw => List.mem_filter.mpr (h w hw)
theorem dX7_init_0 : decode cX7_init 0 = .ok (.aload_n 0, 1) := by decide +kernel
theorem dX7_init_1 : decode cX7_init 1 = .ok (.invokespecial 3, 3) := by decide +kernel
theorem dX7_init_4 : decode cX7_init 4 = .ok (.aload_n 0, 1) := by decide +kernel
theorem dX7_init_5 : decode cX7_init 5 = .ok (.bipush 6, 2) := by decide +kernel
theorem dX7_init_7 : decode cX7_init 7 = .ok (.newarray .int, 2) := by decide +kernel
theorem dX7_init_9 : decode cX7_init 9 = .ok (.putfield 9, 3) := by decide +kernel
theorem dX7_init_12 : decode cX7_init 12 = .ok (.aload_n 0, 1) := by decide +kernel
theorem dX7_init_13 : decode cX7_init 13 = .ok (.bipush 6, 2) := by decide +kernel
theorem dX7_init_15 : decode cX7_init 15 = .ok (.newarray .int, 2) := by decide +kernel
theorem dX7_init_17 : decode cX7_init 17 = .ok (.putfield 15, 3) := by decide +kernel
theorem dX7_init_20 : decode cX7_init 20 = .ok (.aload_n 0, 1) := by decide +kernel
theorem dX7_init_21 : decode cX7_init 21 = .ok (.bipush 6, 2) := by decide +kernel
theorem dX7_init_23 : decode cX7_init 23 = .ok (.newarray .int, 2) := by decide +kernel
theorem dX7_init_25 : decode cX7_init 25 = .ok (.putfield 18, 3) := by decide +kernel
theorem dX7_init_28 : decode cX7_init 28 = .ok (.aload_n 0, 1) := by decide +kernel
theorem dX7_init_29 : decode cX7_init 29 = .ok (.bipush 6, 2) := by decide +kernel
theorem dX7_init_31 : decode cX7_init 31 = .ok (.newarray .int, 2) := by decide +kernel
theorem dX7_init_33 : decode cX7_init 33 = .ok (.putfield 21, 3) := by decide +kernel
theorem dX7_init_36 : decode cX7_init 36 = .ok (.aload_n 0, 1) := by decide +kernel
theorem dX7_init_37 : decode cX7_init 37 = .ok (.bipush 36, 2) := by decide +kernel
theorem dX7_init_39 : decode cX7_init 39 = .ok (.newarray .int, 2) := by decide +kernel
theorem dX7_init_41 : decode cX7_init 41 = .ok (.putfield 24, 3) := by decide +kernel
theorem dX7_init_44 : decode cX7_init 44 = .ok (.aload_n 0, 1) := by decide +kernel
theorem dX7_init_45 : decode cX7_init 45 = .ok (.bipush 36, 2) := by decide +kernel
theorem dX7_init_47 : decode cX7_init 47 = .ok (.newarray .int, 2) := by decide +kernel
theorem dX7_init_49 : decode cX7_init 49 = .ok (.putfield 27, 3) := by decide +kernel
theorem dX7_init_52 : decode cX7_init 52 = .ok (.aload_n 0, 1) := by decide +kernel
theorem dX7_init_53 : decode cX7_init 53 = .ok (.bipush 36, 2) := by decide +kernel
theorem dX7_init_55 : decode cX7_init 55 = .ok (.newarray .int, 2) := by decide +kernel
theorem dX7_init_57 : decode cX7_init 57 = .ok (.putfield 30, 3) := by decide +kernel
theorem dX7_init_60 : decode cX7_init 60 = .ok (.aload_n 0, 1) := by decide +kernel
theorem dX7_init_61 : decode cX7_init 61 = .ok (.bipush 36, 2) := by decide +kernel
theorem dX7_init_63 : decode cX7_init 63 = .ok (.newarray .int, 2) := by decide +kernel
theorem dX7_init_65 : decode cX7_init 65 = .ok (.putfield 33, 3) := by decide +kernel
theorem dX7_init_68 : decode cX7_init 68 = .ok (.aload_n 0, 1) := by decide +kernel
theorem dX7_init_69 : decode cX7_init 69 = .ok (.aload_n 1, 1) := by decide +kernel
theorem dX7_init_70 : decode cX7_init 70 = .ok (.putfield 36, 3) := by decide +kernel
theorem dX7_init_73 : decode cX7_init 73 = .ok (.return_, 1) := by decide +kernel
set_option maxHeartbeats 4000000 in
theorem n_X7_init (l : Launch) (g : gb_G) (h0 a0 : Nat) (sz : Nat) : Met l yX7_init (.code yX7_init cX7_init 2 none :: gb_B) ({ frames := 2, cells := 8, slots := 168, locals := 60 }) (va_Pc [.ref h0, .ref a0] (fun U => U.heap.size = sz ∧ va_P (g.1, g.2.1) vwCl [(h0, .inr (7, [.null, .null, .null, .null, .null, .null, .null, .null, .null, .int 0, .int 0]))] U.heap ∧ va_K (g.1, g.2.1) vwCl (gb_T g) U ∧ va_D (fun _ => True) [(h0, .inr (7, [.null, .null, .null, .null, .null, .null, .null, .null, .null, .int 0, .int 0]))])) (va_Qv (fun _ : Unit => True) (fun _ t => ∃ q0 q1 q2 q3 q4 q5 q6 q7 : Nat, va_P (g.1, g.2.1) vwCl [(h0, .inr (7, [.ref a0, .ref q0, .ref q1, .ref q2, .ref q3, .ref q4, .ref q5, .ref q6, .ref q7, .int 0, .int 0])), (q0, .inl (g.2.2.2.1, 6, .inl (fun _ => 0))), (q1, .inl (g.2.2.2.1, 6, .inl (fun _ => 0))), (q2, .inl (g.2.2.2.1, 6, .inl (fun _ => 0))), (q3, .inl (g.2.2.2.1, 6, .inl (fun _ => 0))), (q4, .inl (g.2.2.2.1, 36, .inl (fun _ => 0))), (q5, .inl (g.2.2.2.1, 36, .inl (fun _ => 0))), (q6, .inl (g.2.2.2.1, 36, .inl (fun _ => 0))), (q7, .inl (g.2.2.2.1, 36, .inl (fun _ => 0)))] t.heap ∧ va_K (g.1, g.2.1) vwCl (gb_T g) t ∧ va_D (va_A [(h0, .inr (7, [.null, .null, .null, .null, .null, .null, .null, .null, .null, .int 0, .int 0]))] sz) [(h0, .inr (7, [.ref a0, .ref q0, .ref q1, .ref q2, .ref q3, .ref q4, .ref q5, .ref q6, .ref q7, .int 0, .int 0])), (q0, .inl (g.2.2.2.1, 6, .inl (fun _ => 0))), (q1, .inl (g.2.2.2.1, 6, .inl (fun _ => 0))), (q2, .inl (g.2.2.2.1, 6, .inl (fun _ => 0))), (q3, .inl (g.2.2.2.1, 6, .inl (fun _ => 0))), (q4, .inl (g.2.2.2.1, 36, .inl (fun _ => 0))), (q5, .inl (g.2.2.2.1, 36, .inl (fun _ => 0))), (q6, .inl (g.2.2.2.1, 36, .inl (fun _ => 0))), (q7, .inl (g.2.2.2.1, 36, .inl (fun _ => 0)))]) (va_A [(h0, .inr (7, [.null, .null, .null, .null, .null, .null, .null, .null, .null, .int 0, .int 0]))] sz)) 8 168 (va_A [(h0, .inr (7, [.null, .null, .null, .null, .null, .null, .null, .null, .null, .int 0, .int 0]))] sz) := by
  refine Met.ofW (cc := cX7_init) (maxL := 2) (ret := none) (by decide +kernel) rfl ?_
  intro p e s m args below meth c s₁ B hml hv
  obtain ⟨rfl, hsz, hP, hK, hD0⟩ := hv
  have hx := B.exec
  have hb := B.bytes
  have hr := B.returns
  have hts0 := atoms_spec (ws := .code yX7_init cX7_init 2 none :: gb_B) B.pre
  have hts : ∀ w ∈ gb_B, w.before ([.ref h0, .ref a0] : List Value).toArray s = true := fun w hw => hts0 w (List.mem_cons_of_mem _ hw)
  have hown : s.vm.findClass RX7 = some m.cls := findClass_of_methodNamed B.named
  have hlocks := B.notSynchronized
  have hin : meth.name = "<init>" := (name_of_methodNamed B.named B.method).1
  subst hsz
  have hD := hD0.self (sz := s.heap.size)
  generalize hAe : va_A [(h0, .inr (7, [.null, .null, .null, .null, .null, .null, .null, .null, .null, .int 0, .int 0]))] s.heap.size = A at hD ⊢
  have hA : ∀ q : Nat, s.heap.size ≤ q → A q := fun q h => by rw [← hAe]; exact Or.inr h
  have hS : va_S A s.heap s.heap [] := va_S.rf
  have hl := lv_entry ([.ref h0, .ref a0]) (n := 2) (Nat.le_of_ble_eq_true rfl)
  rw [lg_entry_eq]
  generalize (lg_sl ([.ref h0, .ref a0]) ++ List.replicate (2 - (lg_sl ([.ref h0, .ref a0])).length) Slot.unset).toArray = ls at hl ⊢
  have hl : lv_has ls 2 [(0, .ref h0), (1, .ref a0)] := hl
  refine lv_aload_n hx hb dX7_init_0 rfl (lv_at hl 0 rfl) ?_
  refine W.objInit hx hb hown (hts (.methodLink RX7 3 objectInit) (w_X7_init _ (List.mem_of_getElem? (i := 0) rfl))) (hts (.instanceMethod objectInit) (w_X7_init _ (List.mem_of_getElem? (i := 1) rfl))) (hts _ (w_X7_init _ (List.mem_of_getElem? (i := 2) rfl))) rfl (by rw [hml]; exact hl.1) rfl dX7_init_1 (Nat.le_of_ble_eq_true rfl) (Nat.le_of_ble_eq_true rfl) ?_
  refine W.eq (g2 := F0 m 4 ls []) rfl ?_
  refine lv_aload_n hx hb dX7_init_4 rfl (lv_at hl 0 rfl) ?_
  refine lv_bipush (v := 6) hx hb dX7_init_5 (by decide) ?_
  refine lw_newi (N := 6) hx hb (hts _ (w_X7_init _ (List.mem_of_getElem? (i := 3) rfl))) hK hP hD hS hA (by decide) (by decide) (by decide) (Nat.le_of_ble_eq_true rfl) (Nat.le_of_ble_eq_true rfl) dX7_init_7 (fun q0 H hP hD hS => ?_)
  have hP : va_P (g.1, g.2.1) vwCl [(h0, .inr (7, [.null, .null, .null, .null, .null, .null, .null, .null, .null, .int 0, .int 0])), (q0, .inl (g.2.2.2.1, 6, .inl (fun _ => 0)))] H := hP
  have hD : va_D A [(h0, .inr (7, [.null, .null, .null, .null, .null, .null, .null, .null, .null, .int 0, .int 0])), (q0, .inl (g.2.2.2.1, 6, .inl (fun _ => 0)))] := hD
  refine va_putF (D := (g.1, g.2.1)) (ci := 7) (v := .ref q0) (ty := tyX7 1) (C := RX7) (T := TX7) (N := 11) hx hb hts winX7 tyX7 tyX7_ok nmX7 hown hK hP hD hS 0 rfl rfl 1 (by decide) (hts _ (wf_X7_init _ (List.mem_of_getElem? (i := 0) rfl))) (fun _ h9 => h9) rfl hin rfl (tyX7_ok 1 (by decide)) rfl rfl (Nat.le_of_ble_eq_true rfl) dX7_init_9 (fun H locs hP hD hS => ?_)
  have hP : va_P (g.1, g.2.1) vwCl [(h0, .inr (7, [.null, .ref q0, .null, .null, .null, .null, .null, .null, .null, .int 0, .int 0])), (q0, .inl (g.2.2.2.1, 6, .inl (fun _ => 0)))] H := hP
  have hD : va_D A [(h0, .inr (7, [.null, .ref q0, .null, .null, .null, .null, .null, .null, .null, .int 0, .int 0])), (q0, .inl (g.2.2.2.1, 6, .inl (fun _ => 0)))] := hD
  refine lv_aload_n hx hb dX7_init_12 rfl (lv_at hl 0 rfl) ?_
  refine lv_bipush (v := 6) hx hb dX7_init_13 (by decide) ?_
  refine lw_newi (N := 6) hx hb (hts _ (w_X7_init _ (List.mem_of_getElem? (i := 3) rfl))) hK hP hD hS hA (by decide) (by decide) (by decide) (Nat.le_of_ble_eq_true rfl) (Nat.le_of_ble_eq_true rfl) dX7_init_15 (fun q1 H hP hD hS => ?_)
  have hP : va_P (g.1, g.2.1) vwCl [(h0, .inr (7, [.null, .ref q0, .null, .null, .null, .null, .null, .null, .null, .int 0, .int 0])), (q0, .inl (g.2.2.2.1, 6, .inl (fun _ => 0))), (q1, .inl (g.2.2.2.1, 6, .inl (fun _ => 0)))] H := hP
  have hD : va_D A [(h0, .inr (7, [.null, .ref q0, .null, .null, .null, .null, .null, .null, .null, .int 0, .int 0])), (q0, .inl (g.2.2.2.1, 6, .inl (fun _ => 0))), (q1, .inl (g.2.2.2.1, 6, .inl (fun _ => 0)))] := hD
  refine va_putF (D := (g.1, g.2.1)) (ci := 7) (v := .ref q1) (ty := tyX7 2) (C := RX7) (T := TX7) (N := 11) hx hb hts winX7 tyX7 tyX7_ok nmX7 hown hK hP hD hS 0 rfl rfl 2 (by decide) (hts _ (wf_X7_init _ (List.mem_of_getElem? (i := 1) rfl))) (fun _ h9 => h9) rfl hin rfl (tyX7_ok 2 (by decide)) rfl rfl (Nat.le_of_ble_eq_true rfl) dX7_init_17 (fun H locs hP hD hS => ?_)
  have hP : va_P (g.1, g.2.1) vwCl [(h0, .inr (7, [.null, .ref q0, .ref q1, .null, .null, .null, .null, .null, .null, .int 0, .int 0])), (q0, .inl (g.2.2.2.1, 6, .inl (fun _ => 0))), (q1, .inl (g.2.2.2.1, 6, .inl (fun _ => 0)))] H := hP
  have hD : va_D A [(h0, .inr (7, [.null, .ref q0, .ref q1, .null, .null, .null, .null, .null, .null, .int 0, .int 0])), (q0, .inl (g.2.2.2.1, 6, .inl (fun _ => 0))), (q1, .inl (g.2.2.2.1, 6, .inl (fun _ => 0)))] := hD
  refine lv_aload_n hx hb dX7_init_20 rfl (lv_at hl 0 rfl) ?_
  refine lv_bipush (v := 6) hx hb dX7_init_21 (by decide) ?_
  refine lw_newi (N := 6) hx hb (hts _ (w_X7_init _ (List.mem_of_getElem? (i := 3) rfl))) hK hP hD hS hA (by decide) (by decide) (by decide) (Nat.le_of_ble_eq_true rfl) (Nat.le_of_ble_eq_true rfl) dX7_init_23 (fun q2 H hP hD hS => ?_)
  have hP : va_P (g.1, g.2.1) vwCl [(h0, .inr (7, [.null, .ref q0, .ref q1, .null, .null, .null, .null, .null, .null, .int 0, .int 0])), (q0, .inl (g.2.2.2.1, 6, .inl (fun _ => 0))), (q1, .inl (g.2.2.2.1, 6, .inl (fun _ => 0))), (q2, .inl (g.2.2.2.1, 6, .inl (fun _ => 0)))] H := hP
  have hD : va_D A [(h0, .inr (7, [.null, .ref q0, .ref q1, .null, .null, .null, .null, .null, .null, .int 0, .int 0])), (q0, .inl (g.2.2.2.1, 6, .inl (fun _ => 0))), (q1, .inl (g.2.2.2.1, 6, .inl (fun _ => 0))), (q2, .inl (g.2.2.2.1, 6, .inl (fun _ => 0)))] := hD
  refine va_putF (D := (g.1, g.2.1)) (ci := 7) (v := .ref q2) (ty := tyX7 3) (C := RX7) (T := TX7) (N := 11) hx hb hts winX7 tyX7 tyX7_ok nmX7 hown hK hP hD hS 0 rfl rfl 3 (by decide) (hts _ (wf_X7_init _ (List.mem_of_getElem? (i := 2) rfl))) (fun _ h9 => h9) rfl hin rfl (tyX7_ok 3 (by decide)) rfl rfl (Nat.le_of_ble_eq_true rfl) dX7_init_25 (fun H locs hP hD hS => ?_)
  have hP : va_P (g.1, g.2.1) vwCl [(h0, .inr (7, [.null, .ref q0, .ref q1, .ref q2, .null, .null, .null, .null, .null, .int 0, .int 0])), (q0, .inl (g.2.2.2.1, 6, .inl (fun _ => 0))), (q1, .inl (g.2.2.2.1, 6, .inl (fun _ => 0))), (q2, .inl (g.2.2.2.1, 6, .inl (fun _ => 0)))] H := hP
  have hD : va_D A [(h0, .inr (7, [.null, .ref q0, .ref q1, .ref q2, .null, .null, .null, .null, .null, .int 0, .int 0])), (q0, .inl (g.2.2.2.1, 6, .inl (fun _ => 0))), (q1, .inl (g.2.2.2.1, 6, .inl (fun _ => 0))), (q2, .inl (g.2.2.2.1, 6, .inl (fun _ => 0)))] := hD
  refine lv_aload_n hx hb dX7_init_28 rfl (lv_at hl 0 rfl) ?_
  refine lv_bipush (v := 6) hx hb dX7_init_29 (by decide) ?_
  refine lw_newi (N := 6) hx hb (hts _ (w_X7_init _ (List.mem_of_getElem? (i := 3) rfl))) hK hP hD hS hA (by decide) (by decide) (by decide) (Nat.le_of_ble_eq_true rfl) (Nat.le_of_ble_eq_true rfl) dX7_init_31 (fun q3 H hP hD hS => ?_)
  have hP : va_P (g.1, g.2.1) vwCl [(h0, .inr (7, [.null, .ref q0, .ref q1, .ref q2, .null, .null, .null, .null, .null, .int 0, .int 0])), (q0, .inl (g.2.2.2.1, 6, .inl (fun _ => 0))), (q1, .inl (g.2.2.2.1, 6, .inl (fun _ => 0))), (q2, .inl (g.2.2.2.1, 6, .inl (fun _ => 0))), (q3, .inl (g.2.2.2.1, 6, .inl (fun _ => 0)))] H := hP
  have hD : va_D A [(h0, .inr (7, [.null, .ref q0, .ref q1, .ref q2, .null, .null, .null, .null, .null, .int 0, .int 0])), (q0, .inl (g.2.2.2.1, 6, .inl (fun _ => 0))), (q1, .inl (g.2.2.2.1, 6, .inl (fun _ => 0))), (q2, .inl (g.2.2.2.1, 6, .inl (fun _ => 0))), (q3, .inl (g.2.2.2.1, 6, .inl (fun _ => 0)))] := hD
  refine va_putF (D := (g.1, g.2.1)) (ci := 7) (v := .ref q3) (ty := tyX7 4) (C := RX7) (T := TX7) (N := 11) hx hb hts winX7 tyX7 tyX7_ok nmX7 hown hK hP hD hS 0 rfl rfl 4 (by decide) (hts _ (wf_X7_init _ (List.mem_of_getElem? (i := 3) rfl))) (fun _ h9 => h9) rfl hin rfl (tyX7_ok 4 (by decide)) rfl rfl (Nat.le_of_ble_eq_true rfl) dX7_init_33 (fun H locs hP hD hS => ?_)
  have hP : va_P (g.1, g.2.1) vwCl [(h0, .inr (7, [.null, .ref q0, .ref q1, .ref q2, .ref q3, .null, .null, .null, .null, .int 0, .int 0])), (q0, .inl (g.2.2.2.1, 6, .inl (fun _ => 0))), (q1, .inl (g.2.2.2.1, 6, .inl (fun _ => 0))), (q2, .inl (g.2.2.2.1, 6, .inl (fun _ => 0))), (q3, .inl (g.2.2.2.1, 6, .inl (fun _ => 0)))] H := hP
  have hD : va_D A [(h0, .inr (7, [.null, .ref q0, .ref q1, .ref q2, .ref q3, .null, .null, .null, .null, .int 0, .int 0])), (q0, .inl (g.2.2.2.1, 6, .inl (fun _ => 0))), (q1, .inl (g.2.2.2.1, 6, .inl (fun _ => 0))), (q2, .inl (g.2.2.2.1, 6, .inl (fun _ => 0))), (q3, .inl (g.2.2.2.1, 6, .inl (fun _ => 0)))] := hD
  refine lv_aload_n hx hb dX7_init_36 rfl (lv_at hl 0 rfl) ?_
  refine lv_bipush (v := 36) hx hb dX7_init_37 (by decide) ?_
  refine lw_newi (N := 36) hx hb (hts _ (w_X7_init _ (List.mem_of_getElem? (i := 3) rfl))) hK hP hD hS hA (by decide) (by decide) (by decide) (Nat.le_of_ble_eq_true rfl) (Nat.le_of_ble_eq_true rfl) dX7_init_39 (fun q4 H hP hD hS => ?_)
  have hP : va_P (g.1, g.2.1) vwCl [(h0, .inr (7, [.null, .ref q0, .ref q1, .ref q2, .ref q3, .null, .null, .null, .null, .int 0, .int 0])), (q0, .inl (g.2.2.2.1, 6, .inl (fun _ => 0))), (q1, .inl (g.2.2.2.1, 6, .inl (fun _ => 0))), (q2, .inl (g.2.2.2.1, 6, .inl (fun _ => 0))), (q3, .inl (g.2.2.2.1, 6, .inl (fun _ => 0))), (q4, .inl (g.2.2.2.1, 36, .inl (fun _ => 0)))] H := hP
  have hD : va_D A [(h0, .inr (7, [.null, .ref q0, .ref q1, .ref q2, .ref q3, .null, .null, .null, .null, .int 0, .int 0])), (q0, .inl (g.2.2.2.1, 6, .inl (fun _ => 0))), (q1, .inl (g.2.2.2.1, 6, .inl (fun _ => 0))), (q2, .inl (g.2.2.2.1, 6, .inl (fun _ => 0))), (q3, .inl (g.2.2.2.1, 6, .inl (fun _ => 0))), (q4, .inl (g.2.2.2.1, 36, .inl (fun _ => 0)))] := hD
  refine va_putF (D := (g.1, g.2.1)) (ci := 7) (v := .ref q4) (ty := tyX7 5) (C := RX7) (T := TX7) (N := 11) hx hb hts winX7 tyX7 tyX7_ok nmX7 hown hK hP hD hS 0 rfl rfl 5 (by decide) (hts _ (wf_X7_init _ (List.mem_of_getElem? (i := 4) rfl))) (fun _ h9 => h9) rfl hin rfl (tyX7_ok 5 (by decide)) rfl rfl (Nat.le_of_ble_eq_true rfl) dX7_init_41 (fun H locs hP hD hS => ?_)
  have hP : va_P (g.1, g.2.1) vwCl [(h0, .inr (7, [.null, .ref q0, .ref q1, .ref q2, .ref q3, .ref q4, .null, .null, .null, .int 0, .int 0])), (q0, .inl (g.2.2.2.1, 6, .inl (fun _ => 0))), (q1, .inl (g.2.2.2.1, 6, .inl (fun _ => 0))), (q2, .inl (g.2.2.2.1, 6, .inl (fun _ => 0))), (q3, .inl (g.2.2.2.1, 6, .inl (fun _ => 0))), (q4, .inl (g.2.2.2.1, 36, .inl (fun _ => 0)))] H := hP
  have hD : va_D A [(h0, .inr (7, [.null, .ref q0, .ref q1, .ref q2, .ref q3, .ref q4, .null, .null, .null, .int 0, .int 0])), (q0, .inl (g.2.2.2.1, 6, .inl (fun _ => 0))), (q1, .inl (g.2.2.2.1, 6, .inl (fun _ => 0))), (q2, .inl (g.2.2.2.1, 6, .inl (fun _ => 0))), (q3, .inl (g.2.2.2.1, 6, .inl (fun _ => 0))), (q4, .inl (g.2.2.2.1, 36, .inl (fun _ => 0)))] := hD
  refine lv_aload_n hx hb dX7_init_44 rfl (lv_at hl 0 rfl) ?_
  refine lv_bipush (v := 36) hx hb dX7_init_45 (by decide) ?_
  refine lw_newi (N := 36) hx hb (hts _ (w_X7_init _ (List.mem_of_getElem? (i := 3) rfl))) hK hP hD hS hA (by decide) (by decide) (by decide) (Nat.le_of_ble_eq_true rfl) (Nat.le_of_ble_eq_true rfl) dX7_init_47 (fun q5 H hP hD hS => ?_)
  have hP : va_P (g.1, g.2.1) vwCl [(h0, .inr (7, [.null, .ref q0, .ref q1, .ref q2, .ref q3, .ref q4, .null, .null, .null, .int 0, .int 0])), (q0, .inl (g.2.2.2.1, 6, .inl (fun _ => 0))), (q1, .inl (g.2.2.2.1, 6, .inl (fun _ => 0))), (q2, .inl (g.2.2.2.1, 6, .inl (fun _ => 0))), (q3, .inl (g.2.2.2.1, 6, .inl (fun _ => 0))), (q4, .inl (g.2.2.2.1, 36, .inl (fun _ => 0))), (q5, .inl (g.2.2.2.1, 36, .inl (fun _ => 0)))] H := hP
  have hD : va_D A [(h0, .inr (7, [.null, .ref q0, .ref q1, .ref q2, .ref q3, .ref q4, .null, .null, .null, .int 0, .int 0])), (q0, .inl (g.2.2.2.1, 6, .inl (fun _ => 0))), (q1, .inl (g.2.2.2.1, 6, .inl (fun _ => 0))), (q2, .inl (g.2.2.2.1, 6, .inl (fun _ => 0))), (q3, .inl (g.2.2.2.1, 6, .inl (fun _ => 0))), (q4, .inl (g.2.2.2.1, 36, .inl (fun _ => 0))), (q5, .inl (g.2.2.2.1, 36, .inl (fun _ => 0)))] := hD
  refine va_putF (D := (g.1, g.2.1)) (ci := 7) (v := .ref q5) (ty := tyX7 6) (C := RX7) (T := TX7) (N := 11) hx hb hts winX7 tyX7 tyX7_ok nmX7 hown hK hP hD hS 0 rfl rfl 6 (by decide) (hts _ (wf_X7_init _ (List.mem_of_getElem? (i := 5) rfl))) (fun _ h9 => h9) rfl hin rfl (tyX7_ok 6 (by decide)) rfl rfl (Nat.le_of_ble_eq_true rfl) dX7_init_49 (fun H locs hP hD hS => ?_)
  have hP : va_P (g.1, g.2.1) vwCl [(h0, .inr (7, [.null, .ref q0, .ref q1, .ref q2, .ref q3, .ref q4, .ref q5, .null, .null, .int 0, .int 0])), (q0, .inl (g.2.2.2.1, 6, .inl (fun _ => 0))), (q1, .inl (g.2.2.2.1, 6, .inl (fun _ => 0))), (q2, .inl (g.2.2.2.1, 6, .inl (fun _ => 0))), (q3, .inl (g.2.2.2.1, 6, .inl (fun _ => 0))), (q4, .inl (g.2.2.2.1, 36, .inl (fun _ => 0))), (q5, .inl (g.2.2.2.1, 36, .inl (fun _ => 0)))] H := hP
  have hD : va_D A [(h0, .inr (7, [.null, .ref q0, .ref q1, .ref q2, .ref q3, .ref q4, .ref q5, .null, .null, .int 0, .int 0])), (q0, .inl (g.2.2.2.1, 6, .inl (fun _ => 0))), (q1, .inl (g.2.2.2.1, 6, .inl (fun _ => 0))), (q2, .inl (g.2.2.2.1, 6, .inl (fun _ => 0))), (q3, .inl (g.2.2.2.1, 6, .inl (fun _ => 0))), (q4, .inl (g.2.2.2.1, 36, .inl (fun _ => 0))), (q5, .inl (g.2.2.2.1, 36, .inl (fun _ => 0)))] := hD
  refine lv_aload_n hx hb dX7_init_52 rfl (lv_at hl 0 rfl) ?_
  refine lv_bipush (v := 36) hx hb dX7_init_53 (by decide) ?_
  refine lw_newi (N := 36) hx hb (hts _ (w_X7_init _ (List.mem_of_getElem? (i := 3) rfl))) hK hP hD hS hA (by decide) (by decide) (by decide) (Nat.le_of_ble_eq_true rfl) (Nat.le_of_ble_eq_true rfl) dX7_init_55 (fun q6 H hP hD hS => ?_)
  have hP : va_P (g.1, g.2.1) vwCl [(h0, .inr (7, [.null, .ref q0, .ref q1, .ref q2, .ref q3, .ref q4, .ref q5, .null, .null, .int 0, .int 0])), (q0, .inl (g.2.2.2.1, 6, .inl (fun _ => 0))), (q1, .inl (g.2.2.2.1, 6, .inl (fun _ => 0))), (q2, .inl (g.2.2.2.1, 6, .inl (fun _ => 0))), (q3, .inl (g.2.2.2.1, 6, .inl (fun _ => 0))), (q4, .inl (g.2.2.2.1, 36, .inl (fun _ => 0))), (q5, .inl (g.2.2.2.1, 36, .inl (fun _ => 0))), (q6, .inl (g.2.2.2.1, 36, .inl (fun _ => 0)))] H := hP
  have hD : va_D A [(h0, .inr (7, [.null, .ref q0, .ref q1, .ref q2, .ref q3, .ref q4, .ref q5, .null, .null, .int 0, .int 0])), (q0, .inl (g.2.2.2.1, 6, .inl (fun _ => 0))), (q1, .inl (g.2.2.2.1, 6, .inl (fun _ => 0))), (q2, .inl (g.2.2.2.1, 6, .inl (fun _ => 0))), (q3, .inl (g.2.2.2.1, 6, .inl (fun _ => 0))), (q4, .inl (g.2.2.2.1, 36, .inl (fun _ => 0))), (q5, .inl (g.2.2.2.1, 36, .inl (fun _ => 0))), (q6, .inl (g.2.2.2.1, 36, .inl (fun _ => 0)))] := hD
  refine va_putF (D := (g.1, g.2.1)) (ci := 7) (v := .ref q6) (ty := tyX7 7) (C := RX7) (T := TX7) (N := 11) hx hb hts winX7 tyX7 tyX7_ok nmX7 hown hK hP hD hS 0 rfl rfl 7 (by decide) (hts _ (wf_X7_init _ (List.mem_of_getElem? (i := 6) rfl))) (fun _ h9 => h9) rfl hin rfl (tyX7_ok 7 (by decide)) rfl rfl (Nat.le_of_ble_eq_true rfl) dX7_init_57 (fun H locs hP hD hS => ?_)
  have hP : va_P (g.1, g.2.1) vwCl [(h0, .inr (7, [.null, .ref q0, .ref q1, .ref q2, .ref q3, .ref q4, .ref q5, .ref q6, .null, .int 0, .int 0])), (q0, .inl (g.2.2.2.1, 6, .inl (fun _ => 0))), (q1, .inl (g.2.2.2.1, 6, .inl (fun _ => 0))), (q2, .inl (g.2.2.2.1, 6, .inl (fun _ => 0))), (q3, .inl (g.2.2.2.1, 6, .inl (fun _ => 0))), (q4, .inl (g.2.2.2.1, 36, .inl (fun _ => 0))), (q5, .inl (g.2.2.2.1, 36, .inl (fun _ => 0))), (q6, .inl (g.2.2.2.1, 36, .inl (fun _ => 0)))] H := hP
  have hD : va_D A [(h0, .inr (7, [.null, .ref q0, .ref q1, .ref q2, .ref q3, .ref q4, .ref q5, .ref q6, .null, .int 0, .int 0])), (q0, .inl (g.2.2.2.1, 6, .inl (fun _ => 0))), (q1, .inl (g.2.2.2.1, 6, .inl (fun _ => 0))), (q2, .inl (g.2.2.2.1, 6, .inl (fun _ => 0))), (q3, .inl (g.2.2.2.1, 6, .inl (fun _ => 0))), (q4, .inl (g.2.2.2.1, 36, .inl (fun _ => 0))), (q5, .inl (g.2.2.2.1, 36, .inl (fun _ => 0))), (q6, .inl (g.2.2.2.1, 36, .inl (fun _ => 0)))] := hD
  refine lv_aload_n hx hb dX7_init_60 rfl (lv_at hl 0 rfl) ?_
  refine lv_bipush (v := 36) hx hb dX7_init_61 (by decide) ?_
  refine lw_newi (N := 36) hx hb (hts _ (w_X7_init _ (List.mem_of_getElem? (i := 3) rfl))) hK hP hD hS hA (by decide) (by decide) (by decide) (Nat.le_of_ble_eq_true rfl) (Nat.le_of_ble_eq_true rfl) dX7_init_63 (fun q7 H hP hD hS => ?_)
  have hP : va_P (g.1, g.2.1) vwCl [(h0, .inr (7, [.null, .ref q0, .ref q1, .ref q2, .ref q3, .ref q4, .ref q5, .ref q6, .null, .int 0, .int 0])), (q0, .inl (g.2.2.2.1, 6, .inl (fun _ => 0))), (q1, .inl (g.2.2.2.1, 6, .inl (fun _ => 0))), (q2, .inl (g.2.2.2.1, 6, .inl (fun _ => 0))), (q3, .inl (g.2.2.2.1, 6, .inl (fun _ => 0))), (q4, .inl (g.2.2.2.1, 36, .inl (fun _ => 0))), (q5, .inl (g.2.2.2.1, 36, .inl (fun _ => 0))), (q6, .inl (g.2.2.2.1, 36, .inl (fun _ => 0))), (q7, .inl (g.2.2.2.1, 36, .inl (fun _ => 0)))] H := hP
  have hD : va_D A [(h0, .inr (7, [.null, .ref q0, .ref q1, .ref q2, .ref q3, .ref q4, .ref q5, .ref q6, .null, .int 0, .int 0])), (q0, .inl (g.2.2.2.1, 6, .inl (fun _ => 0))), (q1, .inl (g.2.2.2.1, 6, .inl (fun _ => 0))), (q2, .inl (g.2.2.2.1, 6, .inl (fun _ => 0))), (q3, .inl (g.2.2.2.1, 6, .inl (fun _ => 0))), (q4, .inl (g.2.2.2.1, 36, .inl (fun _ => 0))), (q5, .inl (g.2.2.2.1, 36, .inl (fun _ => 0))), (q6, .inl (g.2.2.2.1, 36, .inl (fun _ => 0))), (q7, .inl (g.2.2.2.1, 36, .inl (fun _ => 0)))] := hD
  refine va_putF (D := (g.1, g.2.1)) (ci := 7) (v := .ref q7) (ty := tyX7 8) (C := RX7) (T := TX7) (N := 11) hx hb hts winX7 tyX7 tyX7_ok nmX7 hown hK hP hD hS 0 rfl rfl 8 (by decide) (hts _ (wf_X7_init _ (List.mem_of_getElem? (i := 7) rfl))) (fun _ h9 => h9) rfl hin rfl (tyX7_ok 8 (by decide)) rfl rfl (Nat.le_of_ble_eq_true rfl) dX7_init_65 (fun H locs hP hD hS => ?_)
  have hP : va_P (g.1, g.2.1) vwCl [(h0, .inr (7, [.null, .ref q0, .ref q1, .ref q2, .ref q3, .ref q4, .ref q5, .ref q6, .ref q7, .int 0, .int 0])), (q0, .inl (g.2.2.2.1, 6, .inl (fun _ => 0))), (q1, .inl (g.2.2.2.1, 6, .inl (fun _ => 0))), (q2, .inl (g.2.2.2.1, 6, .inl (fun _ => 0))), (q3, .inl (g.2.2.2.1, 6, .inl (fun _ => 0))), (q4, .inl (g.2.2.2.1, 36, .inl (fun _ => 0))), (q5, .inl (g.2.2.2.1, 36, .inl (fun _ => 0))), (q6, .inl (g.2.2.2.1, 36, .inl (fun _ => 0))), (q7, .inl (g.2.2.2.1, 36, .inl (fun _ => 0)))] H := hP
  have hD : va_D A [(h0, .inr (7, [.null, .ref q0, .ref q1, .ref q2, .ref q3, .ref q4, .ref q5, .ref q6, .ref q7, .int 0, .int 0])), (q0, .inl (g.2.2.2.1, 6, .inl (fun _ => 0))), (q1, .inl (g.2.2.2.1, 6, .inl (fun _ => 0))), (q2, .inl (g.2.2.2.1, 6, .inl (fun _ => 0))), (q3, .inl (g.2.2.2.1, 6, .inl (fun _ => 0))), (q4, .inl (g.2.2.2.1, 36, .inl (fun _ => 0))), (q5, .inl (g.2.2.2.1, 36, .inl (fun _ => 0))), (q6, .inl (g.2.2.2.1, 36, .inl (fun _ => 0))), (q7, .inl (g.2.2.2.1, 36, .inl (fun _ => 0)))] := hD
  refine lv_aload_n hx hb dX7_init_68 rfl (lv_at hl 0 rfl) ?_
  refine lv_aload_n hx hb dX7_init_69 rfl (lv_at hl 1 rfl) ?_
  refine va_putF (D := (g.1, g.2.1)) (ci := 7) (v := .ref a0) (ty := tyX7 0) (C := RX7) (T := TX7) (N := 11) hx hb hts winX7 tyX7 tyX7_ok nmX7 hown hK hP hD hS 0 rfl rfl 0 (by decide) (hts _ (wf_X7_init _ (List.mem_of_getElem? (i := 8) rfl))) (fun _ h9 => h9) rfl hin rfl (tyX7_ok 0 (by decide)) rfl rfl (Nat.le_of_ble_eq_true rfl) dX7_init_70 (fun H locs hP hD hS => ?_)
  have hP : va_P (g.1, g.2.1) vwCl [(h0, .inr (7, [.ref a0, .ref q0, .ref q1, .ref q2, .ref q3, .ref q4, .ref q5, .ref q6, .ref q7, .int 0, .int 0])), (q0, .inl (g.2.2.2.1, 6, .inl (fun _ => 0))), (q1, .inl (g.2.2.2.1, 6, .inl (fun _ => 0))), (q2, .inl (g.2.2.2.1, 6, .inl (fun _ => 0))), (q3, .inl (g.2.2.2.1, 6, .inl (fun _ => 0))), (q4, .inl (g.2.2.2.1, 36, .inl (fun _ => 0))), (q5, .inl (g.2.2.2.1, 36, .inl (fun _ => 0))), (q6, .inl (g.2.2.2.1, 36, .inl (fun _ => 0))), (q7, .inl (g.2.2.2.1, 36, .inl (fun _ => 0)))] H := hP
  have hD : va_D A [(h0, .inr (7, [.ref a0, .ref q0, .ref q1, .ref q2, .ref q3, .ref q4, .ref q5, .ref q6, .ref q7, .int 0, .int 0])), (q0, .inl (g.2.2.2.1, 6, .inl (fun _ => 0))), (q1, .inl (g.2.2.2.1, 6, .inl (fun _ => 0))), (q2, .inl (g.2.2.2.1, 6, .inl (fun _ => 0))), (q3, .inl (g.2.2.2.1, 6, .inl (fun _ => 0))), (q4, .inl (g.2.2.2.1, 36, .inl (fun _ => 0))), (q5, .inl (g.2.2.2.1, 36, .inl (fun _ => 0))), (q6, .inl (g.2.2.2.1, 36, .inl (fun _ => 0))), (q7, .inl (g.2.2.2.1, 36, .inl (fun _ => 0)))] := hD
  exact W.vret hx hb hr (fun t ht hW => ⟨⟨(), rfl, trivial, q0, q1, q2, q3, q4, q5, q6, q7, by rw [ht]; exact hP, va_K.moved hW.alike hK, hD⟩, hS.F ht⟩) hS.2.2 dX7_init_73
theorem w_X0_init : ∀ w ∈ ([.methodLink RX0 3 objectInit, .instanceMethod objectInit, .code objectInit ⟨#[0xb1]⟩ 1 none, .arrayClass .int, .arrayClass .long, .arrayClass .byte] : List Cond), w ∈ gb_B := by
  have h : ∀ w ∈ ([.methodLink RX0 3 objectInit, .instanceMethod objectInit, .code objectInit ⟨#[0xb1]⟩ 1 none, .arrayClass .int, .arrayClass .long, .arrayClass .byte] : List Cond), w ∈ lw_tbl ∧ goodWord w = true := by decide +kernel
  exact fun w hw => List.mem_filter.mpr (h w hw)
theorem wf_X0_init : ∀ w ∈ ([.fieldLink RX0 9 "GrainBins$Drawing" "gone" "[I", .fieldLink RX0 17 "GrainBins$Drawing" "way" "[I", .fieldLink RX0 20 "GrainBins$Drawing" "bestWay" "[I", .fieldLink RX0 23 "GrainBins$Drawing" "store" "LGrainBins$Store;", .fieldLink RX0 27 "GrainBins$Drawing" "orders" "LGrainBins$Orders;"] : List Cond), w ∈ gb_B := by
  have h : ∀ w ∈ ([.fieldLink RX0 9 "GrainBins$Drawing" "gone" "[I", .fieldLink RX0 17 "GrainBins$Drawing" "way" "[I", .fieldLink RX0 20 "GrainBins$Drawing" "bestWay" "[I", .fieldLink RX0 23 "GrainBins$Drawing" "store" "LGrainBins$Store;", .fieldLink RX0 27 "GrainBins$Drawing" "orders" "LGrainBins$Orders;"] : List Cond), w ∈ lw_tbl ∧ goodWord w = true := by decide +kernel
  exact fun w hw => List.mem_filter.mpr (h w hw)
theorem dX0_init_0 : decode cX0_init 0 = .ok (.aload_n 0, 1) := by decide +kernel
theorem dX0_init_1 : decode cX0_init 1 = .ok (.invokespecial 3, 3) := by decide +kernel
theorem dX0_init_4 : decode cX0_init 4 = .ok (.aload_n 0, 1) := by decide +kernel
theorem dX0_init_5 : decode cX0_init 5 = .ok (.bipush 6, 2) := by decide +kernel
theorem dX0_init_7 : decode cX0_init 7 = .ok (.newarray .int, 2) := by decide +kernel
theorem dX0_init_9 : decode cX0_init 9 = .ok (.putfield 9, 3) := by decide +kernel
theorem dX0_init_12 : decode cX0_init 12 = .ok (.aload_n 0, 1) := by decide +kernel
theorem dX0_init_13 : decode cX0_init 13 = .ok (.bipush 6, 2) := by decide +kernel
theorem dX0_init_15 : decode cX0_init 15 = .ok (.newarray .int, 2) := by decide +kernel
theorem dX0_init_17 : decode cX0_init 17 = .ok (.putfield 17, 3) := by decide +kernel
theorem dX0_init_20 : decode cX0_init 20 = .ok (.aload_n 0, 1) := by decide +kernel
theorem dX0_init_21 : decode cX0_init 21 = .ok (.bipush 6, 2) := by decide +kernel
theorem dX0_init_23 : decode cX0_init 23 = .ok (.newarray .int, 2) := by decide +kernel
theorem dX0_init_25 : decode cX0_init 25 = .ok (.putfield 20, 3) := by decide +kernel
theorem dX0_init_28 : decode cX0_init 28 = .ok (.aload_n 0, 1) := by decide +kernel
theorem dX0_init_29 : decode cX0_init 29 = .ok (.aload_n 1, 1) := by decide +kernel
theorem dX0_init_30 : decode cX0_init 30 = .ok (.putfield 23, 3) := by decide +kernel
theorem dX0_init_33 : decode cX0_init 33 = .ok (.aload_n 0, 1) := by decide +kernel
theorem dX0_init_34 : decode cX0_init 34 = .ok (.aload_n 2, 1) := by decide +kernel
theorem dX0_init_35 : decode cX0_init 35 = .ok (.putfield 27, 3) := by decide +kernel
theorem dX0_init_38 : decode cX0_init 38 = .ok (.return_, 1) := by decide +kernel
set_option maxHeartbeats 4000000 in
theorem n_X0_init (l : Launch) (g : gb_G) (h0 a0 a1 : Nat) (sz : Nat) : Met l yX0_init (.code yX0_init cX0_init 3 none :: gb_B) ({ frames := 2, cells := 3, slots := 18, locals := 60 }) (va_Pc [.ref h0, .ref a0, .ref a1] (fun U => U.heap.size = sz ∧ va_P (g.1, g.2.1) vwCl [(h0, .inr (0, [.null, .null, .null, .null, .null, .int 0]))] U.heap ∧ va_K (g.1, g.2.1) vwCl (gb_T g) U ∧ va_D (fun _ => True) [(h0, .inr (0, [.null, .null, .null, .null, .null, .int 0]))])) (va_Qv (fun _ : Unit => True) (fun _ t => ∃ q0 q1 q2 : Nat, va_P (g.1, g.2.1) vwCl [(h0, .inr (0, [.ref a0, .ref a1, .ref q0, .ref q1, .ref q2, .int 0])), (q0, .inl (g.2.2.2.1, 6, .inl (fun _ => 0))), (q1, .inl (g.2.2.2.1, 6, .inl (fun _ => 0))), (q2, .inl (g.2.2.2.1, 6, .inl (fun _ => 0)))] t.heap ∧ va_K (g.1, g.2.1) vwCl (gb_T g) t ∧ va_D (va_A [(h0, .inr (0, [.null, .null, .null, .null, .null, .int 0]))] sz) [(h0, .inr (0, [.ref a0, .ref a1, .ref q0, .ref q1, .ref q2, .int 0])), (q0, .inl (g.2.2.2.1, 6, .inl (fun _ => 0))), (q1, .inl (g.2.2.2.1, 6, .inl (fun _ => 0))), (q2, .inl (g.2.2.2.1, 6, .inl (fun _ => 0)))]) (va_A [(h0, .inr (0, [.null, .null, .null, .null, .null, .int 0]))] sz)) 3 18 (va_A [(h0, .inr (0, [.null, .null, .null, .null, .null, .int 0]))] sz) := by
  refine Met.ofW (cc := cX0_init) (maxL := 3) (ret := none) (by decide +kernel) rfl ?_
  intro p e s m args below meth c s₁ B hml hv
  obtain ⟨rfl, hsz, hP, hK, hD0⟩ := hv
  have hx := B.exec
  have hb := B.bytes
  have hr := B.returns
  have hts0 := atoms_spec (ws := .code yX0_init cX0_init 3 none :: gb_B) B.pre
  have hts : ∀ w ∈ gb_B, w.before ([.ref h0, .ref a0, .ref a1] : List Value).toArray s = true := fun w hw => hts0 w (List.mem_cons_of_mem _ hw)
  have hown : s.vm.findClass RX0 = some m.cls := findClass_of_methodNamed B.named
  have hlocks := B.notSynchronized
  have hin : meth.name = "<init>" := (name_of_methodNamed B.named B.method).1
  subst hsz
  have hD := hD0.self (sz := s.heap.size)
  generalize hAe : va_A [(h0, .inr (0, [.null, .null, .null, .null, .null, .int 0]))] s.heap.size = A at hD ⊢
  have hA : ∀ q : Nat, s.heap.size ≤ q → A q := fun q h => by rw [← hAe]; exact Or.inr h
  have hS : va_S A s.heap s.heap [] := va_S.rf
  have hl := lv_entry ([.ref h0, .ref a0, .ref a1]) (n := 3) (Nat.le_of_ble_eq_true rfl)
  rw [lg_entry_eq]
  generalize (lg_sl ([.ref h0, .ref a0, .ref a1]) ++ List.replicate (3 - (lg_sl ([.ref h0, .ref a0, .ref a1])).length) Slot.unset).toArray = ls at hl ⊢
  have hl : lv_has ls 3 [(0, .ref h0), (1, .ref a0), (2, .ref a1)] := hl
  refine lv_aload_n hx hb dX0_init_0 rfl (lv_at hl 0 rfl) ?_
  refine W.objInit hx hb hown (hts (.methodLink RX0 3 objectInit) (w_X0_init _ (List.mem_of_getElem? (i := 0) rfl))) (hts (.instanceMethod objectInit) (w_X0_init _ (List.mem_of_getElem? (i := 1) rfl))) (hts _ (w_X0_init _ (List.mem_of_getElem? (i := 2) rfl))) rfl (by rw [hml]; exact hl.1) rfl dX0_init_1 (Nat.le_of_ble_eq_true rfl) (Nat.le_of_ble_eq_true rfl) ?_
  refine W.eq (g2 := F0 m 4 ls []) rfl ?_
  refine lv_aload_n hx hb dX0_init_4 rfl (lv_at hl 0 rfl) ?_
  refine lv_bipush (v := 6) hx hb dX0_init_5 (by decide) ?_
  refine lw_newi (N := 6) hx hb (hts _ (w_X0_init _ (List.mem_of_getElem? (i := 3) rfl))) hK hP hD hS hA (by decide) (by decide) (by decide) (Nat.le_of_ble_eq_true rfl) (Nat.le_of_ble_eq_true rfl) dX0_init_7 (fun q0 H hP hD hS => ?_)
  have hP : va_P (g.1, g.2.1) vwCl [(h0, .inr (0, [.null, .null, .null, .null, .null, .int 0])), (q0, .inl (g.2.2.2.1, 6, .inl (fun _ => 0)))] H := hP
  have hD : va_D A [(h0, .inr (0, [.null, .null, .null, .null, .null, .int 0])), (q0, .inl (g.2.2.2.1, 6, .inl (fun _ => 0)))] := hD
  refine va_putF (D := (g.1, g.2.1)) (ci := 0) (v := .ref q0) (ty := tyX0 2) (C := RX0) (T := TX0) (N := 6) hx hb hts winX0 tyX0 tyX0_ok nmX0 hown hK hP hD hS 0 rfl rfl 2 (by decide) (hts _ (wf_X0_init _ (List.mem_of_getElem? (i := 0) rfl))) (fun _ h9 => h9) rfl hin rfl (tyX0_ok 2 (by decide)) rfl rfl (Nat.le_of_ble_eq_true rfl) dX0_init_9 (fun H locs hP hD hS => ?_)
  have hP : va_P (g.1, g.2.1) vwCl [(h0, .inr (0, [.null, .null, .ref q0, .null, .null, .int 0])), (q0, .inl (g.2.2.2.1, 6, .inl (fun _ => 0)))] H := hP
  have hD : va_D A [(h0, .inr (0, [.null, .null, .ref q0, .null, .null, .int 0])), (q0, .inl (g.2.2.2.1, 6, .inl (fun _ => 0)))] := hD
  refine lv_aload_n hx hb dX0_init_12 rfl (lv_at hl 0 rfl) ?_
  refine lv_bipush (v := 6) hx hb dX0_init_13 (by decide) ?_
  refine lw_newi (N := 6) hx hb (hts _ (w_X0_init _ (List.mem_of_getElem? (i := 3) rfl))) hK hP hD hS hA (by decide) (by decide) (by decide) (Nat.le_of_ble_eq_true rfl) (Nat.le_of_ble_eq_true rfl) dX0_init_15 (fun q1 H hP hD hS => ?_)
  have hP : va_P (g.1, g.2.1) vwCl [(h0, .inr (0, [.null, .null, .ref q0, .null, .null, .int 0])), (q0, .inl (g.2.2.2.1, 6, .inl (fun _ => 0))), (q1, .inl (g.2.2.2.1, 6, .inl (fun _ => 0)))] H := hP
  have hD : va_D A [(h0, .inr (0, [.null, .null, .ref q0, .null, .null, .int 0])), (q0, .inl (g.2.2.2.1, 6, .inl (fun _ => 0))), (q1, .inl (g.2.2.2.1, 6, .inl (fun _ => 0)))] := hD
  refine va_putF (D := (g.1, g.2.1)) (ci := 0) (v := .ref q1) (ty := tyX0 3) (C := RX0) (T := TX0) (N := 6) hx hb hts winX0 tyX0 tyX0_ok nmX0 hown hK hP hD hS 0 rfl rfl 3 (by decide) (hts _ (wf_X0_init _ (List.mem_of_getElem? (i := 1) rfl))) (fun _ h9 => h9) rfl hin rfl (tyX0_ok 3 (by decide)) rfl rfl (Nat.le_of_ble_eq_true rfl) dX0_init_17 (fun H locs hP hD hS => ?_)
  have hP : va_P (g.1, g.2.1) vwCl [(h0, .inr (0, [.null, .null, .ref q0, .ref q1, .null, .int 0])), (q0, .inl (g.2.2.2.1, 6, .inl (fun _ => 0))), (q1, .inl (g.2.2.2.1, 6, .inl (fun _ => 0)))] H := hP
  have hD : va_D A [(h0, .inr (0, [.null, .null, .ref q0, .ref q1, .null, .int 0])), (q0, .inl (g.2.2.2.1, 6, .inl (fun _ => 0))), (q1, .inl (g.2.2.2.1, 6, .inl (fun _ => 0)))] := hD
  refine lv_aload_n hx hb dX0_init_20 rfl (lv_at hl 0 rfl) ?_
  refine lv_bipush (v := 6) hx hb dX0_init_21 (by decide) ?_
  refine lw_newi (N := 6) hx hb (hts _ (w_X0_init _ (List.mem_of_getElem? (i := 3) rfl))) hK hP hD hS hA (by decide) (by decide) (by decide) (Nat.le_of_ble_eq_true rfl) (Nat.le_of_ble_eq_true rfl) dX0_init_23 (fun q2 H hP hD hS => ?_)
  have hP : va_P (g.1, g.2.1) vwCl [(h0, .inr (0, [.null, .null, .ref q0, .ref q1, .null, .int 0])), (q0, .inl (g.2.2.2.1, 6, .inl (fun _ => 0))), (q1, .inl (g.2.2.2.1, 6, .inl (fun _ => 0))), (q2, .inl (g.2.2.2.1, 6, .inl (fun _ => 0)))] H := hP
  have hD : va_D A [(h0, .inr (0, [.null, .null, .ref q0, .ref q1, .null, .int 0])), (q0, .inl (g.2.2.2.1, 6, .inl (fun _ => 0))), (q1, .inl (g.2.2.2.1, 6, .inl (fun _ => 0))), (q2, .inl (g.2.2.2.1, 6, .inl (fun _ => 0)))] := hD
  refine va_putF (D := (g.1, g.2.1)) (ci := 0) (v := .ref q2) (ty := tyX0 4) (C := RX0) (T := TX0) (N := 6) hx hb hts winX0 tyX0 tyX0_ok nmX0 hown hK hP hD hS 0 rfl rfl 4 (by decide) (hts _ (wf_X0_init _ (List.mem_of_getElem? (i := 2) rfl))) (fun _ h9 => h9) rfl hin rfl (tyX0_ok 4 (by decide)) rfl rfl (Nat.le_of_ble_eq_true rfl) dX0_init_25 (fun H locs hP hD hS => ?_)
  have hP : va_P (g.1, g.2.1) vwCl [(h0, .inr (0, [.null, .null, .ref q0, .ref q1, .ref q2, .int 0])), (q0, .inl (g.2.2.2.1, 6, .inl (fun _ => 0))), (q1, .inl (g.2.2.2.1, 6, .inl (fun _ => 0))), (q2, .inl (g.2.2.2.1, 6, .inl (fun _ => 0)))] H := hP
  have hD : va_D A [(h0, .inr (0, [.null, .null, .ref q0, .ref q1, .ref q2, .int 0])), (q0, .inl (g.2.2.2.1, 6, .inl (fun _ => 0))), (q1, .inl (g.2.2.2.1, 6, .inl (fun _ => 0))), (q2, .inl (g.2.2.2.1, 6, .inl (fun _ => 0)))] := hD
  refine lv_aload_n hx hb dX0_init_28 rfl (lv_at hl 0 rfl) ?_
  refine lv_aload_n hx hb dX0_init_29 rfl (lv_at hl 1 rfl) ?_
  refine va_putF (D := (g.1, g.2.1)) (ci := 0) (v := .ref a0) (ty := tyX0 0) (C := RX0) (T := TX0) (N := 6) hx hb hts winX0 tyX0 tyX0_ok nmX0 hown hK hP hD hS 0 rfl rfl 0 (by decide) (hts _ (wf_X0_init _ (List.mem_of_getElem? (i := 3) rfl))) (fun _ h9 => h9) rfl hin rfl (tyX0_ok 0 (by decide)) rfl rfl (Nat.le_of_ble_eq_true rfl) dX0_init_30 (fun H locs hP hD hS => ?_)
  have hP : va_P (g.1, g.2.1) vwCl [(h0, .inr (0, [.ref a0, .null, .ref q0, .ref q1, .ref q2, .int 0])), (q0, .inl (g.2.2.2.1, 6, .inl (fun _ => 0))), (q1, .inl (g.2.2.2.1, 6, .inl (fun _ => 0))), (q2, .inl (g.2.2.2.1, 6, .inl (fun _ => 0)))] H := hP
  have hD : va_D A [(h0, .inr (0, [.ref a0, .null, .ref q0, .ref q1, .ref q2, .int 0])), (q0, .inl (g.2.2.2.1, 6, .inl (fun _ => 0))), (q1, .inl (g.2.2.2.1, 6, .inl (fun _ => 0))), (q2, .inl (g.2.2.2.1, 6, .inl (fun _ => 0)))] := hD
  refine lv_aload_n hx hb dX0_init_33 rfl (lv_at hl 0 rfl) ?_
  refine lv_aload_n hx hb dX0_init_34 rfl (lv_at hl 2 rfl) ?_
  refine va_putF (D := (g.1, g.2.1)) (ci := 0) (v := .ref a1) (ty := tyX0 1) (C := RX0) (T := TX0) (N := 6) hx hb hts winX0 tyX0 tyX0_ok nmX0 hown hK hP hD hS 0 rfl rfl 1 (by decide) (hts _ (wf_X0_init _ (List.mem_of_getElem? (i := 4) rfl))) (fun _ h9 => h9) rfl hin rfl (tyX0_ok 1 (by decide)) rfl rfl (Nat.le_of_ble_eq_true rfl) dX0_init_35 (fun H locs hP hD hS => ?_)
  have hP : va_P (g.1, g.2.1) vwCl [(h0, .inr (0, [.ref a0, .ref a1, .ref q0, .ref q1, .ref q2, .int 0])), (q0, .inl (g.2.2.2.1, 6, .inl (fun _ => 0))), (q1, .inl (g.2.2.2.1, 6, .inl (fun _ => 0))), (q2, .inl (g.2.2.2.1, 6, .inl (fun _ => 0)))] H := hP
  have hD : va_D A [(h0, .inr (0, [.ref a0, .ref a1, .ref q0, .ref q1, .ref q2, .int 0])), (q0, .inl (g.2.2.2.1, 6, .inl (fun _ => 0))), (q1, .inl (g.2.2.2.1, 6, .inl (fun _ => 0))), (q2, .inl (g.2.2.2.1, 6, .inl (fun _ => 0)))] := hD
  exact W.vret hx hb hr (fun t ht hW => ⟨⟨(), rfl, trivial, q0, q1, q2, by rw [ht]; exact hP, va_K.moved hW.alike hK, hD⟩, hS.F ht⟩) hS.2.2 dX0_init_38
theorem w_X5_init : ∀ w ∈ ([.methodLink RX5 3 objectInit, .instanceMethod objectInit, .code objectInit ⟨#[0xb1]⟩ 1 none, .arrayClass .int, .arrayClass .long, .arrayClass .byte] : List Cond), w ∈ gb_B := by
  have h : ∀ w ∈ ([.methodLink RX5 3 objectInit, .instanceMethod objectInit, .code objectInit ⟨#[0xb1]⟩ 1 none, .arrayClass .int, .arrayClass .long, .arrayClass .byte] : List Cond), w ∈ lw_tbl ∧ goodWord w = true := by decide +kernel
  exact fun w hw => List.mem_filter.mpr (h w hw)
theorem wf_X5_init : ∀ w ∈ ([.fieldLink RX5 9 "GrainBins$Rules" "firstWorth" "[I", .fieldLink RX5 15 "GrainBins$Rules" "keep" "[I", .fieldLink RX5 18 "GrainBins$Rules" "cap" "[I", .fieldLink RX5 21 "GrainBins$Rules" "loss" "[I", .fieldLink RX5 24 "GrainBins$Rules" "apart" "[I", .fieldLink RX5 27 "GrainBins$Rules" "toldWith" "[I"] : List Cond), w ∈ gb_B := by
  have h : ∀ w ∈ ([.fieldLink RX5 9 "GrainBins$Rules" "firstWorth" "[I", .fieldLink RX5 15 "GrainBins$Rules" "keep" "[I", .fieldLink RX5 18 "GrainBins$Rules" "cap" "[I", .fieldLink RX5 21 "GrainBins$Rules" "loss" "[I", .fieldLink RX5 24 "GrainBins$Rules" "apart" "[I", .fieldLink RX5 27 "GrainBins$Rules" "toldWith" "[I"] : List Cond), w ∈ lw_tbl ∧ goodWord w = true := by decide +kernel
  exact fun w hw => List.mem_filter.mpr (h w hw)
theorem dX5_init_0 : decode cX5_init 0 = .ok (.aload_n 0, 1) := by decide +kernel
theorem dX5_init_1 : decode cX5_init 1 = .ok (.invokespecial 3, 3) := by decide +kernel
theorem dX5_init_4 : decode cX5_init 4 = .ok (.aload_n 0, 1) := by decide +kernel
theorem dX5_init_5 : decode cX5_init 5 = .ok (.bipush 6, 2) := by decide +kernel
theorem dX5_init_7 : decode cX5_init 7 = .ok (.newarray .int, 2) := by decide +kernel
theorem dX5_init_9 : decode cX5_init 9 = .ok (.putfield 9, 3) := by decide +kernel
theorem dX5_init_12 : decode cX5_init 12 = .ok (.aload_n 0, 1) := by decide +kernel
theorem dX5_init_13 : decode cX5_init 13 = .ok (.bipush 6, 2) := by decide +kernel
theorem dX5_init_15 : decode cX5_init 15 = .ok (.newarray .int, 2) := by decide +kernel
theorem dX5_init_17 : decode cX5_init 17 = .ok (.putfield 15, 3) := by decide +kernel
theorem dX5_init_20 : decode cX5_init 20 = .ok (.aload_n 0, 1) := by decide +kernel
theorem dX5_init_21 : decode cX5_init 21 = .ok (.bipush 6, 2) := by decide +kernel
theorem dX5_init_23 : decode cX5_init 23 = .ok (.newarray .int, 2) := by decide +kernel
theorem dX5_init_25 : decode cX5_init 25 = .ok (.putfield 18, 3) := by decide +kernel
theorem dX5_init_28 : decode cX5_init 28 = .ok (.aload_n 0, 1) := by decide +kernel
theorem dX5_init_29 : decode cX5_init 29 = .ok (.bipush 36, 2) := by decide +kernel
theorem dX5_init_31 : decode cX5_init 31 = .ok (.newarray .int, 2) := by decide +kernel
theorem dX5_init_33 : decode cX5_init 33 = .ok (.putfield 21, 3) := by decide +kernel
theorem dX5_init_36 : decode cX5_init 36 = .ok (.aload_n 0, 1) := by decide +kernel
theorem dX5_init_37 : decode cX5_init 37 = .ok (.bipush 6, 2) := by decide +kernel
theorem dX5_init_39 : decode cX5_init 39 = .ok (.newarray .int, 2) := by decide +kernel
theorem dX5_init_41 : decode cX5_init 41 = .ok (.putfield 24, 3) := by decide +kernel
theorem dX5_init_44 : decode cX5_init 44 = .ok (.aload_n 0, 1) := by decide +kernel
theorem dX5_init_45 : decode cX5_init 45 = .ok (.bipush 6, 2) := by decide +kernel
theorem dX5_init_47 : decode cX5_init 47 = .ok (.newarray .int, 2) := by decide +kernel
theorem dX5_init_49 : decode cX5_init 49 = .ok (.putfield 27, 3) := by decide +kernel
theorem dX5_init_52 : decode cX5_init 52 = .ok (.iconst 0, 1) := by decide +kernel
theorem dX5_init_53 : decode cX5_init 53 = .ok (.istore_n 1, 1) := by decide +kernel
theorem dX5_init_54 : decode cX5_init 54 = .ok (.iload_n 1, 1) := by decide +kernel
theorem dX5_init_55 : decode cX5_init 55 = .ok (.bipush 6, 2) := by decide +kernel
theorem dX5_init_57 : decode cX5_init 57 = .ok (.if_icmp .ge 17, 3) := by decide +kernel
theorem dX5_init_60 : decode cX5_init 60 = .ok (.aload_n 0, 1) := by decide +kernel
theorem dX5_init_61 : decode cX5_init 61 = .ok (.getfield 15, 3) := by decide +kernel
theorem dX5_init_64 : decode cX5_init 64 = .ok (.iload_n 1, 1) := by decide +kernel
theorem dX5_init_65 : decode cX5_init 65 = .ok (.bipush 99, 2) := by decide +kernel
theorem dX5_init_67 : decode cX5_init 67 = .ok (.iastore, 1) := by decide +kernel
theorem dX5_init_68 : decode cX5_init 68 = .ok (.iinc 1 1, 3) := by decide +kernel
theorem dX5_init_71 : decode cX5_init 71 = .ok (.goto (-17), 3) := by decide +kernel
theorem dX5_init_74 : decode cX5_init 74 = .ok (.return_, 1) := by decide +kernel
set_option maxHeartbeats 4000000 in
theorem n_X5_init (l : Launch) (g : gb_G) (h0  : Nat) (sz : Nat) : Met l yX5_init (.code yX5_init cX5_init 2 none :: gb_B) ({ frames := 2, cells := 6, slots := 66, locals := 60 }) (va_Pc [.ref h0] (fun U => U.heap.size = sz ∧ va_P (g.1, g.2.1) vwCl [(h0, .inr (5, [.null, .null, .null, .null, .null, .null, .int 0, .int 0]))] U.heap ∧ va_K (g.1, g.2.1) vwCl (gb_T g) U ∧ va_D (fun _ => True) [(h0, .inr (5, [.null, .null, .null, .null, .null, .null, .int 0, .int 0]))])) (va_Qv (fun _ : Unit => True) (fun _ t => ∃ q0 q1 q2 q3 q4 q5 : Nat, va_P (g.1, g.2.1) vwCl [(h0, .inr (5, [.ref q0, .ref q1, .ref q2, .ref q3, .ref q4, .ref q5, .int 0, .int 0])), (q0, .inl (g.2.2.2.1, 6, .inl (fun _ => 0))), (q1, .inl (g.2.2.2.1, 6, .inl (upd (upd (upd (upd (upd (upd (fun _ => 0) (0 : Int32).toNatClampNeg 99) (1 : Int32).toNatClampNeg 99) (2 : Int32).toNatClampNeg 99) (3 : Int32).toNatClampNeg 99) (4 : Int32).toNatClampNeg 99) (5 : Int32).toNatClampNeg 99))), (q2, .inl (g.2.2.2.1, 6, .inl (fun _ => 0))), (q3, .inl (g.2.2.2.1, 36, .inl (fun _ => 0))), (q4, .inl (g.2.2.2.1, 6, .inl (fun _ => 0))), (q5, .inl (g.2.2.2.1, 6, .inl (fun _ => 0)))] t.heap ∧ va_K (g.1, g.2.1) vwCl (gb_T g) t ∧ va_D (va_A [(h0, .inr (5, [.null, .null, .null, .null, .null, .null, .int 0, .int 0]))] sz) [(h0, .inr (5, [.ref q0, .ref q1, .ref q2, .ref q3, .ref q4, .ref q5, .int 0, .int 0])), (q0, .inl (g.2.2.2.1, 6, .inl (fun _ => 0))), (q1, .inl (g.2.2.2.1, 6, .inl (upd (upd (upd (upd (upd (upd (fun _ => 0) (0 : Int32).toNatClampNeg 99) (1 : Int32).toNatClampNeg 99) (2 : Int32).toNatClampNeg 99) (3 : Int32).toNatClampNeg 99) (4 : Int32).toNatClampNeg 99) (5 : Int32).toNatClampNeg 99))), (q2, .inl (g.2.2.2.1, 6, .inl (fun _ => 0))), (q3, .inl (g.2.2.2.1, 36, .inl (fun _ => 0))), (q4, .inl (g.2.2.2.1, 6, .inl (fun _ => 0))), (q5, .inl (g.2.2.2.1, 6, .inl (fun _ => 0)))]) (va_A [(h0, .inr (5, [.null, .null, .null, .null, .null, .null, .int 0, .int 0]))] sz)) 6 66 (va_A [(h0, .inr (5, [.null, .null, .null, .null, .null, .null, .int 0, .int 0]))] sz) := by
  refine Met.ofW (cc := cX5_init) (maxL := 2) (ret := none) (by decide +kernel) rfl ?_
  intro p e s m args below meth c s₁ B hml hv
  obtain ⟨rfl, hsz, hP, hK, hD0⟩ := hv
  have hx := B.exec
  have hb := B.bytes
  have hr := B.returns
  have hts0 := atoms_spec (ws := .code yX5_init cX5_init 2 none :: gb_B) B.pre
  have hts : ∀ w ∈ gb_B, w.before ([.ref h0] : List Value).toArray s = true := fun w hw => hts0 w (List.mem_cons_of_mem _ hw)
  have hown : s.vm.findClass RX5 = some m.cls := findClass_of_methodNamed B.named
  have hlocks := B.notSynchronized
  have hin : meth.name = "<init>" := (name_of_methodNamed B.named B.method).1
  subst hsz
  have hD := hD0.self (sz := s.heap.size)
  generalize hAe : va_A [(h0, .inr (5, [.null, .null, .null, .null, .null, .null, .int 0, .int 0]))] s.heap.size = A at hD ⊢
  have hA : ∀ q : Nat, s.heap.size ≤ q → A q := fun q h => by rw [← hAe]; exact Or.inr h
  have hS : va_S A s.heap s.heap [] := va_S.rf
  have hl := lv_entry ([.ref h0]) (n := 2) (Nat.le_of_ble_eq_true rfl)
  rw [lg_entry_eq]
  generalize (lg_sl ([.ref h0]) ++ List.replicate (2 - (lg_sl ([.ref h0])).length) Slot.unset).toArray = ls at hl ⊢
  have hl : lv_has ls 2 [(0, .ref h0)] := hl
  refine lv_aload_n hx hb dX5_init_0 rfl (lv_at hl 0 rfl) ?_
  refine W.objInit hx hb hown (hts (.methodLink RX5 3 objectInit) (w_X5_init _ (List.mem_of_getElem? (i := 0) rfl))) (hts (.instanceMethod objectInit) (w_X5_init _ (List.mem_of_getElem? (i := 1) rfl))) (hts _ (w_X5_init _ (List.mem_of_getElem? (i := 2) rfl))) rfl (by rw [hml]; exact hl.1) rfl dX5_init_1 (Nat.le_of_ble_eq_true rfl) (Nat.le_of_ble_eq_true rfl) ?_
  refine W.eq (g2 := F0 m 4 ls []) rfl ?_
  refine lv_aload_n hx hb dX5_init_4 rfl (lv_at hl 0 rfl) ?_
  refine lv_bipush (v := 6) hx hb dX5_init_5 (by decide) ?_
  refine lw_newi (N := 6) hx hb (hts _ (w_X5_init _ (List.mem_of_getElem? (i := 3) rfl))) hK hP hD hS hA (by decide) (by decide) (by decide) (Nat.le_of_ble_eq_true rfl) (Nat.le_of_ble_eq_true rfl) dX5_init_7 (fun q0 H hP hD hS => ?_)
  have hP : va_P (g.1, g.2.1) vwCl [(h0, .inr (5, [.null, .null, .null, .null, .null, .null, .int 0, .int 0])), (q0, .inl (g.2.2.2.1, 6, .inl (fun _ => 0)))] H := hP
  have hD : va_D A [(h0, .inr (5, [.null, .null, .null, .null, .null, .null, .int 0, .int 0])), (q0, .inl (g.2.2.2.1, 6, .inl (fun _ => 0)))] := hD
  refine va_putF (D := (g.1, g.2.1)) (ci := 5) (v := .ref q0) (ty := tyX5 0) (C := RX5) (T := TX5) (N := 8) hx hb hts winX5 tyX5 tyX5_ok nmX5 hown hK hP hD hS 0 rfl rfl 0 (by decide) (hts _ (wf_X5_init _ (List.mem_of_getElem? (i := 0) rfl))) (fun _ h9 => h9) rfl hin rfl (tyX5_ok 0 (by decide)) rfl rfl (Nat.le_of_ble_eq_true rfl) dX5_init_9 (fun H locs hP hD hS => ?_)
  have hP : va_P (g.1, g.2.1) vwCl [(h0, .inr (5, [.ref q0, .null, .null, .null, .null, .null, .int 0, .int 0])), (q0, .inl (g.2.2.2.1, 6, .inl (fun _ => 0)))] H := hP
  have hD : va_D A [(h0, .inr (5, [.ref q0, .null, .null, .null, .null, .null, .int 0, .int 0])), (q0, .inl (g.2.2.2.1, 6, .inl (fun _ => 0)))] := hD
  refine lv_aload_n hx hb dX5_init_12 rfl (lv_at hl 0 rfl) ?_
  refine lv_bipush (v := 6) hx hb dX5_init_13 (by decide) ?_
  refine lw_newi (N := 6) hx hb (hts _ (w_X5_init _ (List.mem_of_getElem? (i := 3) rfl))) hK hP hD hS hA (by decide) (by decide) (by decide) (Nat.le_of_ble_eq_true rfl) (Nat.le_of_ble_eq_true rfl) dX5_init_15 (fun q1 H hP hD hS => ?_)
  have hP : va_P (g.1, g.2.1) vwCl [(h0, .inr (5, [.ref q0, .null, .null, .null, .null, .null, .int 0, .int 0])), (q0, .inl (g.2.2.2.1, 6, .inl (fun _ => 0))), (q1, .inl (g.2.2.2.1, 6, .inl (fun _ => 0)))] H := hP
  have hD : va_D A [(h0, .inr (5, [.ref q0, .null, .null, .null, .null, .null, .int 0, .int 0])), (q0, .inl (g.2.2.2.1, 6, .inl (fun _ => 0))), (q1, .inl (g.2.2.2.1, 6, .inl (fun _ => 0)))] := hD
  refine va_putF (D := (g.1, g.2.1)) (ci := 5) (v := .ref q1) (ty := tyX5 1) (C := RX5) (T := TX5) (N := 8) hx hb hts winX5 tyX5 tyX5_ok nmX5 hown hK hP hD hS 0 rfl rfl 1 (by decide) (hts _ (wf_X5_init _ (List.mem_of_getElem? (i := 1) rfl))) (fun _ h9 => h9) rfl hin rfl (tyX5_ok 1 (by decide)) rfl rfl (Nat.le_of_ble_eq_true rfl) dX5_init_17 (fun H locs hP hD hS => ?_)
  have hP : va_P (g.1, g.2.1) vwCl [(h0, .inr (5, [.ref q0, .ref q1, .null, .null, .null, .null, .int 0, .int 0])), (q0, .inl (g.2.2.2.1, 6, .inl (fun _ => 0))), (q1, .inl (g.2.2.2.1, 6, .inl (fun _ => 0)))] H := hP
  have hD : va_D A [(h0, .inr (5, [.ref q0, .ref q1, .null, .null, .null, .null, .int 0, .int 0])), (q0, .inl (g.2.2.2.1, 6, .inl (fun _ => 0))), (q1, .inl (g.2.2.2.1, 6, .inl (fun _ => 0)))] := hD
  refine lv_aload_n hx hb dX5_init_20 rfl (lv_at hl 0 rfl) ?_
  refine lv_bipush (v := 6) hx hb dX5_init_21 (by decide) ?_
  refine lw_newi (N := 6) hx hb (hts _ (w_X5_init _ (List.mem_of_getElem? (i := 3) rfl))) hK hP hD hS hA (by decide) (by decide) (by decide) (Nat.le_of_ble_eq_true rfl) (Nat.le_of_ble_eq_true rfl) dX5_init_23 (fun q2 H hP hD hS => ?_)
  have hP : va_P (g.1, g.2.1) vwCl [(h0, .inr (5, [.ref q0, .ref q1, .null, .null, .null, .null, .int 0, .int 0])), (q0, .inl (g.2.2.2.1, 6, .inl (fun _ => 0))), (q1, .inl (g.2.2.2.1, 6, .inl (fun _ => 0))), (q2, .inl (g.2.2.2.1, 6, .inl (fun _ => 0)))] H := hP
  have hD : va_D A [(h0, .inr (5, [.ref q0, .ref q1, .null, .null, .null, .null, .int 0, .int 0])), (q0, .inl (g.2.2.2.1, 6, .inl (fun _ => 0))), (q1, .inl (g.2.2.2.1, 6, .inl (fun _ => 0))), (q2, .inl (g.2.2.2.1, 6, .inl (fun _ => 0)))] := hD
  refine va_putF (D := (g.1, g.2.1)) (ci := 5) (v := .ref q2) (ty := tyX5 2) (C := RX5) (T := TX5) (N := 8) hx hb hts winX5 tyX5 tyX5_ok nmX5 hown hK hP hD hS 0 rfl rfl 2 (by decide) (hts _ (wf_X5_init _ (List.mem_of_getElem? (i := 2) rfl))) (fun _ h9 => h9) rfl hin rfl (tyX5_ok 2 (by decide)) rfl rfl (Nat.le_of_ble_eq_true rfl) dX5_init_25 (fun H locs hP hD hS => ?_)
  have hP : va_P (g.1, g.2.1) vwCl [(h0, .inr (5, [.ref q0, .ref q1, .ref q2, .null, .null, .null, .int 0, .int 0])), (q0, .inl (g.2.2.2.1, 6, .inl (fun _ => 0))), (q1, .inl (g.2.2.2.1, 6, .inl (fun _ => 0))), (q2, .inl (g.2.2.2.1, 6, .inl (fun _ => 0)))] H := hP
  have hD : va_D A [(h0, .inr (5, [.ref q0, .ref q1, .ref q2, .null, .null, .null, .int 0, .int 0])), (q0, .inl (g.2.2.2.1, 6, .inl (fun _ => 0))), (q1, .inl (g.2.2.2.1, 6, .inl (fun _ => 0))), (q2, .inl (g.2.2.2.1, 6, .inl (fun _ => 0)))] := hD
  refine lv_aload_n hx hb dX5_init_28 rfl (lv_at hl 0 rfl) ?_
  refine lv_bipush (v := 36) hx hb dX5_init_29 (by decide) ?_
  refine lw_newi (N := 36) hx hb (hts _ (w_X5_init _ (List.mem_of_getElem? (i := 3) rfl))) hK hP hD hS hA (by decide) (by decide) (by decide) (Nat.le_of_ble_eq_true rfl) (Nat.le_of_ble_eq_true rfl) dX5_init_31 (fun q3 H hP hD hS => ?_)
  have hP : va_P (g.1, g.2.1) vwCl [(h0, .inr (5, [.ref q0, .ref q1, .ref q2, .null, .null, .null, .int 0, .int 0])), (q0, .inl (g.2.2.2.1, 6, .inl (fun _ => 0))), (q1, .inl (g.2.2.2.1, 6, .inl (fun _ => 0))), (q2, .inl (g.2.2.2.1, 6, .inl (fun _ => 0))), (q3, .inl (g.2.2.2.1, 36, .inl (fun _ => 0)))] H := hP
  have hD : va_D A [(h0, .inr (5, [.ref q0, .ref q1, .ref q2, .null, .null, .null, .int 0, .int 0])), (q0, .inl (g.2.2.2.1, 6, .inl (fun _ => 0))), (q1, .inl (g.2.2.2.1, 6, .inl (fun _ => 0))), (q2, .inl (g.2.2.2.1, 6, .inl (fun _ => 0))), (q3, .inl (g.2.2.2.1, 36, .inl (fun _ => 0)))] := hD
  refine va_putF (D := (g.1, g.2.1)) (ci := 5) (v := .ref q3) (ty := tyX5 3) (C := RX5) (T := TX5) (N := 8) hx hb hts winX5 tyX5 tyX5_ok nmX5 hown hK hP hD hS 0 rfl rfl 3 (by decide) (hts _ (wf_X5_init _ (List.mem_of_getElem? (i := 3) rfl))) (fun _ h9 => h9) rfl hin rfl (tyX5_ok 3 (by decide)) rfl rfl (Nat.le_of_ble_eq_true rfl) dX5_init_33 (fun H locs hP hD hS => ?_)
  have hP : va_P (g.1, g.2.1) vwCl [(h0, .inr (5, [.ref q0, .ref q1, .ref q2, .ref q3, .null, .null, .int 0, .int 0])), (q0, .inl (g.2.2.2.1, 6, .inl (fun _ => 0))), (q1, .inl (g.2.2.2.1, 6, .inl (fun _ => 0))), (q2, .inl (g.2.2.2.1, 6, .inl (fun _ => 0))), (q3, .inl (g.2.2.2.1, 36, .inl (fun _ => 0)))] H := hP
  have hD : va_D A [(h0, .inr (5, [.ref q0, .ref q1, .ref q2, .ref q3, .null, .null, .int 0, .int 0])), (q0, .inl (g.2.2.2.1, 6, .inl (fun _ => 0))), (q1, .inl (g.2.2.2.1, 6, .inl (fun _ => 0))), (q2, .inl (g.2.2.2.1, 6, .inl (fun _ => 0))), (q3, .inl (g.2.2.2.1, 36, .inl (fun _ => 0)))] := hD
  refine lv_aload_n hx hb dX5_init_36 rfl (lv_at hl 0 rfl) ?_
  refine lv_bipush (v := 6) hx hb dX5_init_37 (by decide) ?_
  refine lw_newi (N := 6) hx hb (hts _ (w_X5_init _ (List.mem_of_getElem? (i := 3) rfl))) hK hP hD hS hA (by decide) (by decide) (by decide) (Nat.le_of_ble_eq_true rfl) (Nat.le_of_ble_eq_true rfl) dX5_init_39 (fun q4 H hP hD hS => ?_)
  have hP : va_P (g.1, g.2.1) vwCl [(h0, .inr (5, [.ref q0, .ref q1, .ref q2, .ref q3, .null, .null, .int 0, .int 0])), (q0, .inl (g.2.2.2.1, 6, .inl (fun _ => 0))), (q1, .inl (g.2.2.2.1, 6, .inl (fun _ => 0))), (q2, .inl (g.2.2.2.1, 6, .inl (fun _ => 0))), (q3, .inl (g.2.2.2.1, 36, .inl (fun _ => 0))), (q4, .inl (g.2.2.2.1, 6, .inl (fun _ => 0)))] H := hP
  have hD : va_D A [(h0, .inr (5, [.ref q0, .ref q1, .ref q2, .ref q3, .null, .null, .int 0, .int 0])), (q0, .inl (g.2.2.2.1, 6, .inl (fun _ => 0))), (q1, .inl (g.2.2.2.1, 6, .inl (fun _ => 0))), (q2, .inl (g.2.2.2.1, 6, .inl (fun _ => 0))), (q3, .inl (g.2.2.2.1, 36, .inl (fun _ => 0))), (q4, .inl (g.2.2.2.1, 6, .inl (fun _ => 0)))] := hD
  refine va_putF (D := (g.1, g.2.1)) (ci := 5) (v := .ref q4) (ty := tyX5 4) (C := RX5) (T := TX5) (N := 8) hx hb hts winX5 tyX5 tyX5_ok nmX5 hown hK hP hD hS 0 rfl rfl 4 (by decide) (hts _ (wf_X5_init _ (List.mem_of_getElem? (i := 4) rfl))) (fun _ h9 => h9) rfl hin rfl (tyX5_ok 4 (by decide)) rfl rfl (Nat.le_of_ble_eq_true rfl) dX5_init_41 (fun H locs hP hD hS => ?_)
  have hP : va_P (g.1, g.2.1) vwCl [(h0, .inr (5, [.ref q0, .ref q1, .ref q2, .ref q3, .ref q4, .null, .int 0, .int 0])), (q0, .inl (g.2.2.2.1, 6, .inl (fun _ => 0))), (q1, .inl (g.2.2.2.1, 6, .inl (fun _ => 0))), (q2, .inl (g.2.2.2.1, 6, .inl (fun _ => 0))), (q3, .inl (g.2.2.2.1, 36, .inl (fun _ => 0))), (q4, .inl (g.2.2.2.1, 6, .inl (fun _ => 0)))] H := hP
  have hD : va_D A [(h0, .inr (5, [.ref q0, .ref q1, .ref q2, .ref q3, .ref q4, .null, .int 0, .int 0])), (q0, .inl (g.2.2.2.1, 6, .inl (fun _ => 0))), (q1, .inl (g.2.2.2.1, 6, .inl (fun _ => 0))), (q2, .inl (g.2.2.2.1, 6, .inl (fun _ => 0))), (q3, .inl (g.2.2.2.1, 36, .inl (fun _ => 0))), (q4, .inl (g.2.2.2.1, 6, .inl (fun _ => 0)))] := hD
  refine lv_aload_n hx hb dX5_init_44 rfl (lv_at hl 0 rfl) ?_
  refine lv_bipush (v := 6) hx hb dX5_init_45 (by decide) ?_
  refine lw_newi (N := 6) hx hb (hts _ (w_X5_init _ (List.mem_of_getElem? (i := 3) rfl))) hK hP hD hS hA (by decide) (by decide) (by decide) (Nat.le_of_ble_eq_true rfl) (Nat.le_of_ble_eq_true rfl) dX5_init_47 (fun q5 H hP hD hS => ?_)
  have hP : va_P (g.1, g.2.1) vwCl [(h0, .inr (5, [.ref q0, .ref q1, .ref q2, .ref q3, .ref q4, .null, .int 0, .int 0])), (q0, .inl (g.2.2.2.1, 6, .inl (fun _ => 0))), (q1, .inl (g.2.2.2.1, 6, .inl (fun _ => 0))), (q2, .inl (g.2.2.2.1, 6, .inl (fun _ => 0))), (q3, .inl (g.2.2.2.1, 36, .inl (fun _ => 0))), (q4, .inl (g.2.2.2.1, 6, .inl (fun _ => 0))), (q5, .inl (g.2.2.2.1, 6, .inl (fun _ => 0)))] H := hP
  have hD : va_D A [(h0, .inr (5, [.ref q0, .ref q1, .ref q2, .ref q3, .ref q4, .null, .int 0, .int 0])), (q0, .inl (g.2.2.2.1, 6, .inl (fun _ => 0))), (q1, .inl (g.2.2.2.1, 6, .inl (fun _ => 0))), (q2, .inl (g.2.2.2.1, 6, .inl (fun _ => 0))), (q3, .inl (g.2.2.2.1, 36, .inl (fun _ => 0))), (q4, .inl (g.2.2.2.1, 6, .inl (fun _ => 0))), (q5, .inl (g.2.2.2.1, 6, .inl (fun _ => 0)))] := hD
  refine va_putF (D := (g.1, g.2.1)) (ci := 5) (v := .ref q5) (ty := tyX5 5) (C := RX5) (T := TX5) (N := 8) hx hb hts winX5 tyX5 tyX5_ok nmX5 hown hK hP hD hS 0 rfl rfl 5 (by decide) (hts _ (wf_X5_init _ (List.mem_of_getElem? (i := 5) rfl))) (fun _ h9 => h9) rfl hin rfl (tyX5_ok 5 (by decide)) rfl rfl (Nat.le_of_ble_eq_true rfl) dX5_init_49 (fun H locs hP hD hS => ?_)
  have hP : va_P (g.1, g.2.1) vwCl [(h0, .inr (5, [.ref q0, .ref q1, .ref q2, .ref q3, .ref q4, .ref q5, .int 0, .int 0])), (q0, .inl (g.2.2.2.1, 6, .inl (fun _ => 0))), (q1, .inl (g.2.2.2.1, 6, .inl (fun _ => 0))), (q2, .inl (g.2.2.2.1, 6, .inl (fun _ => 0))), (q3, .inl (g.2.2.2.1, 36, .inl (fun _ => 0))), (q4, .inl (g.2.2.2.1, 6, .inl (fun _ => 0))), (q5, .inl (g.2.2.2.1, 6, .inl (fun _ => 0)))] H := hP
  have hD : va_D A [(h0, .inr (5, [.ref q0, .ref q1, .ref q2, .ref q3, .ref q4, .ref q5, .int 0, .int 0])), (q0, .inl (g.2.2.2.1, 6, .inl (fun _ => 0))), (q1, .inl (g.2.2.2.1, 6, .inl (fun _ => 0))), (q2, .inl (g.2.2.2.1, 6, .inl (fun _ => 0))), (q3, .inl (g.2.2.2.1, 36, .inl (fun _ => 0))), (q4, .inl (g.2.2.2.1, 6, .inl (fun _ => 0))), (q5, .inl (g.2.2.2.1, 6, .inl (fun _ => 0)))] := hD
  refine lv_iconst (v := 0) hx hb dX5_init_52 (by decide) ?_
  refine lv_istore_n (lv' := [(1, .int 0), (0, .ref h0)]) hx hb dX5_init_53 rfl hl (by decide) rfl (fun ls hl => ?_)
  refine lv_iload_n hx hb dX5_init_54 rfl (lv_at hl 0 rfl) ?_
  refine lv_bipush (v := 6) hx hb dX5_init_55 (by decide) ?_
  refine lv_icmp_ge (tgt := 74) hx hb dX5_init_57 (by decide) (fun c => absurd c (by decide)) (fun _ => ?_)
  refine lv_aload_n hx hb dX5_init_60 rfl (lv_at hl 1 rfl) ?_
  refine va_get (D := (g.1, g.2.1)) (ci := 5) (v := .ref q1) (C := RX5) (T := TX5) (N := 8) hx hb hts winX5 hown hK hP 0 rfl rfl 1 (by decide) (hts _ (wf_X5_init _ (List.mem_of_getElem? (i := 1) rfl))) (fun _ h9 => h9) rfl dX5_init_61 ?_
  refine lv_iload_n hx hb dX5_init_64 rfl (lv_at hl 0 rfl) ?_
  refine lv_bipush (v := 99) hx hb dX5_init_65 (by decide) ?_
  refine va_iast (D := (g.1, g.2.1)) hx hb hK hP hD hS 2 0 rfl rfl (by unfold vp_in; decide) dX5_init_67 (fun H locs hP hD hS => ?_)
  have hP : va_P (g.1, g.2.1) vwCl [(h0, .inr (5, [.ref q0, .ref q1, .ref q2, .ref q3, .ref q4, .ref q5, .int 0, .int 0])), (q0, .inl (g.2.2.2.1, 6, .inl (fun _ => 0))), (q1, .inl (g.2.2.2.1, 6, .inl (upd (fun _ => 0) (0 : Int32).toNatClampNeg 99))), (q2, .inl (g.2.2.2.1, 6, .inl (fun _ => 0))), (q3, .inl (g.2.2.2.1, 36, .inl (fun _ => 0))), (q4, .inl (g.2.2.2.1, 6, .inl (fun _ => 0))), (q5, .inl (g.2.2.2.1, 6, .inl (fun _ => 0)))] H := hP
  have hD : va_D A [(h0, .inr (5, [.ref q0, .ref q1, .ref q2, .ref q3, .ref q4, .ref q5, .int 0, .int 0])), (q0, .inl (g.2.2.2.1, 6, .inl (fun _ => 0))), (q1, .inl (g.2.2.2.1, 6, .inl (upd (fun _ => 0) (0 : Int32).toNatClampNeg 99))), (q2, .inl (g.2.2.2.1, 6, .inl (fun _ => 0))), (q3, .inl (g.2.2.2.1, 36, .inl (fun _ => 0))), (q4, .inl (g.2.2.2.1, 6, .inl (fun _ => 0))), (q5, .inl (g.2.2.2.1, 6, .inl (fun _ => 0)))] := hD
  refine lv_iinc (v := 1) (lv' := [(1, .int 1), (0, .ref h0)]) hx hb dX5_init_68 hl (k := 0) rfl (by decide) (by decide) rfl (fun ls hl => ?_)
  refine lv_goto (tgt := 54) hx hb dX5_init_71 (by decide) ?_
  refine lv_iload_n hx hb dX5_init_54 rfl (lv_at hl 0 rfl) ?_
  refine lv_bipush (v := 6) hx hb dX5_init_55 (by decide) ?_
  refine lv_icmp_ge (tgt := 74) hx hb dX5_init_57 (by decide) (fun c => absurd c (by decide)) (fun _ => ?_)
  refine lv_aload_n hx hb dX5_init_60 rfl (lv_at hl 1 rfl) ?_
  refine va_get (D := (g.1, g.2.1)) (ci := 5) (v := .ref q1) (C := RX5) (T := TX5) (N := 8) hx hb hts winX5 hown hK hP 0 rfl rfl 1 (by decide) (hts _ (wf_X5_init _ (List.mem_of_getElem? (i := 1) rfl))) (fun _ h9 => h9) rfl dX5_init_61 ?_
  refine lv_iload_n hx hb dX5_init_64 rfl (lv_at hl 0 rfl) ?_
  refine lv_bipush (v := 99) hx hb dX5_init_65 (by decide) ?_
  refine va_iast (D := (g.1, g.2.1)) hx hb hK hP hD hS 2 0 rfl rfl (by unfold vp_in; decide) dX5_init_67 (fun H locs hP hD hS => ?_)
  have hP : va_P (g.1, g.2.1) vwCl [(h0, .inr (5, [.ref q0, .ref q1, .ref q2, .ref q3, .ref q4, .ref q5, .int 0, .int 0])), (q0, .inl (g.2.2.2.1, 6, .inl (fun _ => 0))), (q1, .inl (g.2.2.2.1, 6, .inl (upd (upd (fun _ => 0) (0 : Int32).toNatClampNeg 99) (1 : Int32).toNatClampNeg 99))), (q2, .inl (g.2.2.2.1, 6, .inl (fun _ => 0))), (q3, .inl (g.2.2.2.1, 36, .inl (fun _ => 0))), (q4, .inl (g.2.2.2.1, 6, .inl (fun _ => 0))), (q5, .inl (g.2.2.2.1, 6, .inl (fun _ => 0)))] H := hP
  have hD : va_D A [(h0, .inr (5, [.ref q0, .ref q1, .ref q2, .ref q3, .ref q4, .ref q5, .int 0, .int 0])), (q0, .inl (g.2.2.2.1, 6, .inl (fun _ => 0))), (q1, .inl (g.2.2.2.1, 6, .inl (upd (upd (fun _ => 0) (0 : Int32).toNatClampNeg 99) (1 : Int32).toNatClampNeg 99))), (q2, .inl (g.2.2.2.1, 6, .inl (fun _ => 0))), (q3, .inl (g.2.2.2.1, 36, .inl (fun _ => 0))), (q4, .inl (g.2.2.2.1, 6, .inl (fun _ => 0))), (q5, .inl (g.2.2.2.1, 6, .inl (fun _ => 0)))] := hD
  refine lv_iinc (v := 2) (lv' := [(1, .int 2), (0, .ref h0)]) hx hb dX5_init_68 hl (k := 0) rfl (by decide) (by decide) rfl (fun ls hl => ?_)
  refine lv_goto (tgt := 54) hx hb dX5_init_71 (by decide) ?_
  refine lv_iload_n hx hb dX5_init_54 rfl (lv_at hl 0 rfl) ?_
  refine lv_bipush (v := 6) hx hb dX5_init_55 (by decide) ?_
  refine lv_icmp_ge (tgt := 74) hx hb dX5_init_57 (by decide) (fun c => absurd c (by decide)) (fun _ => ?_)
  refine lv_aload_n hx hb dX5_init_60 rfl (lv_at hl 1 rfl) ?_
  refine va_get (D := (g.1, g.2.1)) (ci := 5) (v := .ref q1) (C := RX5) (T := TX5) (N := 8) hx hb hts winX5 hown hK hP 0 rfl rfl 1 (by decide) (hts _ (wf_X5_init _ (List.mem_of_getElem? (i := 1) rfl))) (fun _ h9 => h9) rfl dX5_init_61 ?_
  refine lv_iload_n hx hb dX5_init_64 rfl (lv_at hl 0 rfl) ?_
  refine lv_bipush (v := 99) hx hb dX5_init_65 (by decide) ?_
  refine va_iast (D := (g.1, g.2.1)) hx hb hK hP hD hS 2 0 rfl rfl (by unfold vp_in; decide) dX5_init_67 (fun H locs hP hD hS => ?_)
  have hP : va_P (g.1, g.2.1) vwCl [(h0, .inr (5, [.ref q0, .ref q1, .ref q2, .ref q3, .ref q4, .ref q5, .int 0, .int 0])), (q0, .inl (g.2.2.2.1, 6, .inl (fun _ => 0))), (q1, .inl (g.2.2.2.1, 6, .inl (upd (upd (upd (fun _ => 0) (0 : Int32).toNatClampNeg 99) (1 : Int32).toNatClampNeg 99) (2 : Int32).toNatClampNeg 99))), (q2, .inl (g.2.2.2.1, 6, .inl (fun _ => 0))), (q3, .inl (g.2.2.2.1, 36, .inl (fun _ => 0))), (q4, .inl (g.2.2.2.1, 6, .inl (fun _ => 0))), (q5, .inl (g.2.2.2.1, 6, .inl (fun _ => 0)))] H := hP
  have hD : va_D A [(h0, .inr (5, [.ref q0, .ref q1, .ref q2, .ref q3, .ref q4, .ref q5, .int 0, .int 0])), (q0, .inl (g.2.2.2.1, 6, .inl (fun _ => 0))), (q1, .inl (g.2.2.2.1, 6, .inl (upd (upd (upd (fun _ => 0) (0 : Int32).toNatClampNeg 99) (1 : Int32).toNatClampNeg 99) (2 : Int32).toNatClampNeg 99))), (q2, .inl (g.2.2.2.1, 6, .inl (fun _ => 0))), (q3, .inl (g.2.2.2.1, 36, .inl (fun _ => 0))), (q4, .inl (g.2.2.2.1, 6, .inl (fun _ => 0))), (q5, .inl (g.2.2.2.1, 6, .inl (fun _ => 0)))] := hD
  refine lv_iinc (v := 3) (lv' := [(1, .int 3), (0, .ref h0)]) hx hb dX5_init_68 hl (k := 0) rfl (by decide) (by decide) rfl (fun ls hl => ?_)
  refine lv_goto (tgt := 54) hx hb dX5_init_71 (by decide) ?_
  refine lv_iload_n hx hb dX5_init_54 rfl (lv_at hl 0 rfl) ?_
  refine lv_bipush (v := 6) hx hb dX5_init_55 (by decide) ?_
  refine lv_icmp_ge (tgt := 74) hx hb dX5_init_57 (by decide) (fun c => absurd c (by decide)) (fun _ => ?_)
  refine lv_aload_n hx hb dX5_init_60 rfl (lv_at hl 1 rfl) ?_
  refine va_get (D := (g.1, g.2.1)) (ci := 5) (v := .ref q1) (C := RX5) (T := TX5) (N := 8) hx hb hts winX5 hown hK hP 0 rfl rfl 1 (by decide) (hts _ (wf_X5_init _ (List.mem_of_getElem? (i := 1) rfl))) (fun _ h9 => h9) rfl dX5_init_61 ?_
  refine lv_iload_n hx hb dX5_init_64 rfl (lv_at hl 0 rfl) ?_
  refine lv_bipush (v := 99) hx hb dX5_init_65 (by decide) ?_
  refine va_iast (D := (g.1, g.2.1)) hx hb hK hP hD hS 2 0 rfl rfl (by unfold vp_in; decide) dX5_init_67 (fun H locs hP hD hS => ?_)
  have hP : va_P (g.1, g.2.1) vwCl [(h0, .inr (5, [.ref q0, .ref q1, .ref q2, .ref q3, .ref q4, .ref q5, .int 0, .int 0])), (q0, .inl (g.2.2.2.1, 6, .inl (fun _ => 0))), (q1, .inl (g.2.2.2.1, 6, .inl (upd (upd (upd (upd (fun _ => 0) (0 : Int32).toNatClampNeg 99) (1 : Int32).toNatClampNeg 99) (2 : Int32).toNatClampNeg 99) (3 : Int32).toNatClampNeg 99))), (q2, .inl (g.2.2.2.1, 6, .inl (fun _ => 0))), (q3, .inl (g.2.2.2.1, 36, .inl (fun _ => 0))), (q4, .inl (g.2.2.2.1, 6, .inl (fun _ => 0))), (q5, .inl (g.2.2.2.1, 6, .inl (fun _ => 0)))] H := hP
  have hD : va_D A [(h0, .inr (5, [.ref q0, .ref q1, .ref q2, .ref q3, .ref q4, .ref q5, .int 0, .int 0])), (q0, .inl (g.2.2.2.1, 6, .inl (fun _ => 0))), (q1, .inl (g.2.2.2.1, 6, .inl (upd (upd (upd (upd (fun _ => 0) (0 : Int32).toNatClampNeg 99) (1 : Int32).toNatClampNeg 99) (2 : Int32).toNatClampNeg 99) (3 : Int32).toNatClampNeg 99))), (q2, .inl (g.2.2.2.1, 6, .inl (fun _ => 0))), (q3, .inl (g.2.2.2.1, 36, .inl (fun _ => 0))), (q4, .inl (g.2.2.2.1, 6, .inl (fun _ => 0))), (q5, .inl (g.2.2.2.1, 6, .inl (fun _ => 0)))] := hD
  refine lv_iinc (v := 4) (lv' := [(1, .int 4), (0, .ref h0)]) hx hb dX5_init_68 hl (k := 0) rfl (by decide) (by decide) rfl (fun ls hl => ?_)
  refine lv_goto (tgt := 54) hx hb dX5_init_71 (by decide) ?_
  refine lv_iload_n hx hb dX5_init_54 rfl (lv_at hl 0 rfl) ?_
  refine lv_bipush (v := 6) hx hb dX5_init_55 (by decide) ?_
  refine lv_icmp_ge (tgt := 74) hx hb dX5_init_57 (by decide) (fun c => absurd c (by decide)) (fun _ => ?_)
  refine lv_aload_n hx hb dX5_init_60 rfl (lv_at hl 1 rfl) ?_
  refine va_get (D := (g.1, g.2.1)) (ci := 5) (v := .ref q1) (C := RX5) (T := TX5) (N := 8) hx hb hts winX5 hown hK hP 0 rfl rfl 1 (by decide) (hts _ (wf_X5_init _ (List.mem_of_getElem? (i := 1) rfl))) (fun _ h9 => h9) rfl dX5_init_61 ?_
  refine lv_iload_n hx hb dX5_init_64 rfl (lv_at hl 0 rfl) ?_
  refine lv_bipush (v := 99) hx hb dX5_init_65 (by decide) ?_
  refine va_iast (D := (g.1, g.2.1)) hx hb hK hP hD hS 2 0 rfl rfl (by unfold vp_in; decide) dX5_init_67 (fun H locs hP hD hS => ?_)
  have hP : va_P (g.1, g.2.1) vwCl [(h0, .inr (5, [.ref q0, .ref q1, .ref q2, .ref q3, .ref q4, .ref q5, .int 0, .int 0])), (q0, .inl (g.2.2.2.1, 6, .inl (fun _ => 0))), (q1, .inl (g.2.2.2.1, 6, .inl (upd (upd (upd (upd (upd (fun _ => 0) (0 : Int32).toNatClampNeg 99) (1 : Int32).toNatClampNeg 99) (2 : Int32).toNatClampNeg 99) (3 : Int32).toNatClampNeg 99) (4 : Int32).toNatClampNeg 99))), (q2, .inl (g.2.2.2.1, 6, .inl (fun _ => 0))), (q3, .inl (g.2.2.2.1, 36, .inl (fun _ => 0))), (q4, .inl (g.2.2.2.1, 6, .inl (fun _ => 0))), (q5, .inl (g.2.2.2.1, 6, .inl (fun _ => 0)))] H := hP
  have hD : va_D A [(h0, .inr (5, [.ref q0, .ref q1, .ref q2, .ref q3, .ref q4, .ref q5, .int 0, .int 0])), (q0, .inl (g.2.2.2.1, 6, .inl (fun _ => 0))), (q1, .inl (g.2.2.2.1, 6, .inl (upd (upd (upd (upd (upd (fun _ => 0) (0 : Int32).toNatClampNeg 99) (1 : Int32).toNatClampNeg 99) (2 : Int32).toNatClampNeg 99) (3 : Int32).toNatClampNeg 99) (4 : Int32).toNatClampNeg 99))), (q2, .inl (g.2.2.2.1, 6, .inl (fun _ => 0))), (q3, .inl (g.2.2.2.1, 36, .inl (fun _ => 0))), (q4, .inl (g.2.2.2.1, 6, .inl (fun _ => 0))), (q5, .inl (g.2.2.2.1, 6, .inl (fun _ => 0)))] := hD
  refine lv_iinc (v := 5) (lv' := [(1, .int 5), (0, .ref h0)]) hx hb dX5_init_68 hl (k := 0) rfl (by decide) (by decide) rfl (fun ls hl => ?_)
  refine lv_goto (tgt := 54) hx hb dX5_init_71 (by decide) ?_
  refine lv_iload_n hx hb dX5_init_54 rfl (lv_at hl 0 rfl) ?_
  refine lv_bipush (v := 6) hx hb dX5_init_55 (by decide) ?_
  refine lv_icmp_ge (tgt := 74) hx hb dX5_init_57 (by decide) (fun c => absurd c (by decide)) (fun _ => ?_)
  refine lv_aload_n hx hb dX5_init_60 rfl (lv_at hl 1 rfl) ?_
  refine va_get (D := (g.1, g.2.1)) (ci := 5) (v := .ref q1) (C := RX5) (T := TX5) (N := 8) hx hb hts winX5 hown hK hP 0 rfl rfl 1 (by decide) (hts _ (wf_X5_init _ (List.mem_of_getElem? (i := 1) rfl))) (fun _ h9 => h9) rfl dX5_init_61 ?_
  refine lv_iload_n hx hb dX5_init_64 rfl (lv_at hl 0 rfl) ?_
  refine lv_bipush (v := 99) hx hb dX5_init_65 (by decide) ?_
  refine va_iast (D := (g.1, g.2.1)) hx hb hK hP hD hS 2 0 rfl rfl (by unfold vp_in; decide) dX5_init_67 (fun H locs hP hD hS => ?_)
  have hP : va_P (g.1, g.2.1) vwCl [(h0, .inr (5, [.ref q0, .ref q1, .ref q2, .ref q3, .ref q4, .ref q5, .int 0, .int 0])), (q0, .inl (g.2.2.2.1, 6, .inl (fun _ => 0))), (q1, .inl (g.2.2.2.1, 6, .inl (upd (upd (upd (upd (upd (upd (fun _ => 0) (0 : Int32).toNatClampNeg 99) (1 : Int32).toNatClampNeg 99) (2 : Int32).toNatClampNeg 99) (3 : Int32).toNatClampNeg 99) (4 : Int32).toNatClampNeg 99) (5 : Int32).toNatClampNeg 99))), (q2, .inl (g.2.2.2.1, 6, .inl (fun _ => 0))), (q3, .inl (g.2.2.2.1, 36, .inl (fun _ => 0))), (q4, .inl (g.2.2.2.1, 6, .inl (fun _ => 0))), (q5, .inl (g.2.2.2.1, 6, .inl (fun _ => 0)))] H := hP
  have hD : va_D A [(h0, .inr (5, [.ref q0, .ref q1, .ref q2, .ref q3, .ref q4, .ref q5, .int 0, .int 0])), (q0, .inl (g.2.2.2.1, 6, .inl (fun _ => 0))), (q1, .inl (g.2.2.2.1, 6, .inl (upd (upd (upd (upd (upd (upd (fun _ => 0) (0 : Int32).toNatClampNeg 99) (1 : Int32).toNatClampNeg 99) (2 : Int32).toNatClampNeg 99) (3 : Int32).toNatClampNeg 99) (4 : Int32).toNatClampNeg 99) (5 : Int32).toNatClampNeg 99))), (q2, .inl (g.2.2.2.1, 6, .inl (fun _ => 0))), (q3, .inl (g.2.2.2.1, 36, .inl (fun _ => 0))), (q4, .inl (g.2.2.2.1, 6, .inl (fun _ => 0))), (q5, .inl (g.2.2.2.1, 6, .inl (fun _ => 0)))] := hD
  refine lv_iinc (v := 6) (lv' := [(1, .int 6), (0, .ref h0)]) hx hb dX5_init_68 hl (k := 0) rfl (by decide) (by decide) rfl (fun ls hl => ?_)
  refine lv_goto (tgt := 54) hx hb dX5_init_71 (by decide) ?_
  refine lv_iload_n hx hb dX5_init_54 rfl (lv_at hl 0 rfl) ?_
  refine lv_bipush (v := 6) hx hb dX5_init_55 (by decide) ?_
  refine lv_icmp_ge (tgt := 74) hx hb dX5_init_57 (by decide) (fun _ => ?_) (fun c => absurd (by decide) c)
  exact W.vret hx hb hr (fun t ht hW => ⟨⟨(), rfl, trivial, q0, q1, q2, q3, q4, q5, by rw [ht]; exact hP, va_K.moved hW.alike hK, hD⟩, hS.F ht⟩) hS.2.2 dX5_init_74
