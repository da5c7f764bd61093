/-! CONSTRUCTORS that make arrays only (printed by wip/whole/ctor.py) -/
theorem w_X8_init : ∀ w ∈ ([.methodLink RX8 3 objectInit, .instanceMethod objectInit, .code objectInit ⟨#[0xb1]⟩ 1 none, .arrayClass .int, .arrayClass .long, .arrayClass .byte] : List Cond), w ∈ gb_B := by
  have h : ∀ w ∈ ([.methodLink RX8 3 objectInit, .instanceMethod objectInit, .code objectInit ⟨#[0xb1]⟩ 1 none, .arrayClass .int, .arrayClass .long, .arrayClass .byte] : List Cond), w ∈ lw_tbl ∧ goodWord w = true := by decide +kernel
  exact fun w hw => List.mem_filter.mpr (h w hw)
theorem wf_X8_init : ∀ w ∈ ([.fieldLink RX8 11 "GrainBins$Text" "signs" "[I"] : List Cond), w ∈ gb_B := by
  have h : ∀ w ∈ ([.fieldLink RX8 11 "GrainBins$Text" "signs" "[I"] : List Cond), w ∈ lw_tbl ∧ goodWord w = true := by decide +kernel
  exact fun w hw => List.mem_filter.mpr (h w hw)
theorem dX8_init_0 : decode cX8_init 0 = .ok (.aload_n 0, 1) := by decide +kernel
theorem dX8_init_1 : decode cX8_init 1 = .ok (.invokespecial 3, 3) := by decide +kernel
theorem dX8_init_4 : decode cX8_init 4 = .ok (.aload_n 0, 1) := by decide +kernel
theorem dX8_init_5 : decode cX8_init 5 = .ok (.sipush 200, 3) := by decide +kernel
theorem dX8_init_8 : decode cX8_init 8 = .ok (.newarray .int, 2) := by decide +kernel
theorem dX8_init_10 : decode cX8_init 10 = .ok (.putfield 11, 3) := by decide +kernel
theorem dX8_init_13 : decode cX8_init 13 = .ok (.return_, 1) := by decide +kernel
set_option maxHeartbeats 4000000 in
theorem n_X8_init (l : Launch) (g : gb_G) (h0  : Nat) (sz : Nat) : Met l yX8_init (.code yX8_init cX8_init 1 none :: gb_B) ({ frames := 2, cells := 1, slots := 200, locals := 60 }) (va_Pc [.ref h0] (fun U => U.heap.size = sz ∧ va_P (g.1, g.2.1) vwCl [(h0, .inr (8, [.null, .int 0, .int 0]))] U.heap ∧ va_K (g.1, g.2.1) vwCl (gb_T g) U ∧ va_D (fun _ => True) [(h0, .inr (8, [.null, .int 0, .int 0]))])) (va_Qv (fun _ : Unit => True) (fun _ t => ∃ q0 : Nat, va_P (g.1, g.2.1) vwCl [(h0, .inr (8, [.ref q0, .int 0, .int 0])), (q0, .inl (g.2.2.2.1, 200, .inl (fun _ => 0)))] t.heap ∧ va_K (g.1, g.2.1) vwCl (gb_T g) t ∧ va_D (va_A [(h0, .inr (8, [.null, .int 0, .int 0]))] sz) [(h0, .inr (8, [.ref q0, .int 0, .int 0])), (q0, .inl (g.2.2.2.1, 200, .inl (fun _ => 0)))]) (va_A [(h0, .inr (8, [.null, .int 0, .int 0]))] sz)) 1 200 (va_A [(h0, .inr (8, [.null, .int 0, .int 0]))] sz) := by
  refine Met.ofW (cc := cX8_init) (maxL := 1) (ret := none) (by decide +kernel) rfl ?_
  intro p e s m args below meth c s₁ B hml hv
  obtain ⟨rfl, hsz, hP, hK, hD0⟩ := hv
  have hx := B.exec
  have hb := B.bytes
  have hr := B.returns
  have hts0 := atoms_spec (ws := .code yX8_init cX8_init 1 none :: gb_B) B.pre
  have hts : ∀ w ∈ gb_B, w.before ([.ref h0] : List Value).toArray s = true := fun w hw => hts0 w (List.mem_cons_of_mem _ hw)
  have hown : s.vm.findClass RX8 = some m.cls := findClass_of_methodNamed B.named
  have hlocks := B.notSynchronized
  have hin : meth.name = "<init>" := (name_of_methodNamed B.named B.method).1
  subst hsz
  have hD := hD0.self (sz := s.heap.size)
  generalize hAe : va_A [(h0, .inr (8, [.null, .int 0, .int 0]))] s.heap.size = A at hD ⊢
  have hA : ∀ q : Nat, s.heap.size ≤ q → A q := fun q h => by rw [← hAe]; exact Or.inr h
  have hS : va_S A s.heap s.heap [] := va_S.rf
  have hl := lv_entry ([.ref h0]) (n := 1) (Nat.le_of_ble_eq_true rfl)
  rw [lg_entry_eq]
  generalize (lg_sl ([.ref h0]) ++ List.replicate (1 - (lg_sl ([.ref h0])).length) Slot.unset).toArray = ls at hl ⊢
  have hl : lv_has ls 1 [(0, .ref h0)] := hl
  refine lv_aload_n hx hb dX8_init_0 rfl (lv_at hl 0 rfl) ?_
  refine W.objInit hx hb hown (hts (.methodLink RX8 3 objectInit) (w_X8_init _ (List.mem_of_getElem? (i := 0) rfl))) (hts (.instanceMethod objectInit) (w_X8_init _ (List.mem_of_getElem? (i := 1) rfl))) (hts _ (w_X8_init _ (List.mem_of_getElem? (i := 2) rfl))) rfl (by rw [hml]; exact hl.1) rfl dX8_init_1 (Nat.le_of_ble_eq_true rfl) (Nat.le_of_ble_eq_true rfl) ?_
  refine W.eq (g2 := F0 m 4 ls []) rfl ?_
  refine lv_aload_n hx hb dX8_init_4 rfl (lv_at hl 0 rfl) ?_
  refine lv_sipush (v := 200) hx hb dX8_init_5 (by decide) ?_
  refine lw_newi (N := 200) hx hb (hts _ (w_X8_init _ (List.mem_of_getElem? (i := 3) rfl))) hK hP hD hS hA (by decide) (by decide) (by decide) (Nat.le_of_ble_eq_true rfl) (Nat.le_of_ble_eq_true rfl) dX8_init_8 (fun q0 H hP hD hS => ?_)
  have hP : va_P (g.1, g.2.1) vwCl [(h0, .inr (8, [.null, .int 0, .int 0])), (q0, .inl (g.2.2.2.1, 200, .inl (fun _ => 0)))] H := hP
  have hD : va_D A [(h0, .inr (8, [.null, .int 0, .int 0])), (q0, .inl (g.2.2.2.1, 200, .inl (fun _ => 0)))] := hD
  refine va_putF (D := (g.1, g.2.1)) (ci := 8) (v := .ref q0) (ty := tyX8 0) (C := RX8) (T := TX8) (N := 3) hx hb hts winX8 tyX8 tyX8_ok nmX8 hown hK hP hD hS 0 rfl rfl 0 (by decide) (hts _ (wf_X8_init _ (List.mem_of_getElem? (i := 0) rfl))) (fun _ h9 => h9) rfl hin rfl (tyX8_ok 0 (by decide)) rfl rfl (Nat.le_of_ble_eq_true rfl) dX8_init_10 (fun H locs hP hD hS => ?_)
  have hP : va_P (g.1, g.2.1) vwCl [(h0, .inr (8, [.ref q0, .int 0, .int 0])), (q0, .inl (g.2.2.2.1, 200, .inl (fun _ => 0)))] H := hP
  have hD : va_D A [(h0, .inr (8, [.ref q0, .int 0, .int 0])), (q0, .inl (g.2.2.2.1, 200, .inl (fun _ => 0)))] := hD
  exact W.vret hx hb hr (fun t ht hW => ⟨⟨(), rfl, trivial, q0, by rw [ht]; exact hP, va_K.moved hW.alike hK, hD⟩, hS.F ht⟩) hS.2.2 dX8_init_13
theorem w_X4_init : ∀ w ∈ ([.methodLink RX4 1 objectInit, .instanceMethod objectInit, .code objectInit ⟨#[0xb1]⟩ 1 none, .arrayClass .int, .arrayClass .long, .arrayClass .byte] : List Cond), w ∈ gb_B := by
  have h : ∀ w ∈ ([.methodLink RX4 1 objectInit, .instanceMethod objectInit, .code objectInit ⟨#[0xb1]⟩ 1 none, .arrayClass .int, .arrayClass .long, .arrayClass .byte] : List Cond), w ∈ lw_tbl ∧ goodWord w = true := by decide +kernel
  exact fun w hw => List.mem_filter.mpr (h w hw)
theorem wf_X4_init : ∀ w ∈ ([.fieldLink RX4 9 "GrainBins$Row" "at" "[J"] : List Cond), w ∈ gb_B := by
  have h : ∀ w ∈ ([.fieldLink RX4 9 "GrainBins$Row" "at" "[J"] : List Cond), w ∈ lw_tbl ∧ goodWord w = true := by decide +kernel
  exact fun w hw => List.mem_filter.mpr (h w hw)
theorem dX4_init_0 : decode cX4_init 0 = .ok (.aload_n 0, 1) := by decide +kernel
theorem dX4_init_1 : decode cX4_init 1 = .ok (.invokespecial 1, 3) := by decide +kernel
theorem dX4_init_4 : decode cX4_init 4 = .ok (.aload_n 0, 1) := by decide +kernel
theorem dX4_init_5 : decode cX4_init 5 = .ok (.bipush 8, 2) := by decide +kernel
theorem dX4_init_7 : decode cX4_init 7 = .ok (.newarray .long, 2) := by decide +kernel
theorem dX4_init_9 : decode cX4_init 9 = .ok (.putfield 9, 3) := by decide +kernel
theorem dX4_init_12 : decode cX4_init 12 = .ok (.return_, 1) := by decide +kernel
set_option maxHeartbeats 4000000 in
theorem n_X4_init (l : Launch) (g : gb_G) (h0  : Nat) (sz : Nat) : Met l yX4_init (.code yX4_init cX4_init 1 none :: gb_B) ({ frames := 2, cells := 1, slots := 8, locals := 60 }) (va_Pc [.ref h0] (fun U => U.heap.size = sz ∧ va_P (g.1, g.2.1) vwCl [(h0, .inr (4, [.null, .int 0]))] U.heap ∧ va_K (g.1, g.2.1) vwCl (gb_T g) U ∧ va_D (fun _ => True) [(h0, .inr (4, [.null, .int 0]))])) (va_Qv (fun _ : Unit => True) (fun _ t => ∃ q0 : Nat, va_P (g.1, g.2.1) vwCl [(h0, .inr (4, [.ref q0, .int 0])), (q0, .inl (g.2.2.2.2.2.1, 8, .inr (.inl (fun _ => 0))))] t.heap ∧ va_K (g.1, g.2.1) vwCl (gb_T g) t ∧ va_D (va_A [(h0, .inr (4, [.null, .int 0]))] sz) [(h0, .inr (4, [.ref q0, .int 0])), (q0, .inl (g.2.2.2.2.2.1, 8, .inr (.inl (fun _ => 0))))]) (va_A [(h0, .inr (4, [.null, .int 0]))] sz)) 1 8 (va_A [(h0, .inr (4, [.null, .int 0]))] sz) := by
  refine Met.ofW (cc := cX4_init) (maxL := 1) (ret := none) (by decide +kernel) rfl ?_
  intro p e s m args below meth c s₁ B hml hv
  obtain ⟨rfl, hsz, hP, hK, hD0⟩ := hv
  have hx := B.exec
  have hb := B.bytes
  have hr := B.returns
  have hts0 := atoms_spec (ws := .code yX4_init cX4_init 1 none :: gb_B) B.pre
  have hts : ∀ w ∈ gb_B, w.before ([.ref h0] : List Value).toArray s = true := fun w hw => hts0 w (List.mem_cons_of_mem _ hw)
  have hown : s.vm.findClass RX4 = some m.cls := findClass_of_methodNamed B.named
  have hlocks := B.notSynchronized
  have hin : meth.name = "<init>" := (name_of_methodNamed B.named B.method).1
  subst hsz
  have hD := hD0.self (sz := s.heap.size)
  generalize hAe : va_A [(h0, .inr (4, [.null, .int 0]))] s.heap.size = A at hD ⊢
  have hA : ∀ q : Nat, s.heap.size ≤ q → A q := fun q h => by rw [← hAe]; exact Or.inr h
  have hS : va_S A s.heap s.heap [] := va_S.rf
  have hl := lv_entry ([.ref h0]) (n := 1) (Nat.le_of_ble_eq_true rfl)
  rw [lg_entry_eq]
  generalize (lg_sl ([.ref h0]) ++ List.replicate (1 - (lg_sl ([.ref h0])).length) Slot.unset).toArray = ls at hl ⊢
  have hl : lv_has ls 1 [(0, .ref h0)] := hl
  refine lv_aload_n hx hb dX4_init_0 rfl (lv_at hl 0 rfl) ?_
  refine W.objInit hx hb hown (hts (.methodLink RX4 1 objectInit) (w_X4_init _ (List.mem_of_getElem? (i := 0) rfl))) (hts (.instanceMethod objectInit) (w_X4_init _ (List.mem_of_getElem? (i := 1) rfl))) (hts _ (w_X4_init _ (List.mem_of_getElem? (i := 2) rfl))) rfl (by rw [hml]; exact hl.1) rfl dX4_init_1 (Nat.le_of_ble_eq_true rfl) (Nat.le_of_ble_eq_true rfl) ?_
  refine W.eq (g2 := F0 m 4 ls []) rfl ?_
  refine lv_aload_n hx hb dX4_init_4 rfl (lv_at hl 0 rfl) ?_
  refine lv_bipush (v := 8) hx hb dX4_init_5 (by decide) ?_
  refine lw_newl (N := 8) hx hb (hts _ (w_X4_init _ (List.mem_of_getElem? (i := 4) rfl))) hK hP hD hS hA (by decide) (by decide) (by decide) (Nat.le_of_ble_eq_true rfl) (Nat.le_of_ble_eq_true rfl) dX4_init_7 (fun q0 H hP hD hS => ?_)
  have hP : va_P (g.1, g.2.1) vwCl [(h0, .inr (4, [.null, .int 0])), (q0, .inl (g.2.2.2.2.2.1, 8, .inr (.inl (fun _ => 0))))] H := hP
  have hD : va_D A [(h0, .inr (4, [.null, .int 0])), (q0, .inl (g.2.2.2.2.2.1, 8, .inr (.inl (fun _ => 0))))] := hD
  refine va_putF (D := (g.1, g.2.1)) (ci := 4) (v := .ref q0) (ty := tyX4 0) (C := RX4) (T := TX4) (N := 2) hx hb hts winX4 tyX4 tyX4_ok nmX4 hown hK hP hD hS 0 rfl rfl 0 (by decide) (hts _ (wf_X4_init _ (List.mem_of_getElem? (i := 0) rfl))) (fun _ h9 => h9) rfl hin rfl (tyX4_ok 0 (by decide)) rfl rfl (Nat.le_of_ble_eq_true rfl) dX4_init_9 (fun H locs hP hD hS => ?_)
  have hP : va_P (g.1, g.2.1) vwCl [(h0, .inr (4, [.ref q0, .int 0])), (q0, .inl (g.2.2.2.2.2.1, 8, .inr (.inl (fun _ => 0))))] H := hP
  have hD : va_D A [(h0, .inr (4, [.ref q0, .int 0])), (q0, .inl (g.2.2.2.2.2.1, 8, .inr (.inl (fun _ => 0))))] := hD
  exact W.vret hx hb hr (fun t ht hW => ⟨⟨(), rfl, trivial, q0, by rw [ht]; exact hP, va_K.moved hW.alike hK, hD⟩, hS.F ht⟩) hS.2.2 dX4_init_12
theorem w_X2_init : ∀ w ∈ ([.methodLink RX2 3 objectInit, .instanceMethod objectInit, .code objectInit ⟨#[0xb1]⟩ 1 none, .arrayClass .int, .arrayClass .long, .arrayClass .byte] : List Cond), w ∈ gb_B := by
  have h : ∀ w ∈ ([.methodLink RX2 3 objectInit, .instanceMethod objectInit, .code objectInit ⟨#[0xb1]⟩ 1 none, .arrayClass .int, .arrayClass .long, .arrayClass .byte] : List Cond), w ∈ lw_tbl ∧ goodWord w = true := by decide +kernel
  exact fun w hw => List.mem_filter.mpr (h w hw)
theorem wf_X2_init : ∀ w ∈ ([.fieldLink RX2 11 "GrainBins$Orders" "grade" "[I", .fieldLink RX2 15 "GrainBins$Orders" "tons" "[I", .fieldLink RX2 18 "GrainBins$Orders" "since" "[I"] : List Cond), w ∈ gb_B := by
  have h : ∀ w ∈ ([.fieldLink RX2 11 "GrainBins$Orders" "grade" "[I", .fieldLink RX2 15 "GrainBins$Orders" "tons" "[I", .fieldLink RX2 18 "GrainBins$Orders" "since" "[I"] : List Cond), w ∈ lw_tbl ∧ goodWord w = true := by decide +kernel
  exact fun w hw => List.mem_filter.mpr (h w hw)
theorem dX2_init_0 : decode cX2_init 0 = .ok (.aload_n 0, 1) := by decide +kernel
theorem dX2_init_1 : decode cX2_init 1 = .ok (.invokespecial 3, 3) := by decide +kernel
theorem dX2_init_4 : decode cX2_init 4 = .ok (.aload_n 0, 1) := by decide +kernel
theorem dX2_init_5 : decode cX2_init 5 = .ok (.bipush 6, 2) := by decide +kernel
theorem dX2_init_7 : decode cX2_init 7 = .ok (.newarray .int, 2) := by decide +kernel
theorem dX2_init_9 : decode cX2_init 9 = .ok (.putfield 11, 3) := by decide +kernel
theorem dX2_init_12 : decode cX2_init 12 = .ok (.aload_n 0, 1) := by decide +kernel
theorem dX2_init_13 : decode cX2_init 13 = .ok (.bipush 6, 2) := by decide +kernel
theorem dX2_init_15 : decode cX2_init 15 = .ok (.newarray .int, 2) := by decide +kernel
theorem dX2_init_17 : decode cX2_init 17 = .ok (.putfield 15, 3) := by decide +kernel
theorem dX2_init_20 : decode cX2_init 20 = .ok (.aload_n 0, 1) := by decide +kernel
theorem dX2_init_21 : decode cX2_init 21 = .ok (.bipush 6, 2) := by decide +kernel
theorem dX2_init_23 : decode cX2_init 23 = .ok (.newarray .int, 2) := by decide +kernel
theorem dX2_init_25 : decode cX2_init 25 = .ok (.putfield 18, 3) := by decide +kernel
theorem dX2_init_28 : decode cX2_init 28 = .ok (.return_, 1) := by decide +kernel
set_option maxHeartbeats 4000000 in
theorem n_X2_init (l : Launch) (g : gb_G) (h0  : Nat) (sz : Nat) : Met l yX2_init (.code yX2_init cX2_init 1 none :: gb_B) ({ frames := 2, cells := 3, slots := 18, locals := 60 }) (va_Pc [.ref h0] (fun U => U.heap.size = sz ∧ va_P (g.1, g.2.1) vwCl [(h0, .inr (2, [.null, .null, .null, .int 0]))] U.heap ∧ va_K (g.1, g.2.1) vwCl (gb_T g) U ∧ va_D (fun _ => True) [(h0, .inr (2, [.null, .null, .null, .int 0]))])) (va_Qv (fun _ : Unit => True) (fun _ t => ∃ q0 q1 q2 : Nat, va_P (g.1, g.2.1) vwCl [(h0, .inr (2, [.ref q0, .ref q1, .ref q2, .int 0])), (q0, .inl (g.2.2.2.1, 6, .inl (fun _ => 0))), (q1, .inl (g.2.2.2.1, 6, .inl (fun _ => 0))), (q2, .inl (g.2.2.2.1, 6, .inl (fun _ => 0)))] t.heap ∧ va_K (g.1, g.2.1) vwCl (gb_T g) t ∧ va_D (va_A [(h0, .inr (2, [.null, .null, .null, .int 0]))] sz) [(h0, .inr (2, [.ref q0, .ref q1, .ref q2, .int 0])), (q0, .inl (g.2.2.2.1, 6, .inl (fun _ => 0))), (q1, .inl (g.2.2.2.1, 6, .inl (fun _ => 0))), (q2, .inl (g.2.2.2.1, 6, .inl (fun _ => 0)))]) (va_A [(h0, .inr (2, [.null, .null, .null, .int 0]))] sz)) 3 18 (va_A [(h0, .inr (2, [.null, .null, .null, .int 0]))] sz) := by
  refine Met.ofW (cc := cX2_init) (maxL := 1) (ret := none) (by decide +kernel) rfl ?_
  intro p e s m args below meth c s₁ B hml hv
  obtain ⟨rfl, hsz, hP, hK, hD0⟩ := hv
  have hx := B.exec
  have hb := B.bytes
  have hr := B.returns
  have hts0 := atoms_spec (ws := .code yX2_init cX2_init 1 none :: gb_B) B.pre
  have hts : ∀ w ∈ gb_B, w.before ([.ref h0] : List Value).toArray s = true := fun w hw => hts0 w (List.mem_cons_of_mem _ hw)
  have hown : s.vm.findClass RX2 = some m.cls := findClass_of_methodNamed B.named
  have hlocks := B.notSynchronized
  have hin : meth.name = "<init>" := (name_of_methodNamed B.named B.method).1
  subst hsz
  have hD := hD0.self (sz := s.heap.size)
  generalize hAe : va_A [(h0, .inr (2, [.null, .null, .null, .int 0]))] s.heap.size = A at hD ⊢
  have hA : ∀ q : Nat, s.heap.size ≤ q → A q := fun q h => by rw [← hAe]; exact Or.inr h
  have hS : va_S A s.heap s.heap [] := va_S.rf
  have hl := lv_entry ([.ref h0]) (n := 1) (Nat.le_of_ble_eq_true rfl)
  rw [lg_entry_eq]
  generalize (lg_sl ([.ref h0]) ++ List.replicate (1 - (lg_sl ([.ref h0])).length) Slot.unset).toArray = ls at hl ⊢
  have hl : lv_has ls 1 [(0, .ref h0)] := hl
  refine lv_aload_n hx hb dX2_init_0 rfl (lv_at hl 0 rfl) ?_
  refine W.objInit hx hb hown (hts (.methodLink RX2 3 objectInit) (w_X2_init _ (List.mem_of_getElem? (i := 0) rfl))) (hts (.instanceMethod objectInit) (w_X2_init _ (List.mem_of_getElem? (i := 1) rfl))) (hts _ (w_X2_init _ (List.mem_of_getElem? (i := 2) rfl))) rfl (by rw [hml]; exact hl.1) rfl dX2_init_1 (Nat.le_of_ble_eq_true rfl) (Nat.le_of_ble_eq_true rfl) ?_
  refine W.eq (g2 := F0 m 4 ls []) rfl ?_
  refine lv_aload_n hx hb dX2_init_4 rfl (lv_at hl 0 rfl) ?_
  refine lv_bipush (v := 6) hx hb dX2_init_5 (by decide) ?_
  refine lw_newi (N := 6) hx hb (hts _ (w_X2_init _ (List.mem_of_getElem? (i := 3) rfl))) hK hP hD hS hA (by decide) (by decide) (by decide) (Nat.le_of_ble_eq_true rfl) (Nat.le_of_ble_eq_true rfl) dX2_init_7 (fun q0 H hP hD hS => ?_)
  have hP : va_P (g.1, g.2.1) vwCl [(h0, .inr (2, [.null, .null, .null, .int 0])), (q0, .inl (g.2.2.2.1, 6, .inl (fun _ => 0)))] H := hP
  have hD : va_D A [(h0, .inr (2, [.null, .null, .null, .int 0])), (q0, .inl (g.2.2.2.1, 6, .inl (fun _ => 0)))] := hD
  refine va_putF (D := (g.1, g.2.1)) (ci := 2) (v := .ref q0) (ty := tyX2 0) (C := RX2) (T := TX2) (N := 4) hx hb hts winX2 tyX2 tyX2_ok nmX2 hown hK hP hD hS 0 rfl rfl 0 (by decide) (hts _ (wf_X2_init _ (List.mem_of_getElem? (i := 0) rfl))) (fun _ h9 => h9) rfl hin rfl (tyX2_ok 0 (by decide)) rfl rfl (Nat.le_of_ble_eq_true rfl) dX2_init_9 (fun H locs hP hD hS => ?_)
  have hP : va_P (g.1, g.2.1) vwCl [(h0, .inr (2, [.ref q0, .null, .null, .int 0])), (q0, .inl (g.2.2.2.1, 6, .inl (fun _ => 0)))] H := hP
  have hD : va_D A [(h0, .inr (2, [.ref q0, .null, .null, .int 0])), (q0, .inl (g.2.2.2.1, 6, .inl (fun _ => 0)))] := hD
  refine lv_aload_n hx hb dX2_init_12 rfl (lv_at hl 0 rfl) ?_
  refine lv_bipush (v := 6) hx hb dX2_init_13 (by decide) ?_
  refine lw_newi (N := 6) hx hb (hts _ (w_X2_init _ (List.mem_of_getElem? (i := 3) rfl))) hK hP hD hS hA (by decide) (by decide) (by decide) (Nat.le_of_ble_eq_true rfl) (Nat.le_of_ble_eq_true rfl) dX2_init_15 (fun q1 H hP hD hS => ?_)
  have hP : va_P (g.1, g.2.1) vwCl [(h0, .inr (2, [.ref q0, .null, .null, .int 0])), (q0, .inl (g.2.2.2.1, 6, .inl (fun _ => 0))), (q1, .inl (g.2.2.2.1, 6, .inl (fun _ => 0)))] H := hP
  have hD : va_D A [(h0, .inr (2, [.ref q0, .null, .null, .int 0])), (q0, .inl (g.2.2.2.1, 6, .inl (fun _ => 0))), (q1, .inl (g.2.2.2.1, 6, .inl (fun _ => 0)))] := hD
  refine va_putF (D := (g.1, g.2.1)) (ci := 2) (v := .ref q1) (ty := tyX2 1) (C := RX2) (T := TX2) (N := 4) hx hb hts winX2 tyX2 tyX2_ok nmX2 hown hK hP hD hS 0 rfl rfl 1 (by decide) (hts _ (wf_X2_init _ (List.mem_of_getElem? (i := 1) rfl))) (fun _ h9 => h9) rfl hin rfl (tyX2_ok 1 (by decide)) rfl rfl (Nat.le_of_ble_eq_true rfl) dX2_init_17 (fun H locs hP hD hS => ?_)
  have hP : va_P (g.1, g.2.1) vwCl [(h0, .inr (2, [.ref q0, .ref q1, .null, .int 0])), (q0, .inl (g.2.2.2.1, 6, .inl (fun _ => 0))), (q1, .inl (g.2.2.2.1, 6, .inl (fun _ => 0)))] H := hP
  have hD : va_D A [(h0, .inr (2, [.ref q0, .ref q1, .null, .int 0])), (q0, .inl (g.2.2.2.1, 6, .inl (fun _ => 0))), (q1, .inl (g.2.2.2.1, 6, .inl (fun _ => 0)))] := hD
  refine lv_aload_n hx hb dX2_init_20 rfl (lv_at hl 0 rfl) ?_
  refine lv_bipush (v := 6) hx hb dX2_init_21 (by decide) ?_
  refine lw_newi (N := 6) hx hb (hts _ (w_X2_init _ (List.mem_of_getElem? (i := 3) rfl))) hK hP hD hS hA (by decide) (by decide) (by decide) (Nat.le_of_ble_eq_true rfl) (Nat.le_of_ble_eq_true rfl) dX2_init_23 (fun q2 H hP hD hS => ?_)
  have hP : va_P (g.1, g.2.1) vwCl [(h0, .inr (2, [.ref q0, .ref q1, .null, .int 0])), (q0, .inl (g.2.2.2.1, 6, .inl (fun _ => 0))), (q1, .inl (g.2.2.2.1, 6, .inl (fun _ => 0))), (q2, .inl (g.2.2.2.1, 6, .inl (fun _ => 0)))] H := hP
  have hD : va_D A [(h0, .inr (2, [.ref q0, .ref q1, .null, .int 0])), (q0, .inl (g.2.2.2.1, 6, .inl (fun _ => 0))), (q1, .inl (g.2.2.2.1, 6, .inl (fun _ => 0))), (q2, .inl (g.2.2.2.1, 6, .inl (fun _ => 0)))] := hD
  refine va_putF (D := (g.1, g.2.1)) (ci := 2) (v := .ref q2) (ty := tyX2 2) (C := RX2) (T := TX2) (N := 4) hx hb hts winX2 tyX2 tyX2_ok nmX2 hown hK hP hD hS 0 rfl rfl 2 (by decide) (hts _ (wf_X2_init _ (List.mem_of_getElem? (i := 2) rfl))) (fun _ h9 => h9) rfl hin rfl (tyX2_ok 2 (by decide)) rfl rfl (Nat.le_of_ble_eq_true rfl) dX2_init_25 (fun H locs hP hD hS => ?_)
  have hP : va_P (g.1, g.2.1) vwCl [(h0, .inr (2, [.ref q0, .ref q1, .ref q2, .int 0])), (q0, .inl (g.2.2.2.1, 6, .inl (fun _ => 0))), (q1, .inl (g.2.2.2.1, 6, .inl (fun _ => 0))), (q2, .inl (g.2.2.2.1, 6, .inl (fun _ => 0)))] H := hP
  have hD : va_D A [(h0, .inr (2, [.ref q0, .ref q1, .ref q2, .int 0])), (q0, .inl (g.2.2.2.1, 6, .inl (fun _ => 0))), (q1, .inl (g.2.2.2.1, 6, .inl (fun _ => 0))), (q2, .inl (g.2.2.2.1, 6, .inl (fun _ => 0)))] := hD
  exact W.vret hx hb hr (fun t ht hW => ⟨⟨(), rfl, trivial, q0, q1, q2, by rw [ht]; exact hP, va_K.moved hW.alike hK, hD⟩, hS.F ht⟩) hS.2.2 dX2_init_28
theorem w_X6_init : ∀ w ∈ ([.methodLink RX6 3 objectInit, .instanceMethod objectInit, .code objectInit ⟨#[0xb1]⟩ 1 none, .arrayClass .int, .arrayClass .long, .arrayClass .byte] : List Cond), w ∈ gb_B := by
  have h : ∀ w ∈ ([.methodLink RX6 3 objectInit, .instanceMethod objectInit, .code objectInit ⟨#[0xb1]⟩ 1 none, .arrayClass .int, .arrayClass .long, .arrayClass .byte] : List Cond), w ∈ lw_tbl ∧ goodWord w = true := by decide +kernel
  exact fun w hw => List.mem_filter.mpr (h w hw)
theorem wf_X6_init : ∀ w ∈ ([.fieldLink RX6 11 "GrainBins$Script" "signs" "[I"] : List Cond), w ∈ gb_B := by
  have h : ∀ w ∈ ([.fieldLink RX6 11 "GrainBins$Script" "signs" "[I"] : List Cond), w ∈ lw_tbl ∧ goodWord w = true := by decide +kernel
  exact fun w hw => List.mem_filter.mpr (h w hw)
theorem dX6_init_0 : decode cX6_init 0 = .ok (.aload_n 0, 1) := by decide +kernel
theorem dX6_init_1 : decode cX6_init 1 = .ok (.invokespecial 3, 3) := by decide +kernel
theorem dX6_init_4 : decode cX6_init 4 = .ok (.aload_n 0, 1) := by decide +kernel
theorem dX6_init_5 : decode cX6_init 5 = .ok (.sipush 200, 3) := by decide +kernel
theorem dX6_init_8 : decode cX6_init 8 = .ok (.newarray .int, 2) := by decide +kernel
theorem dX6_init_10 : decode cX6_init 10 = .ok (.putfield 11, 3) := by decide +kernel
theorem dX6_init_13 : decode cX6_init 13 = .ok (.return_, 1) := by decide +kernel
set_option maxHeartbeats 4000000 in
theorem n_X6_init (l : Launch) (g : gb_G) (h0  : Nat) (sz : Nat) : Met l yX6_init (.code yX6_init cX6_init 1 none :: gb_B) ({ frames := 2, cells := 1, slots := 200, locals := 60 }) (va_Pc [.ref h0] (fun U => U.heap.size = sz ∧ va_P (g.1, g.2.1) vwCl [(h0, .inr (6, [.null, .int 0]))] U.heap ∧ va_K (g.1, g.2.1) vwCl (gb_T g) U ∧ va_D (fun _ => True) [(h0, .inr (6, [.null, .int 0]))])) (va_Qv (fun _ : Unit => True) (fun _ t => ∃ q0 : Nat, va_P (g.1, g.2.1) vwCl [(h0, .inr (6, [.ref q0, .int 0])), (q0, .inl (g.2.2.2.1, 200, .inl (fun _ => 0)))] t.heap ∧ va_K (g.1, g.2.1) vwCl (gb_T g) t ∧ va_D (va_A [(h0, .inr (6, [.null, .int 0]))] sz) [(h0, .inr (6, [.ref q0, .int 0])), (q0, .inl (g.2.2.2.1, 200, .inl (fun _ => 0)))]) (va_A [(h0, .inr (6, [.null, .int 0]))] sz)) 1 200 (va_A [(h0, .inr (6, [.null, .int 0]))] sz) := by
  refine Met.ofW (cc := cX6_init) (maxL := 1) (ret := none) (by decide +kernel) rfl ?_
  intro p e s m args below meth c s₁ B hml hv
  obtain ⟨rfl, hsz, hP, hK, hD0⟩ := hv
  have hx := B.exec
  have hb := B.bytes
  have hr := B.returns
  have hts0 := atoms_spec (ws := .code yX6_init cX6_init 1 none :: gb_B) B.pre
  have hts : ∀ w ∈ gb_B, w.before ([.ref h0] : List Value).toArray s = true := fun w hw => hts0 w (List.mem_cons_of_mem _ hw)
  have hown : s.vm.findClass RX6 = some m.cls := findClass_of_methodNamed B.named
  have hlocks := B.notSynchronized
  have hin : meth.name = "<init>" := (name_of_methodNamed B.named B.method).1
  subst hsz
  have hD := hD0.self (sz := s.heap.size)
  generalize hAe : va_A [(h0, .inr (6, [.null, .int 0]))] s.heap.size = A at hD ⊢
  have hA : ∀ q : Nat, s.heap.size ≤ q → A q := fun q h => by rw [← hAe]; exact Or.inr h
  have hS : va_S A s.heap s.heap [] := va_S.rf
  have hl := lv_entry ([.ref h0]) (n := 1) (Nat.le_of_ble_eq_true rfl)
  rw [lg_entry_eq]
  generalize (lg_sl ([.ref h0]) ++ List.replicate (1 - (lg_sl ([.ref h0])).length) Slot.unset).toArray = ls at hl ⊢
  have hl : lv_has ls 1 [(0, .ref h0)] := hl
  refine lv_aload_n hx hb dX6_init_0 rfl (lv_at hl 0 rfl) ?_
  refine W.objInit hx hb hown (hts (.methodLink RX6 3 objectInit) (w_X6_init _ (List.mem_of_getElem? (i := 0) rfl))) (hts (.instanceMethod objectInit) (w_X6_init _ (List.mem_of_getElem? (i := 1) rfl))) (hts _ (w_X6_init _ (List.mem_of_getElem? (i := 2) rfl))) rfl (by rw [hml]; exact hl.1) rfl dX6_init_1 (Nat.le_of_ble_eq_true rfl) (Nat.le_of_ble_eq_true rfl) ?_
  refine W.eq (g2 := F0 m 4 ls []) rfl ?_
  refine lv_aload_n hx hb dX6_init_4 rfl (lv_at hl 0 rfl) ?_
  refine lv_sipush (v := 200) hx hb dX6_init_5 (by decide) ?_
  refine lw_newi (N := 200) hx hb (hts _ (w_X6_init _ (List.mem_of_getElem? (i := 3) rfl))) hK hP hD hS hA (by decide) (by decide) (by decide) (Nat.le_of_ble_eq_true rfl) (Nat.le_of_ble_eq_true rfl) dX6_init_8 (fun q0 H hP hD hS => ?_)
  have hP : va_P (g.1, g.2.1) vwCl [(h0, .inr (6, [.null, .int 0])), (q0, .inl (g.2.2.2.1, 200, .inl (fun _ => 0)))] H := hP
  have hD : va_D A [(h0, .inr (6, [.null, .int 0])), (q0, .inl (g.2.2.2.1, 200, .inl (fun _ => 0)))] := hD
  refine va_putF (D := (g.1, g.2.1)) (ci := 6) (v := .ref q0) (ty := tyX6 0) (C := RX6) (T := TX6) (N := 2) hx hb hts winX6 tyX6 tyX6_ok nmX6 hown hK hP hD hS 0 rfl rfl 0 (by decide) (hts _ (wf_X6_init _ (List.mem_of_getElem? (i := 0) rfl))) (fun _ h9 => h9) rfl hin rfl (tyX6_ok 0 (by decide)) rfl rfl (Nat.le_of_ble_eq_true rfl) dX6_init_10 (fun H locs hP hD hS => ?_)
  have hP : va_P (g.1, g.2.1) vwCl [(h0, .inr (6, [.ref q0, .int 0])), (q0, .inl (g.2.2.2.1, 200, .inl (fun _ => 0)))] H := hP
  have hD : va_D A [(h0, .inr (6, [.ref q0, .int 0])), (q0, .inl (g.2.2.2.1, 200, .inl (fun _ => 0)))] := hD
  exact W.vret hx hb hr (fun t ht hW => ⟨⟨(), rfl, trivial, q0, by rw [ht]; exact hP, va_K.moved hW.alike hK, hD⟩, hS.F ht⟩) hS.2.2 dX6_init_13
