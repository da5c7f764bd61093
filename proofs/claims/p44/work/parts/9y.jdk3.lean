/-! JDK: the start of a StringBuilder, toString, String.length, String.charAt (printed by wip/p44/jdk3.py) -/
theorem df_J0 : ∀ j, j < 4 → defaultValue (tyJ0 j) = vp_V [.null, .int 0, .int 0, .int 0] j := fun j hj => by rcases (show j = 0 ∨ j = 1 ∨ j = 2 ∨ j = 3 by omega) with rfl | rfl | rfl | rfl <;> rfl
theorem df_J4 : ∀ j, j < 4 → defaultValue (tyJ4 j) = vp_V [.null, .int 0, .int 0, .int 0] j := fun j hj => by rcases (show j = 0 ∨ j = 1 ∨ j = 2 ∨ j = 3 by omega) with rfl | rfl | rfl | rfl <;> rfl
theorem dJ5_init_d00df_0 : decode cJ5_init_d00df 0 = .ok (.aload_n 0, 1) := by decide +kernel
theorem dJ5_init_d00df_1 : decode cJ5_init_d00df 1 = .ok (.invokespecial 3, 3) := by decide +kernel
theorem dJ5_init_d00df_4 : decode cJ5_init_d00df 4 = .ok (.getstatic 18, 3) := by decide +kernel
theorem dJ5_init_d00df_7 : decode cJ5_init_d00df 7 = .ok (.ifCond .eq 18, 3) := by decide +kernel
theorem dJ5_init_d00df_10 : decode cJ5_init_d00df 10 = .ok (.aload_n 0, 1) := by decide +kernel
theorem dJ5_init_d00df_11 : decode cJ5_init_d00df 11 = .ok (.iload_n 1, 1) := by decide +kernel
theorem dJ5_init_d00df_12 : decode cJ5_init_d00df 12 = .ok (.newarray .byte, 2) := by decide +kernel
theorem dJ5_init_d00df_14 : decode cJ5_init_d00df 14 = .ok (.putfield 15, 3) := by decide +kernel
theorem dJ5_init_d00df_17 : decode cJ5_init_d00df 17 = .ok (.aload_n 0, 1) := by decide +kernel
theorem dJ5_init_d00df_18 : decode cJ5_init_d00df 18 = .ok (.iconst 0, 1) := by decide +kernel
theorem dJ5_init_d00df_19 : decode cJ5_init_d00df 19 = .ok (.putfield 22, 3) := by decide +kernel
theorem dJ5_init_d00df_22 : decode cJ5_init_d00df 22 = .ok (.goto 16, 3) := by decide +kernel
theorem dJ5_init_d00df_25 : decode cJ5_init_d00df 25 = .ok (.aload_n 0, 1) := by decide +kernel
theorem dJ5_init_d00df_26 : decode cJ5_init_d00df 26 = .ok (.iload_n 1, 1) := by decide +kernel
theorem dJ5_init_d00df_27 : decode cJ5_init_d00df 27 = .ok (.invokestatic 26, 3) := by decide +kernel
theorem dJ5_init_d00df_30 : decode cJ5_init_d00df 30 = .ok (.putfield 15, 3) := by decide +kernel
theorem dJ5_init_d00df_33 : decode cJ5_init_d00df 33 = .ok (.aload_n 0, 1) := by decide +kernel
theorem dJ5_init_d00df_34 : decode cJ5_init_d00df 34 = .ok (.iconst 1, 1) := by decide +kernel
theorem dJ5_init_d00df_35 : decode cJ5_init_d00df 35 = .ok (.putfield 22, 3) := by decide +kernel
theorem dJ5_init_d00df_38 : decode cJ5_init_d00df 38 = .ok (.return_, 1) := by decide +kernel
theorem wj_J5_init_d00df : ∀ w ∈ ([.methodLink RJ5 3 objectInit, .instanceMethod objectInit, .code objectInit ⟨#[0xb1]⟩ 1 none, .fieldLink RJ5 18 "java/lang/String" "COMPACT_STRINGS" "Z", .arrayClass .byte, .fieldLink RJ5 15 "java/lang/AbstractStringBuilder" "value" "[B", .fieldLink RJ5 22 "java/lang/AbstractStringBuilder" "coder" "B"] : List Cond), w ∈ gb_J := by
  have h : ∀ w ∈ ([.methodLink RJ5 3 objectInit, .instanceMethod objectInit, .code objectInit ⟨#[0xb1]⟩ 1 none, .fieldLink RJ5 18 "java/lang/String" "COMPACT_STRINGS" "Z", .arrayClass .byte, .fieldLink RJ5 15 "java/lang/AbstractStringBuilder" "value" "[B", .fieldLink RJ5 22 "java/lang/AbstractStringBuilder" "coder" "B"] : List Cond), w ∈ jsw ∨ (w ∈ lw_tbl ∧ goodWord w = true) := by decide +kernel
  exact gb_J_of h
set_option maxHeartbeats 4000000 in
theorem n_J5_init_d00df (l : Launch) (g : gb_G) (t1 t2 : Nat) (h : Nat)  (sz : Nat) : Met l yJ5_init_d00df (.code yJ5_init_d00df cJ5_init_d00df 2 none :: gb_J) ({ frames := 4, cells := 1, slots := 16, locals := 200 }) (jm g (jC t1 t2) [.ref (h), .int (nI 16)] ([(h, .inr (11, [.null, .int 0, .int 0, .int 0]))] : va_W) sz) (jQv g (fun w1 => ∃ q, w1 = sbW g h q 16 0 (fun _ => 0)) (va_A ([(h, .inr (11, [.null, .int 0, .int 0, .int 0]))] : va_W) sz)) 1 16 (va_A ([(h, .inr (11, [.null, .int 0, .int 0, .int 0]))] : va_W) sz) := by
  refine Met.ofW (cc := cJ5_init_d00df) (maxL := 2) (ret := none) (by decide +kernel) rfl ?_
  intro p e s m args below meth c s₁ B hml hv
  obtain ⟨rfl, hsz, hP, hK, hD0, hC⟩ := hv
  have hx := B.exec
  have hb := B.bytes
  have hr := B.returns
  have hts0 := atoms_spec (ws := .code yJ5_init_d00df cJ5_init_d00df 2 none :: gb_J) B.pre
  have hts : ∀ w ∈ gb_J, w.before ([.ref (h), .int (nI 16)] : List Value).toArray s = true := fun w hw => hts0 w (List.mem_cons_of_mem _ hw)
  have hown : s.vm.findClass RJ5 = some m.cls := findClass_of_methodNamed B.named
  have hlocks := B.notSynchronized
  have hin : meth.name = "<init>" := (name_of_methodNamed B.named B.method).1
  subst hsz
  have hD := hD0.self (sz := s.heap.size)
  generalize hAe : va_A ([(h, .inr (11, [.null, .int 0, .int 0, .int 0]))] : va_W) s.heap.size = A at hD hC ⊢
  have hA : ∀ q : Nat, s.heap.size ≤ q → A q := fun q h => by rw [← hAe]; exact Or.inr h
  have hS : va_S A s.heap s.heap [] := va_S.rf
  have hl := lv_entry ([.ref (h), .int (nI 16)]) (n := 2) (Nat.le_of_ble_eq_true rfl)
  rw [lg_entry_eq]
  generalize (lg_sl ([.ref (h), .int (nI 16)]) ++ List.replicate (2 - (lg_sl ([.ref (h), .int (nI 16)])).length) Slot.unset).toArray = ls at hl ⊢
  have hl : lv_has ls 2 [(0, .ref (h)), (1, .int (nI 16))] := hl
  refine lv_aload_n hx hb dJ5_init_d00df_0 rfl (lv_at hl 0 rfl) ?_
  refine W.objInit hx hb hown (hts _ (wj_J5_init_d00df _ (List.mem_of_getElem? (i := 0) rfl))) (hts _ (wj_J5_init_d00df _ (List.mem_of_getElem? (i := 1) rfl))) (hts _ (wj_J5_init_d00df _ (List.mem_of_getElem? (i := 2) rfl))) rfl (by rw [hml]; exact hl.1) rfl dJ5_init_d00df_1 (Nat.le_of_ble_eq_true rfl) (Nat.le_of_ble_eq_true rfl) ?_
  refine W.eq (g2 := F0 m 4 ls []) rfl ?_
  refine va_gets (v := .int (1)) hx hb hC.1 hS hown (hts _ (wj_J5_init_d00df _ (List.mem_of_getElem? (i := 3) rfl))) (fun _ h9 => h9) dJ5_init_d00df_4 ?_
  refine lv_if_eq (tgt := 25) hx hb dJ5_init_d00df_7 (by decide) (fun c9 => absurd c9 (by decide)) (fun _ => ?_)
  refine lv_aload_n hx hb dJ5_init_d00df_10 rfl (lv_at hl 0 rfl) ?_
  refine lv_iload_n hx hb dJ5_init_d00df_11 rfl (lv_at hl 1 rfl) ?_
  refine lw_newb (N := 16) hx hb (hts _ (wj_J5_init_d00df _ (List.mem_of_getElem? (i := 4) rfl))) hK hP hD hS hA (nI_pos (by omega)) (j_cl (by omega)) (by omega) (Nat.le_of_ble_eq_true rfl) (Nat.le_of_ble_eq_true rfl) dJ5_init_d00df_12 (fun z1 H hP hD hS => ?_)
  have hP : va_P (g.1, g.2.1) vwCl ([(h, .inr (11, [.null, .int 0, .int 0, .int 0])), (z1, .inl (g.2.2.2.2.1, 16, .inl (fun _ => 0)))] : va_W) H := hP
  have hD : va_D A ([(h, .inr (11, [.null, .int 0, .int 0, .int 0])), (z1, .inl (g.2.2.2.2.1, 16, .inl (fun _ => 0)))] : va_W) := hD
  refine va_put (D := (g.1, g.2.1)) (ci := 11) (v := .ref (z1)) (ty := tyJ4 0) (C := RJ4) (T := TJ4) (N := 4) hx hb hts winJ4 tyJ4 tyJ4_ok nmJ4 hown hK hP hD hS 0 rfl rfl 0 (by decide) (hts _ (wj_J5_init_d00df _ (List.mem_of_getElem? (i := 5) rfl))) (fun _ h9 => h9) rfl (tyJ4_ok 0 (by decide)) rfl rfl (Nat.le_of_ble_eq_true rfl) dJ5_init_d00df_14 (fun H locs hP hD hS => ?_)
  have hP : va_P (g.1, g.2.1) vwCl ([(h, .inr (11, [.ref (z1), .int 0, .int 0, .int 0])), (z1, .inl (g.2.2.2.2.1, 16, .inl (fun _ => 0)))] : va_W) H := hP
  have hD : va_D A ([(h, .inr (11, [.ref (z1), .int 0, .int 0, .int 0])), (z1, .inl (g.2.2.2.2.1, 16, .inl (fun _ => 0)))] : va_W) := hD
  refine lv_aload_n hx hb dJ5_init_d00df_17 rfl (lv_at hl 0 rfl) ?_
  refine lv_iconst (v := 0) hx hb dJ5_init_d00df_18 (by decide) ?_
  refine va_put (D := (g.1, g.2.1)) (ci := 11) (v := .int (0)) (ty := tyJ4 1) (C := RJ4) (T := TJ4) (N := 4) hx hb hts winJ4 tyJ4 tyJ4_ok nmJ4 hown hK hP hD hS 0 rfl rfl 1 (by decide) (hts _ (wj_J5_init_d00df _ (List.mem_of_getElem? (i := 6) rfl))) (fun _ h9 => h9) rfl (tyJ4_ok 1 (by decide)) rfl rfl (Nat.le_of_ble_eq_true rfl) dJ5_init_d00df_19 (fun H locs hP hD hS => ?_)
  have hP : va_P (g.1, g.2.1) vwCl ([(h, .inr (11, [.ref (z1), .int (0), .int 0, .int 0])), (z1, .inl (g.2.2.2.2.1, 16, .inl (fun _ => 0)))] : va_W) H := hP
  have hD : va_D A ([(h, .inr (11, [.ref (z1), .int (0), .int 0, .int 0])), (z1, .inl (g.2.2.2.2.1, 16, .inl (fun _ => 0)))] : va_W) := hD
  refine lv_goto (tgt := 38) hx hb dJ5_init_d00df_22 (by decide) ?_
  refine W.widen (k := 1) (n := 16) (by first | exact Nat.le_of_ble_eq_true rfl | omega) (by first | exact Nat.le_of_ble_eq_true rfl | omega) ?_
  exact W.vret hx hb hr (fun t ht hW => ⟨⟨(), rfl, trivial, _, ⟨z1, rfl⟩, by rw [ht]; exact hP, hD⟩, hS.F ht⟩) hS.2.2 dJ5_init_d00df_38
theorem gi_J5_init_d00df : GoodIn gb_J (.code yJ5_init_d00df cJ5_init_d00df 2 none :: gb_J) := gj_in (l := []) (by
  have h : ∀ w ∈ ([.code yJ5_init_d00df cJ5_init_d00df 2 none] : List Cond), w ∈ jsw ∨ (w ∈ lw_tbl ∧ goodWord w = true) := by decide +kernel
  exact gb_J_of h)
theorem dJ4_init_da8c8_0 : decode cJ4_init_da8c8 0 = .ok (.aload_n 0, 1) := by decide +kernel
theorem dJ4_init_da8c8_1 : decode cJ4_init_da8c8 1 = .ok (.bipush 16, 2) := by decide +kernel
theorem dJ4_init_da8c8_3 : decode cJ4_init_da8c8 3 = .ok (.invokespecial 1, 3) := by decide +kernel
theorem dJ4_init_da8c8_6 : decode cJ4_init_da8c8 6 = .ok (.return_, 1) := by decide +kernel
theorem wj_J4_init_da8c8 : ∀ w ∈ ([.methodLink RJ4 1 yJ5_init_d00df, .instanceMethod yJ5_init_d00df, .initialized yJ5_init_d00df.cls] : List Cond), w ∈ gb_J := by
  have h : ∀ w ∈ ([.methodLink RJ4 1 yJ5_init_d00df, .instanceMethod yJ5_init_d00df, .initialized yJ5_init_d00df.cls] : List Cond), w ∈ jsw ∨ (w ∈ lw_tbl ∧ goodWord w = true) := by decide +kernel
  exact gb_J_of h
set_option maxHeartbeats 4000000 in
theorem n_J4_init_da8c8 (l : Launch) (g : gb_G) (t1 t2 : Nat) (h : Nat)  (sz : Nat) : Met l yJ4_init_da8c8 (.code yJ4_init_da8c8 cJ4_init_da8c8 1 none :: gb_J) ({ frames := 6, cells := 1, slots := 16, locals := 300 }) (jm g (jC t1 t2) [.ref (h)] ([(h, .inr (11, [.null, .int 0, .int 0, .int 0]))] : va_W) sz) (jQv g (fun w1 => ∃ q, w1 = sbW g h q 16 0 (fun _ => 0)) (va_A ([(h, .inr (11, [.null, .int 0, .int 0, .int 0]))] : va_W) sz)) 1 16 (va_A ([(h, .inr (11, [.null, .int 0, .int 0, .int 0]))] : va_W) sz) := by
  refine Met.ofW (cc := cJ4_init_da8c8) (maxL := 1) (ret := none) (by decide +kernel) rfl ?_
  intro p e s m args below meth c s₁ B hml hv
  obtain ⟨rfl, hsz, hP, hK, hD0, hC⟩ := hv
  have hx := B.exec
  have hb := B.bytes
  have hr := B.returns
  have hts0 := atoms_spec (ws := .code yJ4_init_da8c8 cJ4_init_da8c8 1 none :: gb_J) B.pre
  have hts : ∀ w ∈ gb_J, w.before ([.ref (h)] : List Value).toArray s = true := fun w hw => hts0 w (List.mem_cons_of_mem _ hw)
  have hown : s.vm.findClass RJ4 = some m.cls := findClass_of_methodNamed B.named
  have hlocks := B.notSynchronized
  have hin : meth.name = "<init>" := (name_of_methodNamed B.named B.method).1
  subst hsz
  have hD := hD0.self (sz := s.heap.size)
  generalize hAe : va_A ([(h, .inr (11, [.null, .int 0, .int 0, .int 0]))] : va_W) s.heap.size = A at hD hC ⊢
  have hA : ∀ q : Nat, s.heap.size ≤ q → A q := fun q h => by rw [← hAe]; exact Or.inr h
  have hS : va_S A s.heap s.heap [] := va_S.rf
  have hl := lv_entry ([.ref (h)]) (n := 1) (Nat.le_of_ble_eq_true rfl)
  rw [lg_entry_eq]
  generalize (lg_sl ([.ref (h)]) ++ List.replicate (1 - (lg_sl ([.ref (h)])).length) Slot.unset).toArray = ls at hl ⊢
  have hl : lv_has ls 1 [(0, .ref (h))] := hl
  refine lv_aload_n hx hb dJ4_init_da8c8_0 rfl (lv_at hl 0 rfl) ?_
  refine lv_bipush (v := 16) hx hb dJ4_init_da8c8_1 (by decide) ?_
  refine W.eq (g2 := F0 m 3 ls [.int (nI 16), .ref (h)]) (by rw [show (16 : Int32) = nI 16 from rfl]) ?_
  refine j_v (wr := []) (wc := ([(h, .inr (11, [.null, .int 0, .int 0, .int 0]))] : va_W)) (va_runI (As := [.int (nI 16)]) (rest := []) ⟨hx, hb, hml, hown, hts⟩ (n_J5_init_d00df l g t1 t2 h _) (cwI 1 hts gi_J5_init_d00df rfl rfl rfl (hts _ (wj_J4_init_da8c8 _ (List.mem_of_getElem? (i := 2) rfl))) (hts _ (wj_J4_init_da8c8 _ (List.mem_of_getElem? (i := 0) rfl))) (hts _ (wj_J4_init_da8c8 _ (List.mem_of_getElem? (i := 1) rfl))) rfl ⟨by decide +kernel, by decide +kernel, by decide +kernel⟩ ⟨Nat.le_of_ble_eq_true rfl, Nat.le_of_ble_eq_true rfl⟩) (jm_S (g := g) (jX_0 t1 t2) hK hC hS hP hD hA) rfl rfl hl.1 rfl (lv_room (Nat.le_of_ble_eq_true rfl)) dJ4_init_da8c8_3 ⟨Nat.le_of_ble_eq_true rfl, Nat.le_of_ble_eq_true rfl⟩) hP hD hS hA (fun w1 H locs hw hP hD hS => ?_)
  obtain ⟨q, rfl⟩ := hw
  have hP : va_P (g.1, g.2.1) vwCl ([(h, .inr (11, [.ref (q), .int 0, .int 0, .int (nI 0)])), (q, .inl (g.2.2.2.2.1, 16, .inl (fun _ => 0)))] : va_W) H := hP
  have hD : va_D A ([(h, .inr (11, [.ref (q), .int 0, .int 0, .int (nI 0)])), (q, .inl (g.2.2.2.2.1, 16, .inl (fun _ => 0)))] : va_W) := hD
  refine W.widen (k := 1) (n := 16) (by first | exact Nat.le_of_ble_eq_true rfl | omega) (by first | exact Nat.le_of_ble_eq_true rfl | omega) ?_
  exact W.vret hx hb hr (fun t ht hW => ⟨⟨(), rfl, trivial, _, ⟨q, rfl⟩, by rw [ht]; exact hP, hD⟩, hS.F ht⟩) hS.2.2 dJ4_init_da8c8_6
theorem dJ5_length_8abf5_0 : decode cJ5_length_8abf5 0 = .ok (.aload_n 0, 1) := by decide +kernel
theorem dJ5_length_8abf5_1 : decode cJ5_length_8abf5 1 = .ok (.getfield 79, 3) := by decide +kernel
theorem dJ5_length_8abf5_4 : decode cJ5_length_8abf5 4 = .ok (.ireturn, 1) := by decide +kernel
theorem wj_J5_length_8abf5 : ∀ w ∈ ([.fieldLink RJ5 79 "java/lang/AbstractStringBuilder" "count" "I"] : List Cond), w ∈ gb_J := by
  have h : ∀ w ∈ ([.fieldLink RJ5 79 "java/lang/AbstractStringBuilder" "count" "I"] : List Cond), w ∈ jsw ∨ (w ∈ lw_tbl ∧ goodWord w = true) := by decide +kernel
  exact gb_J_of h
set_option maxHeartbeats 4000000 in
theorem n_J5_length_8abf5 (l : Launch) (g : gb_G) (t1 t2 : Nat) (h q cap n : Nat) (f : Nat → Int32)  : Met l yJ5_length_8abf5 (.code yJ5_length_8abf5 cJ5_length_8abf5 1 (some .int) :: gb_J) ({ frames := 2, cells := 0, slots := 0, locals := 100 }) (jp g (jC t1 t2) [.ref (h)] ([(h, .inr (11, [.ref (q), .int 0, .int 0, .int (nI n)])), (q, .inl (g.2.2.2.2.1, cap, .inl (f)))] : va_W)) (vp_Si (fun r => r = nI n)) 0 0 (fun _ => False) := by
  refine Met.ofW (cc := cJ5_length_8abf5) (maxL := 1) (ret := (some .int)) (by decide +kernel) rfl ?_
  intro p e s m args below meth c s₁ B hml hv
  obtain ⟨rfl, hP, hK, hC⟩ := hv
  have hx := B.exec
  have hb := B.bytes
  have hr := B.returns
  have hts0 := atoms_spec (ws := .code yJ5_length_8abf5 cJ5_length_8abf5 1 (some .int) :: gb_J) B.pre
  have hts : ∀ w ∈ gb_J, w.before ([.ref (h)] : List Value).toArray s = true := fun w hw => hts0 w (List.mem_cons_of_mem _ hw)
  have hown : s.vm.findClass RJ5 = some m.cls := findClass_of_methodNamed B.named
  have hlocks := B.notSynchronized
  have hS : va_S (fun _ => False) s.heap s.heap [] := va_S.rf
  have hl := lv_entry ([.ref (h)]) (n := 1) (Nat.le_of_ble_eq_true rfl)
  rw [lg_entry_eq]
  generalize (lg_sl ([.ref (h)]) ++ List.replicate (1 - (lg_sl ([.ref (h)])).length) Slot.unset).toArray = ls at hl ⊢
  have hl : lv_has ls 1 [(0, .ref (h))] := hl
  refine lv_aload_n hx hb dJ5_length_8abf5_0 rfl (lv_at hl 0 rfl) ?_
  refine va_get (D := (g.1, g.2.1)) (ci := 11) (v := .int (nI n)) (C := RJ4) (T := TJ4) (N := 4) hx hb hts winJ4 hown hK hP 0 rfl rfl 3 (by decide) (hts _ (wj_J5_length_8abf5 _ (List.mem_of_getElem? (i := 0) rfl))) (fun _ h9 => h9) rfl dJ5_length_8abf5_1 ?_
  exact W.iret (v := nI n) hx hb hr (fun t ht hW => ⟨nI n, rfl, rfl, ht⟩) (fun q h => by cases h) dJ5_length_8abf5_4
theorem gd_RJ4_343 : GoodIn gb_J (va_wsSU RJ4 343 yJ5_length_8abf5 (.code yJ5_length_8abf5 cJ5_length_8abf5 1 (some .int) :: gb_J)) := gj_in (l := [.methodLink RJ4 343 yJ5_length_8abf5, .sameMethod yJ5_length_8abf5.cls yJ5_length_8abf5.cls yJ5_length_8abf5.name yJ5_length_8abf5.desc, .superclass RJ4 yJ5_length_8abf5.cls, .instanceMethod yJ5_length_8abf5, .initialized yJ5_length_8abf5.cls]) (by
  have h : ∀ w ∈ ([.methodLink RJ4 343 yJ5_length_8abf5, .sameMethod yJ5_length_8abf5.cls yJ5_length_8abf5.cls yJ5_length_8abf5.name yJ5_length_8abf5.desc, .superclass RJ4 yJ5_length_8abf5.cls, .instanceMethod yJ5_length_8abf5, .initialized yJ5_length_8abf5.cls] ++ [.code yJ5_length_8abf5 cJ5_length_8abf5 1 (some .int)] : List Cond), w ∈ jsw ∨ (w ∈ lw_tbl ∧ goodWord w = true) := by decide +kernel
  exact gb_J_of h)
theorem dJ4_length_8abf5_0 : decode cJ4_length_8abf5 0 = .ok (.aload_n 0, 1) := by decide +kernel
theorem dJ4_length_8abf5_1 : decode cJ4_length_8abf5 1 = .ok (.invokespecial 343, 3) := by decide +kernel
theorem dJ4_length_8abf5_4 : decode cJ4_length_8abf5 4 = .ok (.ireturn, 1) := by decide +kernel
set_option maxHeartbeats 4000000 in
theorem n_J4_length_8abf5 (l : Launch) (g : gb_G) (t1 t2 : Nat) (h q cap n : Nat) (f : Nat → Int32)  : Met l yJ4_length_8abf5 (.code yJ4_length_8abf5 cJ4_length_8abf5 1 (some .int) :: gb_J) ({ frames := 4, cells := 0, slots := 0, locals := 200 }) (jp g (jC t1 t2) [.ref (h)] ([(h, .inr (11, [.ref (q), .int 0, .int 0, .int (nI n)])), (q, .inl (g.2.2.2.2.1, cap, .inl (f)))] : va_W)) (vp_Si (fun r => r = nI n)) 0 0 (fun _ => False) := by
  refine Met.ofW (cc := cJ4_length_8abf5) (maxL := 1) (ret := (some .int)) (by decide +kernel) rfl ?_
  intro p e s m args below meth c s₁ B hml hv
  obtain ⟨rfl, hP, hK, hC⟩ := hv
  have hx := B.exec
  have hb := B.bytes
  have hr := B.returns
  have hts0 := atoms_spec (ws := .code yJ4_length_8abf5 cJ4_length_8abf5 1 (some .int) :: gb_J) B.pre
  have hts : ∀ w ∈ gb_J, w.before ([.ref (h)] : List Value).toArray s = true := fun w hw => hts0 w (List.mem_cons_of_mem _ hw)
  have hown : s.vm.findClass RJ4 = some m.cls := findClass_of_methodNamed B.named
  have hlocks := B.notSynchronized
  have hS : va_S (fun _ => False) s.heap s.heap [] := va_S.rf
  have hl := lv_entry ([.ref (h)]) (n := 1) (Nat.le_of_ble_eq_true rfl)
  rw [lg_entry_eq]
  generalize (lg_sl ([.ref (h)]) ++ List.replicate (1 - (lg_sl ([.ref (h)])).length) Slot.unset).toArray = ls at hl ⊢
  have hl : lv_has ls 1 [(0, .ref (h))] := hl
  refine lv_aload_n hx hb dJ4_length_8abf5_0 rfl (lv_at hl 0 rfl) ?_
  refine vp_callSi (va_Run.run (va_runSU (C := RJ4) (j_cat hK) (As := []) (rest := []) ⟨hx, hb, hml, hown, hts⟩ (n_J5_length_8abf5 l g t1 t2 h q cap n f) (va_cwSU 0 hts gd_RJ4_343 rfl rfl rfl ⟨by decide +kernel, by decide +kernel⟩ ⟨Nat.le_of_ble_eq_true rfl, Nat.le_of_ble_eq_true rfl⟩) (jp_V (g := g) (jX_0 t1 t2) hK hC hS hP (va_recv hK hP (ci := 11) (q0 := 0) rfl rfl)) rfl rfl hl.1 rfl (lv_room (Nat.le_of_ble_eq_true rfl)) dJ4_length_8abf5_1 ⟨Nat.le_of_ble_eq_true rfl, Nat.le_of_ble_eq_true rfl⟩)) (fun r9 e9 => ?_)
  subst e9
  exact W.iret (v := nI n) hx hb hr (fun t ht hW => ⟨nI n, rfl, rfl, ht⟩) (fun q h => by cases h) dJ4_length_8abf5_4
theorem dJ5_getValue_6d5f1_0 : decode cJ5_getValue_6d5f1 0 = .ok (.aload_n 0, 1) := by decide +kernel
theorem dJ5_getValue_6d5f1_1 : decode cJ5_getValue_6d5f1 1 = .ok (.getfield 15, 3) := by decide +kernel
theorem dJ5_getValue_6d5f1_4 : decode cJ5_getValue_6d5f1 4 = .ok (.areturn, 1) := by decide +kernel
theorem wj_J5_getValue_6d5f1 : ∀ w ∈ ([.fieldLink RJ5 15 "java/lang/AbstractStringBuilder" "value" "[B"] : List Cond), w ∈ gb_J := by
  have h : ∀ w ∈ ([.fieldLink RJ5 15 "java/lang/AbstractStringBuilder" "value" "[B"] : List Cond), w ∈ jsw ∨ (w ∈ lw_tbl ∧ goodWord w = true) := by decide +kernel
  exact gb_J_of h
set_option maxHeartbeats 4000000 in
theorem n_J5_getValue_6d5f1 (l : Launch) (g : gb_G) (t1 t2 : Nat) (h q cap n : Nat) (f : Nat → Int32)  : Met l yJ5_getValue_6d5f1 (.code yJ5_getValue_6d5f1 cJ5_getValue_6d5f1 1 (some (.array .byte)) :: gb_J) ({ frames := 2, cells := 0, slots := 0, locals := 100 }) (jp g (jC t1 t2) [.ref (h)] ([(h, .inr (11, [.ref (q), .int 0, .int 0, .int (nI n)])), (q, .inl (g.2.2.2.2.1, cap, .inl (f)))] : va_W)) (va_Sr (fun r => r = q) (fun r => .ref r)) 0 0 (fun _ => False) := by
  refine Met.ofW (cc := cJ5_getValue_6d5f1) (maxL := 1) (ret := (some (.array .byte))) (by decide +kernel) rfl ?_
  intro p e s m args below meth c s₁ B hml hv
  obtain ⟨rfl, hP, hK, hC⟩ := hv
  have hx := B.exec
  have hb := B.bytes
  have hr := B.returns
  have hts0 := atoms_spec (ws := .code yJ5_getValue_6d5f1 cJ5_getValue_6d5f1 1 (some (.array .byte)) :: gb_J) B.pre
  have hts : ∀ w ∈ gb_J, w.before ([.ref (h)] : List Value).toArray s = true := fun w hw => hts0 w (List.mem_cons_of_mem _ hw)
  have hown : s.vm.findClass RJ5 = some m.cls := findClass_of_methodNamed B.named
  have hlocks := B.notSynchronized
  have hS : va_S (fun _ => False) s.heap s.heap [] := va_S.rf
  have hl := lv_entry ([.ref (h)]) (n := 1) (Nat.le_of_ble_eq_true rfl)
  rw [lg_entry_eq]
  generalize (lg_sl ([.ref (h)]) ++ List.replicate (1 - (lg_sl ([.ref (h)])).length) Slot.unset).toArray = ls at hl ⊢
  have hl : lv_has ls 1 [(0, .ref (h))] := hl
  refine lv_aload_n hx hb dJ5_getValue_6d5f1_0 rfl (lv_at hl 0 rfl) ?_
  refine va_get (D := (g.1, g.2.1)) (ci := 11) (v := .ref (q)) (C := RJ4) (T := TJ4) (N := 4) hx hb hts winJ4 hown hK hP 0 rfl rfl 0 (by decide) (hts _ (wj_J5_getValue_6d5f1 _ (List.mem_of_getElem? (i := 0) rfl))) (fun _ h9 => h9) rfl dJ5_getValue_6d5f1_1 ?_
  exact W.aret (v := .ref (q)) hx hb hr (Or.inr ⟨_, rfl⟩) (Or.inr ⟨_, rfl⟩) (fun t ht hW => ⟨_, rfl, rfl, ht⟩) (fun q h => by cases h) dJ5_getValue_6d5f1_4
theorem dJ7_checkLength_df160_0 : decode cJ7_checkLength_df160 0 = .ok (.iload_n 1, 1) := by decide +kernel
theorem dJ7_checkLength_df160_1 : decode cJ7_checkLength_df160 1 = .ok (.iload_n 0, 1) := by decide +kernel
theorem dJ7_checkLength_df160_2 : decode cJ7_checkLength_df160 2 = .ok (.if_icmp .ge 35, 3) := by decide +kernel
theorem dJ7_checkLength_df160_5 : decode cJ7_checkLength_df160 5 = .ok (.new 43, 3) := by decide +kernel
theorem dJ7_checkLength_df160_8 : decode cJ7_checkLength_df160 8 = .ok (.dup, 1) := by decide +kernel
theorem dJ7_checkLength_df160_9 : decode cJ7_checkLength_df160 9 = .ok (.new 45, 3) := by decide +kernel
theorem dJ7_checkLength_df160_12 : decode cJ7_checkLength_df160 12 = .ok (.dup, 1) := by decide +kernel
theorem dJ7_checkLength_df160_13 : decode cJ7_checkLength_df160 13 = .ok (.invokespecial 47, 3) := by decide +kernel
theorem dJ7_checkLength_df160_16 : decode cJ7_checkLength_df160 16 = .ok (.iload_n 0, 1) := by decide +kernel
theorem dJ7_checkLength_df160_17 : decode cJ7_checkLength_df160 17 = .ok (.invokevirtual 54, 3) := by decide +kernel
theorem dJ7_checkLength_df160_20 : decode cJ7_checkLength_df160 20 = .ok (.ldc_w 337, 3) := by decide +kernel
theorem dJ7_checkLength_df160_23 : decode cJ7_checkLength_df160 23 = .ok (.invokevirtual 50, 3) := by decide +kernel
theorem dJ7_checkLength_df160_26 : decode cJ7_checkLength_df160 26 = .ok (.iload_n 1, 1) := by decide +kernel
theorem dJ7_checkLength_df160_27 : decode cJ7_checkLength_df160 27 = .ok (.invokevirtual 54, 3) := by decide +kernel
theorem dJ7_checkLength_df160_30 : decode cJ7_checkLength_df160 30 = .ok (.invokevirtual 61, 3) := by decide +kernel
theorem dJ7_checkLength_df160_33 : decode cJ7_checkLength_df160 33 = .ok (.invokespecial 65, 3) := by decide +kernel
theorem dJ7_checkLength_df160_36 : decode cJ7_checkLength_df160 36 = .ok (.athrow, 1) := by decide +kernel
theorem dJ7_checkLength_df160_37 : decode cJ7_checkLength_df160 37 = .ok (.return_, 1) := by decide +kernel
set_option maxHeartbeats 4000000 in
theorem n_J7_checkLength_df160 (l : Launch) (g : gb_G) (t1 t2 : Nat) (n : Nat) (h0 : n < 1000) : Met l yJ7_checkLength_df160 (.code yJ7_checkLength_df160 cJ7_checkLength_df160 2 none :: gb_J) ({ frames := 2, cells := 0, slots := 0, locals := 100 }) (jp g (jC t1 t2) [.int (0), .int (nI n)] ([] : va_W)) (va_Sv (fun _ => True)) 0 0 (fun _ => False) := by
  refine Met.ofW (cc := cJ7_checkLength_df160) (maxL := 2) (ret := none) (by decide +kernel) rfl ?_
  intro p e s m args below meth c s₁ B hml hv
  obtain ⟨rfl, hP, hK, hC⟩ := hv
  have hx := B.exec
  have hb := B.bytes
  have hr := B.returns
  have hts0 := atoms_spec (ws := .code yJ7_checkLength_df160 cJ7_checkLength_df160 2 none :: gb_J) B.pre
  have hts : ∀ w ∈ gb_J, w.before ([.int (0), .int (nI n)] : List Value).toArray s = true := fun w hw => hts0 w (List.mem_cons_of_mem _ hw)
  have hown : s.vm.findClass RJ7 = some m.cls := findClass_of_methodNamed B.named
  have hlocks := B.notSynchronized
  have hS : va_S (fun _ => False) s.heap s.heap [] := va_S.rf
  have hl := lv_entry ([.int (0), .int (nI n)]) (n := 2) (Nat.le_of_ble_eq_true rfl)
  rw [lg_entry_eq]
  generalize (lg_sl ([.int (0), .int (nI n)]) ++ List.replicate (2 - (lg_sl ([.int (0), .int (nI n)])).length) Slot.unset).toArray = ls at hl ⊢
  have hl : lv_has ls 2 [(0, .int (0)), (1, .int (nI n))] := hl
  refine lv_iload_n hx hb dJ7_checkLength_df160_0 rfl (lv_at hl 1 rfl) ?_
  refine lv_iload_n hx hb dJ7_checkLength_df160_1 rfl (lv_at hl 0 rfl) ?_
  refine lv_icmp_ge (tgt := 37) hx hb dJ7_checkLength_df160_2 (by decide) (fun _ => ?_) (fun c9 => absurd (nI_pos' (show n < 2 ^ 31 by omega)) c9)
  exact W.vret hx hb hr (fun t ht hW => ⟨rfl, trivial, ht⟩) (fun q h => by cases h) dJ7_checkLength_df160_37
theorem gd_RJ7_343 : GoodIn gb_J (va_wsS RJ7 343 yJ7_checkLength_df160 (.code yJ7_checkLength_df160 cJ7_checkLength_df160 2 none :: gb_J)) := gj_in (l := [.methodLink RJ7 343 yJ7_checkLength_df160, .static yJ7_checkLength_df160, .initialized yJ7_checkLength_df160.cls]) (by
  have h : ∀ w ∈ ([.methodLink RJ7 343 yJ7_checkLength_df160, .static yJ7_checkLength_df160, .initialized yJ7_checkLength_df160.cls] ++ [.code yJ7_checkLength_df160 cJ7_checkLength_df160 2 none] : List Cond), w ∈ jsw ∨ (w ∈ lw_tbl ∧ goodWord w = true) := by decide +kernel
  exact gb_J_of h)
theorem dJ7_copyOfRangeByte_39247_0 : decode cJ7_copyOfRangeByte_39247 0 = .ok (.iload_n 1, 1) := by decide +kernel
theorem dJ7_copyOfRangeByte_39247_1 : decode cJ7_copyOfRangeByte_39247 1 = .ok (.iload_n 2, 1) := by decide +kernel
theorem dJ7_copyOfRangeByte_39247_2 : decode cJ7_copyOfRangeByte_39247 2 = .ok (.invokestatic 343, 3) := by decide +kernel
theorem dJ7_copyOfRangeByte_39247_5 : decode cJ7_copyOfRangeByte_39247 5 = .ok (.iload_n 2, 1) := by decide +kernel
theorem dJ7_copyOfRangeByte_39247_6 : decode cJ7_copyOfRangeByte_39247 6 = .ok (.iload_n 1, 1) := by decide +kernel
theorem dJ7_copyOfRangeByte_39247_7 : decode cJ7_copyOfRangeByte_39247 7 = .ok (.isub, 1) := by decide +kernel
theorem dJ7_copyOfRangeByte_39247_8 : decode cJ7_copyOfRangeByte_39247 8 = .ok (.istore_n 3, 1) := by decide +kernel
theorem dJ7_copyOfRangeByte_39247_9 : decode cJ7_copyOfRangeByte_39247 9 = .ok (.iload_n 3, 1) := by decide +kernel
theorem dJ7_copyOfRangeByte_39247_10 : decode cJ7_copyOfRangeByte_39247 10 = .ok (.newarray .byte, 2) := by decide +kernel
theorem dJ7_copyOfRangeByte_39247_12 : decode cJ7_copyOfRangeByte_39247 12 = .ok (.astore 4, 2) := by decide +kernel
theorem dJ7_copyOfRangeByte_39247_14 : decode cJ7_copyOfRangeByte_39247 14 = .ok (.aload_n 0, 1) := by decide +kernel
theorem dJ7_copyOfRangeByte_39247_15 : decode cJ7_copyOfRangeByte_39247 15 = .ok (.iload_n 1, 1) := by decide +kernel
theorem dJ7_copyOfRangeByte_39247_16 : decode cJ7_copyOfRangeByte_39247 16 = .ok (.aload 4, 2) := by decide +kernel
theorem dJ7_copyOfRangeByte_39247_18 : decode cJ7_copyOfRangeByte_39247 18 = .ok (.iconst 0, 1) := by decide +kernel
theorem dJ7_copyOfRangeByte_39247_19 : decode cJ7_copyOfRangeByte_39247 19 = .ok (.aload_n 0, 1) := by decide +kernel
theorem dJ7_copyOfRangeByte_39247_20 : decode cJ7_copyOfRangeByte_39247 20 = .ok (.arraylength, 1) := by decide +kernel
theorem dJ7_copyOfRangeByte_39247_21 : decode cJ7_copyOfRangeByte_39247 21 = .ok (.iload_n 1, 1) := by decide +kernel
theorem dJ7_copyOfRangeByte_39247_22 : decode cJ7_copyOfRangeByte_39247 22 = .ok (.isub, 1) := by decide +kernel
theorem dJ7_copyOfRangeByte_39247_23 : decode cJ7_copyOfRangeByte_39247 23 = .ok (.iload_n 3, 1) := by decide +kernel
theorem dJ7_copyOfRangeByte_39247_24 : decode cJ7_copyOfRangeByte_39247 24 = .ok (.invokestatic 304, 3) := by decide +kernel
theorem dJ7_copyOfRangeByte_39247_27 : decode cJ7_copyOfRangeByte_39247 27 = .ok (.invokestatic 150, 3) := by decide +kernel
theorem dJ7_copyOfRangeByte_39247_30 : decode cJ7_copyOfRangeByte_39247 30 = .ok (.aload 4, 2) := by decide +kernel
theorem dJ7_copyOfRangeByte_39247_32 : decode cJ7_copyOfRangeByte_39247 32 = .ok (.areturn, 1) := by decide +kernel
theorem wj_J7_copyOfRangeByte_39247 : ∀ w ∈ ([.arrayClass .byte, .methodLink RJ7 304 Lib.Math.min.name, .static Lib.Math.min.name, .initialized "java/lang/Math", .code Lib.Math.min.name Lib.Math.min.code 2 (some .int), .methodLink RJ7 150 arraycopyName, .native arraycopyName, .static arraycopyName, .initialized "java/lang/System"] : List Cond), w ∈ gb_J := by
  have h : ∀ w ∈ ([.arrayClass .byte, .methodLink RJ7 304 Lib.Math.min.name, .static Lib.Math.min.name, .initialized "java/lang/Math", .code Lib.Math.min.name Lib.Math.min.code 2 (some .int), .methodLink RJ7 150 arraycopyName, .native arraycopyName, .static arraycopyName, .initialized "java/lang/System"] : List Cond), w ∈ jsw ∨ (w ∈ lw_tbl ∧ goodWord w = true) := by decide +kernel
  exact gb_J_of h
set_option maxHeartbeats 4000000 in
theorem n_J7_copyOfRangeByte_39247 (l : Launch) (g : gb_G) (t1 t2 : Nat) (q cap n : Nat) (f : Nat → Int32) (hf : jFit f) (h0 : n ≤ cap) (h1 : cap ≤ 502) (sz : Nat) : Met l yJ7_copyOfRangeByte_39247 (.code yJ7_copyOfRangeByte_39247 cJ7_copyOfRangeByte_39247 5 (some (.array .byte)) :: gb_J) ({ frames := 4, cells := 1, slots := 502, locals := 200 }) (jm g (jC t1 t2) [.ref (q), .int (0), .int (nI n)] ([(q, .inl (g.2.2.2.2.1, cap, .inl (f)))] : va_W) sz) (jQr g (fun r w1 => ∃ f1, w1 = [(q, .inl (g.2.2.2.2.1, cap, .inl f)), (r, .inl (g.2.2.2.2.1, n, .inl f1))] ∧ jFit f1 ∧ ∀ i, i < n → f1 i = f i) (va_A ([(q, .inl (g.2.2.2.2.1, cap, .inl (f)))] : va_W) sz)) 1 502 (va_A ([(q, .inl (g.2.2.2.2.1, cap, .inl (f)))] : va_W) sz) := by
  refine Met.ofW (cc := cJ7_copyOfRangeByte_39247) (maxL := 5) (ret := (some (.array .byte))) (by decide +kernel) rfl ?_
  intro p e s m args below meth c s₁ B hml hv
  obtain ⟨rfl, hsz, hP, hK, hD0, hC⟩ := hv
  have hx := B.exec
  have hb := B.bytes
  have hr := B.returns
  have hts0 := atoms_spec (ws := .code yJ7_copyOfRangeByte_39247 cJ7_copyOfRangeByte_39247 5 (some (.array .byte)) :: gb_J) B.pre
  have hts : ∀ w ∈ gb_J, w.before ([.ref (q), .int (0), .int (nI n)] : List Value).toArray s = true := fun w hw => hts0 w (List.mem_cons_of_mem _ hw)
  have hown : s.vm.findClass RJ7 = some m.cls := findClass_of_methodNamed B.named
  have hlocks := B.notSynchronized
  subst hsz
  have hD := hD0.self (sz := s.heap.size)
  generalize hAe : va_A ([(q, .inl (g.2.2.2.2.1, cap, .inl (f)))] : va_W) s.heap.size = A at hD hC ⊢
  have hA : ∀ q : Nat, s.heap.size ≤ q → A q := fun q h => by rw [← hAe]; exact Or.inr h
  have hS : va_S A s.heap s.heap [] := va_S.rf
  have hl := lv_entry ([.ref (q), .int (0), .int (nI n)]) (n := 5) (Nat.le_of_ble_eq_true rfl)
  rw [lg_entry_eq]
  generalize (lg_sl ([.ref (q), .int (0), .int (nI n)]) ++ List.replicate (5 - (lg_sl ([.ref (q), .int (0), .int (nI n)])).length) Slot.unset).toArray = ls at hl ⊢
  have hl : lv_has ls 5 [(0, .ref (q)), (1, .int (0)), (2, .int (nI n))] := hl
  refine lv_iload_n hx hb dJ7_copyOfRangeByte_39247_0 rfl (lv_at hl 1 rfl) ?_
  refine lv_iload_n hx hb dJ7_copyOfRangeByte_39247_1 rfl (lv_at hl 2 rfl) ?_
  refine va_csv (va_Run.run (va_runS (As := [.int (0), .int (nI n)]) (rest := []) ⟨hx, hb, hml, hown, hts⟩ (n_J7_checkLength_df160 l g t1 t2 n (by omega)) (va_cwS 2 hts gd_RJ7_343 rfl rfl rfl ⟨by decide +kernel, by decide +kernel, by decide +kernel⟩ ⟨Nat.le_of_ble_eq_true rfl, Nat.le_of_ble_eq_true rfl⟩) (jp_S (g := g) (jX_0 t1 t2) hK hC hS (hP.sub [] rfl)) rfl rfl hl.1 rfl (lv_room (Nat.le_of_ble_eq_true rfl)) dJ7_copyOfRangeByte_39247_2 ⟨Nat.le_of_ble_eq_true rfl, Nat.le_of_ble_eq_true rfl⟩)) (fun _ => ?_)
  refine lv_iload_n hx hb dJ7_copyOfRangeByte_39247_5 rfl (lv_at hl 2 rfl) ?_
  refine lv_iload_n hx hb dJ7_copyOfRangeByte_39247_6 rfl (lv_at hl 1 rfl) ?_
  refine lv_isub hx hb dJ7_copyOfRangeByte_39247_7 ?_
  refine W.eq (g2 := F0 m 8 ls [.int (nI n)]) (by rw [show ((nI n) - (0) : Int32) = nI n from jsub0 _]) ?_
  refine lv_istore_n (lv' := [(3, .int (nI n)), (0, .ref (q)), (1, .int (0)), (2, .int (nI n))]) hx hb dJ7_copyOfRangeByte_39247_8 rfl hl (by decide) rfl (fun ls hl => ?_)
  refine lv_iload_n hx hb dJ7_copyOfRangeByte_39247_9 rfl (lv_at hl 0 rfl) ?_
  refine lw_newb (N := n) hx hb (hts _ (wj_J7_copyOfRangeByte_39247 _ (List.mem_of_getElem? (i := 0) rfl))) hK hP hD hS hA (nI_pos (by omega)) (j_cl (by omega)) (by omega) (Nat.le_of_ble_eq_true rfl) (by show 0 + n ≤ 502; omega) dJ7_copyOfRangeByte_39247_10 (fun z1 H hP hD hS => ?_)
  have hP : va_P (g.1, g.2.1) vwCl ([(q, .inl (g.2.2.2.2.1, cap, .inl (f))), (z1, .inl (g.2.2.2.2.1, n, .inl (fun _ => 0)))] : va_W) H := hP
  have hD : va_D A ([(q, .inl (g.2.2.2.2.1, cap, .inl (f))), (z1, .inl (g.2.2.2.2.1, n, .inl (fun _ => 0)))] : va_W) := hD
  refine lv_astore (lv' := [(4, .ref (z1)), (3, .int (nI n)), (0, .ref (q)), (1, .int (0)), (2, .int (nI n))]) hx hb dJ7_copyOfRangeByte_39247_12 hl (by decide) rfl (fun ls hl => ?_)
  refine lv_aload_n hx hb dJ7_copyOfRangeByte_39247_14 rfl (lv_at hl 2 rfl) ?_
  refine lv_iload_n hx hb dJ7_copyOfRangeByte_39247_15 rfl (lv_at hl 3 rfl) ?_
  refine lv_aload hx hb dJ7_copyOfRangeByte_39247_16 (lv_at hl 0 rfl) ?_
  refine lv_iconst (v := 0) hx hb dJ7_copyOfRangeByte_39247_18 (by decide) ?_
  refine lv_aload_n hx hb dJ7_copyOfRangeByte_39247_19 rfl (lv_at hl 2 rfl) ?_
  refine va_alen (D := (g.1, g.2.1)) (v := nI (cap)) hx hb hK hP 0 1 rfl rfl rfl dJ7_copyOfRangeByte_39247_20 ?_
  refine lv_iload_n hx hb dJ7_copyOfRangeByte_39247_21 rfl (lv_at hl 3 rfl) ?_
  refine lv_isub hx hb dJ7_copyOfRangeByte_39247_22 ?_
  refine W.eq (g2 := F0 m 23 ls [.int (nI cap), .int (0), .ref (z1), .int (0), .ref (q)]) (by rw [show ((nI (cap)) - (0) : Int32) = nI cap from jsub0 _]) ?_
  refine lv_iload_n hx hb dJ7_copyOfRangeByte_39247_23 rfl (lv_at hl 1 rfl) ?_
  refine va_mmin hx hb (hml.trans hl.1.symm) hown (hts _ (wj_J7_copyOfRangeByte_39247 _ (List.mem_of_getElem? (i := 1) rfl))) (hts _ (wj_J7_copyOfRangeByte_39247 _ (List.mem_of_getElem? (i := 2) rfl))) (hts _ (wj_J7_copyOfRangeByte_39247 _ (List.mem_of_getElem? (i := 3) rfl))) (hts _ (wj_J7_copyOfRangeByte_39247 _ (List.mem_of_getElem? (i := 4) rfl))) (Nat.le_of_ble_eq_true rfl) (Nat.le_of_ble_eq_true rfl) (Nat.le_of_ble_eq_true rfl) (by show 0 + n ≤ 502; omega) dJ7_copyOfRangeByte_39247_24 ?_
  refine W.eq (g2 := F0 m 27 ls [.int (nI n), .int (0), .ref (z1), .int (0), .ref (q)]) (by rw [jmin2 (a := cap) (b := n) (by omega) (by omega) (by omega)]) ?_
  refine va_copyi (D := (g.1, g.2.1)) hx hb (hml.trans hl.1.symm) hown (hts _ (wj_J7_copyOfRangeByte_39247 _ (List.mem_of_getElem? (i := 5) rfl))) (hts _ (wj_J7_copyOfRangeByte_39247 _ (List.mem_of_getElem? (i := 6) rfl))) (hts _ (wj_J7_copyOfRangeByte_39247 _ (List.mem_of_getElem? (i := 7) rfl))) (hts _ (wj_J7_copyOfRangeByte_39247 _ (List.mem_of_getElem? (i := 8) rfl))) hK hP hD hS 0 1 1 1 rfl rfl rfl rfl rfl (by decide) (by decide) (nI_pos (by omega)) (by rw [j_cl (by omega)]; show 0 + n ≤ cap; omega) (by rw [j_cl (by omega)]; show 0 + n ≤ n; omega) (fun i hi => hf _) (Nat.le_of_ble_eq_true rfl) (Nat.le_of_ble_eq_true (by decide +kernel)) dJ7_copyOfRangeByte_39247_27 (fun H locs hP hD hS => ?_)
  rw [j_cl (show n < 2 ^ 31 by omega)] at hP hD
  have hP : va_P (g.1, g.2.1) vwCl ([(q, .inl (g.2.2.2.2.1, cap, .inl (f))), (z1, .inl (g.2.2.2.2.1, n, .inl (va_cpy (f) (fun _ => 0) (0) (0) (n))))] : va_W) H := hP
  have hD : va_D A ([(q, .inl (g.2.2.2.2.1, cap, .inl (f))), (z1, .inl (g.2.2.2.2.1, n, .inl (va_cpy (f) (fun _ => 0) (0) (0) (n))))] : va_W) := hD
  refine lv_aload hx hb dJ7_copyOfRangeByte_39247_30 (lv_at hl 0 rfl) ?_
  refine W.widen (k := 1) (n := 502) (by first | exact Nat.le_of_ble_eq_true rfl | omega) (by first | exact Nat.le_of_ble_eq_true rfl | omega) ?_
  exact W.aret (v := .ref (z1)) hx hb hr (Or.inr ⟨_, rfl⟩) (Or.inr ⟨_, rfl⟩) (fun t ht hW => ⟨⟨(), _, rfl, trivial, _, ⟨va_cpy f (fun _ => 0) 0 0 n, rfl, jFit_cpy hf (fun _ => jFit_0) _ _ _, fun i hi => va_cpy_0 hi⟩, by rw [ht]; exact hP, hD⟩, hS.F ht⟩) hS.2.2 dJ7_copyOfRangeByte_39247_32
theorem gd_RJ7_339 : GoodIn gb_J (va_wsS RJ7 339 yJ7_copyOfRangeByte_39247 (.code yJ7_copyOfRangeByte_39247 cJ7_copyOfRangeByte_39247 5 (some (.array .byte)) :: gb_J)) := gj_in (l := [.methodLink RJ7 339 yJ7_copyOfRangeByte_39247, .static yJ7_copyOfRangeByte_39247, .initialized yJ7_copyOfRangeByte_39247.cls]) (by
  have h : ∀ w ∈ ([.methodLink RJ7 339 yJ7_copyOfRangeByte_39247, .static yJ7_copyOfRangeByte_39247, .initialized yJ7_copyOfRangeByte_39247.cls] ++ [.code yJ7_copyOfRangeByte_39247 cJ7_copyOfRangeByte_39247 5 (some (.array .byte))] : List Cond), w ∈ jsw ∨ (w ∈ lw_tbl ∧ goodWord w = true) := by decide +kernel
  exact gb_J_of h)
theorem dJ7_copyOfRange_39247_0 : decode cJ7_copyOfRange_39247 0 = .ok (.iload_n 1, 1) := by decide +kernel
theorem dJ7_copyOfRange_39247_1 : decode cJ7_copyOfRange_39247 1 = .ok (.ifCond .ne 9, 3) := by decide +kernel
theorem dJ7_copyOfRange_39247_4 : decode cJ7_copyOfRange_39247 4 = .ok (.iload_n 2, 1) := by decide +kernel
theorem dJ7_copyOfRange_39247_5 : decode cJ7_copyOfRange_39247 5 = .ok (.aload_n 0, 1) := by decide +kernel
theorem dJ7_copyOfRange_39247_6 : decode cJ7_copyOfRange_39247 6 = .ok (.arraylength, 1) := by decide +kernel
theorem dJ7_copyOfRange_39247_7 : decode cJ7_copyOfRange_39247 7 = .ok (.if_icmp .eq 10, 3) := by decide +kernel
theorem dJ7_copyOfRange_39247_10 : decode cJ7_copyOfRange_39247 10 = .ok (.aload_n 0, 1) := by decide +kernel
theorem dJ7_copyOfRange_39247_11 : decode cJ7_copyOfRange_39247 11 = .ok (.iload_n 1, 1) := by decide +kernel
theorem dJ7_copyOfRange_39247_12 : decode cJ7_copyOfRange_39247 12 = .ok (.iload_n 2, 1) := by decide +kernel
theorem dJ7_copyOfRange_39247_13 : decode cJ7_copyOfRange_39247 13 = .ok (.invokestatic 339, 3) := by decide +kernel
theorem dJ7_copyOfRange_39247_16 : decode cJ7_copyOfRange_39247 16 = .ok (.areturn, 1) := by decide +kernel
theorem dJ7_copyOfRange_39247_17 : decode cJ7_copyOfRange_39247 17 = .ok (.aload_n 0, 1) := by decide +kernel
theorem dJ7_copyOfRange_39247_18 : decode cJ7_copyOfRange_39247 18 = .ok (.invokevirtual 310, 3) := by decide +kernel
theorem dJ7_copyOfRange_39247_21 : decode cJ7_copyOfRange_39247 21 = .ok (.checkcast 311, 3) := by decide +kernel
theorem dJ7_copyOfRange_39247_24 : decode cJ7_copyOfRange_39247 24 = .ok (.areturn, 1) := by decide +kernel
theorem wj_J7_copyOfRange_39247 : ∀ w ∈ ([.methodLink RJ7 310 ⟨"[B", "clone", "()Ljava/lang/Object;"⟩, .sameMethod "[B" "java/lang/Object" "clone" "()Ljava/lang/Object;", .native ⟨"java/lang/Object", "clone", "()Ljava/lang/Object;"⟩, .instanceMethod ⟨"java/lang/Object", "clone", "()Ljava/lang/Object;"⟩, .selects "[B" ⟨"[B", "clone", "()Ljava/lang/Object;"⟩ ⟨"java/lang/Object", "clone", "()Ljava/lang/Object;"⟩, .classLink RJ7 311 "[B"] : List Cond), w ∈ gb_J := by
  have h : ∀ w ∈ ([.methodLink RJ7 310 ⟨"[B", "clone", "()Ljava/lang/Object;"⟩, .sameMethod "[B" "java/lang/Object" "clone" "()Ljava/lang/Object;", .native ⟨"java/lang/Object", "clone", "()Ljava/lang/Object;"⟩, .instanceMethod ⟨"java/lang/Object", "clone", "()Ljava/lang/Object;"⟩, .selects "[B" ⟨"[B", "clone", "()Ljava/lang/Object;"⟩ ⟨"java/lang/Object", "clone", "()Ljava/lang/Object;"⟩, .classLink RJ7 311 "[B"] : List Cond), w ∈ jsw ∨ (w ∈ lw_tbl ∧ goodWord w = true) := by decide +kernel
  exact gb_J_of h
set_option maxHeartbeats 4000000 in
theorem n_J7_copyOfRange_39247 (l : Launch) (g : gb_G) (t1 t2 : Nat) (q cap n : Nat) (f : Nat → Int32) (hf : jFit f) (h0 : n ≤ cap) (h1 : cap ≤ 502) (sz : Nat) : Met l yJ7_copyOfRange_39247 (.code yJ7_copyOfRange_39247 cJ7_copyOfRange_39247 3 (some (.array .byte)) :: gb_J) ({ frames := 6, cells := 1, slots := 502, locals := 300 }) (jm g (jC t1 t2) [.ref (q), .int (0), .int (nI n)] ([(q, .inl (g.2.2.2.2.1, cap, .inl (f)))] : va_W) sz) (jQr g (fun r w1 => ∃ f1, w1 = [(q, .inl (g.2.2.2.2.1, cap, .inl f)), (r, .inl (g.2.2.2.2.1, n, .inl f1))] ∧ jFit f1 ∧ ∀ i, i < n → f1 i = f i) (va_A ([(q, .inl (g.2.2.2.2.1, cap, .inl (f)))] : va_W) sz)) 1 502 (va_A ([(q, .inl (g.2.2.2.2.1, cap, .inl (f)))] : va_W) sz) := by
  refine Met.ofW (cc := cJ7_copyOfRange_39247) (maxL := 3) (ret := (some (.array .byte))) (by decide +kernel) rfl ?_
  intro p e s m args below meth c s₁ B hml hv
  obtain ⟨rfl, hsz, hP, hK, hD0, hC⟩ := hv
  have hx := B.exec
  have hb := B.bytes
  have hr := B.returns
  have hts0 := atoms_spec (ws := .code yJ7_copyOfRange_39247 cJ7_copyOfRange_39247 3 (some (.array .byte)) :: gb_J) B.pre
  have hts : ∀ w ∈ gb_J, w.before ([.ref (q), .int (0), .int (nI n)] : List Value).toArray s = true := fun w hw => hts0 w (List.mem_cons_of_mem _ hw)
  have hown : s.vm.findClass RJ7 = some m.cls := findClass_of_methodNamed B.named
  have hlocks := B.notSynchronized
  subst hsz
  have hD := hD0.self (sz := s.heap.size)
  generalize hAe : va_A ([(q, .inl (g.2.2.2.2.1, cap, .inl (f)))] : va_W) s.heap.size = A at hD hC ⊢
  have hA : ∀ q : Nat, s.heap.size ≤ q → A q := fun q h => by rw [← hAe]; exact Or.inr h
  have hS : va_S A s.heap s.heap [] := va_S.rf
  have hl := lv_entry ([.ref (q), .int (0), .int (nI n)]) (n := 3) (Nat.le_of_ble_eq_true rfl)
  rw [lg_entry_eq]
  generalize (lg_sl ([.ref (q), .int (0), .int (nI n)]) ++ List.replicate (3 - (lg_sl ([.ref (q), .int (0), .int (nI n)])).length) Slot.unset).toArray = ls at hl ⊢
  have hl : lv_has ls 3 [(0, .ref (q)), (1, .int (0)), (2, .int (nI n))] := hl
  refine lv_iload_n hx hb dJ7_copyOfRange_39247_0 rfl (lv_at hl 1 rfl) ?_
  refine lv_if_ne (tgt := 10) hx hb dJ7_copyOfRange_39247_1 (by decide) (fun c9 => absurd rfl c9) (fun _ => ?_)
  refine lv_iload_n hx hb dJ7_copyOfRange_39247_4 rfl (lv_at hl 2 rfl) ?_
  refine lv_aload_n hx hb dJ7_copyOfRange_39247_5 rfl (lv_at hl 0 rfl) ?_
  refine va_alen (D := (g.1, g.2.1)) (v := nI (cap)) hx hb hK hP 0 1 rfl rfl rfl dJ7_copyOfRange_39247_6 ?_
  refine lv_icmp_eq (tgt := 17) hx hb dJ7_copyOfRange_39247_7 (by decide) (fun c7 => ?_) (fun c7 => ?_)
  · skip
    have c8 : cap = n := ((nI_eq (by omega) (by omega)).mp c7).symm
    subst c8
    refine lv_aload_n hx hb dJ7_copyOfRange_39247_17 rfl (lv_at hl 0 rfl) ?_
    refine va_clone (D := (g.1, g.2.1)) hx hb (hml.trans hl.1.symm) hown (hts _ (wj_J7_copyOfRange_39247 _ (List.mem_of_getElem? (i := 0) rfl))) (hts _ (wj_J7_copyOfRange_39247 _ (List.mem_of_getElem? (i := 1) rfl))) (hts _ (wj_J7_copyOfRange_39247 _ (List.mem_of_getElem? (i := 2) rfl))) (hts _ (wj_J7_copyOfRange_39247 _ (List.mem_of_getElem? (i := 3) rfl))) (hts _ (wj_J7_copyOfRange_39247 _ (List.mem_of_getElem? (i := 4) rfl))) hC.2.2.2.2.2.2 hK hP hD hS hA 0 1 rfl rfl (va_nm_byte (hK.2 1 (g.2.2.2.2.1, .byte) rfl).2) (va_fit (fun i _ => hf i)) (Nat.le_of_ble_eq_true rfl) (Nat.le_of_ble_eq_true rfl) (Nat.le_of_ble_eq_true rfl) (by show 0 + cap ≤ 502; omega) dJ7_copyOfRange_39247_18 (fun z1 H hK1 hP hD hS => ?_)
    have hP : va_P (g.1, g.2.1) vwCl ([(q, .inl (g.2.2.2.2.1, cap, .inl (f))), (z1, .inl (g.2.2.2.2.1, cap, .inl (f)))] : va_W) H := hP
    have hD : va_D A ([(q, .inl (g.2.2.2.2.1, cap, .inl (f))), (z1, .inl (g.2.2.2.2.1, cap, .inl (f)))] : va_W) := hD
    refine va_castA (D := (g.1, g.2.1)) hx hb hown (hts _ (wj_J7_copyOfRange_39247 _ (List.mem_of_getElem? (i := 5) rfl))) hP 1 rfl (va_nm_byte (hK.2 1 (g.2.2.2.2.1, .byte) rfl).2) dJ7_copyOfRange_39247_21 ?_
    refine W.widen (k := 1) (n := 502) (by first | exact Nat.le_of_ble_eq_true rfl | omega) (by first | exact Nat.le_of_ble_eq_true rfl | omega) ?_
    exact W.aret (v := .ref (z1)) hx hb hr (Or.inr ⟨_, rfl⟩) (Or.inr ⟨_, rfl⟩) (fun t ht hW => ⟨⟨(), _, rfl, trivial, _, ⟨f, rfl, hf, fun _ _ => rfl⟩, by rw [ht]; exact hP, hD⟩, hS.F ht⟩) hS.2.2 dJ7_copyOfRange_39247_24
  · skip
    refine lv_aload_n hx hb dJ7_copyOfRange_39247_10 rfl (lv_at hl 0 rfl) ?_
    refine lv_iload_n hx hb dJ7_copyOfRange_39247_11 rfl (lv_at hl 1 rfl) ?_
    refine lv_iload_n hx hb dJ7_copyOfRange_39247_12 rfl (lv_at hl 2 rfl) ?_
    refine j_r (wr := []) (wc := ([(q, .inl (g.2.2.2.2.1, cap, .inl (f)))] : va_W)) (va_runS (As := [.ref (q), .int (0), .int (nI n)]) (rest := []) ⟨hx, hb, hml, hown, hts⟩ (n_J7_copyOfRangeByte_39247 l g t1 t2 q cap n f hf h0 h1 _) (va_cwS 3 hts gd_RJ7_339 rfl rfl rfl ⟨by decide +kernel, by decide +kernel, by decide +kernel⟩ ⟨Nat.le_of_ble_eq_true rfl, Nat.le_of_ble_eq_true rfl⟩) (jm_S (g := g) (jX_0 t1 t2) hK hC hS hP hD hA) rfl rfl hl.1 rfl (lv_room (Nat.le_of_ble_eq_true rfl)) dJ7_copyOfRange_39247_13 ⟨Nat.le_of_ble_eq_true rfl, Nat.le_of_ble_eq_true rfl⟩) hP hD hS hA (fun q1 w1 H locs hw hP hD hS => ?_)
    obtain ⟨f1, rfl, f2, f3⟩ := hw
    have hP : va_P (g.1, g.2.1) vwCl ([(q, .inl (g.2.2.2.2.1, cap, .inl (f))), (q1, .inl (g.2.2.2.2.1, n, .inl (f1)))] : va_W) H := hP
    have hD : va_D A ([(q, .inl (g.2.2.2.2.1, cap, .inl (f))), (q1, .inl (g.2.2.2.2.1, n, .inl (f1)))] : va_W) := hD
    refine W.widen (k := 1) (n := 502) (by first | exact Nat.le_of_ble_eq_true rfl | omega) (by first | exact Nat.le_of_ble_eq_true rfl | omega) ?_
    exact W.aret (v := .ref (q1)) hx hb hr (Or.inr ⟨_, rfl⟩) (Or.inr ⟨_, rfl⟩) (fun t ht hW => ⟨⟨(), _, rfl, trivial, _, ⟨f1, rfl, f2, f3⟩, by rw [ht]; exact hP, hD⟩, hS.F ht⟩) hS.2.2 dJ7_copyOfRange_39247_16
theorem gd_RJ0_552 : GoodIn gb_J (va_wsU RJ0 552 RJ4 "java/lang/AbstractStringBuilder" (⟨"java/lang/AbstractStringBuilder", "getValue", "()[B"⟩ : MethodName) yJ5_getValue_6d5f1 (.code yJ5_getValue_6d5f1 cJ5_getValue_6d5f1 1 (some (.array .byte)) :: gb_J)) := gj_in (l := [.methodLink RJ0 552 (⟨"java/lang/AbstractStringBuilder", "getValue", "()[B"⟩ : MethodName), .sameMethod (⟨"java/lang/AbstractStringBuilder", "getValue", "()[B"⟩ : MethodName).cls "java/lang/AbstractStringBuilder" (⟨"java/lang/AbstractStringBuilder", "getValue", "()[B"⟩ : MethodName).name (⟨"java/lang/AbstractStringBuilder", "getValue", "()[B"⟩ : MethodName).desc, .selects RJ4 (⟨"java/lang/AbstractStringBuilder", "getValue", "()[B"⟩ : MethodName) yJ5_getValue_6d5f1, .instanceMethod yJ5_getValue_6d5f1, .initialized yJ5_getValue_6d5f1.cls]) (by
  have h : ∀ w ∈ ([.methodLink RJ0 552 (⟨"java/lang/AbstractStringBuilder", "getValue", "()[B"⟩ : MethodName), .sameMethod (⟨"java/lang/AbstractStringBuilder", "getValue", "()[B"⟩ : MethodName).cls "java/lang/AbstractStringBuilder" (⟨"java/lang/AbstractStringBuilder", "getValue", "()[B"⟩ : MethodName).name (⟨"java/lang/AbstractStringBuilder", "getValue", "()[B"⟩ : MethodName).desc, .selects RJ4 (⟨"java/lang/AbstractStringBuilder", "getValue", "()[B"⟩ : MethodName) yJ5_getValue_6d5f1, .instanceMethod yJ5_getValue_6d5f1, .initialized yJ5_getValue_6d5f1.cls] ++ [.code yJ5_getValue_6d5f1 cJ5_getValue_6d5f1 1 (some (.array .byte))] : List Cond), w ∈ jsw ∨ (w ∈ lw_tbl ∧ goodWord w = true) := by decide +kernel
  exact gb_J_of h)
theorem gd_RJ0_549 : GoodIn gb_J (va_wsO RJ0 549 RJ4 "java/lang/AbstractStringBuilder" (⟨"java/lang/AbstractStringBuilder", "length", "()I"⟩ : MethodName) yJ4_length_8abf5 (.code yJ4_length_8abf5 cJ4_length_8abf5 1 (some .int) :: gb_J)) := gj_in (l := [.methodLink RJ0 549 (⟨"java/lang/AbstractStringBuilder", "length", "()I"⟩ : MethodName), .sameMethod (⟨"java/lang/AbstractStringBuilder", "length", "()I"⟩ : MethodName).cls "java/lang/AbstractStringBuilder" (⟨"java/lang/AbstractStringBuilder", "length", "()I"⟩ : MethodName).name (⟨"java/lang/AbstractStringBuilder", "length", "()I"⟩ : MethodName).desc, .instanceMethod ⟨"java/lang/AbstractStringBuilder", (⟨"java/lang/AbstractStringBuilder", "length", "()I"⟩ : MethodName).name, (⟨"java/lang/AbstractStringBuilder", "length", "()I"⟩ : MethodName).desc⟩, .selects RJ4 (⟨"java/lang/AbstractStringBuilder", "length", "()I"⟩ : MethodName) yJ4_length_8abf5, .instanceMethod yJ4_length_8abf5, .initialized yJ4_length_8abf5.cls]) (by
  have h : ∀ w ∈ ([.methodLink RJ0 549 (⟨"java/lang/AbstractStringBuilder", "length", "()I"⟩ : MethodName), .sameMethod (⟨"java/lang/AbstractStringBuilder", "length", "()I"⟩ : MethodName).cls "java/lang/AbstractStringBuilder" (⟨"java/lang/AbstractStringBuilder", "length", "()I"⟩ : MethodName).name (⟨"java/lang/AbstractStringBuilder", "length", "()I"⟩ : MethodName).desc, .instanceMethod ⟨"java/lang/AbstractStringBuilder", (⟨"java/lang/AbstractStringBuilder", "length", "()I"⟩ : MethodName).name, (⟨"java/lang/AbstractStringBuilder", "length", "()I"⟩ : MethodName).desc⟩, .selects RJ4 (⟨"java/lang/AbstractStringBuilder", "length", "()I"⟩ : MethodName) yJ4_length_8abf5, .instanceMethod yJ4_length_8abf5, .initialized yJ4_length_8abf5.cls] ++ [.code yJ4_length_8abf5 cJ4_length_8abf5 1 (some .int)] : List Cond), w ∈ jsw ∨ (w ∈ lw_tbl ∧ goodWord w = true) := by decide +kernel
  exact gb_J_of h)
theorem gd_RJ0_1047 : GoodIn gb_J (va_wsU RJ0 1047 RJ4 "java/lang/AbstractStringBuilder" (⟨"java/lang/AbstractStringBuilder", "isLatin1", "()Z"⟩ : MethodName) yJ5_isLatin1_aae02 (.code yJ5_isLatin1_aae02 cJ5_isLatin1_aae02 1 (some .boolean) :: gb_J)) := gj_in (l := [.methodLink RJ0 1047 (⟨"java/lang/AbstractStringBuilder", "isLatin1", "()Z"⟩ : MethodName), .sameMethod (⟨"java/lang/AbstractStringBuilder", "isLatin1", "()Z"⟩ : MethodName).cls "java/lang/AbstractStringBuilder" (⟨"java/lang/AbstractStringBuilder", "isLatin1", "()Z"⟩ : MethodName).name (⟨"java/lang/AbstractStringBuilder", "isLatin1", "()Z"⟩ : MethodName).desc, .selects RJ4 (⟨"java/lang/AbstractStringBuilder", "isLatin1", "()Z"⟩ : MethodName) yJ5_isLatin1_aae02, .instanceMethod yJ5_isLatin1_aae02, .initialized yJ5_isLatin1_aae02.cls]) (by
  have h : ∀ w ∈ ([.methodLink RJ0 1047 (⟨"java/lang/AbstractStringBuilder", "isLatin1", "()Z"⟩ : MethodName), .sameMethod (⟨"java/lang/AbstractStringBuilder", "isLatin1", "()Z"⟩ : MethodName).cls "java/lang/AbstractStringBuilder" (⟨"java/lang/AbstractStringBuilder", "isLatin1", "()Z"⟩ : MethodName).name (⟨"java/lang/AbstractStringBuilder", "isLatin1", "()Z"⟩ : MethodName).desc, .selects RJ4 (⟨"java/lang/AbstractStringBuilder", "isLatin1", "()Z"⟩ : MethodName) yJ5_isLatin1_aae02, .instanceMethod yJ5_isLatin1_aae02, .initialized yJ5_isLatin1_aae02.cls] ++ [.code yJ5_isLatin1_aae02 cJ5_isLatin1_aae02 1 (some .boolean)] : List Cond), w ∈ jsw ∨ (w ∈ lw_tbl ∧ goodWord w = true) := by decide +kernel
  exact gb_J_of h)
theorem gd_RJ0_54 : GoodIn gb_J (va_wsS RJ0 54 yJ7_copyOfRange_39247 (.code yJ7_copyOfRange_39247 cJ7_copyOfRange_39247 3 (some (.array .byte)) :: gb_J)) := gj_in (l := [.methodLink RJ0 54 yJ7_copyOfRange_39247, .static yJ7_copyOfRange_39247, .initialized yJ7_copyOfRange_39247.cls]) (by
  have h : ∀ w ∈ ([.methodLink RJ0 54 yJ7_copyOfRange_39247, .static yJ7_copyOfRange_39247, .initialized yJ7_copyOfRange_39247.cls] ++ [.code yJ7_copyOfRange_39247 cJ7_copyOfRange_39247 3 (some (.array .byte))] : List Cond), w ∈ jsw ∨ (w ∈ lw_tbl ∧ goodWord w = true) := by decide +kernel
  exact gb_J_of h)
theorem dJ0_init_db425_0 : decode cJ0_init_db425 0 = .ok (.aload_n 0, 1) := by decide +kernel
theorem dJ0_init_db425_1 : decode cJ0_init_db425 1 = .ok (.invokespecial 1, 3) := by decide +kernel
theorem dJ0_init_db425_4 : decode cJ0_init_db425 4 = .ok (.aload_n 1, 1) := by decide +kernel
theorem dJ0_init_db425_5 : decode cJ0_init_db425 5 = .ok (.invokevirtual 552, 3) := by decide +kernel
theorem dJ0_init_db425_8 : decode cJ0_init_db425 8 = .ok (.astore_n 3, 1) := by decide +kernel
theorem dJ0_init_db425_9 : decode cJ0_init_db425 9 = .ok (.aload_n 1, 1) := by decide +kernel
theorem dJ0_init_db425_10 : decode cJ0_init_db425 10 = .ok (.invokevirtual 549, 3) := by decide +kernel
theorem dJ0_init_db425_13 : decode cJ0_init_db425 13 = .ok (.istore 4, 2) := by decide +kernel
theorem dJ0_init_db425_15 : decode cJ0_init_db425 15 = .ok (.aload_n 1, 1) := by decide +kernel
theorem dJ0_init_db425_16 : decode cJ0_init_db425 16 = .ok (.invokevirtual 1047, 3) := by decide +kernel
theorem dJ0_init_db425_19 : decode cJ0_init_db425 19 = .ok (.ifCond .eq 22, 3) := by decide +kernel
theorem dJ0_init_db425_22 : decode cJ0_init_db425 22 = .ok (.aload_n 0, 1) := by decide +kernel
theorem dJ0_init_db425_23 : decode cJ0_init_db425 23 = .ok (.iconst 0, 1) := by decide +kernel
theorem dJ0_init_db425_24 : decode cJ0_init_db425 24 = .ok (.putfield 15, 3) := by decide +kernel
theorem dJ0_init_db425_27 : decode cJ0_init_db425 27 = .ok (.aload_n 0, 1) := by decide +kernel
theorem dJ0_init_db425_28 : decode cJ0_init_db425 28 = .ok (.aload_n 3, 1) := by decide +kernel
theorem dJ0_init_db425_29 : decode cJ0_init_db425 29 = .ok (.iconst 0, 1) := by decide +kernel
theorem dJ0_init_db425_30 : decode cJ0_init_db425 30 = .ok (.iload 4, 2) := by decide +kernel
theorem dJ0_init_db425_32 : decode cJ0_init_db425 32 = .ok (.invokestatic 54, 3) := by decide +kernel
theorem dJ0_init_db425_35 : decode cJ0_init_db425 35 = .ok (.putfield 9, 3) := by decide +kernel
theorem dJ0_init_db425_38 : decode cJ0_init_db425 38 = .ok (.goto 59, 3) := by decide +kernel
theorem dJ0_init_db425_41 : decode cJ0_init_db425 41 = .ok (.getstatic 38, 3) := by decide +kernel
theorem dJ0_init_db425_44 : decode cJ0_init_db425 44 = .ok (.ifCond .eq 35, 3) := by decide +kernel
theorem dJ0_init_db425_47 : decode cJ0_init_db425 47 = .ok (.aload_n 1, 1) := by decide +kernel
theorem dJ0_init_db425_48 : decode cJ0_init_db425 48 = .ok (.getfield 1048, 3) := by decide +kernel
theorem dJ0_init_db425_51 : decode cJ0_init_db425 51 = .ok (.ifCond .eq 28, 3) := by decide +kernel
theorem dJ0_init_db425_54 : decode cJ0_init_db425 54 = .ok (.aload_n 0, 1) := by decide +kernel
theorem dJ0_init_db425_55 : decode cJ0_init_db425 55 = .ok (.aload_n 3, 1) := by decide +kernel
theorem dJ0_init_db425_56 : decode cJ0_init_db425 56 = .ok (.iconst 0, 1) := by decide +kernel
theorem dJ0_init_db425_57 : decode cJ0_init_db425 57 = .ok (.iload 4, 2) := by decide +kernel
theorem dJ0_init_db425_59 : decode cJ0_init_db425 59 = .ok (.invokestatic 1051, 3) := by decide +kernel
theorem dJ0_init_db425_62 : decode cJ0_init_db425 62 = .ok (.putfield 9, 3) := by decide +kernel
theorem dJ0_init_db425_65 : decode cJ0_init_db425 65 = .ok (.aload_n 0, 1) := by decide +kernel
theorem dJ0_init_db425_66 : decode cJ0_init_db425 66 = .ok (.aload_n 0, 1) := by decide +kernel
theorem dJ0_init_db425_67 : decode cJ0_init_db425 67 = .ok (.getfield 9, 3) := by decide +kernel
theorem dJ0_init_db425_70 : decode cJ0_init_db425 70 = .ok (.iload 4, 2) := by decide +kernel
theorem dJ0_init_db425_72 : decode cJ0_init_db425 72 = .ok (.invokestatic 47, 3) := by decide +kernel
theorem dJ0_init_db425_75 : decode cJ0_init_db425 75 = .ok (.putfield 15, 3) := by decide +kernel
theorem dJ0_init_db425_78 : decode cJ0_init_db425 78 = .ok (.return_, 1) := by decide +kernel
theorem dJ0_init_db425_79 : decode cJ0_init_db425 79 = .ok (.aload_n 0, 1) := by decide +kernel
theorem dJ0_init_db425_80 : decode cJ0_init_db425 80 = .ok (.iconst 1, 1) := by decide +kernel
theorem dJ0_init_db425_81 : decode cJ0_init_db425 81 = .ok (.putfield 15, 3) := by decide +kernel
theorem dJ0_init_db425_84 : decode cJ0_init_db425 84 = .ok (.aload_n 0, 1) := by decide +kernel
theorem dJ0_init_db425_85 : decode cJ0_init_db425 85 = .ok (.aload_n 3, 1) := by decide +kernel
theorem dJ0_init_db425_86 : decode cJ0_init_db425 86 = .ok (.iconst 0, 1) := by decide +kernel
theorem dJ0_init_db425_87 : decode cJ0_init_db425 87 = .ok (.iload 4, 2) := by decide +kernel
theorem dJ0_init_db425_89 : decode cJ0_init_db425 89 = .ok (.iconst 1, 1) := by decide +kernel
theorem dJ0_init_db425_90 : decode cJ0_init_db425 90 = .ok (.ishl, 1) := by decide +kernel
theorem dJ0_init_db425_91 : decode cJ0_init_db425 91 = .ok (.invokestatic 54, 3) := by decide +kernel
theorem dJ0_init_db425_94 : decode cJ0_init_db425 94 = .ok (.putfield 9, 3) := by decide +kernel
theorem dJ0_init_db425_97 : decode cJ0_init_db425 97 = .ok (.return_, 1) := by decide +kernel
theorem wj_J0_init_db425 : ∀ w ∈ ([.methodLink RJ0 1 objectInit, .instanceMethod objectInit, .code objectInit ⟨#[0xb1]⟩ 1 none, .fieldLink RJ0 15 "java/lang/String" "coder" "B", .fieldLink RJ0 9 "java/lang/String" "value" "[B"] : List Cond), w ∈ gb_J := by
  have h : ∀ w ∈ ([.methodLink RJ0 1 objectInit, .instanceMethod objectInit, .code objectInit ⟨#[0xb1]⟩ 1 none, .fieldLink RJ0 15 "java/lang/String" "coder" "B", .fieldLink RJ0 9 "java/lang/String" "value" "[B"] : List Cond), w ∈ jsw ∨ (w ∈ lw_tbl ∧ goodWord w = true) := by decide +kernel
  exact gb_J_of h
set_option maxHeartbeats 4000000 in
theorem n_J0_init_db425 (l : Launch) (g : gb_G) (t1 t2 : Nat) (ps h q cap n : Nat) (f : Nat → Int32) (hf : jFit f) (h0 : n ≤ cap) (h1 : cap ≤ 502) (sz : Nat) : Met l yJ0_init_db425 (.code yJ0_init_db425 cJ0_init_db425 5 none :: gb_J) ({ frames := 8, cells := 1, slots := 502, locals := 400 }) (jm g (jC t1 t2) [.ref (ps), .ref (h), .null] ([(ps, .inr (10, [.null, .int 0, .int 0, .int 0])), (h, .inr (11, [.ref (q), .int 0, .int 0, .int (nI n)])), (q, .inl (g.2.2.2.2.1, cap, .inl (f)))] : va_W) sz) (jQv g (fun w1 => ∃ b1 f1, w1 = sbW g h q cap n f ++ stW g ps b1 n f1 ∧ jFit f1 ∧ ∀ i, i < n → f1 i = f i) (va_A ([(ps, .inr (10, [.null, .int 0, .int 0, .int 0])), (h, .inr (11, [.ref (q), .int 0, .int 0, .int (nI n)])), (q, .inl (g.2.2.2.2.1, cap, .inl (f)))] : va_W) sz)) 1 502 (va_A ([(ps, .inr (10, [.null, .int 0, .int 0, .int 0])), (h, .inr (11, [.ref (q), .int 0, .int 0, .int (nI n)])), (q, .inl (g.2.2.2.2.1, cap, .inl (f)))] : va_W) sz) := by
  refine Met.ofW (cc := cJ0_init_db425) (maxL := 5) (ret := none) (by decide +kernel) rfl ?_
  intro p e s m args below meth c s₁ B hml hv
  obtain ⟨rfl, hsz, hP, hK, hD0, hC⟩ := hv
  have hx := B.exec
  have hb := B.bytes
  have hr := B.returns
  have hts0 := atoms_spec (ws := .code yJ0_init_db425 cJ0_init_db425 5 none :: gb_J) B.pre
  have hts : ∀ w ∈ gb_J, w.before ([.ref (ps), .ref (h), .null] : List Value).toArray s = true := fun w hw => hts0 w (List.mem_cons_of_mem _ hw)
  have hown : s.vm.findClass RJ0 = some m.cls := findClass_of_methodNamed B.named
  have hlocks := B.notSynchronized
  have hin : meth.name = "<init>" := (name_of_methodNamed B.named B.method).1
  subst hsz
  have hD := hD0.self (sz := s.heap.size)
  generalize hAe : va_A ([(ps, .inr (10, [.null, .int 0, .int 0, .int 0])), (h, .inr (11, [.ref (q), .int 0, .int 0, .int (nI n)])), (q, .inl (g.2.2.2.2.1, cap, .inl (f)))] : va_W) s.heap.size = A at hD hC ⊢
  have hA : ∀ q : Nat, s.heap.size ≤ q → A q := fun q h => by rw [← hAe]; exact Or.inr h
  have hS : va_S A s.heap s.heap [] := va_S.rf
  have hl := lv_entry ([.ref (ps), .ref (h), .null]) (n := 5) (Nat.le_of_ble_eq_true rfl)
  rw [lg_entry_eq]
  generalize (lg_sl ([.ref (ps), .ref (h), .null]) ++ List.replicate (5 - (lg_sl ([.ref (ps), .ref (h), .null])).length) Slot.unset).toArray = ls at hl ⊢
  have hl : lv_has ls 5 [(0, .ref (ps)), (1, .ref (h)), (2, .null)] := hl
  refine lv_aload_n hx hb dJ0_init_db425_0 rfl (lv_at hl 0 rfl) ?_
  refine W.objInit hx hb hown (hts _ (wj_J0_init_db425 _ (List.mem_of_getElem? (i := 0) rfl))) (hts _ (wj_J0_init_db425 _ (List.mem_of_getElem? (i := 1) rfl))) (hts _ (wj_J0_init_db425 _ (List.mem_of_getElem? (i := 2) rfl))) rfl (by rw [hml]; exact hl.1) rfl dJ0_init_db425_1 (Nat.le_of_ble_eq_true rfl) (Nat.le_of_ble_eq_true rfl) ?_
  refine W.eq (g2 := F0 m 4 ls []) rfl ?_
  refine lv_aload_n hx hb dJ0_init_db425_4 rfl (lv_at hl 1 rfl) ?_
  refine va_csr (va_Run.run (va_runU (As := []) (rest := []) ⟨hx, hb, hml, hown, hts⟩ (n_J5_getValue_6d5f1 l g t1 t2 h q cap n f) (va_cwU 0 hts gd_RJ0_552 rfl rfl rfl rfl ⟨by decide +kernel, by decide +kernel, by decide +kernel⟩ ⟨Nat.le_of_ble_eq_true rfl, Nat.le_of_ble_eq_true rfl⟩) (jp_V (g := g) (jX_0 t1 t2) hK hC hS (hP.sub [1, 2] rfl) (va_recv hK hP (ci := 11) (q0 := 1) rfl rfl)) rfl rfl hl.1 rfl (lv_room (Nat.le_of_ble_eq_true rfl)) dJ0_init_db425_5 ⟨Nat.le_of_ble_eq_true rfl, Nat.le_of_ble_eq_true rfl⟩)) (fun r9 e9 => ?_)
  have e9 := e9.symm
  subst e9
  refine lv_astore_n (lv' := [(3, .ref (q)), (0, .ref (ps)), (1, .ref (h)), (2, .null)]) hx hb dJ0_init_db425_8 rfl hl (by decide) rfl (fun ls hl => ?_)
  refine lv_aload_n hx hb dJ0_init_db425_9 rfl (lv_at hl 2 rfl) ?_
  refine vp_callSi (va_Run.run (va_runU (As := []) (rest := []) ⟨hx, hb, hml, hown, hts⟩ (n_J4_length_8abf5 l g t1 t2 h q cap n f) (va_cwO 0 hts gd_RJ0_549 rfl rfl rfl (b0 := cJ5_length_8abf5) (m0 := 1) (r0 := (some .int)) (gb_J_of (L := [.code yJ5_length_8abf5 cJ5_length_8abf5 1 (some .int)]) (by decide +kernel) _ List.mem_cons_self) ⟨by decide +kernel, by decide +kernel, by decide +kernel⟩ ⟨Nat.le_of_ble_eq_true rfl, Nat.le_of_ble_eq_true rfl⟩) (jp_V (g := g) (jX_0 t1 t2) hK hC hS (hP.sub [1, 2] rfl) (va_recv hK hP (ci := 11) (q0 := 1) rfl rfl)) rfl rfl hl.1 rfl (lv_room (Nat.le_of_ble_eq_true rfl)) dJ0_init_db425_10 ⟨Nat.le_of_ble_eq_true rfl, Nat.le_of_ble_eq_true rfl⟩)) (fun r9 e9 => ?_)
  subst e9
  refine lv_istore (lv' := [(4, .int (nI n)), (3, .ref (q)), (0, .ref (ps)), (1, .ref (h)), (2, .null)]) hx hb dJ0_init_db425_13 hl (by decide) rfl (fun ls hl => ?_)
  refine lv_aload_n hx hb dJ0_init_db425_15 rfl (lv_at hl 3 rfl) ?_
  refine vp_callSi (va_Run.run (va_runU (As := []) (rest := []) ⟨hx, hb, hml, hown, hts⟩ (n_J5_isLatin1_aae02 l g t1 t2 h q cap n f) (va_cwU 0 hts gd_RJ0_1047 rfl rfl rfl rfl ⟨by decide +kernel, by decide +kernel, by decide +kernel⟩ ⟨Nat.le_of_ble_eq_true rfl, Nat.le_of_ble_eq_true rfl⟩) (jp_V (g := g) (jX_0 t1 t2) hK hC hS (hP.sub [1, 2] rfl) (va_recv hK hP (ci := 11) (q0 := 1) rfl rfl)) rfl rfl hl.1 rfl (lv_room (Nat.le_of_ble_eq_true rfl)) dJ0_init_db425_16 ⟨Nat.le_of_ble_eq_true rfl, Nat.le_of_ble_eq_true rfl⟩)) (fun r9 e9 => ?_)
  subst e9
  refine lv_if_eq (tgt := 41) hx hb dJ0_init_db425_19 (by decide) (fun c9 => absurd c9 (by decide)) (fun _ => ?_)
  refine lv_aload_n hx hb dJ0_init_db425_22 rfl (lv_at hl 2 rfl) ?_
  refine lv_iconst (v := 0) hx hb dJ0_init_db425_23 (by decide) ?_
  refine va_putF (D := (g.1, g.2.1)) (ci := 10) (v := .int (0)) (ty := tyJ0 1) (C := RJ0) (T := TJ0) (N := 4) hx hb hts winJ0 tyJ0 tyJ0_ok nmJ0 hown hK hP hD hS 0 rfl rfl 1 (by decide) (hts _ (wj_J0_init_db425 _ (List.mem_of_getElem? (i := 3) rfl))) (fun _ h9 => h9) rfl hin rfl (tyJ0_ok 1 (by decide)) rfl rfl (Nat.le_of_ble_eq_true rfl) dJ0_init_db425_24 (fun H locs hP hD hS => ?_)
  have hP : va_P (g.1, g.2.1) vwCl ([(ps, .inr (10, [.null, .int (0), .int 0, .int 0])), (h, .inr (11, [.ref (q), .int 0, .int 0, .int (nI n)])), (q, .inl (g.2.2.2.2.1, cap, .inl (f)))] : va_W) H := hP
  have hD : va_D A ([(ps, .inr (10, [.null, .int (0), .int 0, .int 0])), (h, .inr (11, [.ref (q), .int 0, .int 0, .int (nI n)])), (q, .inl (g.2.2.2.2.1, cap, .inl (f)))] : va_W) := hD
  refine lv_aload_n hx hb dJ0_init_db425_27 rfl (lv_at hl 2 rfl) ?_
  refine lv_aload_n hx hb dJ0_init_db425_28 rfl (lv_at hl 1 rfl) ?_
  refine lv_iconst (v := 0) hx hb dJ0_init_db425_29 (by decide) ?_
  refine lv_iload hx hb dJ0_init_db425_30 (lv_at hl 0 rfl) ?_
  refine j_r (wr := ([(ps, .inr (10, [.null, .int (0), .int 0, .int 0])), (h, .inr (11, [.ref (q), .int 0, .int 0, .int (nI n)]))] : va_W)) (wc := ([(q, .inl (g.2.2.2.2.1, cap, .inl (f)))] : va_W)) (va_runS (As := [.ref (q), .int (0), .int (nI n)]) (rest := [.ref (ps)]) ⟨hx, hb, hml, hown, hts⟩ (n_J7_copyOfRange_39247 l g t1 t2 q cap n f hf h0 h1 _) (va_cwS 3 hts gd_RJ0_54 rfl rfl rfl ⟨by decide +kernel, by decide +kernel, by decide +kernel⟩ ⟨Nat.le_of_ble_eq_true rfl, Nat.le_of_ble_eq_true rfl⟩) (jm_S (g := g) (jX_0 t1 t2) hK hC hS (hP.sub [2] rfl) (hD.sub [2] (by decide) rfl) hA) rfl rfl hl.1 rfl (lv_room (Nat.le_of_ble_eq_true rfl)) dJ0_init_db425_32 ⟨Nat.le_of_ble_eq_true rfl, Nat.le_of_ble_eq_true rfl⟩) (hP.sub [0, 1, 2] rfl) (hD.sub [0, 1, 2] (by decide) rfl) hS hA (fun b1 w1 H locs hw hP hD hS => ?_)
  obtain ⟨f1, rfl, f2, f3⟩ := hw
  have hP : va_P (g.1, g.2.1) vwCl ([(ps, .inr (10, [.null, .int (0), .int 0, .int 0])), (h, .inr (11, [.ref (q), .int 0, .int 0, .int (nI n)])), (q, .inl (g.2.2.2.2.1, cap, .inl (f))), (b1, .inl (g.2.2.2.2.1, n, .inl (f1)))] : va_W) H := hP
  have hD : va_D A ([(ps, .inr (10, [.null, .int (0), .int 0, .int 0])), (h, .inr (11, [.ref (q), .int 0, .int 0, .int (nI n)])), (q, .inl (g.2.2.2.2.1, cap, .inl (f))), (b1, .inl (g.2.2.2.2.1, n, .inl (f1)))] : va_W) := hD
  refine va_putF (D := (g.1, g.2.1)) (ci := 10) (v := .ref (b1)) (ty := tyJ0 0) (C := RJ0) (T := TJ0) (N := 4) hx hb hts winJ0 tyJ0 tyJ0_ok nmJ0 hown hK hP hD hS 0 rfl rfl 0 (by decide) (hts _ (wj_J0_init_db425 _ (List.mem_of_getElem? (i := 4) rfl))) (fun _ h9 => h9) rfl hin rfl (tyJ0_ok 0 (by decide)) rfl rfl (Nat.le_of_ble_eq_true rfl) dJ0_init_db425_35 (fun H locs hP hD hS => ?_)
  have hP : va_P (g.1, g.2.1) vwCl ([(ps, .inr (10, [.ref (b1), .int (0), .int 0, .int 0])), (h, .inr (11, [.ref (q), .int 0, .int 0, .int (nI n)])), (q, .inl (g.2.2.2.2.1, cap, .inl (f))), (b1, .inl (g.2.2.2.2.1, n, .inl (f1)))] : va_W) H := hP
  have hD : va_D A ([(ps, .inr (10, [.ref (b1), .int (0), .int 0, .int 0])), (h, .inr (11, [.ref (q), .int 0, .int 0, .int (nI n)])), (q, .inl (g.2.2.2.2.1, cap, .inl (f))), (b1, .inl (g.2.2.2.2.1, n, .inl (f1)))] : va_W) := hD
  refine lv_goto (tgt := 97) hx hb dJ0_init_db425_38 (by decide) ?_
  refine W.widen (k := 1) (n := 502) (by first | exact Nat.le_of_ble_eq_true rfl | omega) (by first | exact Nat.le_of_ble_eq_true rfl | omega) ?_
  have hP := hP.sub (ws' := ([(h, .inr (11, [.ref (q), .int 0, .int 0, .int (nI n)])), (q, .inl (g.2.2.2.2.1, cap, .inl (f))), (ps, .inr (10, [.ref (b1), .int (0), .int 0, .int 0])), (b1, .inl (g.2.2.2.2.1, n, .inl (f1)))] : va_W)) [1, 2, 0, 3] rfl
  have hD := hD.sub (ws' := ([(h, .inr (11, [.ref (q), .int 0, .int 0, .int (nI n)])), (q, .inl (g.2.2.2.2.1, cap, .inl (f))), (ps, .inr (10, [.ref (b1), .int (0), .int 0, .int 0])), (b1, .inl (g.2.2.2.2.1, n, .inl (f1)))] : va_W)) [1, 2, 0, 3] (by decide) rfl
  exact W.vret hx hb hr (fun t ht hW => ⟨⟨(), rfl, trivial, _, ⟨b1, f1, rfl, f2, f3⟩, by rw [ht]; exact hP, hD⟩, hS.F ht⟩) hS.2.2 dJ0_init_db425_97
theorem gi_J0_init_db425 : GoodIn gb_J (.code yJ0_init_db425 cJ0_init_db425 5 none :: gb_J) := gj_in (l := []) (by
  have h : ∀ w ∈ ([.code yJ0_init_db425 cJ0_init_db425 5 none] : List Cond), w ∈ jsw ∨ (w ∈ lw_tbl ∧ goodWord w = true) := by decide +kernel
  exact gb_J_of h)
theorem dJ0_init_81219_0 : decode cJ0_init_81219 0 = .ok (.aload_n 0, 1) := by decide +kernel
theorem dJ0_init_81219_1 : decode cJ0_init_81219 1 = .ok (.aload_n 1, 1) := by decide +kernel
theorem dJ0_init_81219_2 : decode cJ0_init_81219 2 = .ok (.aconst_null, 1) := by decide +kernel
theorem dJ0_init_81219_3 : decode cJ0_init_81219 3 = .ok (.invokespecial 489, 3) := by decide +kernel
theorem dJ0_init_81219_6 : decode cJ0_init_81219 6 = .ok (.return_, 1) := by decide +kernel
theorem wj_J0_init_81219 : ∀ w ∈ ([.methodLink RJ0 489 yJ0_init_db425, .instanceMethod yJ0_init_db425, .initialized yJ0_init_db425.cls] : List Cond), w ∈ gb_J := by
  have h : ∀ w ∈ ([.methodLink RJ0 489 yJ0_init_db425, .instanceMethod yJ0_init_db425, .initialized yJ0_init_db425.cls] : List Cond), w ∈ jsw ∨ (w ∈ lw_tbl ∧ goodWord w = true) := by decide +kernel
  exact gb_J_of h
set_option maxHeartbeats 4000000 in
theorem n_J0_init_81219 (l : Launch) (g : gb_G) (t1 t2 : Nat) (ps h q cap n : Nat) (f : Nat → Int32) (hf : jFit f) (h0 : n ≤ cap) (h1 : cap ≤ 502) (sz : Nat) : Met l yJ0_init_81219 (.code yJ0_init_81219 cJ0_init_81219 2 none :: gb_J) ({ frames := 10, cells := 1, slots := 502, locals := 500 }) (jm g (jC t1 t2) [.ref (ps), .ref (h)] ([(ps, .inr (10, [.null, .int 0, .int 0, .int 0])), (h, .inr (11, [.ref (q), .int 0, .int 0, .int (nI n)])), (q, .inl (g.2.2.2.2.1, cap, .inl (f)))] : va_W) sz) (jQv g (fun w1 => ∃ b1 f1, w1 = sbW g h q cap n f ++ stW g ps b1 n f1 ∧ jFit f1 ∧ ∀ i, i < n → f1 i = f i) (va_A ([(ps, .inr (10, [.null, .int 0, .int 0, .int 0])), (h, .inr (11, [.ref (q), .int 0, .int 0, .int (nI n)])), (q, .inl (g.2.2.2.2.1, cap, .inl (f)))] : va_W) sz)) 1 502 (va_A ([(ps, .inr (10, [.null, .int 0, .int 0, .int 0])), (h, .inr (11, [.ref (q), .int 0, .int 0, .int (nI n)])), (q, .inl (g.2.2.2.2.1, cap, .inl (f)))] : va_W) sz) := by
  refine Met.ofW (cc := cJ0_init_81219) (maxL := 2) (ret := none) (by decide +kernel) rfl ?_
  intro p e s m args below meth c s₁ B hml hv
  obtain ⟨rfl, hsz, hP, hK, hD0, hC⟩ := hv
  have hx := B.exec
  have hb := B.bytes
  have hr := B.returns
  have hts0 := atoms_spec (ws := .code yJ0_init_81219 cJ0_init_81219 2 none :: gb_J) B.pre
  have hts : ∀ w ∈ gb_J, w.before ([.ref (ps), .ref (h)] : List Value).toArray s = true := fun w hw => hts0 w (List.mem_cons_of_mem _ hw)
  have hown : s.vm.findClass RJ0 = some m.cls := findClass_of_methodNamed B.named
  have hlocks := B.notSynchronized
  have hin : meth.name = "<init>" := (name_of_methodNamed B.named B.method).1
  subst hsz
  have hD := hD0.self (sz := s.heap.size)
  generalize hAe : va_A ([(ps, .inr (10, [.null, .int 0, .int 0, .int 0])), (h, .inr (11, [.ref (q), .int 0, .int 0, .int (nI n)])), (q, .inl (g.2.2.2.2.1, cap, .inl (f)))] : va_W) s.heap.size = A at hD hC ⊢
  have hA : ∀ q : Nat, s.heap.size ≤ q → A q := fun q h => by rw [← hAe]; exact Or.inr h
  have hS : va_S A s.heap s.heap [] := va_S.rf
  have hl := lv_entry ([.ref (ps), .ref (h)]) (n := 2) (Nat.le_of_ble_eq_true rfl)
  rw [lg_entry_eq]
  generalize (lg_sl ([.ref (ps), .ref (h)]) ++ List.replicate (2 - (lg_sl ([.ref (ps), .ref (h)])).length) Slot.unset).toArray = ls at hl ⊢
  have hl : lv_has ls 2 [(0, .ref (ps)), (1, .ref (h))] := hl
  refine lv_aload_n hx hb dJ0_init_81219_0 rfl (lv_at hl 0 rfl) ?_
  refine lv_aload_n hx hb dJ0_init_81219_1 rfl (lv_at hl 1 rfl) ?_
  refine lv_null hx hb dJ0_init_81219_2 ?_
  refine j_v (wr := []) (wc := ([(ps, .inr (10, [.null, .int 0, .int 0, .int 0])), (h, .inr (11, [.ref (q), .int 0, .int 0, .int (nI n)])), (q, .inl (g.2.2.2.2.1, cap, .inl (f)))] : va_W)) (va_runI (As := [.ref (h), .null]) (rest := []) ⟨hx, hb, hml, hown, hts⟩ (n_J0_init_db425 l g t1 t2 ps h q cap n f hf h0 h1 _) (cwI 2 hts gi_J0_init_db425 rfl rfl rfl (hts _ (wj_J0_init_81219 _ (List.mem_of_getElem? (i := 2) rfl))) (hts _ (wj_J0_init_81219 _ (List.mem_of_getElem? (i := 0) rfl))) (hts _ (wj_J0_init_81219 _ (List.mem_of_getElem? (i := 1) rfl))) rfl ⟨by decide +kernel, by decide +kernel, by decide +kernel⟩ ⟨Nat.le_of_ble_eq_true rfl, Nat.le_of_ble_eq_true rfl⟩) (jm_S (g := g) (jX_0 t1 t2) hK hC hS hP hD hA) rfl rfl hl.1 rfl (lv_room (Nat.le_of_ble_eq_true rfl)) dJ0_init_81219_3 ⟨Nat.le_of_ble_eq_true rfl, Nat.le_of_ble_eq_true rfl⟩) hP hD hS hA (fun w1 H locs hw hP hD hS => ?_)
  obtain ⟨b1, f1, rfl, f2, f3⟩ := hw
  have hP : va_P (g.1, g.2.1) vwCl ([(h, .inr (11, [.ref (q), .int 0, .int 0, .int (nI n)])), (q, .inl (g.2.2.2.2.1, cap, .inl (f))), (ps, .inr (10, [.ref b1, .int 0, .int 0, .int 0])), (b1, .inl (g.2.2.2.2.1, n, .inl (f1)))] : va_W) H := hP
  have hD : va_D A ([(h, .inr (11, [.ref (q), .int 0, .int 0, .int (nI n)])), (q, .inl (g.2.2.2.2.1, cap, .inl (f))), (ps, .inr (10, [.ref b1, .int 0, .int 0, .int 0])), (b1, .inl (g.2.2.2.2.1, n, .inl (f1)))] : va_W) := hD
  refine W.widen (k := 1) (n := 502) (by first | exact Nat.le_of_ble_eq_true rfl | omega) (by first | exact Nat.le_of_ble_eq_true rfl | omega) ?_
  exact W.vret hx hb hr (fun t ht hW => ⟨⟨(), rfl, trivial, _, ⟨b1, f1, rfl, f2, f3⟩, by rw [ht]; exact hP, hD⟩, hS.F ht⟩) hS.2.2 dJ0_init_81219_6
theorem gi_J0_init_81219 : GoodIn gb_J (.code yJ0_init_81219 cJ0_init_81219 2 none :: gb_J) := gj_in (l := []) (by
  have h : ∀ w ∈ ([.code yJ0_init_81219 cJ0_init_81219 2 none] : List Cond), w ∈ jsw ∨ (w ∈ lw_tbl ∧ goodWord w = true) := by decide +kernel
  exact gb_J_of h)
theorem dJ4_toString_0e30d_0 : decode cJ4_toString_0e30d 0 = .ok (.new 18, 3) := by decide +kernel
theorem dJ4_toString_0e30d_3 : decode cJ4_toString_0e30d 3 = .ok (.dup, 1) := by decide +kernel
theorem dJ4_toString_0e30d_4 : decode cJ4_toString_0e30d 4 = .ok (.aload_n 0, 1) := by decide +kernel
theorem dJ4_toString_0e30d_5 : decode cJ4_toString_0e30d 5 = .ok (.invokespecial 137, 3) := by decide +kernel
theorem dJ4_toString_0e30d_8 : decode cJ4_toString_0e30d 8 = .ok (.areturn, 1) := by decide +kernel
theorem wj_J4_toString_0e30d : ∀ w ∈ ([.classLink RJ4 18 RJ0, .instantiable RJ0 4, .initialized RJ0, .methodLink RJ4 137 yJ0_init_81219, .instanceMethod yJ0_init_81219, .initialized yJ0_init_81219.cls] : List Cond), w ∈ gb_J := by
  have h : ∀ w ∈ ([.classLink RJ4 18 RJ0, .instantiable RJ0 4, .initialized RJ0, .methodLink RJ4 137 yJ0_init_81219, .instanceMethod yJ0_init_81219, .initialized yJ0_init_81219.cls] : List Cond), w ∈ jsw ∨ (w ∈ lw_tbl ∧ goodWord w = true) := by decide +kernel
  exact gb_J_of h
set_option maxHeartbeats 4000000 in
theorem n_J4_toString_0e30d (l : Launch) (g : gb_G) (t1 t2 : Nat) (h q cap : Nat) (f : Nat → Int32) (T : List Nat) (hf : jF f T) (h0 : T.length ≤ cap) (h1 : cap ≤ 502) (sz : Nat) : Met l yJ4_toString_0e30d (.code yJ4_toString_0e30d cJ4_toString_0e30d 1 (some (.object "java/lang/String")) :: gb_J) ({ frames := 12, cells := 2, slots := 506, locals := 600 }) (jm g (jC t1 t2) [.ref (h)] ([(h, .inr (11, [.ref (q), .int 0, .int 0, .int (nI T.length)])), (q, .inl (g.2.2.2.2.1, cap, .inl (f)))] : va_W) sz) (jQr g (fun r w1 => ∃ b1 f1, w1 = sbW g h q cap T.length f ++ stW g r b1 T.length f1 ∧ jF f1 T) (va_A ([(h, .inr (11, [.ref (q), .int 0, .int 0, .int (nI T.length)])), (q, .inl (g.2.2.2.2.1, cap, .inl (f)))] : va_W) sz)) 2 506 (va_A ([(h, .inr (11, [.ref (q), .int 0, .int 0, .int (nI T.length)])), (q, .inl (g.2.2.2.2.1, cap, .inl (f)))] : va_W) sz) := by
  refine Met.ofW (cc := cJ4_toString_0e30d) (maxL := 1) (ret := (some (.object "java/lang/String"))) (by decide +kernel) rfl ?_
  intro p e s m args below meth c s₁ B hml hv
  obtain ⟨rfl, hsz, hP, hK, hD0, hC⟩ := hv
  have hx := B.exec
  have hb := B.bytes
  have hr := B.returns
  have hts0 := atoms_spec (ws := .code yJ4_toString_0e30d cJ4_toString_0e30d 1 (some (.object "java/lang/String")) :: gb_J) B.pre
  have hts : ∀ w ∈ gb_J, w.before ([.ref (h)] : List Value).toArray s = true := fun w hw => hts0 w (List.mem_cons_of_mem _ hw)
  have hown : s.vm.findClass RJ4 = some m.cls := findClass_of_methodNamed B.named
  have hlocks := B.notSynchronized
  subst hsz
  have hD := hD0.self (sz := s.heap.size)
  generalize hAe : va_A ([(h, .inr (11, [.ref (q), .int 0, .int 0, .int (nI T.length)])), (q, .inl (g.2.2.2.2.1, cap, .inl (f)))] : va_W) s.heap.size = A at hD hC ⊢
  have hA : ∀ q : Nat, s.heap.size ≤ q → A q := fun q h => by rw [← hAe]; exact Or.inr h
  have hS : va_S A s.heap s.heap [] := va_S.rf
  have hl := lv_entry ([.ref (h)]) (n := 1) (Nat.le_of_ble_eq_true rfl)
  rw [lg_entry_eq]
  generalize (lg_sl ([.ref (h)]) ++ List.replicate (1 - (lg_sl ([.ref (h)])).length) Slot.unset).toArray = ls at hl ⊢
  have hl : lv_has ls 1 [(0, .ref (h))] := hl
  refine va_new (ci := 10) (fs := [.null, .int 0, .int 0, .int 0]) (C := RJ0) (T := TJ0) (N := 4) hx hb hts winJ0 tyJ0 tyJ0_ok hown (hts _ (wj_J4_toString_0e30d _ (List.mem_of_getElem? (i := 0) rfl))) (hts _ (wj_J4_toString_0e30d _ (List.mem_of_getElem? (i := 1) rfl))) (hts _ (wj_J4_toString_0e30d _ (List.mem_of_getElem? (i := 2) rfl))) hK hP hD hS hA rfl df_J0 (Nat.le_of_ble_eq_true rfl) (Nat.le_of_ble_eq_true rfl) dJ4_toString_0e30d_0 (fun ps H hP hD hS => ?_)
  have hP : va_P (g.1, g.2.1) vwCl ([(h, .inr (11, [.ref (q), .int 0, .int 0, .int (nI T.length)])), (q, .inl (g.2.2.2.2.1, cap, .inl (f))), (ps, .inr (10, [.null, .int 0, .int 0, .int 0]))] : va_W) H := hP
  have hD : va_D A ([(h, .inr (11, [.ref (q), .int 0, .int 0, .int (nI T.length)])), (q, .inl (g.2.2.2.2.1, cap, .inl (f))), (ps, .inr (10, [.null, .int 0, .int 0, .int 0]))] : va_W) := hD
  refine lv_dup hx hb dJ4_toString_0e30d_3 rfl ?_
  refine lv_aload_n hx hb dJ4_toString_0e30d_4 rfl (lv_at hl 0 rfl) ?_
  refine j_v (wr := []) (wc := ([(ps, .inr (10, [.null, .int 0, .int 0, .int 0])), (h, .inr (11, [.ref (q), .int 0, .int 0, .int (nI T.length)])), (q, .inl (g.2.2.2.2.1, cap, .inl (f)))] : va_W)) (va_runI (As := [.ref (h)]) (rest := [.ref (ps)]) ⟨hx, hb, hml, hown, hts⟩ (n_J0_init_81219 l g t1 t2 ps h q cap T.length f hf.1 h0 h1 _) (cwI 1 hts gi_J0_init_81219 rfl rfl rfl (hts _ (wj_J4_toString_0e30d _ (List.mem_of_getElem? (i := 5) rfl))) (hts _ (wj_J4_toString_0e30d _ (List.mem_of_getElem? (i := 3) rfl))) (hts _ (wj_J4_toString_0e30d _ (List.mem_of_getElem? (i := 4) rfl))) rfl ⟨by decide +kernel, by decide +kernel, by decide +kernel⟩ ⟨Nat.le_of_ble_eq_true rfl, Nat.le_of_ble_eq_true rfl⟩) (jm_S (g := g) (jX_0 t1 t2) hK hC hS (hP.sub [2, 0, 1] rfl) (hD.sub [2, 0, 1] (by decide) rfl) hA) rfl rfl hl.1 rfl (lv_room (Nat.le_of_ble_eq_true rfl)) dJ4_toString_0e30d_5 ⟨Nat.le_of_ble_eq_true rfl, Nat.le_of_ble_eq_true rfl⟩) (hP.sub [2, 0, 1] rfl) (hD.sub [2, 0, 1] (by decide) rfl) hS hA (fun w1 H locs hw hP hD hS => ?_)
  obtain ⟨b1, f1, rfl, f2, f3⟩ := hw
  have hP : va_P (g.1, g.2.1) vwCl ([(h, .inr (11, [.ref (q), .int 0, .int 0, .int (nI T.length)])), (q, .inl (g.2.2.2.2.1, cap, .inl (f))), (ps, .inr (10, [.ref b1, .int 0, .int 0, .int 0])), (b1, .inl (g.2.2.2.2.1, T.length, .inl (f1)))] : va_W) H := hP
  have hD : va_D A ([(h, .inr (11, [.ref (q), .int 0, .int 0, .int (nI T.length)])), (q, .inl (g.2.2.2.2.1, cap, .inl (f))), (ps, .inr (10, [.ref b1, .int 0, .int 0, .int 0])), (b1, .inl (g.2.2.2.2.1, T.length, .inl (f1)))] : va_W) := hD
  refine W.widen (k := 2) (n := 506) (by first | exact Nat.le_of_ble_eq_true rfl | omega) (by first | exact Nat.le_of_ble_eq_true rfl | omega) ?_
  exact W.aret (v := .ref (ps)) hx hb hr (Or.inl ⟨_, rfl⟩) (Or.inr ⟨_, rfl⟩) (fun t ht hW => ⟨⟨(), _, rfl, trivial, _, ⟨b1, f1, rfl, jF_of hf f2 f3⟩, by rw [ht]; exact hP, hD⟩, hS.F ht⟩) hS.2.2 dJ4_toString_0e30d_8
theorem dJ0_isLatin1_aae02_0 : decode cJ0_isLatin1_aae02 0 = .ok (.getstatic 38, 3) := by decide +kernel
theorem dJ0_isLatin1_aae02_3 : decode cJ0_isLatin1_aae02 3 = .ok (.ifCond .eq 14, 3) := by decide +kernel
theorem dJ0_isLatin1_aae02_6 : decode cJ0_isLatin1_aae02 6 = .ok (.aload_n 0, 1) := by decide +kernel
theorem dJ0_isLatin1_aae02_7 : decode cJ0_isLatin1_aae02 7 = .ok (.getfield 15, 3) := by decide +kernel
theorem dJ0_isLatin1_aae02_10 : decode cJ0_isLatin1_aae02 10 = .ok (.ifCond .ne 7, 3) := by decide +kernel
theorem dJ0_isLatin1_aae02_13 : decode cJ0_isLatin1_aae02 13 = .ok (.iconst 1, 1) := by decide +kernel
theorem dJ0_isLatin1_aae02_14 : decode cJ0_isLatin1_aae02 14 = .ok (.goto 4, 3) := by decide +kernel
theorem dJ0_isLatin1_aae02_17 : decode cJ0_isLatin1_aae02 17 = .ok (.iconst 0, 1) := by decide +kernel
theorem dJ0_isLatin1_aae02_18 : decode cJ0_isLatin1_aae02 18 = .ok (.ireturn, 1) := by decide +kernel
theorem wj_J0_isLatin1_aae02 : ∀ w ∈ ([.fieldLink RJ0 38 "java/lang/String" "COMPACT_STRINGS" "Z", .fieldLink RJ0 15 "java/lang/String" "coder" "B"] : List Cond), w ∈ gb_J := by
  have h : ∀ w ∈ ([.fieldLink RJ0 38 "java/lang/String" "COMPACT_STRINGS" "Z", .fieldLink RJ0 15 "java/lang/String" "coder" "B"] : List Cond), w ∈ jsw ∨ (w ∈ lw_tbl ∧ goodWord w = true) := by decide +kernel
  exact gb_J_of h
set_option maxHeartbeats 4000000 in
theorem n_J0_isLatin1_aae02 (l : Launch) (g : gb_G) (t1 t2 : Nat) (ps b n : Nat) (f : Nat → Int32)  : Met l yJ0_isLatin1_aae02 (.code yJ0_isLatin1_aae02 cJ0_isLatin1_aae02 1 (some .boolean) :: gb_J) ({ frames := 2, cells := 0, slots := 0, locals := 100 }) (jp g (jC t1 t2) [.ref (ps)] ([(ps, .inr (10, [.ref b, .int 0, .int 0, .int 0])), (b, .inl (g.2.2.2.2.1, n, .inl (f)))] : va_W)) (vp_Si (fun r => r = 1)) 0 0 (fun _ => False) := by
  refine Met.ofW (cc := cJ0_isLatin1_aae02) (maxL := 1) (ret := (some .boolean)) (by decide +kernel) rfl ?_
  intro p e s m args below meth c s₁ B hml hv
  obtain ⟨rfl, hP, hK, hC⟩ := hv
  have hx := B.exec
  have hb := B.bytes
  have hr := B.returns
  have hts0 := atoms_spec (ws := .code yJ0_isLatin1_aae02 cJ0_isLatin1_aae02 1 (some .boolean) :: gb_J) B.pre
  have hts : ∀ w ∈ gb_J, w.before ([.ref (ps)] : List Value).toArray s = true := fun w hw => hts0 w (List.mem_cons_of_mem _ hw)
  have hown : s.vm.findClass RJ0 = some m.cls := findClass_of_methodNamed B.named
  have hlocks := B.notSynchronized
  have hS : va_S (fun _ => False) s.heap s.heap [] := va_S.rf
  have hl := lv_entry ([.ref (ps)]) (n := 1) (Nat.le_of_ble_eq_true rfl)
  rw [lg_entry_eq]
  generalize (lg_sl ([.ref (ps)]) ++ List.replicate (1 - (lg_sl ([.ref (ps)])).length) Slot.unset).toArray = ls at hl ⊢
  have hl : lv_has ls 1 [(0, .ref (ps))] := hl
  refine va_gets (v := .int (1)) hx hb hC.1 hS hown (hts _ (wj_J0_isLatin1_aae02 _ (List.mem_of_getElem? (i := 0) rfl))) (fun _ h9 => h9) dJ0_isLatin1_aae02_0 ?_
  refine lv_if_eq (tgt := 17) hx hb dJ0_isLatin1_aae02_3 (by decide) (fun c9 => absurd c9 (by decide)) (fun _ => ?_)
  refine lv_aload_n hx hb dJ0_isLatin1_aae02_6 rfl (lv_at hl 0 rfl) ?_
  refine va_get (D := (g.1, g.2.1)) (ci := 10) (v := .int (0)) (C := RJ0) (T := TJ0) (N := 4) hx hb hts winJ0 hown hK hP 0 rfl rfl 1 (by decide) (hts _ (wj_J0_isLatin1_aae02 _ (List.mem_of_getElem? (i := 1) rfl))) (fun _ h9 => h9) rfl dJ0_isLatin1_aae02_7 ?_
  refine lv_if_ne (tgt := 17) hx hb dJ0_isLatin1_aae02_10 (by decide) (fun c9 => absurd rfl c9) (fun _ => ?_)
  refine lv_iconst (v := 1) hx hb dJ0_isLatin1_aae02_13 (by decide) ?_
  refine lv_goto (tgt := 18) hx hb dJ0_isLatin1_aae02_14 (by decide) ?_
  exact W.zret (v := 1) (ty := .boolean) hx hb hr (rfl) (fun t ht hW => ⟨1, rfl, rfl, ht⟩) (fun q h => by cases h) dJ0_isLatin1_aae02_18
theorem wj_J0_coder_7d493w : ∀ w ∈ ([.fieldLink RJ0 38 "java/lang/String" "COMPACT_STRINGS" "Z", .fieldLink RJ0 15 "java/lang/String" "coder" "B"] : List Cond), w ∈ gb_J := by
  have h : ∀ w ∈ ([.fieldLink RJ0 38 "java/lang/String" "COMPACT_STRINGS" "Z", .fieldLink RJ0 15 "java/lang/String" "coder" "B"] : List Cond), w ∈ jsw ∨ (w ∈ lw_tbl ∧ goodWord w = true) := by decide +kernel
  exact gb_J_of h
set_option maxHeartbeats 4000000 in
theorem n_J0_coder_7d493w (l : Launch) (g : gb_G) (t1 t2 : Nat) (ps b n : Nat) (f : Nat → Int32)  : Met l yJ0_coder_7d493 (.code yJ0_coder_7d493 cJ0_coder_7d493 1 (some .byte) :: gb_J) ({ frames := 2, cells := 0, slots := 0, locals := 100 }) (jp g (jC t1 t2) [.ref (ps)] ([(ps, .inr (10, [.ref b, .int 0, .int 0, .int 0])), (b, .inl (g.2.2.2.2.1, n, .inl (f)))] : va_W)) (vp_Si (fun r => r = 0)) 0 0 (fun _ => False) := by
  refine Met.ofW (cc := cJ0_coder_7d493) (maxL := 1) (ret := (some .byte)) (by decide +kernel) rfl ?_
  intro p e s m args below meth c s₁ B hml hv
  obtain ⟨rfl, hP, hK, hC⟩ := hv
  have hx := B.exec
  have hb := B.bytes
  have hr := B.returns
  have hts0 := atoms_spec (ws := .code yJ0_coder_7d493 cJ0_coder_7d493 1 (some .byte) :: gb_J) B.pre
  have hts : ∀ w ∈ gb_J, w.before ([.ref (ps)] : List Value).toArray s = true := fun w hw => hts0 w (List.mem_cons_of_mem _ hw)
  have hown : s.vm.findClass RJ0 = some m.cls := findClass_of_methodNamed B.named
  have hlocks := B.notSynchronized
  have hS : va_S (fun _ => False) s.heap s.heap [] := va_S.rf
  have hl := lv_entry ([.ref (ps)]) (n := 1) (Nat.le_of_ble_eq_true rfl)
  rw [lg_entry_eq]
  generalize (lg_sl ([.ref (ps)]) ++ List.replicate (1 - (lg_sl ([.ref (ps)])).length) Slot.unset).toArray = ls at hl ⊢
  have hl : lv_has ls 1 [(0, .ref (ps))] := hl
  refine va_gets (v := .int (1)) hx hb hC.1 hS hown (hts _ (wj_J0_coder_7d493w _ (List.mem_of_getElem? (i := 0) rfl))) (fun _ h9 => h9) dJ0_coder_7d493_0 ?_
  refine lv_if_eq (tgt := 13) hx hb dJ0_coder_7d493_3 (by decide) (fun c9 => absurd c9 (by decide)) (fun _ => ?_)
  refine lv_aload_n hx hb dJ0_coder_7d493_6 rfl (lv_at hl 0 rfl) ?_
  refine va_get (D := (g.1, g.2.1)) (ci := 10) (v := .int (0)) (C := RJ0) (T := TJ0) (N := 4) hx hb hts winJ0 hown hK hP 0 rfl rfl 1 (by decide) (hts _ (wj_J0_coder_7d493w _ (List.mem_of_getElem? (i := 1) rfl))) (fun _ h9 => h9) rfl dJ0_coder_7d493_7 ?_
  refine lv_goto (tgt := 14) hx hb dJ0_coder_7d493_10 (by decide) ?_
  exact W.zret (v := 0) (ty := .byte) hx hb hr (rfl) (fun t ht hW => ⟨0, rfl, rfl, ht⟩) (fun q h => by cases h) dJ0_coder_7d493_14
theorem wj_J0_length_8abf5w : ∀ w ∈ ([.fieldLink RJ0 9 "java/lang/String" "value" "[B"] : List Cond), w ∈ gb_J := by
  have h : ∀ w ∈ ([.fieldLink RJ0 9 "java/lang/String" "value" "[B"] : List Cond), w ∈ jsw ∨ (w ∈ lw_tbl ∧ goodWord w = true) := by decide +kernel
  exact gb_J_of h
set_option maxHeartbeats 4000000 in
theorem n_J0_length_8abf5w (l : Launch) (g : gb_G) (t1 t2 : Nat) (ps b n : Nat) (f : Nat → Int32)  : Met l yJ0_length_8abf5 (.code yJ0_length_8abf5 cJ0_length_8abf5 1 (some .int) :: gb_J) ({ frames := 4, cells := 0, slots := 0, locals := 200 }) (jp g (jC t1 t2) [.ref (ps)] ([(ps, .inr (10, [.ref b, .int 0, .int 0, .int 0])), (b, .inl (g.2.2.2.2.1, n, .inl (f)))] : va_W)) (vp_Si (fun r => r = nI n)) 0 0 (fun _ => False) := by
  refine Met.ofW (cc := cJ0_length_8abf5) (maxL := 1) (ret := (some .int)) (by decide +kernel) rfl ?_
  intro p e s m args below meth c s₁ B hml hv
  obtain ⟨rfl, hP, hK, hC⟩ := hv
  have hx := B.exec
  have hb := B.bytes
  have hr := B.returns
  have hts0 := atoms_spec (ws := .code yJ0_length_8abf5 cJ0_length_8abf5 1 (some .int) :: gb_J) B.pre
  have hts : ∀ w ∈ gb_J, w.before ([.ref (ps)] : List Value).toArray s = true := fun w hw => hts0 w (List.mem_cons_of_mem _ hw)
  have hown : s.vm.findClass RJ0 = some m.cls := findClass_of_methodNamed B.named
  have hlocks := B.notSynchronized
  have hS : va_S (fun _ => False) s.heap s.heap [] := va_S.rf
  have hl := lv_entry ([.ref (ps)]) (n := 1) (Nat.le_of_ble_eq_true rfl)
  rw [lg_entry_eq]
  generalize (lg_sl ([.ref (ps)]) ++ List.replicate (1 - (lg_sl ([.ref (ps)])).length) Slot.unset).toArray = ls at hl ⊢
  have hl : lv_has ls 1 [(0, .ref (ps))] := hl
  refine lv_aload_n hx hb dJ0_length_8abf5_0 rfl (lv_at hl 0 rfl) ?_
  refine va_get (D := (g.1, g.2.1)) (ci := 10) (v := .ref (b)) (C := RJ0) (T := TJ0) (N := 4) hx hb hts winJ0 hown hK hP 0 rfl rfl 0 (by decide) (hts _ (wj_J0_length_8abf5w _ (List.mem_of_getElem? (i := 0) rfl))) (fun _ h9 => h9) rfl dJ0_length_8abf5_1 ?_
  refine va_alen (D := (g.1, g.2.1)) (v := nI (n)) hx hb hK hP 1 1 rfl rfl rfl dJ0_length_8abf5_4 ?_
  refine lv_aload_n hx hb dJ0_length_8abf5_5 rfl (lv_at hl 0 rfl) ?_
  refine vp_callSi (va_Run.run (va_runV (As := []) (rest := [.int (nI (n))]) ⟨hx, hb, hml, hown, hts⟩ (n_J0_coder_7d493w l g t1 t2 ps b n f) (cwV 0 hts gd_RJ0_335 rfl rfl rfl ⟨rfl, by decide +kernel, by decide +kernel, by decide +kernel⟩ ⟨Nat.le_of_ble_eq_true rfl, Nat.le_of_ble_eq_true rfl⟩) (jp_V (g := g) (jX_0 t1 t2) hK hC hS hP (va_recv hK hP (ci := 10) (q0 := 0) rfl rfl)) rfl rfl hl.1 rfl (lv_room (Nat.le_of_ble_eq_true rfl)) dJ0_length_8abf5_6 ⟨Nat.le_of_ble_eq_true rfl, Nat.le_of_ble_eq_true rfl⟩)) (fun r9 e9 => ?_)
  subst e9
  refine lv_ishr hx hb dJ0_length_8abf5_9 ?_
  refine W.eq (g2 := F0 m 10 ls [.int (nI (n))]) (by rw [j_shr]) ?_
  exact W.iret (v := nI (n)) hx hb hr (fun t ht hW => ⟨nI (n), rfl, rfl, ht⟩) (fun q h => by cases h) dJ0_length_8abf5_10
theorem dJ3_checkIndex_8e157_0 : decode cJ3_checkIndex_8e157 0 = .ok (.iload_n 0, 1) := by decide +kernel
theorem dJ3_checkIndex_8e157_1 : decode cJ3_checkIndex_8e157 1 = .ok (.ifCond .lt 8, 3) := by decide +kernel
theorem dJ3_checkIndex_8e157_4 : decode cJ3_checkIndex_8e157 4 = .ok (.iload_n 0, 1) := by decide +kernel
theorem dJ3_checkIndex_8e157_5 : decode cJ3_checkIndex_8e157 5 = .ok (.iload_n 1, 1) := by decide +kernel
theorem dJ3_checkIndex_8e157_6 : decode cJ3_checkIndex_8e157 6 = .ok (.if_icmp .lt 10, 3) := by decide +kernel
theorem dJ3_checkIndex_8e157_9 : decode cJ3_checkIndex_8e157 9 = .ok (.aload_n 2, 1) := by decide +kernel
theorem dJ3_checkIndex_8e157_10 : decode cJ3_checkIndex_8e157 10 = .ok (.iload_n 0, 1) := by decide +kernel
theorem dJ3_checkIndex_8e157_11 : decode cJ3_checkIndex_8e157 11 = .ok (.iload_n 1, 1) := by decide +kernel
theorem dJ3_checkIndex_8e157_12 : decode cJ3_checkIndex_8e157 12 = .ok (.invokestatic 95, 3) := by decide +kernel
theorem dJ3_checkIndex_8e157_15 : decode cJ3_checkIndex_8e157 15 = .ok (.athrow, 1) := by decide +kernel
theorem dJ3_checkIndex_8e157_16 : decode cJ3_checkIndex_8e157 16 = .ok (.iload_n 0, 1) := by decide +kernel
theorem dJ3_checkIndex_8e157_17 : decode cJ3_checkIndex_8e157 17 = .ok (.ireturn, 1) := by decide +kernel
set_option maxHeartbeats 4000000 in
theorem n_J3_checkIndex_8e157n (l : Launch) (g : gb_G) (t1 t2 : Nat) (i n : Nat) (hi : i < n) (hn : n < 1000) : Met l yJ3_checkIndex_8e157 (.code yJ3_checkIndex_8e157 cJ3_checkIndex_8e157 3 (some .int) :: gb_J) ({ frames := 2, cells := 0, slots := 0, locals := 100 }) (jp g (jC t1 t2) [.int (nI i), .int (nI n), .null] ([] : va_W)) (vp_Si (fun r => r = nI i)) 0 0 (fun _ => False) := by
  refine Met.ofW (cc := cJ3_checkIndex_8e157) (maxL := 3) (ret := (some .int)) (by decide +kernel) rfl ?_
  intro p e s m args below meth c s₁ B hml hv
  obtain ⟨rfl, hP, hK, hC⟩ := hv
  have hx := B.exec
  have hb := B.bytes
  have hr := B.returns
  have hts0 := atoms_spec (ws := .code yJ3_checkIndex_8e157 cJ3_checkIndex_8e157 3 (some .int) :: gb_J) B.pre
  have hts : ∀ w ∈ gb_J, w.before ([.int (nI i), .int (nI n), .null] : List Value).toArray s = true := fun w hw => hts0 w (List.mem_cons_of_mem _ hw)
  have hown : s.vm.findClass RJ3 = some m.cls := findClass_of_methodNamed B.named
  have hlocks := B.notSynchronized
  have hS : va_S (fun _ => False) s.heap s.heap [] := va_S.rf
  have hl := lv_entry ([.int (nI i), .int (nI n), .null]) (n := 3) (Nat.le_of_ble_eq_true rfl)
  rw [lg_entry_eq]
  generalize (lg_sl ([.int (nI i), .int (nI n), .null]) ++ List.replicate (3 - (lg_sl ([.int (nI i), .int (nI n), .null])).length) Slot.unset).toArray = ls at hl ⊢
  have hl : lv_has ls 3 [(0, .int (nI i)), (1, .int (nI n)), (2, .null)] := hl
  refine lv_iload_n hx hb dJ3_checkIndex_8e157_0 rfl (lv_at hl 0 rfl) ?_
  refine lv_if_lt (tgt := 9) hx hb dJ3_checkIndex_8e157_1 (by decide) (fun c9 => absurd c9 (nI_pos (show i < 2 ^ 31 by omega))) (fun _ => ?_)
  refine lv_iload_n hx hb dJ3_checkIndex_8e157_4 rfl (lv_at hl 0 rfl) ?_
  refine lv_iload_n hx hb dJ3_checkIndex_8e157_5 rfl (lv_at hl 1 rfl) ?_
  refine lv_icmp_lt (tgt := 16) hx hb dJ3_checkIndex_8e157_6 (by decide) (fun _ => ?_) (fun c9 => absurd (nI_lt hi (by omega)) c9)
  refine lv_iload_n hx hb dJ3_checkIndex_8e157_16 rfl (lv_at hl 0 rfl) ?_
  exact W.iret (v := nI i) hx hb hr (fun t ht hW => ⟨nI i, rfl, rfl, ht⟩) (fun q h => by cases h) dJ3_checkIndex_8e157_17
set_option maxHeartbeats 4000000 in
theorem n_J3_checkIndex_8e157r (l : Launch) (g : gb_G) (t1 t2 : Nat) (i n : Nat) (t9 : Nat) (hi : i < n) (hn : n < 1000) : Met l yJ3_checkIndex_8e157 (.code yJ3_checkIndex_8e157 cJ3_checkIndex_8e157 3 (some .int) :: gb_J) ({ frames := 2, cells := 0, slots := 0, locals := 100 }) (jp g (jC t1 t2) [.int (nI i), .int (nI n), .ref (t9)] ([] : va_W)) (vp_Si (fun r => r = nI i)) 0 0 (fun _ => False) := by
  refine Met.ofW (cc := cJ3_checkIndex_8e157) (maxL := 3) (ret := (some .int)) (by decide +kernel) rfl ?_
  intro p e s m args below meth c s₁ B hml hv
  obtain ⟨rfl, hP, hK, hC⟩ := hv
  have hx := B.exec
  have hb := B.bytes
  have hr := B.returns
  have hts0 := atoms_spec (ws := .code yJ3_checkIndex_8e157 cJ3_checkIndex_8e157 3 (some .int) :: gb_J) B.pre
  have hts : ∀ w ∈ gb_J, w.before ([.int (nI i), .int (nI n), .ref (t9)] : List Value).toArray s = true := fun w hw => hts0 w (List.mem_cons_of_mem _ hw)
  have hown : s.vm.findClass RJ3 = some m.cls := findClass_of_methodNamed B.named
  have hlocks := B.notSynchronized
  have hS : va_S (fun _ => False) s.heap s.heap [] := va_S.rf
  have hl := lv_entry ([.int (nI i), .int (nI n), .ref (t9)]) (n := 3) (Nat.le_of_ble_eq_true rfl)
  rw [lg_entry_eq]
  generalize (lg_sl ([.int (nI i), .int (nI n), .ref (t9)]) ++ List.replicate (3 - (lg_sl ([.int (nI i), .int (nI n), .ref (t9)])).length) Slot.unset).toArray = ls at hl ⊢
  have hl : lv_has ls 3 [(0, .int (nI i)), (1, .int (nI n)), (2, .ref (t9))] := hl
  refine lv_iload_n hx hb dJ3_checkIndex_8e157_0 rfl (lv_at hl 0 rfl) ?_
  refine lv_if_lt (tgt := 9) hx hb dJ3_checkIndex_8e157_1 (by decide) (fun c9 => absurd c9 (nI_pos (show i < 2 ^ 31 by omega))) (fun _ => ?_)
  refine lv_iload_n hx hb dJ3_checkIndex_8e157_4 rfl (lv_at hl 0 rfl) ?_
  refine lv_iload_n hx hb dJ3_checkIndex_8e157_5 rfl (lv_at hl 1 rfl) ?_
  refine lv_icmp_lt (tgt := 16) hx hb dJ3_checkIndex_8e157_6 (by decide) (fun _ => ?_) (fun c9 => absurd (nI_lt hi (by omega)) c9)
  refine lv_iload_n hx hb dJ3_checkIndex_8e157_16 rfl (lv_at hl 0 rfl) ?_
  exact W.iret (v := nI i) hx hb hr (fun t ht hW => ⟨nI i, rfl, rfl, ht⟩) (fun q h => by cases h) dJ3_checkIndex_8e157_17
theorem gd_RJ0_1059 : GoodIn gb_J (va_wsS RJ0 1059 yJ3_checkIndex_8e157 (.code yJ3_checkIndex_8e157 cJ3_checkIndex_8e157 3 (some .int) :: gb_J)) := gj_in (l := [.methodLink RJ0 1059 yJ3_checkIndex_8e157, .static yJ3_checkIndex_8e157, .initialized yJ3_checkIndex_8e157.cls]) (by
  have h : ∀ w ∈ ([.methodLink RJ0 1059 yJ3_checkIndex_8e157, .static yJ3_checkIndex_8e157, .initialized yJ3_checkIndex_8e157.cls] ++ [.code yJ3_checkIndex_8e157 cJ3_checkIndex_8e157 3 (some .int)] : List Cond), w ∈ jsw ∨ (w ∈ lw_tbl ∧ goodWord w = true) := by decide +kernel
  exact gb_J_of h)
theorem dJ0_checkIndex_df160_0 : decode cJ0_checkIndex_df160 0 = .ok (.iload_n 0, 1) := by decide +kernel
theorem dJ0_checkIndex_df160_1 : decode cJ0_checkIndex_df160 1 = .ok (.iload_n 1, 1) := by decide +kernel
theorem dJ0_checkIndex_df160_2 : decode cJ0_checkIndex_df160 2 = .ok (.getstatic 1053, 3) := by decide +kernel
theorem dJ0_checkIndex_df160_5 : decode cJ0_checkIndex_df160 5 = .ok (.invokestatic 1059, 3) := by decide +kernel
theorem dJ0_checkIndex_df160_8 : decode cJ0_checkIndex_df160 8 = .ok (.pop, 1) := by decide +kernel
theorem dJ0_checkIndex_df160_9 : decode cJ0_checkIndex_df160 9 = .ok (.return_, 1) := by decide +kernel
theorem wj_J0_checkIndex_df160 : ∀ w ∈ ([.fieldLink RJ0 1053 "jdk/internal/util/Preconditions" "SIOOBE_FORMATTER" "Ljava/util/function/BiFunction;"] : List Cond), w ∈ gb_J := by
  have h : ∀ w ∈ ([.fieldLink RJ0 1053 "jdk/internal/util/Preconditions" "SIOOBE_FORMATTER" "Ljava/util/function/BiFunction;"] : List Cond), w ∈ jsw ∨ (w ∈ lw_tbl ∧ goodWord w = true) := by decide +kernel
  exact gb_J_of h
set_option maxHeartbeats 4000000 in
theorem n_J0_checkIndex_df160 (l : Launch) (g : gb_G) (t1 t2 : Nat) (i n : Nat) (hi : i < n) (hn : n < 1000) : Met l yJ0_checkIndex_df160 (.code yJ0_checkIndex_df160 cJ0_checkIndex_df160 2 none :: gb_J) ({ frames := 4, cells := 0, slots := 0, locals := 200 }) (jp g (jC t1 t2) [.int (nI i), .int (nI n)] ([] : va_W)) (va_Sv (fun _ => True)) 0 0 (fun _ => False) := by
  refine Met.ofW (cc := cJ0_checkIndex_df160) (maxL := 2) (ret := none) (by decide +kernel) rfl ?_
  intro p e s m args below meth c s₁ B hml hv
  obtain ⟨rfl, hP, hK, hC⟩ := hv
  have hx := B.exec
  have hb := B.bytes
  have hr := B.returns
  have hts0 := atoms_spec (ws := .code yJ0_checkIndex_df160 cJ0_checkIndex_df160 2 none :: gb_J) B.pre
  have hts : ∀ w ∈ gb_J, w.before ([.int (nI i), .int (nI n)] : List Value).toArray s = true := fun w hw => hts0 w (List.mem_cons_of_mem _ hw)
  have hown : s.vm.findClass RJ0 = some m.cls := findClass_of_methodNamed B.named
  have hlocks := B.notSynchronized
  have hS : va_S (fun _ => False) s.heap s.heap [] := va_S.rf
  have hl := lv_entry ([.int (nI i), .int (nI n)]) (n := 2) (Nat.le_of_ble_eq_true rfl)
  rw [lg_entry_eq]
  generalize (lg_sl ([.int (nI i), .int (nI n)]) ++ List.replicate (2 - (lg_sl ([.int (nI i), .int (nI n)])).length) Slot.unset).toArray = ls at hl ⊢
  have hl : lv_has ls 2 [(0, .int (nI i)), (1, .int (nI n))] := hl
  refine lv_iload_n hx hb dJ0_checkIndex_df160_0 rfl (lv_at hl 0 rfl) ?_
  refine lv_iload_n hx hb dJ0_checkIndex_df160_1 rfl (lv_at hl 1 rfl) ?_
  rcases hC.2.1 with hz | ⟨t9, hz⟩
  · refine va_gets (v := .null) hx hb hz hS hown (hts _ (wj_J0_checkIndex_df160 _ (List.mem_of_getElem? (i := 0) rfl))) (fun _ h9 => h9) dJ0_checkIndex_df160_2 ?_
    refine vp_callSi (va_Run.run (va_runS (As := [.int (nI i), .int (nI n), .null]) (rest := []) ⟨hx, hb, hml, hown, hts⟩ (n_J3_checkIndex_8e157n l g t1 t2 i n hi hn) (va_cwS 3 hts gd_RJ0_1059 rfl rfl rfl ⟨by decide +kernel, by decide +kernel, by decide +kernel⟩ ⟨Nat.le_of_ble_eq_true rfl, Nat.le_of_ble_eq_true rfl⟩) (jp_S (g := g) (jX_0 t1 t2) hK hC hS hP) rfl rfl hl.1 rfl (lv_room (Nat.le_of_ble_eq_true rfl)) dJ0_checkIndex_df160_5 ⟨Nat.le_of_ble_eq_true rfl, Nat.le_of_ble_eq_true rfl⟩)) (fun r9 e9 => ?_)
    subst e9
    refine lv_pop hx hb dJ0_checkIndex_df160_8 rfl ?_
    exact W.vret hx hb hr (fun t ht hW => ⟨rfl, trivial, ht⟩) (fun q h => by cases h) dJ0_checkIndex_df160_9
  · refine va_gets (v := .ref (t9)) hx hb hz hS hown (hts _ (wj_J0_checkIndex_df160 _ (List.mem_of_getElem? (i := 0) rfl))) (fun _ h9 => h9) dJ0_checkIndex_df160_2 ?_
    refine vp_callSi (va_Run.run (va_runS (As := [.int (nI i), .int (nI n), .ref (t9)]) (rest := []) ⟨hx, hb, hml, hown, hts⟩ (n_J3_checkIndex_8e157r l g t1 t2 i n t9 hi hn) (va_cwS 3 hts gd_RJ0_1059 rfl rfl rfl ⟨by decide +kernel, by decide +kernel, by decide +kernel⟩ ⟨Nat.le_of_ble_eq_true rfl, Nat.le_of_ble_eq_true rfl⟩) (jp_S (g := g) (jX_0 t1 t2) hK hC hS hP) rfl rfl hl.1 rfl (lv_room (Nat.le_of_ble_eq_true rfl)) dJ0_checkIndex_df160_5 ⟨Nat.le_of_ble_eq_true rfl, Nat.le_of_ble_eq_true rfl⟩)) (fun r9 e9 => ?_)
    subst e9
    refine lv_pop hx hb dJ0_checkIndex_df160_8 rfl ?_
    exact W.vret hx hb hr (fun t ht hW => ⟨rfl, trivial, ht⟩) (fun q h => by cases h) dJ0_checkIndex_df160_9
theorem gd_RJ1_9 : GoodIn gb_J (va_wsS RJ1 9 yJ0_checkIndex_df160 (.code yJ0_checkIndex_df160 cJ0_checkIndex_df160 2 none :: gb_J)) := gj_in (l := [.methodLink RJ1 9 yJ0_checkIndex_df160, .static yJ0_checkIndex_df160, .initialized yJ0_checkIndex_df160.cls]) (by
  have h : ∀ w ∈ ([.methodLink RJ1 9 yJ0_checkIndex_df160, .static yJ0_checkIndex_df160, .initialized yJ0_checkIndex_df160.cls] ++ [.code yJ0_checkIndex_df160 cJ0_checkIndex_df160 2 none] : List Cond), w ∈ jsw ∨ (w ∈ lw_tbl ∧ goodWord w = true) := by decide +kernel
  exact gb_J_of h)
theorem dJ1_charAt_3b067_0 : decode cJ1_charAt_3b067 0 = .ok (.iload_n 1, 1) := by decide +kernel
theorem dJ1_charAt_3b067_1 : decode cJ1_charAt_3b067 1 = .ok (.aload_n 0, 1) := by decide +kernel
theorem dJ1_charAt_3b067_2 : decode cJ1_charAt_3b067 2 = .ok (.arraylength, 1) := by decide +kernel
theorem dJ1_charAt_3b067_3 : decode cJ1_charAt_3b067 3 = .ok (.invokestatic 9, 3) := by decide +kernel
theorem dJ1_charAt_3b067_6 : decode cJ1_charAt_3b067 6 = .ok (.aload_n 0, 1) := by decide +kernel
theorem dJ1_charAt_3b067_7 : decode cJ1_charAt_3b067 7 = .ok (.iload_n 1, 1) := by decide +kernel
theorem dJ1_charAt_3b067_8 : decode cJ1_charAt_3b067 8 = .ok (.baload, 1) := by decide +kernel
theorem dJ1_charAt_3b067_9 : decode cJ1_charAt_3b067 9 = .ok (.sipush 255, 3) := by decide +kernel
theorem dJ1_charAt_3b067_12 : decode cJ1_charAt_3b067 12 = .ok (.iand, 1) := by decide +kernel
theorem dJ1_charAt_3b067_13 : decode cJ1_charAt_3b067 13 = .ok (.i2c, 1) := by decide +kernel
theorem dJ1_charAt_3b067_14 : decode cJ1_charAt_3b067 14 = .ok (.ireturn, 1) := by decide +kernel
set_option maxHeartbeats 4000000 in
theorem n_J1_charAt_3b067 (l : Launch) (g : gb_G) (t1 t2 : Nat) (b n i ch : Nat) (f : Nat → Int32) (hi : i < n) (hn : n < 1000) (hc : ch < 128) (hf : f i = nI ch) : Met l yJ1_charAt_3b067 (.code yJ1_charAt_3b067 cJ1_charAt_3b067 2 (some .char) :: gb_J) ({ frames := 6, cells := 0, slots := 0, locals := 300 }) (jp g (jC t1 t2) [.ref (b), .int (nI i)] ([(b, .inl (g.2.2.2.2.1, n, .inl (f)))] : va_W)) (vp_Si (fun r => r = nI ch)) 0 0 (fun _ => False) := by
  refine Met.ofW (cc := cJ1_charAt_3b067) (maxL := 2) (ret := (some .char)) (by decide +kernel) rfl ?_
  intro p e s m args below meth c s₁ B hml hv
  obtain ⟨rfl, hP, hK, hC⟩ := hv
  have hx := B.exec
  have hb := B.bytes
  have hr := B.returns
  have hts0 := atoms_spec (ws := .code yJ1_charAt_3b067 cJ1_charAt_3b067 2 (some .char) :: gb_J) B.pre
  have hts : ∀ w ∈ gb_J, w.before ([.ref (b), .int (nI i)] : List Value).toArray s = true := fun w hw => hts0 w (List.mem_cons_of_mem _ hw)
  have hown : s.vm.findClass RJ1 = some m.cls := findClass_of_methodNamed B.named
  have hlocks := B.notSynchronized
  have hS : va_S (fun _ => False) s.heap s.heap [] := va_S.rf
  have hl := lv_entry ([.ref (b), .int (nI i)]) (n := 2) (Nat.le_of_ble_eq_true rfl)
  rw [lg_entry_eq]
  generalize (lg_sl ([.ref (b), .int (nI i)]) ++ List.replicate (2 - (lg_sl ([.ref (b), .int (nI i)])).length) Slot.unset).toArray = ls at hl ⊢
  have hl : lv_has ls 2 [(0, .ref (b)), (1, .int (nI i))] := hl
  refine lv_iload_n hx hb dJ1_charAt_3b067_0 rfl (lv_at hl 1 rfl) ?_
  refine lv_aload_n hx hb dJ1_charAt_3b067_1 rfl (lv_at hl 0 rfl) ?_
  refine va_alen (D := (g.1, g.2.1)) (v := nI (n)) hx hb hK hP 0 1 rfl rfl rfl dJ1_charAt_3b067_2 ?_
  refine va_csv (va_Run.run (va_runS (As := [.int (nI i), .int (nI (n))]) (rest := []) ⟨hx, hb, hml, hown, hts⟩ (n_J0_checkIndex_df160 l g t1 t2 i n hi hn) (va_cwS 2 hts gd_RJ1_9 rfl rfl rfl ⟨by decide +kernel, by decide +kernel, by decide +kernel⟩ ⟨Nat.le_of_ble_eq_true rfl, Nat.le_of_ble_eq_true rfl⟩) (jp_S (g := g) (jX_0 t1 t2) hK hC hS (hP.sub [] rfl)) rfl rfl hl.1 rfl (lv_room (Nat.le_of_ble_eq_true rfl)) dJ1_charAt_3b067_3 ⟨Nat.le_of_ble_eq_true rfl, Nat.le_of_ble_eq_true rfl⟩)) (fun _ => ?_)
  refine lv_aload_n hx hb dJ1_charAt_3b067_6 rfl (lv_at hl 0 rfl) ?_
  refine lv_iload_n hx hb dJ1_charAt_3b067_7 rfl (lv_at hl 1 rfl) ?_
  refine va_bald (D := (g.1, g.2.1)) hx hb hK hP 0 1 rfl rfl (pk_in i n hi) dJ1_charAt_3b067_8 ?_
  refine W.eq (g2 := F0 m 9 ls [.int (nI ch)]) (by rw [j_cl (show i < 2 ^ 31 by omega), hf]) ?_
  refine lv_sipush (v := 255) hx hb dJ1_charAt_3b067_9 (by decide) ?_
  refine lv_iand hx hb dJ1_charAt_3b067_12 ?_
  refine W.eq (g2 := F0 m 13 ls [.int (nI ch)]) (by rw [show ((nI ch) &&& (255) : Int32) = nI ch from jand hc]) ?_
  refine lv_i2c (v := nI ch) hx hb dJ1_charAt_3b067_13 (jchr hc) ?_
  exact W.zret (v := nI ch) (ty := .char) hx hb hr (jnch hc) (fun t ht hW => ⟨nI ch, rfl, rfl, ht⟩) (fun q h => by cases h) dJ1_charAt_3b067_14
theorem gd_RJ0_492 : GoodIn gb_J (wsV RJ0 492 RJ0 yJ0_isLatin1_aae02 (.code yJ0_isLatin1_aae02 cJ0_isLatin1_aae02 1 (some .boolean) :: gb_J)) := gj_in (l := [.methodLink RJ0 492 yJ0_isLatin1_aae02, .instanceMethod yJ0_isLatin1_aae02, .selects RJ0 yJ0_isLatin1_aae02 yJ0_isLatin1_aae02, .initialized RJ0]) (by
  have h : ∀ w ∈ ([.methodLink RJ0 492 yJ0_isLatin1_aae02, .instanceMethod yJ0_isLatin1_aae02, .selects RJ0 yJ0_isLatin1_aae02 yJ0_isLatin1_aae02, .initialized RJ0] ++ [.code yJ0_isLatin1_aae02 cJ0_isLatin1_aae02 1 (some .boolean)] : List Cond), w ∈ jsw ∨ (w ∈ lw_tbl ∧ goodWord w = true) := by decide +kernel
  exact gb_J_of h)
theorem gd_RJ0_495 : GoodIn gb_J (va_wsS RJ0 495 yJ1_charAt_3b067 (.code yJ1_charAt_3b067 cJ1_charAt_3b067 2 (some .char) :: gb_J)) := gj_in (l := [.methodLink RJ0 495 yJ1_charAt_3b067, .static yJ1_charAt_3b067, .initialized yJ1_charAt_3b067.cls]) (by
  have h : ∀ w ∈ ([.methodLink RJ0 495 yJ1_charAt_3b067, .static yJ1_charAt_3b067, .initialized yJ1_charAt_3b067.cls] ++ [.code yJ1_charAt_3b067 cJ1_charAt_3b067 2 (some .char)] : List Cond), w ∈ jsw ∨ (w ∈ lw_tbl ∧ goodWord w = true) := by decide +kernel
  exact gb_J_of h)
theorem dJ0_charAt_5068e_0 : decode cJ0_charAt_5068e 0 = .ok (.aload_n 0, 1) := by decide +kernel
theorem dJ0_charAt_5068e_1 : decode cJ0_charAt_5068e 1 = .ok (.invokevirtual 492, 3) := by decide +kernel
theorem dJ0_charAt_5068e_4 : decode cJ0_charAt_5068e 4 = .ok (.ifCond .eq 12, 3) := by decide +kernel
theorem dJ0_charAt_5068e_7 : decode cJ0_charAt_5068e 7 = .ok (.aload_n 0, 1) := by decide +kernel
theorem dJ0_charAt_5068e_8 : decode cJ0_charAt_5068e 8 = .ok (.getfield 9, 3) := by decide +kernel
theorem dJ0_charAt_5068e_11 : decode cJ0_charAt_5068e 11 = .ok (.iload_n 1, 1) := by decide +kernel
theorem dJ0_charAt_5068e_12 : decode cJ0_charAt_5068e 12 = .ok (.invokestatic 495, 3) := by decide +kernel
theorem dJ0_charAt_5068e_15 : decode cJ0_charAt_5068e 15 = .ok (.ireturn, 1) := by decide +kernel
theorem dJ0_charAt_5068e_16 : decode cJ0_charAt_5068e 16 = .ok (.aload_n 0, 1) := by decide +kernel
theorem dJ0_charAt_5068e_17 : decode cJ0_charAt_5068e 17 = .ok (.getfield 9, 3) := by decide +kernel
theorem dJ0_charAt_5068e_20 : decode cJ0_charAt_5068e 20 = .ok (.iload_n 1, 1) := by decide +kernel
theorem dJ0_charAt_5068e_21 : decode cJ0_charAt_5068e 21 = .ok (.invokestatic 498, 3) := by decide +kernel
theorem dJ0_charAt_5068e_24 : decode cJ0_charAt_5068e 24 = .ok (.ireturn, 1) := by decide +kernel
theorem wj_J0_charAt_5068e : ∀ w ∈ ([.fieldLink RJ0 9 "java/lang/String" "value" "[B"] : List Cond), w ∈ gb_J := by
  have h : ∀ w ∈ ([.fieldLink RJ0 9 "java/lang/String" "value" "[B"] : List Cond), w ∈ jsw ∨ (w ∈ lw_tbl ∧ goodWord w = true) := by decide +kernel
  exact gb_J_of h
set_option maxHeartbeats 4000000 in
theorem n_J0_charAt_5068e (l : Launch) (g : gb_G) (t1 t2 : Nat) (ps b n i ch : Nat) (f : Nat → Int32) (hi : i < n) (hn : n < 1000) (hc : ch < 128) (hf : f i = nI ch) : Met l yJ0_charAt_5068e (.code yJ0_charAt_5068e cJ0_charAt_5068e 2 (some .char) :: gb_J) ({ frames := 8, cells := 0, slots := 0, locals := 400 }) (jp g (jC t1 t2) [.ref (ps), .int (nI i)] ([(ps, .inr (10, [.ref b, .int 0, .int 0, .int 0])), (b, .inl (g.2.2.2.2.1, n, .inl (f)))] : va_W)) (vp_Si (fun r => r = nI ch)) 0 0 (fun _ => False) := by
  refine Met.ofW (cc := cJ0_charAt_5068e) (maxL := 2) (ret := (some .char)) (by decide +kernel) rfl ?_
  intro p e s m args below meth c s₁ B hml hv
  obtain ⟨rfl, hP, hK, hC⟩ := hv
  have hx := B.exec
  have hb := B.bytes
  have hr := B.returns
  have hts0 := atoms_spec (ws := .code yJ0_charAt_5068e cJ0_charAt_5068e 2 (some .char) :: gb_J) B.pre
  have hts : ∀ w ∈ gb_J, w.before ([.ref (ps), .int (nI i)] : List Value).toArray s = true := fun w hw => hts0 w (List.mem_cons_of_mem _ hw)
  have hown : s.vm.findClass RJ0 = some m.cls := findClass_of_methodNamed B.named
  have hlocks := B.notSynchronized
  have hS : va_S (fun _ => False) s.heap s.heap [] := va_S.rf
  have hl := lv_entry ([.ref (ps), .int (nI i)]) (n := 2) (Nat.le_of_ble_eq_true rfl)
  rw [lg_entry_eq]
  generalize (lg_sl ([.ref (ps), .int (nI i)]) ++ List.replicate (2 - (lg_sl ([.ref (ps), .int (nI i)])).length) Slot.unset).toArray = ls at hl ⊢
  have hl : lv_has ls 2 [(0, .ref (ps)), (1, .int (nI i))] := hl
  refine lv_aload_n hx hb dJ0_charAt_5068e_0 rfl (lv_at hl 0 rfl) ?_
  refine vp_callSi (va_Run.run (va_runV (As := []) (rest := []) ⟨hx, hb, hml, hown, hts⟩ (n_J0_isLatin1_aae02 l g t1 t2 ps b n f) (cwV 0 hts gd_RJ0_492 rfl rfl rfl ⟨rfl, by decide +kernel, by decide +kernel, by decide +kernel⟩ ⟨Nat.le_of_ble_eq_true rfl, Nat.le_of_ble_eq_true rfl⟩) (jp_V (g := g) (jX_0 t1 t2) hK hC hS hP (va_recv hK hP (ci := 10) (q0 := 0) rfl rfl)) rfl rfl hl.1 rfl (lv_room (Nat.le_of_ble_eq_true rfl)) dJ0_charAt_5068e_1 ⟨Nat.le_of_ble_eq_true rfl, Nat.le_of_ble_eq_true rfl⟩)) (fun r9 e9 => ?_)
  subst e9
  refine lv_if_eq (tgt := 16) hx hb dJ0_charAt_5068e_4 (by decide) (fun c9 => absurd c9 (by decide)) (fun _ => ?_)
  refine lv_aload_n hx hb dJ0_charAt_5068e_7 rfl (lv_at hl 0 rfl) ?_
  refine va_get (D := (g.1, g.2.1)) (ci := 10) (v := .ref (b)) (C := RJ0) (T := TJ0) (N := 4) hx hb hts winJ0 hown hK hP 0 rfl rfl 0 (by decide) (hts _ (wj_J0_charAt_5068e _ (List.mem_of_getElem? (i := 0) rfl))) (fun _ h9 => h9) rfl dJ0_charAt_5068e_8 ?_
  refine lv_iload_n hx hb dJ0_charAt_5068e_11 rfl (lv_at hl 1 rfl) ?_
  refine vp_callSi (va_Run.run (va_runS (As := [.ref (b), .int (nI i)]) (rest := []) ⟨hx, hb, hml, hown, hts⟩ (n_J1_charAt_3b067 l g t1 t2 b n i ch f hi hn hc hf) (va_cwS 2 hts gd_RJ0_495 rfl rfl rfl ⟨by decide +kernel, by decide +kernel, by decide +kernel⟩ ⟨Nat.le_of_ble_eq_true rfl, Nat.le_of_ble_eq_true rfl⟩) (jp_S (g := g) (jX_0 t1 t2) hK hC hS (hP.sub [1] rfl)) rfl rfl hl.1 rfl (lv_room (Nat.le_of_ble_eq_true rfl)) dJ0_charAt_5068e_12 ⟨Nat.le_of_ble_eq_true rfl, Nat.le_of_ble_eq_true rfl⟩)) (fun r9 e9 => ?_)
  subst e9
  exact W.zret (v := nI ch) (ty := .char) hx hb hr (jnch hc) (fun t ht hW => ⟨nI ch, rfl, rfl, ht⟩) (fun q h => by cases h) dJ0_charAt_5068e_15
