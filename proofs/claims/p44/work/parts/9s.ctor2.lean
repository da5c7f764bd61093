/-! CONSTRUCTORS that call constructors (printed by wip/p44/ctor2.py) -/
theorem df_8 : ∀ j, j < 3 → defaultValue (tyX8 j) = vp_V [.null, .int 0, .int 0] j := fun j hj => by rcases (show j = 0 ∨ j = 1 ∨ j = 2 by omega) with rfl | rfl | rfl <;> rfl
theorem yok_8 : yX8_init.name = "<init>" ∧ yX8_init.cls ≠ "java/lang/invoke/MethodHandle" ∧ yX8_init.cls ≠ "java/lang/invoke/VarHandle" ∧ (parseMethodDescriptor yX8_init.desc).map (fun d => d.parameters.length) = some 0 := ⟨rfl, by decide +kernel, by decide +kernel, by decide +kernel⟩
theorem df_4 : ∀ j, j < 2 → defaultValue (tyX4 j) = vp_V [.null, .int 0] j := fun j hj => by rcases (show j = 0 ∨ j = 1 by omega) with rfl | rfl <;> rfl
theorem yok_4 : yX4_init.name = "<init>" ∧ yX4_init.cls ≠ "java/lang/invoke/MethodHandle" ∧ yX4_init.cls ≠ "java/lang/invoke/VarHandle" ∧ (parseMethodDescriptor yX4_init.desc).map (fun d => d.parameters.length) = some 0 := ⟨rfl, by decide +kernel, by decide +kernel, by decide +kernel⟩
theorem df_2 : ∀ j, j < 4 → defaultValue (tyX2 j) = vp_V [.null, .null, .null, .int 0] j := fun j hj => by rcases (show j = 0 ∨ j = 1 ∨ j = 2 ∨ j = 3 by omega) with rfl | rfl | rfl | rfl <;> rfl
theorem yok_2 : yX2_init.name = "<init>" ∧ yX2_init.cls ≠ "java/lang/invoke/MethodHandle" ∧ yX2_init.cls ≠ "java/lang/invoke/VarHandle" ∧ (parseMethodDescriptor yX2_init.desc).map (fun d => d.parameters.length) = some 0 := ⟨rfl, by decide +kernel, by decide +kernel, by decide +kernel⟩
theorem df_6 : ∀ j, j < 2 → defaultValue (tyX6 j) = vp_V [.null, .int 0] j := fun j hj => by rcases (show j = 0 ∨ j = 1 by omega) with rfl | rfl <;> rfl
theorem yok_6 : yX6_init.name = "<init>" ∧ yX6_init.cls ≠ "java/lang/invoke/MethodHandle" ∧ yX6_init.cls ≠ "java/lang/invoke/VarHandle" ∧ (parseMethodDescriptor yX6_init.desc).map (fun d => d.parameters.length) = some 0 := ⟨rfl, by decide +kernel, by decide +kernel, by decide +kernel⟩
theorem df_7 : ∀ j, j < 11 → defaultValue (tyX7 j) = vp_V [.null, .null, .null, .null, .null, .null, .null, .null, .null, .int 0, .int 0] j := fun j hj => by rcases (show j = 0 ∨ j = 1 ∨ j = 2 ∨ j = 3 ∨ j = 4 ∨ j = 5 ∨ j = 6 ∨ j = 7 ∨ j = 8 ∨ j = 9 ∨ j = 10 by omega) with rfl | rfl | rfl | rfl | rfl | rfl | rfl | rfl | rfl | rfl | rfl <;> rfl
theorem yok_7 : yX7_init.name = "<init>" ∧ yX7_init.cls ≠ "java/lang/invoke/MethodHandle" ∧ yX7_init.cls ≠ "java/lang/invoke/VarHandle" ∧ (parseMethodDescriptor yX7_init.desc).map (fun d => d.parameters.length) = some 1 := ⟨rfl, by decide +kernel, by decide +kernel, by decide +kernel⟩
theorem df_0 : ∀ j, j < 6 → defaultValue (tyX0 j) = vp_V [.null, .null, .null, .null, .null, .int 0] j := fun j hj => by rcases (show j = 0 ∨ j = 1 ∨ j = 2 ∨ j = 3 ∨ j = 4 ∨ j = 5 by omega) with rfl | rfl | rfl | rfl | rfl | rfl <;> rfl
theorem yok_0 : yX0_init.name = "<init>" ∧ yX0_init.cls ≠ "java/lang/invoke/MethodHandle" ∧ yX0_init.cls ≠ "java/lang/invoke/VarHandle" ∧ (parseMethodDescriptor yX0_init.desc).map (fun d => d.parameters.length) = some 2 := ⟨rfl, by decide +kernel, by decide +kernel, by decide +kernel⟩
theorem df_5 : ∀ j, j < 8 → defaultValue (tyX5 j) = vp_V [.null, .null, .null, .null, .null, .null, .int 0, .int 0] j := fun j hj => by rcases (show j = 0 ∨ j = 1 ∨ j = 2 ∨ j = 3 ∨ j = 4 ∨ j = 5 ∨ j = 6 ∨ j = 7 by omega) with rfl | rfl | rfl | rfl | rfl | rfl | rfl | rfl <;> rfl
theorem yok_5 : yX5_init.name = "<init>" ∧ yX5_init.cls ≠ "java/lang/invoke/MethodHandle" ∧ yX5_init.cls ≠ "java/lang/invoke/VarHandle" ∧ (parseMethodDescriptor yX5_init.desc).map (fun d => d.parameters.length) = some 0 := ⟨rfl, by decide +kernel, by decide +kernel, by decide +kernel⟩
theorem df_3 : ∀ j, j < 3 → defaultValue (tyX3 j) = vp_V [.null, .int 0, .int 0] j := fun j hj => by rcases (show j = 0 ∨ j = 1 ∨ j = 2 by omega) with rfl | rfl | rfl <;> rfl
theorem yok_3 : yX3_init.name = "<init>" ∧ yX3_init.cls ≠ "java/lang/invoke/MethodHandle" ∧ yX3_init.cls ≠ "java/lang/invoke/VarHandle" ∧ (parseMethodDescriptor yX3_init.desc).map (fun d => d.parameters.length) = some 1 := ⟨rfl, by decide +kernel, by decide +kernel, by decide +kernel⟩
theorem df_1 : ∀ j, j < 7 → defaultValue (tyX1 j) = vp_V [.null, .null, .null, .null, .int 0, .int 0, .int 0] j := fun j hj => by rcases (show j = 0 ∨ j = 1 ∨ j = 2 ∨ j = 3 ∨ j = 4 ∨ j = 5 ∨ j = 6 by omega) with rfl | rfl | rfl | rfl | rfl | rfl | rfl <;> rfl
theorem yok_1 : yX1_init.name = "<init>" ∧ yX1_init.cls ≠ "java/lang/invoke/MethodHandle" ∧ yX1_init.cls ≠ "java/lang/invoke/VarHandle" ∧ (parseMethodDescriptor yX1_init.desc).map (fun d => d.parameters.length) = some 2 := ⟨rfl, by decide +kernel, by decide +kernel, by decide +kernel⟩
theorem RA_uq {U : State} {c1 c2 : ClassId} {C : String} (h1 : va_RA U c1 (.object C)) (h2 : va_RA U c2 (.object C)) : c1 = c2 := by
  obtain ⟨k1, p1, a1, a2, a3, a4⟩ := h1
  obtain ⟨k2, p2, b1, b2, b3, b4⟩ := h2
  exact Option.some.inj (a4.symm.trans b4)
theorem up8 (x0 x1 x2 x3 x4 x5 x6 x7 : Nat) (f : Nat → Option Nat) (e0 : some x0 = f 0) (e1 : some x1 = f 1) (e2 : some x2 = f 2) (e3 : some x3 = f 3) (e4 : some x4 = f 4) (e5 : some x5 = f 5) (e6 : some x6 = f 6) (e7 : some x7 = f 7) : ∀ i, i < 8 → (va_up (va_up (va_up (va_up (va_up (va_up (va_up (va_up (fun _ => none) (0 : Int32).toNatClampNeg (some x0)) (1 : Int32).toNatClampNeg (some x1)) (2 : Int32).toNatClampNeg (some x2)) (3 : Int32).toNatClampNeg (some x3)) (4 : Int32).toNatClampNeg (some x4)) (5 : Int32).toNatClampNeg (some x5)) (6 : Int32).toNatClampNeg (some x6)) (7 : Int32).toNatClampNeg (some x7)) i = f i := by
  intro i hi
  rcases (show i = 0 ∨ i = 1 ∨ i = 2 ∨ i = 3 ∨ i = 4 ∨ i = 5 ∨ i = 6 ∨ i = 7 by omega) with rfl | rfl | rfl | rfl | rfl | rfl | rfl | rfl
  · rw [← e0]; simp [va_up, show (0 : Int32).toNatClampNeg = 0 from by decide, show (1 : Int32).toNatClampNeg = 1 from by decide, show (2 : Int32).toNatClampNeg = 2 from by decide, show (3 : Int32).toNatClampNeg = 3 from by decide, show (4 : Int32).toNatClampNeg = 4 from by decide, show (5 : Int32).toNatClampNeg = 5 from by decide, show (6 : Int32).toNatClampNeg = 6 from by decide, show (7 : Int32).toNatClampNeg = 7 from by decide]
  · rw [← e1]; simp [va_up, show (0 : Int32).toNatClampNeg = 0 from by decide, show (1 : Int32).toNatClampNeg = 1 from by decide, show (2 : Int32).toNatClampNeg = 2 from by decide, show (3 : Int32).toNatClampNeg = 3 from by decide, show (4 : Int32).toNatClampNeg = 4 from by decide, show (5 : Int32).toNatClampNeg = 5 from by decide, show (6 : Int32).toNatClampNeg = 6 from by decide, show (7 : Int32).toNatClampNeg = 7 from by decide]
  · rw [← e2]; simp [va_up, show (0 : Int32).toNatClampNeg = 0 from by decide, show (1 : Int32).toNatClampNeg = 1 from by decide, show (2 : Int32).toNatClampNeg = 2 from by decide, show (3 : Int32).toNatClampNeg = 3 from by decide, show (4 : Int32).toNatClampNeg = 4 from by decide, show (5 : Int32).toNatClampNeg = 5 from by decide, show (6 : Int32).toNatClampNeg = 6 from by decide, show (7 : Int32).toNatClampNeg = 7 from by decide]
  · rw [← e3]; simp [va_up, show (0 : Int32).toNatClampNeg = 0 from by decide, show (1 : Int32).toNatClampNeg = 1 from by decide, show (2 : Int32).toNatClampNeg = 2 from by decide, show (3 : Int32).toNatClampNeg = 3 from by decide, show (4 : Int32).toNatClampNeg = 4 from by decide, show (5 : Int32).toNatClampNeg = 5 from by decide, show (6 : Int32).toNatClampNeg = 6 from by decide, show (7 : Int32).toNatClampNeg = 7 from by decide]
  · rw [← e4]; simp [va_up, show (0 : Int32).toNatClampNeg = 0 from by decide, show (1 : Int32).toNatClampNeg = 1 from by decide, show (2 : Int32).toNatClampNeg = 2 from by decide, show (3 : Int32).toNatClampNeg = 3 from by decide, show (4 : Int32).toNatClampNeg = 4 from by decide, show (5 : Int32).toNatClampNeg = 5 from by decide, show (6 : Int32).toNatClampNeg = 6 from by decide, show (7 : Int32).toNatClampNeg = 7 from by decide]
  · rw [← e5]; simp [va_up, show (0 : Int32).toNatClampNeg = 0 from by decide, show (1 : Int32).toNatClampNeg = 1 from by decide, show (2 : Int32).toNatClampNeg = 2 from by decide, show (3 : Int32).toNatClampNeg = 3 from by decide, show (4 : Int32).toNatClampNeg = 4 from by decide, show (5 : Int32).toNatClampNeg = 5 from by decide, show (6 : Int32).toNatClampNeg = 6 from by decide, show (7 : Int32).toNatClampNeg = 7 from by decide]
  · rw [← e6]; simp [va_up, show (0 : Int32).toNatClampNeg = 0 from by decide, show (1 : Int32).toNatClampNeg = 1 from by decide, show (2 : Int32).toNatClampNeg = 2 from by decide, show (3 : Int32).toNatClampNeg = 3 from by decide, show (4 : Int32).toNatClampNeg = 4 from by decide, show (5 : Int32).toNatClampNeg = 5 from by decide, show (6 : Int32).toNatClampNeg = 6 from by decide, show (7 : Int32).toNatClampNeg = 7 from by decide]
  · rw [← e7]; simp [va_up, show (0 : Int32).toNatClampNeg = 0 from by decide, show (1 : Int32).toNatClampNeg = 1 from by decide, show (2 : Int32).toNatClampNeg = 2 from by decide, show (3 : Int32).toNatClampNeg = 3 from by decide, show (4 : Int32).toNatClampNeg = 4 from by decide, show (5 : Int32).toNatClampNeg = 5 from by decide, show (6 : Int32).toNatClampNeg = 6 from by decide, show (7 : Int32).toNatClampNeg = 7 from by decide]
theorem w_X1_init_0 : (.methodLink RX1 3 objectInit : Cond) ∈ gb_B := List.mem_filter.mpr ⟨by decide +kernel, by decide +kernel⟩
theorem w_X1_init_1 : (.instanceMethod objectInit : Cond) ∈ gb_B := List.mem_filter.mpr ⟨by decide +kernel, by decide +kernel⟩
theorem w_X1_init_2 : (.code objectInit ⟨#[0xb1]⟩ 1 none : Cond) ∈ gb_B := List.mem_filter.mpr ⟨by decide +kernel, by decide +kernel⟩
theorem w_X1_init_3 : (.arrayClass .int : Cond) ∈ gb_B := List.mem_filter.mpr ⟨by decide +kernel, by decide +kernel⟩
theorem w_X1_init_4 : (.fieldLink RX1 11 "GrainBins$Laying" "way" "[I" : Cond) ∈ gb_B := List.mem_filter.mpr ⟨by decide +kernel, by decide +kernel⟩
theorem w_X1_init_5 : (.fieldLink RX1 17 "GrainBins$Laying" "bestWay" "[I" : Cond) ∈ gb_B := List.mem_filter.mpr ⟨by decide +kernel, by decide +kernel⟩
theorem w_X1_init_6 : (.classLink RX1 20 RX7 : Cond) ∈ gb_B := List.mem_filter.mpr ⟨by decide +kernel, by decide +kernel⟩
theorem w_X1_init_7 : (.instantiable RX7 11 : Cond) ∈ gb_B := List.mem_filter.mpr ⟨by decide +kernel, by decide +kernel⟩
theorem w_X1_init_8 : (.initialized RX7 : Cond) ∈ gb_B := List.mem_filter.mpr ⟨by decide +kernel, by decide +kernel⟩
theorem w_X1_init_9 : (.fieldLink RX1 25 "GrainBins$Laying" "thought" "LGrainBins$Store;" : Cond) ∈ gb_B := List.mem_filter.mpr ⟨by decide +kernel, by decide +kernel⟩
theorem w_X1_init_10 : (.fieldLink RX1 29 "GrainBins$Laying" "loads" "LGrainBins$Orders;" : Cond) ∈ gb_B := List.mem_filter.mpr ⟨by decide +kernel, by decide +kernel⟩
theorem w4_X1_init_22 : ∀ w ∈ ([.methodLink RX1 22 yX7_init, .instanceMethod yX7_init, .initialized yX7_init.cls, .code yX7_init cX7_init 2 none] : List Cond), w ∈ gb_B := by
  have h : ∀ w ∈ ([.methodLink RX1 22 yX7_init, .instanceMethod yX7_init, .initialized yX7_init.cls, .code yX7_init cX7_init 2 none] : List Cond), w ∈ lw_tbl ∧ goodWord w = true := by decide +kernel
  exact fun w hw => List.mem_filter.mpr (h w hw)
theorem dX1_init_0 : decode cX1_init 0 = .ok (.aload_n 0, 1) := by decide +kernel
theorem dX1_init_1 : decode cX1_init 1 = .ok (.invokespecial 3, 3) := by decide +kernel
theorem dX1_init_4 : decode cX1_init 4 = .ok (.aload_n 0, 1) := by decide +kernel
theorem dX1_init_5 : decode cX1_init 5 = .ok (.bipush 6, 2) := by decide +kernel
theorem dX1_init_7 : decode cX1_init 7 = .ok (.newarray .int, 2) := by decide +kernel
theorem dX1_init_9 : decode cX1_init 9 = .ok (.putfield 11, 3) := by decide +kernel
theorem dX1_init_12 : decode cX1_init 12 = .ok (.aload_n 0, 1) := by decide +kernel
theorem dX1_init_13 : decode cX1_init 13 = .ok (.bipush 6, 2) := by decide +kernel
theorem dX1_init_15 : decode cX1_init 15 = .ok (.newarray .int, 2) := by decide +kernel
theorem dX1_init_17 : decode cX1_init 17 = .ok (.putfield 17, 3) := by decide +kernel
theorem dX1_init_20 : decode cX1_init 20 = .ok (.aload_n 0, 1) := by decide +kernel
theorem dX1_init_21 : decode cX1_init 21 = .ok (.new 20, 3) := by decide +kernel
theorem dX1_init_24 : decode cX1_init 24 = .ok (.dup, 1) := by decide +kernel
theorem dX1_init_25 : decode cX1_init 25 = .ok (.aload_n 1, 1) := by decide +kernel
theorem dX1_init_26 : decode cX1_init 26 = .ok (.invokespecial 22, 3) := by decide +kernel
theorem dX1_init_29 : decode cX1_init 29 = .ok (.putfield 25, 3) := by decide +kernel
theorem dX1_init_32 : decode cX1_init 32 = .ok (.aload_n 0, 1) := by decide +kernel
theorem dX1_init_33 : decode cX1_init 33 = .ok (.aload_n 2, 1) := by decide +kernel
theorem dX1_init_34 : decode cX1_init 34 = .ok (.putfield 29, 3) := by decide +kernel
theorem dX1_init_37 : decode cX1_init 37 = .ok (.return_, 1) := by decide +kernel
set_option maxHeartbeats 4000000 in
theorem n_X1_init (l : Launch) (g : gb_G) (h0 r o : Nat) (sz : Nat) : Met l yX1_init (.code yX1_init cX1_init 3 none :: gb_B) ({ frames := 4, cells := 11, slots := 191, locals := 160 }) (va_Pc [.ref h0, .ref r, .ref o] (fun U => U.heap.size = sz ∧ va_P (g.1, g.2.1) vwCl [(h0, .inr (1, [.null, .null, .null, .null, .int 0, .int 0, .int 0]))] U.heap ∧ va_K (g.1, g.2.1) vwCl (gb_T g) U ∧ va_D (fun _ => True) [(h0, .inr (1, [.null, .null, .null, .null, .int 0, .int 0, .int 0]))])) (va_Qv (fun _ : Unit => True) (fun _ t => ∃ w1, (∃ a t1 : Nat → Nat, a 0 = h0 ∧ w1 = gb_w1 g r o a t1) ∧ va_P (g.1, g.2.1) vwCl w1 t.heap ∧ va_K (g.1, g.2.1) vwCl (gb_T g) t ∧ va_D (va_A [(h0, .inr (1, [.null, .null, .null, .null, .int 0, .int 0, .int 0]))] sz) w1) (va_A [(h0, .inr (1, [.null, .null, .null, .null, .int 0, .int 0, .int 0]))] sz)) 11 191 (va_A [(h0, .inr (1, [.null, .null, .null, .null, .int 0, .int 0, .int 0]))] sz) := by
  refine Met.ofW (cc := cX1_init) (maxL := 3) (ret := none) (by decide +kernel) rfl ?_
  intro p e s m args below meth c s₁ B hml hv
  obtain ⟨rfl, hsz, hP, hK, hD0⟩ := hv
  have hx := B.exec
  have hb := B.bytes
  have hr := B.returns
  have hts0 := atoms_spec (ws := .code yX1_init cX1_init 3 none :: gb_B) B.pre
  have hts : ∀ w ∈ gb_B, w.before ([.ref h0, .ref r, .ref o] : List Value).toArray s = true := fun w hw => hts0 w (List.mem_cons_of_mem _ hw)
  have hown : s.vm.findClass RX1 = some m.cls := findClass_of_methodNamed B.named
  have hlocks := B.notSynchronized
  have hin : meth.name = "<init>" := (name_of_methodNamed B.named B.method).1
  subst hsz
  have hD := hD0.self (sz := s.heap.size)
  generalize hAe : va_A [(h0, .inr (1, [.null, .null, .null, .null, .int 0, .int 0, .int 0]))] s.heap.size = A at hD ⊢
  have hA : ∀ q : Nat, s.heap.size ≤ q → A q := fun q h => by rw [← hAe]; exact Or.inr h
  have hS : va_S A s.heap s.heap [] := va_S.rf
  have hl := lv_entry ([.ref h0, .ref r, .ref o]) (n := 3) (Nat.le_of_ble_eq_true rfl)
  rw [lg_entry_eq]
  generalize (lg_sl ([.ref h0, .ref r, .ref o]) ++ List.replicate (3 - (lg_sl ([.ref h0, .ref r, .ref o])).length) Slot.unset).toArray = ls at hl ⊢
  have hl : lv_has ls 3 [(0, .ref h0), (1, .ref r), (2, .ref o)] := hl
  refine lv_aload_n hx hb dX1_init_0 rfl (lv_at hl 0 rfl) ?_
  refine W.objInit hx hb hown (hts (.methodLink RX1 3 objectInit) (w_X1_init_0)) (hts (.instanceMethod objectInit) (w_X1_init_1)) (hts _ (w_X1_init_2)) rfl (by rw [hml]; exact hl.1) rfl dX1_init_1 (Nat.le_of_ble_eq_true rfl) (Nat.le_of_ble_eq_true rfl) ?_
  refine W.eq (g2 := F0 m 4 ls []) rfl ?_
  refine lv_aload_n hx hb dX1_init_4 rfl (lv_at hl 0 rfl) ?_
  refine lv_bipush (v := 6) hx hb dX1_init_5 (by decide) ?_
  refine lw_newi (N := 6) hx hb (hts _ (w_X1_init_3)) hK hP hD hS hA (by decide) (by decide) (by decide) (Nat.le_of_ble_eq_true rfl) (Nat.le_of_ble_eq_true rfl) dX1_init_7 (fun q0 H hP hD hS => ?_)
  have hP : va_P (g.1, g.2.1) vwCl ((h0, .inr (1, [.null, .null, .null, .null, .int 0, .int 0, .int 0])) :: (([] : va_W) ++ [(q0, .inl (g.2.2.2.1, 6, .inl (fun _ => 0)))])) H := hP
  have hD : va_D A ((h0, .inr (1, [.null, .null, .null, .null, .int 0, .int 0, .int 0])) :: (([] : va_W) ++ [(q0, .inl (g.2.2.2.1, 6, .inl (fun _ => 0)))])) := hD
  refine va_putF (D := (g.1, g.2.1)) (ci := 1) (v := .ref q0) (ty := tyX1 2) (C := RX1) (T := TX1) (N := 7) hx hb hts winX1 tyX1 tyX1_ok nmX1 hown hK hP hD hS 0 rfl rfl 2 (by decide) (hts _ (w_X1_init_4)) (fun _ h9 => h9) rfl hin rfl (tyX1_ok 2 (by decide)) rfl rfl (Nat.le_of_ble_eq_true rfl) dX1_init_9 (fun H locs hP hD hS => ?_)
  have hP : va_P (g.1, g.2.1) vwCl ((h0, .inr (1, [.null, .null, .ref q0, .null, .int 0, .int 0, .int 0])) :: (([] : va_W) ++ [(q0, .inl (g.2.2.2.1, 6, .inl (fun _ => 0)))])) H := hP
  have hD : va_D A ((h0, .inr (1, [.null, .null, .ref q0, .null, .int 0, .int 0, .int 0])) :: (([] : va_W) ++ [(q0, .inl (g.2.2.2.1, 6, .inl (fun _ => 0)))])) := hD
  refine lv_aload_n hx hb dX1_init_12 rfl (lv_at hl 0 rfl) ?_
  refine lv_bipush (v := 6) hx hb dX1_init_13 (by decide) ?_
  refine lw_newi (N := 6) hx hb (hts _ (w_X1_init_3)) hK hP hD hS hA (by decide) (by decide) (by decide) (Nat.le_of_ble_eq_true rfl) (Nat.le_of_ble_eq_true rfl) dX1_init_15 (fun q1 H hP hD hS => ?_)
  have hP : va_P (g.1, g.2.1) vwCl ((h0, .inr (1, [.null, .null, .ref q0, .null, .int 0, .int 0, .int 0])) :: ((([] : va_W) ++ [(q0, .inl (g.2.2.2.1, 6, .inl (fun _ => 0)))]) ++ [(q1, .inl (g.2.2.2.1, 6, .inl (fun _ => 0)))])) H := hP
  have hD : va_D A ((h0, .inr (1, [.null, .null, .ref q0, .null, .int 0, .int 0, .int 0])) :: ((([] : va_W) ++ [(q0, .inl (g.2.2.2.1, 6, .inl (fun _ => 0)))]) ++ [(q1, .inl (g.2.2.2.1, 6, .inl (fun _ => 0)))])) := hD
  refine va_putF (D := (g.1, g.2.1)) (ci := 1) (v := .ref q1) (ty := tyX1 3) (C := RX1) (T := TX1) (N := 7) hx hb hts winX1 tyX1 tyX1_ok nmX1 hown hK hP hD hS 0 rfl rfl 3 (by decide) (hts _ (w_X1_init_5)) (fun _ h9 => h9) rfl hin rfl (tyX1_ok 3 (by decide)) rfl rfl (Nat.le_of_ble_eq_true rfl) dX1_init_17 (fun H locs hP hD hS => ?_)
  have hP : va_P (g.1, g.2.1) vwCl ((h0, .inr (1, [.null, .null, .ref q0, .ref q1, .int 0, .int 0, .int 0])) :: ((([] : va_W) ++ [(q0, .inl (g.2.2.2.1, 6, .inl (fun _ => 0)))]) ++ [(q1, .inl (g.2.2.2.1, 6, .inl (fun _ => 0)))])) H := hP
  have hD : va_D A ((h0, .inr (1, [.null, .null, .ref q0, .ref q1, .int 0, .int 0, .int 0])) :: ((([] : va_W) ++ [(q0, .inl (g.2.2.2.1, 6, .inl (fun _ => 0)))]) ++ [(q1, .inl (g.2.2.2.1, 6, .inl (fun _ => 0)))])) := hD
  refine lv_aload_n hx hb dX1_init_20 rfl (lv_at hl 0 rfl) ?_
  refine va_new (ci := 7) (fs := [.null, .null, .null, .null, .null, .null, .null, .null, .null, .int 0, .int 0]) (C := RX7) (T := TX7) (N := 11) hx hb hts winX7 tyX7 tyX7_ok hown (hts _ (w_X1_init_6)) (hts _ (w_X1_init_7)) (hts _ (w_X1_init_8)) hK hP hD hS hA rfl df_7 (Nat.le_of_ble_eq_true rfl) (Nat.le_of_ble_eq_true rfl) dX1_init_21 (fun o0 H hP hD hS => ?_)
  have hP : va_P (g.1, g.2.1) vwCl (((h0, .inr (1, [.null, .null, .ref q0, .ref q1, .int 0, .int 0, .int 0])) :: ((([] : va_W) ++ [(q0, .inl (g.2.2.2.1, 6, .inl (fun _ => 0)))]) ++ [(q1, .inl (g.2.2.2.1, 6, .inl (fun _ => 0)))])) ++ [(o0, .inr (7, [.null, .null, .null, .null, .null, .null, .null, .null, .null, .int 0, .int 0]))]) H := hP
  have hD : va_D A (((h0, .inr (1, [.null, .null, .ref q0, .ref q1, .int 0, .int 0, .int 0])) :: ((([] : va_W) ++ [(q0, .inl (g.2.2.2.1, 6, .inl (fun _ => 0)))]) ++ [(q1, .inl (g.2.2.2.1, 6, .inl (fun _ => 0)))])) ++ [(o0, .inr (7, [.null, .null, .null, .null, .null, .null, .null, .null, .null, .int 0, .int 0]))]) := hD
  refine lv_dup hx hb dX1_init_24 rfl ?_
  refine lv_aload_n hx hb dX1_init_25 rfl (lv_at hl 1 rfl) ?_
  refine lw_ctor (nL := 3) (ws := ((h0, .inr (1, [.null, .null, .ref q0, .ref q1, .int 0, .int 0, .int 0])) :: ((([] : va_W) ++ [(q0, .inl (g.2.2.2.1, 6, .inl (fun _ => 0)))]) ++ [(q1, .inl (g.2.2.2.1, 6, .inl (fun _ => 0)))]))) (As := [.ref (r)]) (rest := [.ref o0, .ref h0]) hx hb hml hown hts hA hP hD hS (n_X7_init l g o0 (r) H.size) w4_X1_init_22 yok_7 ⟨rfl, rfl⟩ ⟨Nat.le_of_ble_eq_true rfl, Nat.le_of_ble_eq_true rfl⟩ ⟨Nat.le_of_ble_eq_true rfl, Nat.le_of_ble_eq_true rfl⟩ (pre_std hK hP hD) rfl hl.1 (Nat.le_of_ble_eq_true rfl) dX1_init_26 (fun u t _ h => o_w7 h) rfl (fun w1 H1 locs hw hP hD hS => ?_)
  obtain ⟨a0, rfl, rfl⟩ := hw
  generalize H1 = H at hP hS ⊢
  have hP : va_P (g.1, g.2.1) vwCl ((h0, .inr (1, [.null, .null, .ref q0, .ref q1, .int 0, .int 0, .int 0])) :: (((([] : va_W) ++ [(q0, .inl (g.2.2.2.1, 6, .inl (fun _ => 0)))]) ++ [(q1, .inl (g.2.2.2.1, 6, .inl (fun _ => 0)))]) ++ gb_w7 g (r) a0)) H := hP
  have hD : va_D A ((h0, .inr (1, [.null, .null, .ref q0, .ref q1, .int 0, .int 0, .int 0])) :: (((([] : va_W) ++ [(q0, .inl (g.2.2.2.1, 6, .inl (fun _ => 0)))]) ++ [(q1, .inl (g.2.2.2.1, 6, .inl (fun _ => 0)))]) ++ gb_w7 g (r) a0)) := hD
  refine va_putF (D := (g.1, g.2.1)) (ci := 1) (v := .ref (a0 0)) (ty := tyX1 0) (C := RX1) (T := TX1) (N := 7) hx hb hts winX1 tyX1 tyX1_ok nmX1 hown hK hP hD hS 0 rfl rfl 0 (by decide) (hts _ (w_X1_init_9)) (fun _ h9 => h9) rfl hin rfl (tyX1_ok 0 (by decide)) rfl rfl (Nat.le_of_ble_eq_true rfl) dX1_init_29 (fun H locs hP hD hS => ?_)
  have hP : va_P (g.1, g.2.1) vwCl ((h0, .inr (1, [.ref (a0 0), .null, .ref q0, .ref q1, .int 0, .int 0, .int 0])) :: (((([] : va_W) ++ [(q0, .inl (g.2.2.2.1, 6, .inl (fun _ => 0)))]) ++ [(q1, .inl (g.2.2.2.1, 6, .inl (fun _ => 0)))]) ++ gb_w7 g (r) a0)) H := hP
  have hD : va_D A ((h0, .inr (1, [.ref (a0 0), .null, .ref q0, .ref q1, .int 0, .int 0, .int 0])) :: (((([] : va_W) ++ [(q0, .inl (g.2.2.2.1, 6, .inl (fun _ => 0)))]) ++ [(q1, .inl (g.2.2.2.1, 6, .inl (fun _ => 0)))]) ++ gb_w7 g (r) a0)) := hD
  refine lv_aload_n hx hb dX1_init_32 rfl (lv_at hl 0 rfl) ?_
  refine lv_aload_n hx hb dX1_init_33 rfl (lv_at hl 2 rfl) ?_
  refine va_putF (D := (g.1, g.2.1)) (ci := 1) (v := .ref o) (ty := tyX1 1) (C := RX1) (T := TX1) (N := 7) hx hb hts winX1 tyX1 tyX1_ok nmX1 hown hK hP hD hS 0 rfl rfl 1 (by decide) (hts _ (w_X1_init_10)) (fun _ h9 => h9) rfl hin rfl (tyX1_ok 1 (by decide)) rfl rfl (Nat.le_of_ble_eq_true rfl) dX1_init_34 (fun H locs hP hD hS => ?_)
  have hP : va_P (g.1, g.2.1) vwCl ((h0, .inr (1, [.ref (a0 0), .ref o, .ref q0, .ref q1, .int 0, .int 0, .int 0])) :: (((([] : va_W) ++ [(q0, .inl (g.2.2.2.1, 6, .inl (fun _ => 0)))]) ++ [(q1, .inl (g.2.2.2.1, 6, .inl (fun _ => 0)))]) ++ gb_w7 g (r) a0)) H := hP
  have hD : va_D A ((h0, .inr (1, [.ref (a0 0), .ref o, .ref q0, .ref q1, .int 0, .int 0, .int 0])) :: (((([] : va_W) ++ [(q0, .inl (g.2.2.2.1, 6, .inl (fun _ => 0)))]) ++ [(q1, .inl (g.2.2.2.1, 6, .inl (fun _ => 0)))]) ++ gb_w7 g (r) a0)) := hD
  exact W.vret hx hb hr (fun t ht hW => ⟨⟨(), rfl, trivial, gb_w1 g r o (fun i => ([h0, q0, q1] : List Nat).getD i 0) a0, ⟨_, _, rfl, rfl⟩, by rw [ht]; exact hP, va_K.moved hW.alike hK, hD⟩, hS.F ht⟩) hS.2.2 dX1_init_37
theorem o_w1 {g : gb_G} {D : va_G} {A : Nat → Prop} {h0 r o : Nat} {H : Heap} {K : Prop} (h : ∃ w1, (∃ (a t1 : Nat → Nat), a 0 = h0 ∧ w1 = gb_w1 g r o a t1) ∧ va_P D vwCl w1 H ∧ K ∧ va_D A w1) : ∃ w1, (∃ (a t1 : Nat → Nat), a 0 = h0 ∧ w1 = gb_w1 g r o a t1) ∧ va_P D vwCl w1 H ∧ va_D A w1 := by
  obtain ⟨w1, h0, h1, -, h2⟩ := h
  exact ⟨w1, h0, h1, h2⟩
theorem w_X3_init_0 : (.methodLink RX3 1 objectInit : Cond) ∈ gb_B := List.mem_filter.mpr ⟨by decide +kernel, by decide +kernel⟩
theorem w_X3_init_1 : (.instanceMethod objectInit : Cond) ∈ gb_B := List.mem_filter.mpr ⟨by decide +kernel, by decide +kernel⟩
theorem w_X3_init_2 : (.code objectInit ⟨#[0xb1]⟩ 1 none : Cond) ∈ gb_B := List.mem_filter.mpr ⟨by decide +kernel, by decide +kernel⟩
theorem w_X3_init_3 : (.classLink RX3 9 RX7 : Cond) ∈ gb_B := List.mem_filter.mpr ⟨by decide +kernel, by decide +kernel⟩
theorem w_X3_init_4 : (.fieldLink RX3 11 "GrainBins$Past" "ahead" "[LGrainBins$Store;" : Cond) ∈ gb_B := List.mem_filter.mpr ⟨by decide +kernel, by decide +kernel⟩
theorem w_X3_init_5 : (.instantiable RX7 11 : Cond) ∈ gb_B := List.mem_filter.mpr ⟨by decide +kernel, by decide +kernel⟩
theorem w_X3_init_6 : (.initialized RX7 : Cond) ∈ gb_B := List.mem_filter.mpr ⟨by decide +kernel, by decide +kernel⟩
theorem w4_X3_init_15 : ∀ w ∈ ([.methodLink RX3 15 yX7_init, .instanceMethod yX7_init, .initialized yX7_init.cls, .code yX7_init cX7_init 2 none] : List Cond), w ∈ gb_B := by
  have h : ∀ w ∈ ([.methodLink RX3 15 yX7_init, .instanceMethod yX7_init, .initialized yX7_init.cls, .code yX7_init cX7_init 2 none] : List Cond), w ∈ lw_tbl ∧ goodWord w = true := by decide +kernel
  exact fun w hw => List.mem_filter.mpr (h w hw)
theorem dX3_init_0 : decode cX3_init 0 = .ok (.aload_n 0, 1) := by decide +kernel
theorem dX3_init_1 : decode cX3_init 1 = .ok (.invokespecial 1, 3) := by decide +kernel
theorem dX3_init_4 : decode cX3_init 4 = .ok (.aload_n 0, 1) := by decide +kernel
theorem dX3_init_5 : decode cX3_init 5 = .ok (.bipush 8, 2) := by decide +kernel
theorem dX3_init_7 : decode cX3_init 7 = .ok (.anewarray 9, 3) := by decide +kernel
theorem dX3_init_10 : decode cX3_init 10 = .ok (.putfield 11, 3) := by decide +kernel
theorem dX3_init_13 : decode cX3_init 13 = .ok (.iconst 0, 1) := by decide +kernel
theorem dX3_init_14 : decode cX3_init 14 = .ok (.istore_n 2, 1) := by decide +kernel
theorem dX3_init_15 : decode cX3_init 15 = .ok (.iload_n 2, 1) := by decide +kernel
theorem dX3_init_16 : decode cX3_init 16 = .ok (.bipush 8, 2) := by decide +kernel
theorem dX3_init_18 : decode cX3_init 18 = .ok (.if_icmp .ge 23, 3) := by decide +kernel
theorem dX3_init_21 : decode cX3_init 21 = .ok (.aload_n 0, 1) := by decide +kernel
theorem dX3_init_22 : decode cX3_init 22 = .ok (.getfield 11, 3) := by decide +kernel
theorem dX3_init_25 : decode cX3_init 25 = .ok (.iload_n 2, 1) := by decide +kernel
theorem dX3_init_26 : decode cX3_init 26 = .ok (.new 9, 3) := by decide +kernel
theorem dX3_init_29 : decode cX3_init 29 = .ok (.dup, 1) := by decide +kernel
theorem dX3_init_30 : decode cX3_init 30 = .ok (.aload_n 1, 1) := by decide +kernel
theorem dX3_init_31 : decode cX3_init 31 = .ok (.invokespecial 15, 3) := by decide +kernel
theorem dX3_init_34 : decode cX3_init 34 = .ok (.aastore, 1) := by decide +kernel
theorem dX3_init_35 : decode cX3_init 35 = .ok (.iinc 2 1, 3) := by decide +kernel
theorem dX3_init_38 : decode cX3_init 38 = .ok (.goto (-23), 3) := by decide +kernel
theorem dX3_init_41 : decode cX3_init 41 = .ok (.return_, 1) := by decide +kernel
set_option maxHeartbeats 4000000 in
theorem n_X3_init (l : Launch) (g : gb_G) (h0 r : Nat) (sz : Nat) : Met l yX3_init (.code yX3_init cX3_init 3 none :: gb_B) ({ frames := 4, cells := 73, slots := 1440, locals := 160 }) (va_Pc [.ref h0, .ref r] (fun U => U.heap.size = sz ∧ va_P (g.1, g.2.1) vwCl [(h0, .inr (3, [.null, .int 0, .int 0]))] U.heap ∧ va_K (g.1, g.2.1) vwCl (gb_T g) U ∧ va_D (fun _ => True) [(h0, .inr (3, [.null, .int 0, .int 0]))] ∧ va_AO RX7 U)) (va_Qv (fun _ : Unit => True) (fun _ t => ∃ w1, (∃ (a : Nat → Nat) (b : Nat → Nat → Nat), a 0 = h0 ∧ w1 = gb_w3 g r a b) ∧ va_P (g.1, g.2.1) vwCl w1 t.heap ∧ va_K (g.1, g.2.1) vwCl (gb_T g) t ∧ va_D (va_A [(h0, .inr (3, [.null, .int 0, .int 0]))] sz) w1) (va_A [(h0, .inr (3, [.null, .int 0, .int 0]))] sz)) 73 1440 (va_A [(h0, .inr (3, [.null, .int 0, .int 0]))] sz) := by
  refine Met.ofW (cc := cX3_init) (maxL := 3) (ret := none) (by decide +kernel) rfl ?_
  intro p e s m args below meth c s₁ B hml hv
  obtain ⟨rfl, hsz, hP, hK, hD0, ho⟩ := hv
  have hx := B.exec
  have hb := B.bytes
  have hr := B.returns
  have hts0 := atoms_spec (ws := .code yX3_init cX3_init 3 none :: gb_B) B.pre
  have hts : ∀ w ∈ gb_B, w.before ([.ref h0, .ref r] : List Value).toArray s = true := fun w hw => hts0 w (List.mem_cons_of_mem _ hw)
  have hown : s.vm.findClass RX3 = some m.cls := findClass_of_methodNamed B.named
  have hlocks := B.notSynchronized
  have hin : meth.name = "<init>" := (name_of_methodNamed B.named B.method).1
  subst hsz
  have hD := hD0.self (sz := s.heap.size)
  generalize hAe : va_A [(h0, .inr (3, [.null, .int 0, .int 0]))] s.heap.size = A at hD ⊢
  have hA : ∀ q : Nat, s.heap.size ≤ q → A q := fun q h => by rw [← hAe]; exact Or.inr h
  have hS : va_S A s.heap s.heap [] := va_S.rf
  have hl := lv_entry ([.ref h0, .ref r]) (n := 3) (Nat.le_of_ble_eq_true rfl)
  rw [lg_entry_eq]
  generalize (lg_sl ([.ref h0, .ref r]) ++ List.replicate (3 - (lg_sl ([.ref h0, .ref r])).length) Slot.unset).toArray = ls at hl ⊢
  have hl : lv_has ls 3 [(0, .ref h0), (1, .ref r)] := hl
  refine lv_aload_n hx hb dX3_init_0 rfl (lv_at hl 0 rfl) ?_
  refine W.objInit hx hb hown (hts (.methodLink RX3 1 objectInit) (w_X3_init_0)) (hts (.instanceMethod objectInit) (w_X3_init_1)) (hts _ (w_X3_init_2)) rfl (by rw [hml]; exact hl.1) rfl dX3_init_1 (Nat.le_of_ble_eq_true rfl) (Nat.le_of_ble_eq_true rfl) ?_
  refine W.eq (g2 := F0 m 4 ls []) rfl ?_
  refine lv_aload_n hx hb dX3_init_4 rfl (lv_at hl 0 rfl) ?_
  refine lv_bipush (v := 8) hx hb dX3_init_5 (by decide) ?_
  refine va_newq (N' := 8) hx hb hown (hts _ (w_X3_init_3)) ho hK hP hD hS hA (by decide) (by decide) (by decide) (Nat.le_of_ble_eq_true rfl) (Nat.le_of_ble_eq_true rfl) dX3_init_7 (fun qa cA H hK1 hP hD hS => ?_)
  have e1 : cA = g.2.2.2.2.2.2 := RA_uq (hK1.2 4 (cA, .object RX7) rfl).2 (hK.2 3 (g.2.2.2.2.2.2, .object "GrainBins$Store") rfl).2
  subst e1
  have hP : va_P (g.1, g.2.1) vwCl ((h0, .inr (3, [.null, .int 0, .int 0])) :: gb_aq8 g qa (fun _ => none) :: ([] : va_W)) H := hP
  have hD : va_D A ((h0, .inr (3, [.null, .int 0, .int 0])) :: gb_aq8 g qa (fun _ => none) :: ([] : va_W)) := hD
  refine va_putF (D := (g.1, g.2.1)) (ci := 3) (v := .ref qa) (ty := tyX3 0) (C := RX3) (T := TX3) (N := 3) hx hb hts winX3 tyX3 tyX3_ok nmX3 hown hK hP hD hS 0 rfl rfl 0 (by decide) (hts _ (w_X3_init_4)) (fun _ h9 => h9) rfl hin rfl (tyX3_ok 0 (by decide)) rfl rfl (Nat.le_of_ble_eq_true rfl) dX3_init_10 (fun H locs hP hD hS => ?_)
  have hP : va_P (g.1, g.2.1) vwCl ((h0, .inr (3, [.ref qa, .int 0, .int 0])) :: gb_aq8 g qa (fun _ => none) :: ([] : va_W)) H := hP
  have hD : va_D A ((h0, .inr (3, [.ref qa, .int 0, .int 0])) :: gb_aq8 g qa (fun _ => none) :: ([] : va_W)) := hD
  refine lv_iconst (v := 0) hx hb dX3_init_13 (by decide) ?_
  refine lv_istore_n (lv' := [(2, .int 0), (0, .ref h0), (1, .ref r)]) hx hb dX3_init_14 rfl hl (by decide) rfl (fun ls hl => ?_)
  refine lv_iload_n hx hb dX3_init_15 rfl (lv_at hl 0 rfl) ?_
  refine lv_bipush (v := 8) hx hb dX3_init_16 (by decide) ?_
  refine lv_icmp_ge (tgt := 41) hx hb dX3_init_18 (by decide) (fun c => absurd c (by decide)) (fun _ => ?_)
  refine lv_aload_n hx hb dX3_init_21 rfl (lv_at hl 1 rfl) ?_
  refine va_get (D := (g.1, g.2.1)) (ci := 3) (v := .ref qa) (C := RX3) (T := TX3) (N := 3) hx hb hts winX3 hown hK hP 0 rfl rfl 0 (by decide) (hts _ (w_X3_init_4)) (fun _ h9 => h9) rfl dX3_init_22 ?_
  refine lv_iload_n hx hb dX3_init_25 rfl (lv_at hl 0 rfl) ?_
  refine va_new (ci := 7) (fs := [.null, .null, .null, .null, .null, .null, .null, .null, .null, .int 0, .int 0]) (C := RX7) (T := TX7) (N := 11) hx hb hts winX7 tyX7 tyX7_ok hown (hts _ (w_X3_init_3)) (hts _ (w_X3_init_5)) (hts _ (w_X3_init_6)) hK hP hD hS hA rfl df_7 (Nat.le_of_ble_eq_true rfl) (Nat.le_of_ble_eq_true rfl) dX3_init_26 (fun o0 H hP hD hS => ?_)
  have hP : va_P (g.1, g.2.1) vwCl (((h0, .inr (3, [.ref qa, .int 0, .int 0])) :: gb_aq8 g qa (fun _ => none) :: ([] : va_W)) ++ [(o0, .inr (7, [.null, .null, .null, .null, .null, .null, .null, .null, .null, .int 0, .int 0]))]) H := hP
  have hD : va_D A (((h0, .inr (3, [.ref qa, .int 0, .int 0])) :: gb_aq8 g qa (fun _ => none) :: ([] : va_W)) ++ [(o0, .inr (7, [.null, .null, .null, .null, .null, .null, .null, .null, .null, .int 0, .int 0]))]) := hD
  refine lv_dup hx hb dX3_init_29 rfl ?_
  refine lv_aload_n hx hb dX3_init_30 rfl (lv_at hl 2 rfl) ?_
  refine lw_ctor (nL := 3) (ws := ((h0, .inr (3, [.ref qa, .int 0, .int 0])) :: gb_aq8 g qa (fun _ => none) :: ([] : va_W))) (As := [.ref (r)]) (rest := [.ref o0, .int 0, .ref qa]) hx hb hml hown hts hA hP hD hS (n_X7_init l g o0 (r) H.size) w4_X3_init_15 yok_7 ⟨rfl, rfl⟩ ⟨Nat.le_of_ble_eq_true rfl, Nat.le_of_ble_eq_true rfl⟩ ⟨Nat.le_of_ble_eq_true rfl, Nat.le_of_ble_eq_true rfl⟩ (pre_std hK hP hD) rfl hl.1 (Nat.le_of_ble_eq_true rfl) dX3_init_31 (fun u t _ h => o_w7 h) rfl (fun w1 H1 locs hw hP hD hS => ?_)
  obtain ⟨a0, rfl, rfl⟩ := hw
  generalize H1 = H at hP hS ⊢
  have hP : va_P (g.1, g.2.1) vwCl ((h0, .inr (3, [.ref qa, .int 0, .int 0])) :: gb_aq8 g qa (fun _ => none) :: (([] : va_W) ++ gb_w7 g (r) a0)) H := hP
  have hD : va_D A ((h0, .inr (3, [.ref qa, .int 0, .int 0])) :: gb_aq8 g qa (fun _ => none) :: (([] : va_W) ++ gb_w7 g (r) a0)) := hD
  refine va_astq (D := (g.1, g.2.1)) hx hb hK hP hD hS 1 3 2 7 rfl rfl rfl rfl (by unfold vp_in; decide) dX3_init_34 (fun H locs hP hD hS => ?_)
  have hP : va_P (g.1, g.2.1) vwCl ((h0, .inr (3, [.ref qa, .int 0, .int 0])) :: gb_aq8 g qa (va_up (fun _ => none) (0 : Int32).toNatClampNeg (some (a0 0))) :: (([] : va_W) ++ gb_w7 g (r) a0)) H := hP
  have hD : va_D A ((h0, .inr (3, [.ref qa, .int 0, .int 0])) :: gb_aq8 g qa (va_up (fun _ => none) (0 : Int32).toNatClampNeg (some (a0 0))) :: (([] : va_W) ++ gb_w7 g (r) a0)) := hD
  refine lv_iinc (v := 1) (lv' := [(2, .int 1), (0, .ref h0), (1, .ref r)]) hx hb dX3_init_35 hl (k := 0) rfl (by decide) (by decide) rfl (fun ls hl => ?_)
  refine lv_goto (tgt := 15) hx hb dX3_init_38 (by decide) ?_
  refine lv_iload_n hx hb dX3_init_15 rfl (lv_at hl 0 rfl) ?_
  refine lv_bipush (v := 8) hx hb dX3_init_16 (by decide) ?_
  refine lv_icmp_ge (tgt := 41) hx hb dX3_init_18 (by decide) (fun c => absurd c (by decide)) (fun _ => ?_)
  refine lv_aload_n hx hb dX3_init_21 rfl (lv_at hl 1 rfl) ?_
  refine va_get (D := (g.1, g.2.1)) (ci := 3) (v := .ref qa) (C := RX3) (T := TX3) (N := 3) hx hb hts winX3 hown hK hP 0 rfl rfl 0 (by decide) (hts _ (w_X3_init_4)) (fun _ h9 => h9) rfl dX3_init_22 ?_
  refine lv_iload_n hx hb dX3_init_25 rfl (lv_at hl 0 rfl) ?_
  refine va_new (ci := 7) (fs := [.null, .null, .null, .null, .null, .null, .null, .null, .null, .int 0, .int 0]) (C := RX7) (T := TX7) (N := 11) hx hb hts winX7 tyX7 tyX7_ok hown (hts _ (w_X3_init_3)) (hts _ (w_X3_init_5)) (hts _ (w_X3_init_6)) hK hP hD hS hA rfl df_7 (Nat.le_of_ble_eq_true rfl) (Nat.le_of_ble_eq_true rfl) dX3_init_26 (fun o1 H hP hD hS => ?_)
  have hP : va_P (g.1, g.2.1) vwCl (((h0, .inr (3, [.ref qa, .int 0, .int 0])) :: gb_aq8 g qa (va_up (fun _ => none) (0 : Int32).toNatClampNeg (some (a0 0))) :: (([] : va_W) ++ gb_w7 g (r) a0)) ++ [(o1, .inr (7, [.null, .null, .null, .null, .null, .null, .null, .null, .null, .int 0, .int 0]))]) H := hP
  have hD : va_D A (((h0, .inr (3, [.ref qa, .int 0, .int 0])) :: gb_aq8 g qa (va_up (fun _ => none) (0 : Int32).toNatClampNeg (some (a0 0))) :: (([] : va_W) ++ gb_w7 g (r) a0)) ++ [(o1, .inr (7, [.null, .null, .null, .null, .null, .null, .null, .null, .null, .int 0, .int 0]))]) := hD
  refine lv_dup hx hb dX3_init_29 rfl ?_
  refine lv_aload_n hx hb dX3_init_30 rfl (lv_at hl 2 rfl) ?_
  refine lw_ctor (nL := 3) (ws := ((h0, .inr (3, [.ref qa, .int 0, .int 0])) :: gb_aq8 g qa (va_up (fun _ => none) (0 : Int32).toNatClampNeg (some (a0 0))) :: (([] : va_W) ++ gb_w7 g (r) a0))) (As := [.ref (r)]) (rest := [.ref o1, .int 1, .ref qa]) hx hb hml hown hts hA hP hD hS (n_X7_init l g o1 (r) H.size) w4_X3_init_15 yok_7 ⟨rfl, rfl⟩ ⟨Nat.le_of_ble_eq_true rfl, Nat.le_of_ble_eq_true rfl⟩ ⟨Nat.le_of_ble_eq_true rfl, Nat.le_of_ble_eq_true rfl⟩ (pre_std hK hP hD) rfl hl.1 (Nat.le_of_ble_eq_true rfl) dX3_init_31 (fun u t _ h => o_w7 h) rfl (fun w1 H1 locs hw hP hD hS => ?_)
  obtain ⟨a1, rfl, rfl⟩ := hw
  generalize H1 = H at hP hS ⊢
  have hP : va_P (g.1, g.2.1) vwCl ((h0, .inr (3, [.ref qa, .int 0, .int 0])) :: gb_aq8 g qa (va_up (fun _ => none) (0 : Int32).toNatClampNeg (some (a0 0))) :: ((([] : va_W) ++ gb_w7 g (r) a0) ++ gb_w7 g (r) a1)) H := hP
  have hD : va_D A ((h0, .inr (3, [.ref qa, .int 0, .int 0])) :: gb_aq8 g qa (va_up (fun _ => none) (0 : Int32).toNatClampNeg (some (a0 0))) :: ((([] : va_W) ++ gb_w7 g (r) a0) ++ gb_w7 g (r) a1)) := hD
  refine va_astq (D := (g.1, g.2.1)) hx hb hK hP hD hS 1 3 11 7 rfl rfl rfl rfl (by unfold vp_in; decide) dX3_init_34 (fun H locs hP hD hS => ?_)
  have hP : va_P (g.1, g.2.1) vwCl ((h0, .inr (3, [.ref qa, .int 0, .int 0])) :: gb_aq8 g qa (va_up (va_up (fun _ => none) (0 : Int32).toNatClampNeg (some (a0 0))) (1 : Int32).toNatClampNeg (some (a1 0))) :: ((([] : va_W) ++ gb_w7 g (r) a0) ++ gb_w7 g (r) a1)) H := hP
  have hD : va_D A ((h0, .inr (3, [.ref qa, .int 0, .int 0])) :: gb_aq8 g qa (va_up (va_up (fun _ => none) (0 : Int32).toNatClampNeg (some (a0 0))) (1 : Int32).toNatClampNeg (some (a1 0))) :: ((([] : va_W) ++ gb_w7 g (r) a0) ++ gb_w7 g (r) a1)) := hD
  refine lv_iinc (v := 2) (lv' := [(2, .int 2), (0, .ref h0), (1, .ref r)]) hx hb dX3_init_35 hl (k := 0) rfl (by decide) (by decide) rfl (fun ls hl => ?_)
  refine lv_goto (tgt := 15) hx hb dX3_init_38 (by decide) ?_
  refine lv_iload_n hx hb dX3_init_15 rfl (lv_at hl 0 rfl) ?_
  refine lv_bipush (v := 8) hx hb dX3_init_16 (by decide) ?_
  refine lv_icmp_ge (tgt := 41) hx hb dX3_init_18 (by decide) (fun c => absurd c (by decide)) (fun _ => ?_)
  refine lv_aload_n hx hb dX3_init_21 rfl (lv_at hl 1 rfl) ?_
  refine va_get (D := (g.1, g.2.1)) (ci := 3) (v := .ref qa) (C := RX3) (T := TX3) (N := 3) hx hb hts winX3 hown hK hP 0 rfl rfl 0 (by decide) (hts _ (w_X3_init_4)) (fun _ h9 => h9) rfl dX3_init_22 ?_
  refine lv_iload_n hx hb dX3_init_25 rfl (lv_at hl 0 rfl) ?_
  refine va_new (ci := 7) (fs := [.null, .null, .null, .null, .null, .null, .null, .null, .null, .int 0, .int 0]) (C := RX7) (T := TX7) (N := 11) hx hb hts winX7 tyX7 tyX7_ok hown (hts _ (w_X3_init_3)) (hts _ (w_X3_init_5)) (hts _ (w_X3_init_6)) hK hP hD hS hA rfl df_7 (Nat.le_of_ble_eq_true rfl) (Nat.le_of_ble_eq_true rfl) dX3_init_26 (fun o2 H hP hD hS => ?_)
  have hP : va_P (g.1, g.2.1) vwCl (((h0, .inr (3, [.ref qa, .int 0, .int 0])) :: gb_aq8 g qa (va_up (va_up (fun _ => none) (0 : Int32).toNatClampNeg (some (a0 0))) (1 : Int32).toNatClampNeg (some (a1 0))) :: ((([] : va_W) ++ gb_w7 g (r) a0) ++ gb_w7 g (r) a1)) ++ [(o2, .inr (7, [.null, .null, .null, .null, .null, .null, .null, .null, .null, .int 0, .int 0]))]) H := hP
  have hD : va_D A (((h0, .inr (3, [.ref qa, .int 0, .int 0])) :: gb_aq8 g qa (va_up (va_up (fun _ => none) (0 : Int32).toNatClampNeg (some (a0 0))) (1 : Int32).toNatClampNeg (some (a1 0))) :: ((([] : va_W) ++ gb_w7 g (r) a0) ++ gb_w7 g (r) a1)) ++ [(o2, .inr (7, [.null, .null, .null, .null, .null, .null, .null, .null, .null, .int 0, .int 0]))]) := hD
  refine lv_dup hx hb dX3_init_29 rfl ?_
  refine lv_aload_n hx hb dX3_init_30 rfl (lv_at hl 2 rfl) ?_
  refine lw_ctor (nL := 3) (ws := ((h0, .inr (3, [.ref qa, .int 0, .int 0])) :: gb_aq8 g qa (va_up (va_up (fun _ => none) (0 : Int32).toNatClampNeg (some (a0 0))) (1 : Int32).toNatClampNeg (some (a1 0))) :: ((([] : va_W) ++ gb_w7 g (r) a0) ++ gb_w7 g (r) a1))) (As := [.ref (r)]) (rest := [.ref o2, .int 2, .ref qa]) hx hb hml hown hts hA hP hD hS (n_X7_init l g o2 (r) H.size) w4_X3_init_15 yok_7 ⟨rfl, rfl⟩ ⟨Nat.le_of_ble_eq_true rfl, Nat.le_of_ble_eq_true rfl⟩ ⟨Nat.le_of_ble_eq_true rfl, Nat.le_of_ble_eq_true rfl⟩ (pre_std hK hP hD) rfl hl.1 (Nat.le_of_ble_eq_true rfl) dX3_init_31 (fun u t _ h => o_w7 h) rfl (fun w1 H1 locs hw hP hD hS => ?_)
  obtain ⟨a2, rfl, rfl⟩ := hw
  generalize H1 = H at hP hS ⊢
  have hP : va_P (g.1, g.2.1) vwCl ((h0, .inr (3, [.ref qa, .int 0, .int 0])) :: gb_aq8 g qa (va_up (va_up (fun _ => none) (0 : Int32).toNatClampNeg (some (a0 0))) (1 : Int32).toNatClampNeg (some (a1 0))) :: (((([] : va_W) ++ gb_w7 g (r) a0) ++ gb_w7 g (r) a1) ++ gb_w7 g (r) a2)) H := hP
  have hD : va_D A ((h0, .inr (3, [.ref qa, .int 0, .int 0])) :: gb_aq8 g qa (va_up (va_up (fun _ => none) (0 : Int32).toNatClampNeg (some (a0 0))) (1 : Int32).toNatClampNeg (some (a1 0))) :: (((([] : va_W) ++ gb_w7 g (r) a0) ++ gb_w7 g (r) a1) ++ gb_w7 g (r) a2)) := hD
  refine va_astq (D := (g.1, g.2.1)) hx hb hK hP hD hS 1 3 20 7 rfl rfl rfl rfl (by unfold vp_in; decide) dX3_init_34 (fun H locs hP hD hS => ?_)
  have hP : va_P (g.1, g.2.1) vwCl ((h0, .inr (3, [.ref qa, .int 0, .int 0])) :: gb_aq8 g qa (va_up (va_up (va_up (fun _ => none) (0 : Int32).toNatClampNeg (some (a0 0))) (1 : Int32).toNatClampNeg (some (a1 0))) (2 : Int32).toNatClampNeg (some (a2 0))) :: (((([] : va_W) ++ gb_w7 g (r) a0) ++ gb_w7 g (r) a1) ++ gb_w7 g (r) a2)) H := hP
  have hD : va_D A ((h0, .inr (3, [.ref qa, .int 0, .int 0])) :: gb_aq8 g qa (va_up (va_up (va_up (fun _ => none) (0 : Int32).toNatClampNeg (some (a0 0))) (1 : Int32).toNatClampNeg (some (a1 0))) (2 : Int32).toNatClampNeg (some (a2 0))) :: (((([] : va_W) ++ gb_w7 g (r) a0) ++ gb_w7 g (r) a1) ++ gb_w7 g (r) a2)) := hD
  refine lv_iinc (v := 3) (lv' := [(2, .int 3), (0, .ref h0), (1, .ref r)]) hx hb dX3_init_35 hl (k := 0) rfl (by decide) (by decide) rfl (fun ls hl => ?_)
  refine lv_goto (tgt := 15) hx hb dX3_init_38 (by decide) ?_
  refine lv_iload_n hx hb dX3_init_15 rfl (lv_at hl 0 rfl) ?_
  refine lv_bipush (v := 8) hx hb dX3_init_16 (by decide) ?_
  refine lv_icmp_ge (tgt := 41) hx hb dX3_init_18 (by decide) (fun c => absurd c (by decide)) (fun _ => ?_)
  refine lv_aload_n hx hb dX3_init_21 rfl (lv_at hl 1 rfl) ?_
  refine va_get (D := (g.1, g.2.1)) (ci := 3) (v := .ref qa) (C := RX3) (T := TX3) (N := 3) hx hb hts winX3 hown hK hP 0 rfl rfl 0 (by decide) (hts _ (w_X3_init_4)) (fun _ h9 => h9) rfl dX3_init_22 ?_
  refine lv_iload_n hx hb dX3_init_25 rfl (lv_at hl 0 rfl) ?_
  refine va_new (ci := 7) (fs := [.null, .null, .null, .null, .null, .null, .null, .null, .null, .int 0, .int 0]) (C := RX7) (T := TX7) (N := 11) hx hb hts winX7 tyX7 tyX7_ok hown (hts _ (w_X3_init_3)) (hts _ (w_X3_init_5)) (hts _ (w_X3_init_6)) hK hP hD hS hA rfl df_7 (Nat.le_of_ble_eq_true rfl) (Nat.le_of_ble_eq_true rfl) dX3_init_26 (fun o3 H hP hD hS => ?_)
  have hP : va_P (g.1, g.2.1) vwCl (((h0, .inr (3, [.ref qa, .int 0, .int 0])) :: gb_aq8 g qa (va_up (va_up (va_up (fun _ => none) (0 : Int32).toNatClampNeg (some (a0 0))) (1 : Int32).toNatClampNeg (some (a1 0))) (2 : Int32).toNatClampNeg (some (a2 0))) :: (((([] : va_W) ++ gb_w7 g (r) a0) ++ gb_w7 g (r) a1) ++ gb_w7 g (r) a2)) ++ [(o3, .inr (7, [.null, .null, .null, .null, .null, .null, .null, .null, .null, .int 0, .int 0]))]) H := hP
  have hD : va_D A (((h0, .inr (3, [.ref qa, .int 0, .int 0])) :: gb_aq8 g qa (va_up (va_up (va_up (fun _ => none) (0 : Int32).toNatClampNeg (some (a0 0))) (1 : Int32).toNatClampNeg (some (a1 0))) (2 : Int32).toNatClampNeg (some (a2 0))) :: (((([] : va_W) ++ gb_w7 g (r) a0) ++ gb_w7 g (r) a1) ++ gb_w7 g (r) a2)) ++ [(o3, .inr (7, [.null, .null, .null, .null, .null, .null, .null, .null, .null, .int 0, .int 0]))]) := hD
  refine lv_dup hx hb dX3_init_29 rfl ?_
  refine lv_aload_n hx hb dX3_init_30 rfl (lv_at hl 2 rfl) ?_
  refine lw_ctor (nL := 3) (ws := ((h0, .inr (3, [.ref qa, .int 0, .int 0])) :: gb_aq8 g qa (va_up (va_up (va_up (fun _ => none) (0 : Int32).toNatClampNeg (some (a0 0))) (1 : Int32).toNatClampNeg (some (a1 0))) (2 : Int32).toNatClampNeg (some (a2 0))) :: (((([] : va_W) ++ gb_w7 g (r) a0) ++ gb_w7 g (r) a1) ++ gb_w7 g (r) a2))) (As := [.ref (r)]) (rest := [.ref o3, .int 3, .ref qa]) hx hb hml hown hts hA hP hD hS (n_X7_init l g o3 (r) H.size) w4_X3_init_15 yok_7 ⟨rfl, rfl⟩ ⟨Nat.le_of_ble_eq_true rfl, Nat.le_of_ble_eq_true rfl⟩ ⟨Nat.le_of_ble_eq_true rfl, Nat.le_of_ble_eq_true rfl⟩ (pre_std hK hP hD) rfl hl.1 (Nat.le_of_ble_eq_true rfl) dX3_init_31 (fun u t _ h => o_w7 h) rfl (fun w1 H1 locs hw hP hD hS => ?_)
  obtain ⟨a3, rfl, rfl⟩ := hw
  generalize H1 = H at hP hS ⊢
  have hP : va_P (g.1, g.2.1) vwCl ((h0, .inr (3, [.ref qa, .int 0, .int 0])) :: gb_aq8 g qa (va_up (va_up (va_up (fun _ => none) (0 : Int32).toNatClampNeg (some (a0 0))) (1 : Int32).toNatClampNeg (some (a1 0))) (2 : Int32).toNatClampNeg (some (a2 0))) :: ((((([] : va_W) ++ gb_w7 g (r) a0) ++ gb_w7 g (r) a1) ++ gb_w7 g (r) a2) ++ gb_w7 g (r) a3)) H := hP
  have hD : va_D A ((h0, .inr (3, [.ref qa, .int 0, .int 0])) :: gb_aq8 g qa (va_up (va_up (va_up (fun _ => none) (0 : Int32).toNatClampNeg (some (a0 0))) (1 : Int32).toNatClampNeg (some (a1 0))) (2 : Int32).toNatClampNeg (some (a2 0))) :: ((((([] : va_W) ++ gb_w7 g (r) a0) ++ gb_w7 g (r) a1) ++ gb_w7 g (r) a2) ++ gb_w7 g (r) a3)) := hD
  refine va_astq (D := (g.1, g.2.1)) hx hb hK hP hD hS 1 3 29 7 rfl rfl rfl rfl (by unfold vp_in; decide) dX3_init_34 (fun H locs hP hD hS => ?_)
  have hP : va_P (g.1, g.2.1) vwCl ((h0, .inr (3, [.ref qa, .int 0, .int 0])) :: gb_aq8 g qa (va_up (va_up (va_up (va_up (fun _ => none) (0 : Int32).toNatClampNeg (some (a0 0))) (1 : Int32).toNatClampNeg (some (a1 0))) (2 : Int32).toNatClampNeg (some (a2 0))) (3 : Int32).toNatClampNeg (some (a3 0))) :: ((((([] : va_W) ++ gb_w7 g (r) a0) ++ gb_w7 g (r) a1) ++ gb_w7 g (r) a2) ++ gb_w7 g (r) a3)) H := hP
  have hD : va_D A ((h0, .inr (3, [.ref qa, .int 0, .int 0])) :: gb_aq8 g qa (va_up (va_up (va_up (va_up (fun _ => none) (0 : Int32).toNatClampNeg (some (a0 0))) (1 : Int32).toNatClampNeg (some (a1 0))) (2 : Int32).toNatClampNeg (some (a2 0))) (3 : Int32).toNatClampNeg (some (a3 0))) :: ((((([] : va_W) ++ gb_w7 g (r) a0) ++ gb_w7 g (r) a1) ++ gb_w7 g (r) a2) ++ gb_w7 g (r) a3)) := hD
  refine lv_iinc (v := 4) (lv' := [(2, .int 4), (0, .ref h0), (1, .ref r)]) hx hb dX3_init_35 hl (k := 0) rfl (by decide) (by decide) rfl (fun ls hl => ?_)
  refine lv_goto (tgt := 15) hx hb dX3_init_38 (by decide) ?_
  refine lv_iload_n hx hb dX3_init_15 rfl (lv_at hl 0 rfl) ?_
  refine lv_bipush (v := 8) hx hb dX3_init_16 (by decide) ?_
  refine lv_icmp_ge (tgt := 41) hx hb dX3_init_18 (by decide) (fun c => absurd c (by decide)) (fun _ => ?_)
  refine lv_aload_n hx hb dX3_init_21 rfl (lv_at hl 1 rfl) ?_
  refine va_get (D := (g.1, g.2.1)) (ci := 3) (v := .ref qa) (C := RX3) (T := TX3) (N := 3) hx hb hts winX3 hown hK hP 0 rfl rfl 0 (by decide) (hts _ (w_X3_init_4)) (fun _ h9 => h9) rfl dX3_init_22 ?_
  refine lv_iload_n hx hb dX3_init_25 rfl (lv_at hl 0 rfl) ?_
  refine va_new (ci := 7) (fs := [.null, .null, .null, .null, .null, .null, .null, .null, .null, .int 0, .int 0]) (C := RX7) (T := TX7) (N := 11) hx hb hts winX7 tyX7 tyX7_ok hown (hts _ (w_X3_init_3)) (hts _ (w_X3_init_5)) (hts _ (w_X3_init_6)) hK hP hD hS hA rfl df_7 (Nat.le_of_ble_eq_true rfl) (Nat.le_of_ble_eq_true rfl) dX3_init_26 (fun o4 H hP hD hS => ?_)
  have hP : va_P (g.1, g.2.1) vwCl (((h0, .inr (3, [.ref qa, .int 0, .int 0])) :: gb_aq8 g qa (va_up (va_up (va_up (va_up (fun _ => none) (0 : Int32).toNatClampNeg (some (a0 0))) (1 : Int32).toNatClampNeg (some (a1 0))) (2 : Int32).toNatClampNeg (some (a2 0))) (3 : Int32).toNatClampNeg (some (a3 0))) :: ((((([] : va_W) ++ gb_w7 g (r) a0) ++ gb_w7 g (r) a1) ++ gb_w7 g (r) a2) ++ gb_w7 g (r) a3)) ++ [(o4, .inr (7, [.null, .null, .null, .null, .null, .null, .null, .null, .null, .int 0, .int 0]))]) H := hP
  have hD : va_D A (((h0, .inr (3, [.ref qa, .int 0, .int 0])) :: gb_aq8 g qa (va_up (va_up (va_up (va_up (fun _ => none) (0 : Int32).toNatClampNeg (some (a0 0))) (1 : Int32).toNatClampNeg (some (a1 0))) (2 : Int32).toNatClampNeg (some (a2 0))) (3 : Int32).toNatClampNeg (some (a3 0))) :: ((((([] : va_W) ++ gb_w7 g (r) a0) ++ gb_w7 g (r) a1) ++ gb_w7 g (r) a2) ++ gb_w7 g (r) a3)) ++ [(o4, .inr (7, [.null, .null, .null, .null, .null, .null, .null, .null, .null, .int 0, .int 0]))]) := hD
  refine lv_dup hx hb dX3_init_29 rfl ?_
  refine lv_aload_n hx hb dX3_init_30 rfl (lv_at hl 2 rfl) ?_
  refine lw_ctor (nL := 3) (ws := ((h0, .inr (3, [.ref qa, .int 0, .int 0])) :: gb_aq8 g qa (va_up (va_up (va_up (va_up (fun _ => none) (0 : Int32).toNatClampNeg (some (a0 0))) (1 : Int32).toNatClampNeg (some (a1 0))) (2 : Int32).toNatClampNeg (some (a2 0))) (3 : Int32).toNatClampNeg (some (a3 0))) :: ((((([] : va_W) ++ gb_w7 g (r) a0) ++ gb_w7 g (r) a1) ++ gb_w7 g (r) a2) ++ gb_w7 g (r) a3))) (As := [.ref (r)]) (rest := [.ref o4, .int 4, .ref qa]) hx hb hml hown hts hA hP hD hS (n_X7_init l g o4 (r) H.size) w4_X3_init_15 yok_7 ⟨rfl, rfl⟩ ⟨Nat.le_of_ble_eq_true rfl, Nat.le_of_ble_eq_true rfl⟩ ⟨Nat.le_of_ble_eq_true rfl, Nat.le_of_ble_eq_true rfl⟩ (pre_std hK hP hD) rfl hl.1 (Nat.le_of_ble_eq_true rfl) dX3_init_31 (fun u t _ h => o_w7 h) rfl (fun w1 H1 locs hw hP hD hS => ?_)
  obtain ⟨a4, rfl, rfl⟩ := hw
  generalize H1 = H at hP hS ⊢
  have hP : va_P (g.1, g.2.1) vwCl ((h0, .inr (3, [.ref qa, .int 0, .int 0])) :: gb_aq8 g qa (va_up (va_up (va_up (va_up (fun _ => none) (0 : Int32).toNatClampNeg (some (a0 0))) (1 : Int32).toNatClampNeg (some (a1 0))) (2 : Int32).toNatClampNeg (some (a2 0))) (3 : Int32).toNatClampNeg (some (a3 0))) :: (((((([] : va_W) ++ gb_w7 g (r) a0) ++ gb_w7 g (r) a1) ++ gb_w7 g (r) a2) ++ gb_w7 g (r) a3) ++ gb_w7 g (r) a4)) H := hP
  have hD : va_D A ((h0, .inr (3, [.ref qa, .int 0, .int 0])) :: gb_aq8 g qa (va_up (va_up (va_up (va_up (fun _ => none) (0 : Int32).toNatClampNeg (some (a0 0))) (1 : Int32).toNatClampNeg (some (a1 0))) (2 : Int32).toNatClampNeg (some (a2 0))) (3 : Int32).toNatClampNeg (some (a3 0))) :: (((((([] : va_W) ++ gb_w7 g (r) a0) ++ gb_w7 g (r) a1) ++ gb_w7 g (r) a2) ++ gb_w7 g (r) a3) ++ gb_w7 g (r) a4)) := hD
  refine va_astq (D := (g.1, g.2.1)) hx hb hK hP hD hS 1 3 38 7 rfl rfl rfl rfl (by unfold vp_in; decide) dX3_init_34 (fun H locs hP hD hS => ?_)
  have hP : va_P (g.1, g.2.1) vwCl ((h0, .inr (3, [.ref qa, .int 0, .int 0])) :: gb_aq8 g qa (va_up (va_up (va_up (va_up (va_up (fun _ => none) (0 : Int32).toNatClampNeg (some (a0 0))) (1 : Int32).toNatClampNeg (some (a1 0))) (2 : Int32).toNatClampNeg (some (a2 0))) (3 : Int32).toNatClampNeg (some (a3 0))) (4 : Int32).toNatClampNeg (some (a4 0))) :: (((((([] : va_W) ++ gb_w7 g (r) a0) ++ gb_w7 g (r) a1) ++ gb_w7 g (r) a2) ++ gb_w7 g (r) a3) ++ gb_w7 g (r) a4)) H := hP
  have hD : va_D A ((h0, .inr (3, [.ref qa, .int 0, .int 0])) :: gb_aq8 g qa (va_up (va_up (va_up (va_up (va_up (fun _ => none) (0 : Int32).toNatClampNeg (some (a0 0))) (1 : Int32).toNatClampNeg (some (a1 0))) (2 : Int32).toNatClampNeg (some (a2 0))) (3 : Int32).toNatClampNeg (some (a3 0))) (4 : Int32).toNatClampNeg (some (a4 0))) :: (((((([] : va_W) ++ gb_w7 g (r) a0) ++ gb_w7 g (r) a1) ++ gb_w7 g (r) a2) ++ gb_w7 g (r) a3) ++ gb_w7 g (r) a4)) := hD
  refine lv_iinc (v := 5) (lv' := [(2, .int 5), (0, .ref h0), (1, .ref r)]) hx hb dX3_init_35 hl (k := 0) rfl (by decide) (by decide) rfl (fun ls hl => ?_)
  refine lv_goto (tgt := 15) hx hb dX3_init_38 (by decide) ?_
  refine lv_iload_n hx hb dX3_init_15 rfl (lv_at hl 0 rfl) ?_
  refine lv_bipush (v := 8) hx hb dX3_init_16 (by decide) ?_
  refine lv_icmp_ge (tgt := 41) hx hb dX3_init_18 (by decide) (fun c => absurd c (by decide)) (fun _ => ?_)
  refine lv_aload_n hx hb dX3_init_21 rfl (lv_at hl 1 rfl) ?_
  refine va_get (D := (g.1, g.2.1)) (ci := 3) (v := .ref qa) (C := RX3) (T := TX3) (N := 3) hx hb hts winX3 hown hK hP 0 rfl rfl 0 (by decide) (hts _ (w_X3_init_4)) (fun _ h9 => h9) rfl dX3_init_22 ?_
  refine lv_iload_n hx hb dX3_init_25 rfl (lv_at hl 0 rfl) ?_
  refine va_new (ci := 7) (fs := [.null, .null, .null, .null, .null, .null, .null, .null, .null, .int 0, .int 0]) (C := RX7) (T := TX7) (N := 11) hx hb hts winX7 tyX7 tyX7_ok hown (hts _ (w_X3_init_3)) (hts _ (w_X3_init_5)) (hts _ (w_X3_init_6)) hK hP hD hS hA rfl df_7 (Nat.le_of_ble_eq_true rfl) (Nat.le_of_ble_eq_true rfl) dX3_init_26 (fun o5 H hP hD hS => ?_)
  have hP : va_P (g.1, g.2.1) vwCl (((h0, .inr (3, [.ref qa, .int 0, .int 0])) :: gb_aq8 g qa (va_up (va_up (va_up (va_up (va_up (fun _ => none) (0 : Int32).toNatClampNeg (some (a0 0))) (1 : Int32).toNatClampNeg (some (a1 0))) (2 : Int32).toNatClampNeg (some (a2 0))) (3 : Int32).toNatClampNeg (some (a3 0))) (4 : Int32).toNatClampNeg (some (a4 0))) :: (((((([] : va_W) ++ gb_w7 g (r) a0) ++ gb_w7 g (r) a1) ++ gb_w7 g (r) a2) ++ gb_w7 g (r) a3) ++ gb_w7 g (r) a4)) ++ [(o5, .inr (7, [.null, .null, .null, .null, .null, .null, .null, .null, .null, .int 0, .int 0]))]) H := hP
  have hD : va_D A (((h0, .inr (3, [.ref qa, .int 0, .int 0])) :: gb_aq8 g qa (va_up (va_up (va_up (va_up (va_up (fun _ => none) (0 : Int32).toNatClampNeg (some (a0 0))) (1 : Int32).toNatClampNeg (some (a1 0))) (2 : Int32).toNatClampNeg (some (a2 0))) (3 : Int32).toNatClampNeg (some (a3 0))) (4 : Int32).toNatClampNeg (some (a4 0))) :: (((((([] : va_W) ++ gb_w7 g (r) a0) ++ gb_w7 g (r) a1) ++ gb_w7 g (r) a2) ++ gb_w7 g (r) a3) ++ gb_w7 g (r) a4)) ++ [(o5, .inr (7, [.null, .null, .null, .null, .null, .null, .null, .null, .null, .int 0, .int 0]))]) := hD
  refine lv_dup hx hb dX3_init_29 rfl ?_
  refine lv_aload_n hx hb dX3_init_30 rfl (lv_at hl 2 rfl) ?_
  refine lw_ctor (nL := 3) (ws := ((h0, .inr (3, [.ref qa, .int 0, .int 0])) :: gb_aq8 g qa (va_up (va_up (va_up (va_up (va_up (fun _ => none) (0 : Int32).toNatClampNeg (some (a0 0))) (1 : Int32).toNatClampNeg (some (a1 0))) (2 : Int32).toNatClampNeg (some (a2 0))) (3 : Int32).toNatClampNeg (some (a3 0))) (4 : Int32).toNatClampNeg (some (a4 0))) :: (((((([] : va_W) ++ gb_w7 g (r) a0) ++ gb_w7 g (r) a1) ++ gb_w7 g (r) a2) ++ gb_w7 g (r) a3) ++ gb_w7 g (r) a4))) (As := [.ref (r)]) (rest := [.ref o5, .int 5, .ref qa]) hx hb hml hown hts hA hP hD hS (n_X7_init l g o5 (r) H.size) w4_X3_init_15 yok_7 ⟨rfl, rfl⟩ ⟨Nat.le_of_ble_eq_true rfl, Nat.le_of_ble_eq_true rfl⟩ ⟨Nat.le_of_ble_eq_true rfl, Nat.le_of_ble_eq_true rfl⟩ (pre_std hK hP hD) rfl hl.1 (Nat.le_of_ble_eq_true rfl) dX3_init_31 (fun u t _ h => o_w7 h) rfl (fun w1 H1 locs hw hP hD hS => ?_)
  obtain ⟨a5, rfl, rfl⟩ := hw
  generalize H1 = H at hP hS ⊢
  have hP : va_P (g.1, g.2.1) vwCl ((h0, .inr (3, [.ref qa, .int 0, .int 0])) :: gb_aq8 g qa (va_up (va_up (va_up (va_up (va_up (fun _ => none) (0 : Int32).toNatClampNeg (some (a0 0))) (1 : Int32).toNatClampNeg (some (a1 0))) (2 : Int32).toNatClampNeg (some (a2 0))) (3 : Int32).toNatClampNeg (some (a3 0))) (4 : Int32).toNatClampNeg (some (a4 0))) :: ((((((([] : va_W) ++ gb_w7 g (r) a0) ++ gb_w7 g (r) a1) ++ gb_w7 g (r) a2) ++ gb_w7 g (r) a3) ++ gb_w7 g (r) a4) ++ gb_w7 g (r) a5)) H := hP
  have hD : va_D A ((h0, .inr (3, [.ref qa, .int 0, .int 0])) :: gb_aq8 g qa (va_up (va_up (va_up (va_up (va_up (fun _ => none) (0 : Int32).toNatClampNeg (some (a0 0))) (1 : Int32).toNatClampNeg (some (a1 0))) (2 : Int32).toNatClampNeg (some (a2 0))) (3 : Int32).toNatClampNeg (some (a3 0))) (4 : Int32).toNatClampNeg (some (a4 0))) :: ((((((([] : va_W) ++ gb_w7 g (r) a0) ++ gb_w7 g (r) a1) ++ gb_w7 g (r) a2) ++ gb_w7 g (r) a3) ++ gb_w7 g (r) a4) ++ gb_w7 g (r) a5)) := hD
  refine va_astq (D := (g.1, g.2.1)) hx hb hK hP hD hS 1 3 47 7 rfl rfl rfl rfl (by unfold vp_in; decide) dX3_init_34 (fun H locs hP hD hS => ?_)
  have hP : va_P (g.1, g.2.1) vwCl ((h0, .inr (3, [.ref qa, .int 0, .int 0])) :: gb_aq8 g qa (va_up (va_up (va_up (va_up (va_up (va_up (fun _ => none) (0 : Int32).toNatClampNeg (some (a0 0))) (1 : Int32).toNatClampNeg (some (a1 0))) (2 : Int32).toNatClampNeg (some (a2 0))) (3 : Int32).toNatClampNeg (some (a3 0))) (4 : Int32).toNatClampNeg (some (a4 0))) (5 : Int32).toNatClampNeg (some (a5 0))) :: ((((((([] : va_W) ++ gb_w7 g (r) a0) ++ gb_w7 g (r) a1) ++ gb_w7 g (r) a2) ++ gb_w7 g (r) a3) ++ gb_w7 g (r) a4) ++ gb_w7 g (r) a5)) H := hP
  have hD : va_D A ((h0, .inr (3, [.ref qa, .int 0, .int 0])) :: gb_aq8 g qa (va_up (va_up (va_up (va_up (va_up (va_up (fun _ => none) (0 : Int32).toNatClampNeg (some (a0 0))) (1 : Int32).toNatClampNeg (some (a1 0))) (2 : Int32).toNatClampNeg (some (a2 0))) (3 : Int32).toNatClampNeg (some (a3 0))) (4 : Int32).toNatClampNeg (some (a4 0))) (5 : Int32).toNatClampNeg (some (a5 0))) :: ((((((([] : va_W) ++ gb_w7 g (r) a0) ++ gb_w7 g (r) a1) ++ gb_w7 g (r) a2) ++ gb_w7 g (r) a3) ++ gb_w7 g (r) a4) ++ gb_w7 g (r) a5)) := hD
  refine lv_iinc (v := 6) (lv' := [(2, .int 6), (0, .ref h0), (1, .ref r)]) hx hb dX3_init_35 hl (k := 0) rfl (by decide) (by decide) rfl (fun ls hl => ?_)
  refine lv_goto (tgt := 15) hx hb dX3_init_38 (by decide) ?_
  refine lv_iload_n hx hb dX3_init_15 rfl (lv_at hl 0 rfl) ?_
  refine lv_bipush (v := 8) hx hb dX3_init_16 (by decide) ?_
  refine lv_icmp_ge (tgt := 41) hx hb dX3_init_18 (by decide) (fun c => absurd c (by decide)) (fun _ => ?_)
  refine lv_aload_n hx hb dX3_init_21 rfl (lv_at hl 1 rfl) ?_
  refine va_get (D := (g.1, g.2.1)) (ci := 3) (v := .ref qa) (C := RX3) (T := TX3) (N := 3) hx hb hts winX3 hown hK hP 0 rfl rfl 0 (by decide) (hts _ (w_X3_init_4)) (fun _ h9 => h9) rfl dX3_init_22 ?_
  refine lv_iload_n hx hb dX3_init_25 rfl (lv_at hl 0 rfl) ?_
  refine va_new (ci := 7) (fs := [.null, .null, .null, .null, .null, .null, .null, .null, .null, .int 0, .int 0]) (C := RX7) (T := TX7) (N := 11) hx hb hts winX7 tyX7 tyX7_ok hown (hts _ (w_X3_init_3)) (hts _ (w_X3_init_5)) (hts _ (w_X3_init_6)) hK hP hD hS hA rfl df_7 (Nat.le_of_ble_eq_true rfl) (Nat.le_of_ble_eq_true rfl) dX3_init_26 (fun o6 H hP hD hS => ?_)
  have hP : va_P (g.1, g.2.1) vwCl (((h0, .inr (3, [.ref qa, .int 0, .int 0])) :: gb_aq8 g qa (va_up (va_up (va_up (va_up (va_up (va_up (fun _ => none) (0 : Int32).toNatClampNeg (some (a0 0))) (1 : Int32).toNatClampNeg (some (a1 0))) (2 : Int32).toNatClampNeg (some (a2 0))) (3 : Int32).toNatClampNeg (some (a3 0))) (4 : Int32).toNatClampNeg (some (a4 0))) (5 : Int32).toNatClampNeg (some (a5 0))) :: ((((((([] : va_W) ++ gb_w7 g (r) a0) ++ gb_w7 g (r) a1) ++ gb_w7 g (r) a2) ++ gb_w7 g (r) a3) ++ gb_w7 g (r) a4) ++ gb_w7 g (r) a5)) ++ [(o6, .inr (7, [.null, .null, .null, .null, .null, .null, .null, .null, .null, .int 0, .int 0]))]) H := hP
  have hD : va_D A (((h0, .inr (3, [.ref qa, .int 0, .int 0])) :: gb_aq8 g qa (va_up (va_up (va_up (va_up (va_up (va_up (fun _ => none) (0 : Int32).toNatClampNeg (some (a0 0))) (1 : Int32).toNatClampNeg (some (a1 0))) (2 : Int32).toNatClampNeg (some (a2 0))) (3 : Int32).toNatClampNeg (some (a3 0))) (4 : Int32).toNatClampNeg (some (a4 0))) (5 : Int32).toNatClampNeg (some (a5 0))) :: ((((((([] : va_W) ++ gb_w7 g (r) a0) ++ gb_w7 g (r) a1) ++ gb_w7 g (r) a2) ++ gb_w7 g (r) a3) ++ gb_w7 g (r) a4) ++ gb_w7 g (r) a5)) ++ [(o6, .inr (7, [.null, .null, .null, .null, .null, .null, .null, .null, .null, .int 0, .int 0]))]) := hD
  refine lv_dup hx hb dX3_init_29 rfl ?_
  refine lv_aload_n hx hb dX3_init_30 rfl (lv_at hl 2 rfl) ?_
  refine lw_ctor (nL := 3) (ws := ((h0, .inr (3, [.ref qa, .int 0, .int 0])) :: gb_aq8 g qa (va_up (va_up (va_up (va_up (va_up (va_up (fun _ => none) (0 : Int32).toNatClampNeg (some (a0 0))) (1 : Int32).toNatClampNeg (some (a1 0))) (2 : Int32).toNatClampNeg (some (a2 0))) (3 : Int32).toNatClampNeg (some (a3 0))) (4 : Int32).toNatClampNeg (some (a4 0))) (5 : Int32).toNatClampNeg (some (a5 0))) :: ((((((([] : va_W) ++ gb_w7 g (r) a0) ++ gb_w7 g (r) a1) ++ gb_w7 g (r) a2) ++ gb_w7 g (r) a3) ++ gb_w7 g (r) a4) ++ gb_w7 g (r) a5))) (As := [.ref (r)]) (rest := [.ref o6, .int 6, .ref qa]) hx hb hml hown hts hA hP hD hS (n_X7_init l g o6 (r) H.size) w4_X3_init_15 yok_7 ⟨rfl, rfl⟩ ⟨Nat.le_of_ble_eq_true rfl, Nat.le_of_ble_eq_true rfl⟩ ⟨Nat.le_of_ble_eq_true rfl, Nat.le_of_ble_eq_true rfl⟩ (pre_std hK hP hD) rfl hl.1 (Nat.le_of_ble_eq_true rfl) dX3_init_31 (fun u t _ h => o_w7 h) rfl (fun w1 H1 locs hw hP hD hS => ?_)
  obtain ⟨a6, rfl, rfl⟩ := hw
  generalize H1 = H at hP hS ⊢
  have hP : va_P (g.1, g.2.1) vwCl ((h0, .inr (3, [.ref qa, .int 0, .int 0])) :: gb_aq8 g qa (va_up (va_up (va_up (va_up (va_up (va_up (fun _ => none) (0 : Int32).toNatClampNeg (some (a0 0))) (1 : Int32).toNatClampNeg (some (a1 0))) (2 : Int32).toNatClampNeg (some (a2 0))) (3 : Int32).toNatClampNeg (some (a3 0))) (4 : Int32).toNatClampNeg (some (a4 0))) (5 : Int32).toNatClampNeg (some (a5 0))) :: (((((((([] : va_W) ++ gb_w7 g (r) a0) ++ gb_w7 g (r) a1) ++ gb_w7 g (r) a2) ++ gb_w7 g (r) a3) ++ gb_w7 g (r) a4) ++ gb_w7 g (r) a5) ++ gb_w7 g (r) a6)) H := hP
  have hD : va_D A ((h0, .inr (3, [.ref qa, .int 0, .int 0])) :: gb_aq8 g qa (va_up (va_up (va_up (va_up (va_up (va_up (fun _ => none) (0 : Int32).toNatClampNeg (some (a0 0))) (1 : Int32).toNatClampNeg (some (a1 0))) (2 : Int32).toNatClampNeg (some (a2 0))) (3 : Int32).toNatClampNeg (some (a3 0))) (4 : Int32).toNatClampNeg (some (a4 0))) (5 : Int32).toNatClampNeg (some (a5 0))) :: (((((((([] : va_W) ++ gb_w7 g (r) a0) ++ gb_w7 g (r) a1) ++ gb_w7 g (r) a2) ++ gb_w7 g (r) a3) ++ gb_w7 g (r) a4) ++ gb_w7 g (r) a5) ++ gb_w7 g (r) a6)) := hD
  refine va_astq (D := (g.1, g.2.1)) hx hb hK hP hD hS 1 3 56 7 rfl rfl rfl rfl (by unfold vp_in; decide) dX3_init_34 (fun H locs hP hD hS => ?_)
  have hP : va_P (g.1, g.2.1) vwCl ((h0, .inr (3, [.ref qa, .int 0, .int 0])) :: gb_aq8 g qa (va_up (va_up (va_up (va_up (va_up (va_up (va_up (fun _ => none) (0 : Int32).toNatClampNeg (some (a0 0))) (1 : Int32).toNatClampNeg (some (a1 0))) (2 : Int32).toNatClampNeg (some (a2 0))) (3 : Int32).toNatClampNeg (some (a3 0))) (4 : Int32).toNatClampNeg (some (a4 0))) (5 : Int32).toNatClampNeg (some (a5 0))) (6 : Int32).toNatClampNeg (some (a6 0))) :: (((((((([] : va_W) ++ gb_w7 g (r) a0) ++ gb_w7 g (r) a1) ++ gb_w7 g (r) a2) ++ gb_w7 g (r) a3) ++ gb_w7 g (r) a4) ++ gb_w7 g (r) a5) ++ gb_w7 g (r) a6)) H := hP
  have hD : va_D A ((h0, .inr (3, [.ref qa, .int 0, .int 0])) :: gb_aq8 g qa (va_up (va_up (va_up (va_up (va_up (va_up (va_up (fun _ => none) (0 : Int32).toNatClampNeg (some (a0 0))) (1 : Int32).toNatClampNeg (some (a1 0))) (2 : Int32).toNatClampNeg (some (a2 0))) (3 : Int32).toNatClampNeg (some (a3 0))) (4 : Int32).toNatClampNeg (some (a4 0))) (5 : Int32).toNatClampNeg (some (a5 0))) (6 : Int32).toNatClampNeg (some (a6 0))) :: (((((((([] : va_W) ++ gb_w7 g (r) a0) ++ gb_w7 g (r) a1) ++ gb_w7 g (r) a2) ++ gb_w7 g (r) a3) ++ gb_w7 g (r) a4) ++ gb_w7 g (r) a5) ++ gb_w7 g (r) a6)) := hD
  refine lv_iinc (v := 7) (lv' := [(2, .int 7), (0, .ref h0), (1, .ref r)]) hx hb dX3_init_35 hl (k := 0) rfl (by decide) (by decide) rfl (fun ls hl => ?_)
  refine lv_goto (tgt := 15) hx hb dX3_init_38 (by decide) ?_
  refine lv_iload_n hx hb dX3_init_15 rfl (lv_at hl 0 rfl) ?_
  refine lv_bipush (v := 8) hx hb dX3_init_16 (by decide) ?_
  refine lv_icmp_ge (tgt := 41) hx hb dX3_init_18 (by decide) (fun c => absurd c (by decide)) (fun _ => ?_)
  refine lv_aload_n hx hb dX3_init_21 rfl (lv_at hl 1 rfl) ?_
  refine va_get (D := (g.1, g.2.1)) (ci := 3) (v := .ref qa) (C := RX3) (T := TX3) (N := 3) hx hb hts winX3 hown hK hP 0 rfl rfl 0 (by decide) (hts _ (w_X3_init_4)) (fun _ h9 => h9) rfl dX3_init_22 ?_
  refine lv_iload_n hx hb dX3_init_25 rfl (lv_at hl 0 rfl) ?_
  refine va_new (ci := 7) (fs := [.null, .null, .null, .null, .null, .null, .null, .null, .null, .int 0, .int 0]) (C := RX7) (T := TX7) (N := 11) hx hb hts winX7 tyX7 tyX7_ok hown (hts _ (w_X3_init_3)) (hts _ (w_X3_init_5)) (hts _ (w_X3_init_6)) hK hP hD hS hA rfl df_7 (Nat.le_of_ble_eq_true rfl) (Nat.le_of_ble_eq_true rfl) dX3_init_26 (fun o7 H hP hD hS => ?_)
  have hP : va_P (g.1, g.2.1) vwCl (((h0, .inr (3, [.ref qa, .int 0, .int 0])) :: gb_aq8 g qa (va_up (va_up (va_up (va_up (va_up (va_up (va_up (fun _ => none) (0 : Int32).toNatClampNeg (some (a0 0))) (1 : Int32).toNatClampNeg (some (a1 0))) (2 : Int32).toNatClampNeg (some (a2 0))) (3 : Int32).toNatClampNeg (some (a3 0))) (4 : Int32).toNatClampNeg (some (a4 0))) (5 : Int32).toNatClampNeg (some (a5 0))) (6 : Int32).toNatClampNeg (some (a6 0))) :: (((((((([] : va_W) ++ gb_w7 g (r) a0) ++ gb_w7 g (r) a1) ++ gb_w7 g (r) a2) ++ gb_w7 g (r) a3) ++ gb_w7 g (r) a4) ++ gb_w7 g (r) a5) ++ gb_w7 g (r) a6)) ++ [(o7, .inr (7, [.null, .null, .null, .null, .null, .null, .null, .null, .null, .int 0, .int 0]))]) H := hP
  have hD : va_D A (((h0, .inr (3, [.ref qa, .int 0, .int 0])) :: gb_aq8 g qa (va_up (va_up (va_up (va_up (va_up (va_up (va_up (fun _ => none) (0 : Int32).toNatClampNeg (some (a0 0))) (1 : Int32).toNatClampNeg (some (a1 0))) (2 : Int32).toNatClampNeg (some (a2 0))) (3 : Int32).toNatClampNeg (some (a3 0))) (4 : Int32).toNatClampNeg (some (a4 0))) (5 : Int32).toNatClampNeg (some (a5 0))) (6 : Int32).toNatClampNeg (some (a6 0))) :: (((((((([] : va_W) ++ gb_w7 g (r) a0) ++ gb_w7 g (r) a1) ++ gb_w7 g (r) a2) ++ gb_w7 g (r) a3) ++ gb_w7 g (r) a4) ++ gb_w7 g (r) a5) ++ gb_w7 g (r) a6)) ++ [(o7, .inr (7, [.null, .null, .null, .null, .null, .null, .null, .null, .null, .int 0, .int 0]))]) := hD
  refine lv_dup hx hb dX3_init_29 rfl ?_
  refine lv_aload_n hx hb dX3_init_30 rfl (lv_at hl 2 rfl) ?_
  refine lw_ctor (nL := 3) (ws := ((h0, .inr (3, [.ref qa, .int 0, .int 0])) :: gb_aq8 g qa (va_up (va_up (va_up (va_up (va_up (va_up (va_up (fun _ => none) (0 : Int32).toNatClampNeg (some (a0 0))) (1 : Int32).toNatClampNeg (some (a1 0))) (2 : Int32).toNatClampNeg (some (a2 0))) (3 : Int32).toNatClampNeg (some (a3 0))) (4 : Int32).toNatClampNeg (some (a4 0))) (5 : Int32).toNatClampNeg (some (a5 0))) (6 : Int32).toNatClampNeg (some (a6 0))) :: (((((((([] : va_W) ++ gb_w7 g (r) a0) ++ gb_w7 g (r) a1) ++ gb_w7 g (r) a2) ++ gb_w7 g (r) a3) ++ gb_w7 g (r) a4) ++ gb_w7 g (r) a5) ++ gb_w7 g (r) a6))) (As := [.ref (r)]) (rest := [.ref o7, .int 7, .ref qa]) hx hb hml hown hts hA hP hD hS (n_X7_init l g o7 (r) H.size) w4_X3_init_15 yok_7 ⟨rfl, rfl⟩ ⟨Nat.le_of_ble_eq_true rfl, Nat.le_of_ble_eq_true rfl⟩ ⟨Nat.le_of_ble_eq_true rfl, Nat.le_of_ble_eq_true rfl⟩ (pre_std hK hP hD) rfl hl.1 (Nat.le_of_ble_eq_true rfl) dX3_init_31 (fun u t _ h => o_w7 h) rfl (fun w1 H1 locs hw hP hD hS => ?_)
  obtain ⟨a7, rfl, rfl⟩ := hw
  generalize H1 = H at hP hS ⊢
  have hP : va_P (g.1, g.2.1) vwCl ((h0, .inr (3, [.ref qa, .int 0, .int 0])) :: gb_aq8 g qa (va_up (va_up (va_up (va_up (va_up (va_up (va_up (fun _ => none) (0 : Int32).toNatClampNeg (some (a0 0))) (1 : Int32).toNatClampNeg (some (a1 0))) (2 : Int32).toNatClampNeg (some (a2 0))) (3 : Int32).toNatClampNeg (some (a3 0))) (4 : Int32).toNatClampNeg (some (a4 0))) (5 : Int32).toNatClampNeg (some (a5 0))) (6 : Int32).toNatClampNeg (some (a6 0))) :: ((((((((([] : va_W) ++ gb_w7 g (r) a0) ++ gb_w7 g (r) a1) ++ gb_w7 g (r) a2) ++ gb_w7 g (r) a3) ++ gb_w7 g (r) a4) ++ gb_w7 g (r) a5) ++ gb_w7 g (r) a6) ++ gb_w7 g (r) a7)) H := hP
  have hD : va_D A ((h0, .inr (3, [.ref qa, .int 0, .int 0])) :: gb_aq8 g qa (va_up (va_up (va_up (va_up (va_up (va_up (va_up (fun _ => none) (0 : Int32).toNatClampNeg (some (a0 0))) (1 : Int32).toNatClampNeg (some (a1 0))) (2 : Int32).toNatClampNeg (some (a2 0))) (3 : Int32).toNatClampNeg (some (a3 0))) (4 : Int32).toNatClampNeg (some (a4 0))) (5 : Int32).toNatClampNeg (some (a5 0))) (6 : Int32).toNatClampNeg (some (a6 0))) :: ((((((((([] : va_W) ++ gb_w7 g (r) a0) ++ gb_w7 g (r) a1) ++ gb_w7 g (r) a2) ++ gb_w7 g (r) a3) ++ gb_w7 g (r) a4) ++ gb_w7 g (r) a5) ++ gb_w7 g (r) a6) ++ gb_w7 g (r) a7)) := hD
  refine va_astq (D := (g.1, g.2.1)) hx hb hK hP hD hS 1 3 65 7 rfl rfl rfl rfl (by unfold vp_in; decide) dX3_init_34 (fun H locs hP hD hS => ?_)
  have hP : va_P (g.1, g.2.1) vwCl ((h0, .inr (3, [.ref qa, .int 0, .int 0])) :: gb_aq8 g qa (va_up (va_up (va_up (va_up (va_up (va_up (va_up (va_up (fun _ => none) (0 : Int32).toNatClampNeg (some (a0 0))) (1 : Int32).toNatClampNeg (some (a1 0))) (2 : Int32).toNatClampNeg (some (a2 0))) (3 : Int32).toNatClampNeg (some (a3 0))) (4 : Int32).toNatClampNeg (some (a4 0))) (5 : Int32).toNatClampNeg (some (a5 0))) (6 : Int32).toNatClampNeg (some (a6 0))) (7 : Int32).toNatClampNeg (some (a7 0))) :: ((((((((([] : va_W) ++ gb_w7 g (r) a0) ++ gb_w7 g (r) a1) ++ gb_w7 g (r) a2) ++ gb_w7 g (r) a3) ++ gb_w7 g (r) a4) ++ gb_w7 g (r) a5) ++ gb_w7 g (r) a6) ++ gb_w7 g (r) a7)) H := hP
  have hD : va_D A ((h0, .inr (3, [.ref qa, .int 0, .int 0])) :: gb_aq8 g qa (va_up (va_up (va_up (va_up (va_up (va_up (va_up (va_up (fun _ => none) (0 : Int32).toNatClampNeg (some (a0 0))) (1 : Int32).toNatClampNeg (some (a1 0))) (2 : Int32).toNatClampNeg (some (a2 0))) (3 : Int32).toNatClampNeg (some (a3 0))) (4 : Int32).toNatClampNeg (some (a4 0))) (5 : Int32).toNatClampNeg (some (a5 0))) (6 : Int32).toNatClampNeg (some (a6 0))) (7 : Int32).toNatClampNeg (some (a7 0))) :: ((((((((([] : va_W) ++ gb_w7 g (r) a0) ++ gb_w7 g (r) a1) ++ gb_w7 g (r) a2) ++ gb_w7 g (r) a3) ++ gb_w7 g (r) a4) ++ gb_w7 g (r) a5) ++ gb_w7 g (r) a6) ++ gb_w7 g (r) a7)) := hD
  refine lv_iinc (v := 8) (lv' := [(2, .int 8), (0, .ref h0), (1, .ref r)]) hx hb dX3_init_35 hl (k := 0) rfl (by decide) (by decide) rfl (fun ls hl => ?_)
  refine lv_goto (tgt := 15) hx hb dX3_init_38 (by decide) ?_
  refine lv_iload_n hx hb dX3_init_15 rfl (lv_at hl 0 rfl) ?_
  refine lv_bipush (v := 8) hx hb dX3_init_16 (by decide) ?_
  refine lv_icmp_ge (tgt := 41) hx hb dX3_init_18 (by decide) (fun _ => ?_) (fun c => absurd (by decide) c)
  have hP := P_arr (f' := fun i => some ((([a0, a1, a2, a3, a4, a5, a6, a7] : List (Nat → Nat)).getD i (fun _ => 0)) 0)) hP (up8 (a0 0) (a1 0) (a2 0) (a3 0) (a4 0) (a5 0) (a6 0) (a7 0) _ rfl rfl rfl rfl rfl rfl rfl rfl)
  have hD := D_arr (f' := fun i => some ((([a0, a1, a2, a3, a4, a5, a6, a7] : List (Nat → Nat)).getD i (fun _ => 0)) 0)) hD
  exact W.vret hx hb hr (fun t ht hW => ⟨⟨(), rfl, trivial, gb_w3 g r (fun i => ([h0, qa] : List Nat).getD i 0) (fun j => ([a0, a1, a2, a3, a4, a5, a6, a7] : List (Nat → Nat)).getD j (fun _ => 0)), ⟨_, _, rfl, rfl⟩, by rw [ht]; exact hP, va_K.moved hW.alike hK, hD⟩, hS.F ht⟩) hS.2.2 dX3_init_41
theorem o_w3 {g : gb_G} {D : va_G} {A : Nat → Prop} {h0 r : Nat} {H : Heap} {K : Prop} (h : ∃ w1, (∃ (a : Nat → Nat) (b : Nat → Nat → Nat), a 0 = h0 ∧ w1 = gb_w3 g r a b) ∧ va_P D vwCl w1 H ∧ K ∧ va_D A w1) : ∃ w1, (∃ (a : Nat → Nat) (b : Nat → Nat → Nat), a 0 = h0 ∧ w1 = gb_w3 g r a b) ∧ va_P D vwCl w1 H ∧ va_D A w1 := by
  obtain ⟨w1, h0, h1, -, h2⟩ := h
  exact ⟨w1, h0, h1, h2⟩
abbrev gb_w9 (g : gb_G) (h0 : Nat) (a0 : Nat → Nat) (a1 : Nat → Nat) (a2 : Nat → Nat) (a3 : Nat → Nat) (a4 : Nat → Nat) (a5 : Nat → Nat) (ba5 : Nat → Nat → Nat) (a6 : Nat → Nat) (a7 : Nat → Nat) (a8 : Nat → Nat) (ta8 : Nat → Nat) (a9 : Nat → Nat) (a10 : Nat → Nat) : va_W := (h0, .inr (9, [.ref (a0 0), .ref (a1 0), .ref (a2 0), .ref (a3 0), .ref (a4 0), .int 0, .ref (a5 0), .ref (a6 0), .ref (a7 0), .ref (a8 0), .ref (a9 0), .ref (a10 0)])) :: (((((((((((([] : va_W) ++ gb_w8 g a0) ++ gb_w5 g a1) ++ gb_w5 g a2) ++ gb_w7 g (a1 0) a3) ++ gb_w7 g (a1 0) a4) ++ gb_w3 g (a1 0) a5 ba5) ++ gb_w4 g a6) ++ gb_w2 g a7) ++ gb_w1 g (a1 0) (a7 0) a8 ta8) ++ gb_w0 g (a3 0) (a7 0) a9) ++ gb_w6 g a10)
theorem w_X9_init_0 : (.methodLink RX9 1 objectInit : Cond) ∈ gb_B := List.mem_filter.mpr ⟨by decide +kernel, by decide +kernel⟩
theorem w_X9_init_1 : (.instanceMethod objectInit : Cond) ∈ gb_B := List.mem_filter.mpr ⟨by decide +kernel, by decide +kernel⟩
theorem w_X9_init_2 : (.code objectInit ⟨#[0xb1]⟩ 1 none : Cond) ∈ gb_B := List.mem_filter.mpr ⟨by decide +kernel, by decide +kernel⟩
theorem w_X9_init_3 : (.classLink RX9 7 RX8 : Cond) ∈ gb_B := List.mem_filter.mpr ⟨by decide +kernel, by decide +kernel⟩
theorem w_X9_init_4 : (.instantiable RX8 3 : Cond) ∈ gb_B := List.mem_filter.mpr ⟨by decide +kernel, by decide +kernel⟩
theorem w_X9_init_5 : (.initialized RX8 : Cond) ∈ gb_B := List.mem_filter.mpr ⟨by decide +kernel, by decide +kernel⟩
theorem w_X9_init_6 : (.fieldLink RX9 10 "GrainBins" "text" "LGrainBins$Text;" : Cond) ∈ gb_B := List.mem_filter.mpr ⟨by decide +kernel, by decide +kernel⟩
theorem w_X9_init_7 : (.classLink RX9 16 RX5 : Cond) ∈ gb_B := List.mem_filter.mpr ⟨by decide +kernel, by decide +kernel⟩
theorem w_X9_init_8 : (.instantiable RX5 8 : Cond) ∈ gb_B := List.mem_filter.mpr ⟨by decide +kernel, by decide +kernel⟩
theorem w_X9_init_9 : (.initialized RX5 : Cond) ∈ gb_B := List.mem_filter.mpr ⟨by decide +kernel, by decide +kernel⟩
theorem w_X9_init_10 : (.fieldLink RX9 19 "GrainBins" "rules" "LGrainBins$Rules;" : Cond) ∈ gb_B := List.mem_filter.mpr ⟨by decide +kernel, by decide +kernel⟩
theorem w_X9_init_11 : (.fieldLink RX9 23 "GrainBins" "told" "LGrainBins$Rules;" : Cond) ∈ gb_B := List.mem_filter.mpr ⟨by decide +kernel, by decide +kernel⟩
theorem w_X9_init_12 : (.classLink RX9 26 RX7 : Cond) ∈ gb_B := List.mem_filter.mpr ⟨by decide +kernel, by decide +kernel⟩
theorem w_X9_init_13 : (.instantiable RX7 11 : Cond) ∈ gb_B := List.mem_filter.mpr ⟨by decide +kernel, by decide +kernel⟩
theorem w_X9_init_14 : (.initialized RX7 : Cond) ∈ gb_B := List.mem_filter.mpr ⟨by decide +kernel, by decide +kernel⟩
theorem w_X9_init_15 : (.fieldLink RX9 31 "GrainBins" "now" "LGrainBins$Store;" : Cond) ∈ gb_B := List.mem_filter.mpr ⟨by decide +kernel, by decide +kernel⟩
theorem w_X9_init_16 : (.fieldLink RX9 35 "GrainBins" "kept" "LGrainBins$Store;" : Cond) ∈ gb_B := List.mem_filter.mpr ⟨by decide +kernel, by decide +kernel⟩
theorem w_X9_init_17 : (.classLink RX9 38 RX3 : Cond) ∈ gb_B := List.mem_filter.mpr ⟨by decide +kernel, by decide +kernel⟩
theorem w_X9_init_18 : (.instantiable RX3 3 : Cond) ∈ gb_B := List.mem_filter.mpr ⟨by decide +kernel, by decide +kernel⟩
theorem w_X9_init_19 : (.initialized RX3 : Cond) ∈ gb_B := List.mem_filter.mpr ⟨by decide +kernel, by decide +kernel⟩
theorem w_X9_init_20 : (.fieldLink RX9 41 "GrainBins" "past" "LGrainBins$Past;" : Cond) ∈ gb_B := List.mem_filter.mpr ⟨by decide +kernel, by decide +kernel⟩
theorem w_X9_init_21 : (.classLink RX9 45 RX4 : Cond) ∈ gb_B := List.mem_filter.mpr ⟨by decide +kernel, by decide +kernel⟩
theorem w_X9_init_22 : (.instantiable RX4 2 : Cond) ∈ gb_B := List.mem_filter.mpr ⟨by decide +kernel, by decide +kernel⟩
theorem w_X9_init_23 : (.initialized RX4 : Cond) ∈ gb_B := List.mem_filter.mpr ⟨by decide +kernel, by decide +kernel⟩
theorem w_X9_init_24 : (.fieldLink RX9 48 "GrainBins" "numbers" "LGrainBins$Row;" : Cond) ∈ gb_B := List.mem_filter.mpr ⟨by decide +kernel, by decide +kernel⟩
theorem w_X9_init_25 : (.classLink RX9 52 RX2 : Cond) ∈ gb_B := List.mem_filter.mpr ⟨by decide +kernel, by decide +kernel⟩
theorem w_X9_init_26 : (.instantiable RX2 4 : Cond) ∈ gb_B := List.mem_filter.mpr ⟨by decide +kernel, by decide +kernel⟩
theorem w_X9_init_27 : (.initialized RX2 : Cond) ∈ gb_B := List.mem_filter.mpr ⟨by decide +kernel, by decide +kernel⟩
theorem w_X9_init_28 : (.fieldLink RX9 55 "GrainBins" "orders" "LGrainBins$Orders;" : Cond) ∈ gb_B := List.mem_filter.mpr ⟨by decide +kernel, by decide +kernel⟩
theorem w_X9_init_29 : (.classLink RX9 59 RX1 : Cond) ∈ gb_B := List.mem_filter.mpr ⟨by decide +kernel, by decide +kernel⟩
theorem w_X9_init_30 : (.instantiable RX1 7 : Cond) ∈ gb_B := List.mem_filter.mpr ⟨by decide +kernel, by decide +kernel⟩
theorem w_X9_init_31 : (.initialized RX1 : Cond) ∈ gb_B := List.mem_filter.mpr ⟨by decide +kernel, by decide +kernel⟩
theorem w_X9_init_32 : (.fieldLink RX9 64 "GrainBins" "laying" "LGrainBins$Laying;" : Cond) ∈ gb_B := List.mem_filter.mpr ⟨by decide +kernel, by decide +kernel⟩
theorem w_X9_init_33 : (.classLink RX9 68 RX0 : Cond) ∈ gb_B := List.mem_filter.mpr ⟨by decide +kernel, by decide +kernel⟩
theorem w_X9_init_34 : (.instantiable RX0 6 : Cond) ∈ gb_B := List.mem_filter.mpr ⟨by decide +kernel, by decide +kernel⟩
theorem w_X9_init_35 : (.initialized RX0 : Cond) ∈ gb_B := List.mem_filter.mpr ⟨by decide +kernel, by decide +kernel⟩
theorem w_X9_init_36 : (.fieldLink RX9 73 "GrainBins" "drawing" "LGrainBins$Drawing;" : Cond) ∈ gb_B := List.mem_filter.mpr ⟨by decide +kernel, by decide +kernel⟩
theorem w_X9_init_37 : (.classLink RX9 77 RX6 : Cond) ∈ gb_B := List.mem_filter.mpr ⟨by decide +kernel, by decide +kernel⟩
theorem w_X9_init_38 : (.instantiable RX6 2 : Cond) ∈ gb_B := List.mem_filter.mpr ⟨by decide +kernel, by decide +kernel⟩
theorem w_X9_init_39 : (.initialized RX6 : Cond) ∈ gb_B := List.mem_filter.mpr ⟨by decide +kernel, by decide +kernel⟩
theorem w_X9_init_40 : (.fieldLink RX9 80 "GrainBins" "script" "LGrainBins$Script;" : Cond) ∈ gb_B := List.mem_filter.mpr ⟨by decide +kernel, by decide +kernel⟩
theorem w4_X9_init_9 : ∀ w ∈ ([.methodLink RX9 9 yX8_init, .instanceMethod yX8_init, .initialized yX8_init.cls, .code yX8_init cX8_init 1 none] : List Cond), w ∈ gb_B := by
  have h : ∀ w ∈ ([.methodLink RX9 9 yX8_init, .instanceMethod yX8_init, .initialized yX8_init.cls, .code yX8_init cX8_init 1 none] : List Cond), w ∈ lw_tbl ∧ goodWord w = true := by decide +kernel
  exact fun w hw => List.mem_filter.mpr (h w hw)
theorem w4_X9_init_18 : ∀ w ∈ ([.methodLink RX9 18 yX5_init, .instanceMethod yX5_init, .initialized yX5_init.cls, .code yX5_init cX5_init 2 none] : List Cond), w ∈ gb_B := by
  have h : ∀ w ∈ ([.methodLink RX9 18 yX5_init, .instanceMethod yX5_init, .initialized yX5_init.cls, .code yX5_init cX5_init 2 none] : List Cond), w ∈ lw_tbl ∧ goodWord w = true := by decide +kernel
  exact fun w hw => List.mem_filter.mpr (h w hw)
theorem w4_X9_init_28 : ∀ w ∈ ([.methodLink RX9 28 yX7_init, .instanceMethod yX7_init, .initialized yX7_init.cls, .code yX7_init cX7_init 2 none] : List Cond), w ∈ gb_B := by
  have h : ∀ w ∈ ([.methodLink RX9 28 yX7_init, .instanceMethod yX7_init, .initialized yX7_init.cls, .code yX7_init cX7_init 2 none] : List Cond), w ∈ lw_tbl ∧ goodWord w = true := by decide +kernel
  exact fun w hw => List.mem_filter.mpr (h w hw)
theorem w4_X9_init_40 : ∀ w ∈ ([.methodLink RX9 40 yX3_init, .instanceMethod yX3_init, .initialized yX3_init.cls, .code yX3_init cX3_init 3 none] : List Cond), w ∈ gb_B := by
  have h : ∀ w ∈ ([.methodLink RX9 40 yX3_init, .instanceMethod yX3_init, .initialized yX3_init.cls, .code yX3_init cX3_init 3 none] : List Cond), w ∈ lw_tbl ∧ goodWord w = true := by decide +kernel
  exact fun w hw => List.mem_filter.mpr (h w hw)
theorem w4_X9_init_47 : ∀ w ∈ ([.methodLink RX9 47 yX4_init, .instanceMethod yX4_init, .initialized yX4_init.cls, .code yX4_init cX4_init 1 none] : List Cond), w ∈ gb_B := by
  have h : ∀ w ∈ ([.methodLink RX9 47 yX4_init, .instanceMethod yX4_init, .initialized yX4_init.cls, .code yX4_init cX4_init 1 none] : List Cond), w ∈ lw_tbl ∧ goodWord w = true := by decide +kernel
  exact fun w hw => List.mem_filter.mpr (h w hw)
theorem w4_X9_init_54 : ∀ w ∈ ([.methodLink RX9 54 yX2_init, .instanceMethod yX2_init, .initialized yX2_init.cls, .code yX2_init cX2_init 1 none] : List Cond), w ∈ gb_B := by
  have h : ∀ w ∈ ([.methodLink RX9 54 yX2_init, .instanceMethod yX2_init, .initialized yX2_init.cls, .code yX2_init cX2_init 1 none] : List Cond), w ∈ lw_tbl ∧ goodWord w = true := by decide +kernel
  exact fun w hw => List.mem_filter.mpr (h w hw)
theorem w4_X9_init_61 : ∀ w ∈ ([.methodLink RX9 61 yX1_init, .instanceMethod yX1_init, .initialized yX1_init.cls, .code yX1_init cX1_init 3 none] : List Cond), w ∈ gb_B := by
  have h : ∀ w ∈ ([.methodLink RX9 61 yX1_init, .instanceMethod yX1_init, .initialized yX1_init.cls, .code yX1_init cX1_init 3 none] : List Cond), w ∈ lw_tbl ∧ goodWord w = true := by decide +kernel
  exact fun w hw => List.mem_filter.mpr (h w hw)
theorem w4_X9_init_70 : ∀ w ∈ ([.methodLink RX9 70 yX0_init, .instanceMethod yX0_init, .initialized yX0_init.cls, .code yX0_init cX0_init 3 none] : List Cond), w ∈ gb_B := by
  have h : ∀ w ∈ ([.methodLink RX9 70 yX0_init, .instanceMethod yX0_init, .initialized yX0_init.cls, .code yX0_init cX0_init 3 none] : List Cond), w ∈ lw_tbl ∧ goodWord w = true := by decide +kernel
  exact fun w hw => List.mem_filter.mpr (h w hw)
theorem w4_X9_init_79 : ∀ w ∈ ([.methodLink RX9 79 yX6_init, .instanceMethod yX6_init, .initialized yX6_init.cls, .code yX6_init cX6_init 1 none] : List Cond), w ∈ gb_B := by
  have h : ∀ w ∈ ([.methodLink RX9 79 yX6_init, .instanceMethod yX6_init, .initialized yX6_init.cls, .code yX6_init cX6_init 1 none] : List Cond), w ∈ lw_tbl ∧ goodWord w = true := by decide +kernel
  exact fun w hw => List.mem_filter.mpr (h w hw)
theorem dX9_init_0 : decode cX9_init 0 = .ok (.aload_n 0, 1) := by decide +kernel
theorem dX9_init_1 : decode cX9_init 1 = .ok (.invokespecial 1, 3) := by decide +kernel
theorem dX9_init_4 : decode cX9_init 4 = .ok (.aload_n 0, 1) := by decide +kernel
theorem dX9_init_5 : decode cX9_init 5 = .ok (.new 7, 3) := by decide +kernel
theorem dX9_init_8 : decode cX9_init 8 = .ok (.dup, 1) := by decide +kernel
theorem dX9_init_9 : decode cX9_init 9 = .ok (.invokespecial 9, 3) := by decide +kernel
theorem dX9_init_12 : decode cX9_init 12 = .ok (.putfield 10, 3) := by decide +kernel
theorem dX9_init_15 : decode cX9_init 15 = .ok (.aload_n 0, 1) := by decide +kernel
theorem dX9_init_16 : decode cX9_init 16 = .ok (.new 16, 3) := by decide +kernel
theorem dX9_init_19 : decode cX9_init 19 = .ok (.dup, 1) := by decide +kernel
theorem dX9_init_20 : decode cX9_init 20 = .ok (.invokespecial 18, 3) := by decide +kernel
theorem dX9_init_23 : decode cX9_init 23 = .ok (.putfield 19, 3) := by decide +kernel
theorem dX9_init_26 : decode cX9_init 26 = .ok (.aload_n 0, 1) := by decide +kernel
theorem dX9_init_27 : decode cX9_init 27 = .ok (.new 16, 3) := by decide +kernel
theorem dX9_init_30 : decode cX9_init 30 = .ok (.dup, 1) := by decide +kernel
theorem dX9_init_31 : decode cX9_init 31 = .ok (.invokespecial 18, 3) := by decide +kernel
theorem dX9_init_34 : decode cX9_init 34 = .ok (.putfield 23, 3) := by decide +kernel
theorem dX9_init_37 : decode cX9_init 37 = .ok (.aload_n 0, 1) := by decide +kernel
theorem dX9_init_38 : decode cX9_init 38 = .ok (.new 26, 3) := by decide +kernel
theorem dX9_init_41 : decode cX9_init 41 = .ok (.dup, 1) := by decide +kernel
theorem dX9_init_42 : decode cX9_init 42 = .ok (.aload_n 0, 1) := by decide +kernel
theorem dX9_init_43 : decode cX9_init 43 = .ok (.getfield 19, 3) := by decide +kernel
theorem dX9_init_46 : decode cX9_init 46 = .ok (.invokespecial 28, 3) := by decide +kernel
theorem dX9_init_49 : decode cX9_init 49 = .ok (.putfield 31, 3) := by decide +kernel
theorem dX9_init_52 : decode cX9_init 52 = .ok (.aload_n 0, 1) := by decide +kernel
theorem dX9_init_53 : decode cX9_init 53 = .ok (.new 26, 3) := by decide +kernel
theorem dX9_init_56 : decode cX9_init 56 = .ok (.dup, 1) := by decide +kernel
theorem dX9_init_57 : decode cX9_init 57 = .ok (.aload_n 0, 1) := by decide +kernel
theorem dX9_init_58 : decode cX9_init 58 = .ok (.getfield 19, 3) := by decide +kernel
theorem dX9_init_61 : decode cX9_init 61 = .ok (.invokespecial 28, 3) := by decide +kernel
theorem dX9_init_64 : decode cX9_init 64 = .ok (.putfield 35, 3) := by decide +kernel
theorem dX9_init_67 : decode cX9_init 67 = .ok (.aload_n 0, 1) := by decide +kernel
theorem dX9_init_68 : decode cX9_init 68 = .ok (.new 38, 3) := by decide +kernel
theorem dX9_init_71 : decode cX9_init 71 = .ok (.dup, 1) := by decide +kernel
theorem dX9_init_72 : decode cX9_init 72 = .ok (.aload_n 0, 1) := by decide +kernel
theorem dX9_init_73 : decode cX9_init 73 = .ok (.getfield 19, 3) := by decide +kernel
theorem dX9_init_76 : decode cX9_init 76 = .ok (.invokespecial 40, 3) := by decide +kernel
theorem dX9_init_79 : decode cX9_init 79 = .ok (.putfield 41, 3) := by decide +kernel
theorem dX9_init_82 : decode cX9_init 82 = .ok (.aload_n 0, 1) := by decide +kernel
theorem dX9_init_83 : decode cX9_init 83 = .ok (.new 45, 3) := by decide +kernel
theorem dX9_init_86 : decode cX9_init 86 = .ok (.dup, 1) := by decide +kernel
theorem dX9_init_87 : decode cX9_init 87 = .ok (.invokespecial 47, 3) := by decide +kernel
theorem dX9_init_90 : decode cX9_init 90 = .ok (.putfield 48, 3) := by decide +kernel
theorem dX9_init_93 : decode cX9_init 93 = .ok (.aload_n 0, 1) := by decide +kernel
theorem dX9_init_94 : decode cX9_init 94 = .ok (.new 52, 3) := by decide +kernel
theorem dX9_init_97 : decode cX9_init 97 = .ok (.dup, 1) := by decide +kernel
theorem dX9_init_98 : decode cX9_init 98 = .ok (.invokespecial 54, 3) := by decide +kernel
theorem dX9_init_101 : decode cX9_init 101 = .ok (.putfield 55, 3) := by decide +kernel
theorem dX9_init_104 : decode cX9_init 104 = .ok (.aload_n 0, 1) := by decide +kernel
theorem dX9_init_105 : decode cX9_init 105 = .ok (.new 59, 3) := by decide +kernel
theorem dX9_init_108 : decode cX9_init 108 = .ok (.dup, 1) := by decide +kernel
theorem dX9_init_109 : decode cX9_init 109 = .ok (.aload_n 0, 1) := by decide +kernel
theorem dX9_init_110 : decode cX9_init 110 = .ok (.getfield 19, 3) := by decide +kernel
theorem dX9_init_113 : decode cX9_init 113 = .ok (.aload_n 0, 1) := by decide +kernel
theorem dX9_init_114 : decode cX9_init 114 = .ok (.getfield 55, 3) := by decide +kernel
theorem dX9_init_117 : decode cX9_init 117 = .ok (.invokespecial 61, 3) := by decide +kernel
theorem dX9_init_120 : decode cX9_init 120 = .ok (.putfield 64, 3) := by decide +kernel
theorem dX9_init_123 : decode cX9_init 123 = .ok (.aload_n 0, 1) := by decide +kernel
theorem dX9_init_124 : decode cX9_init 124 = .ok (.new 68, 3) := by decide +kernel
theorem dX9_init_127 : decode cX9_init 127 = .ok (.dup, 1) := by decide +kernel
theorem dX9_init_128 : decode cX9_init 128 = .ok (.aload_n 0, 1) := by decide +kernel
theorem dX9_init_129 : decode cX9_init 129 = .ok (.getfield 31, 3) := by decide +kernel
theorem dX9_init_132 : decode cX9_init 132 = .ok (.aload_n 0, 1) := by decide +kernel
theorem dX9_init_133 : decode cX9_init 133 = .ok (.getfield 55, 3) := by decide +kernel
theorem dX9_init_136 : decode cX9_init 136 = .ok (.invokespecial 70, 3) := by decide +kernel
theorem dX9_init_139 : decode cX9_init 139 = .ok (.putfield 73, 3) := by decide +kernel
theorem dX9_init_142 : decode cX9_init 142 = .ok (.aload_n 0, 1) := by decide +kernel
theorem dX9_init_143 : decode cX9_init 143 = .ok (.new 77, 3) := by decide +kernel
theorem dX9_init_146 : decode cX9_init 146 = .ok (.dup, 1) := by decide +kernel
theorem dX9_init_147 : decode cX9_init 147 = .ok (.invokespecial 79, 3) := by decide +kernel
theorem dX9_init_150 : decode cX9_init 150 = .ok (.putfield 80, 3) := by decide +kernel
theorem dX9_init_153 : decode cX9_init 153 = .ok (.return_, 1) := by decide +kernel
set_option maxHeartbeats 4000000 in
theorem n_X9_init (l : Launch) (g : gb_G) (h0  : Nat) (sz : Nat) : Met l yX9_init (.code yX9_init cX9_init 1 none :: gb_B) ({ frames := 6, cells := 132, slots := 2608, locals := 300 }) (va_Pc [.ref h0] (fun U => U.heap.size = sz ∧ va_P (g.1, g.2.1) vwCl [(h0, .inr (9, [.null, .null, .null, .null, .null, .int 0, .null, .null, .null, .null, .null, .null]))] U.heap ∧ va_K (g.1, g.2.1) vwCl (gb_T g) U ∧ va_D (fun _ => True) [(h0, .inr (9, [.null, .null, .null, .null, .null, .int 0, .null, .null, .null, .null, .null, .null]))] ∧ va_AO RX7 U)) (va_Qv (fun _ : Unit => True) (fun _ t => ∃ w1, (∃ (a0 : Nat → Nat) (a1 : Nat → Nat) (a2 : Nat → Nat) (a3 : Nat → Nat) (a4 : Nat → Nat) (a5 : Nat → Nat) (ba5 : Nat → Nat → Nat) (a6 : Nat → Nat) (a7 : Nat → Nat) (a8 : Nat → Nat) (ta8 : Nat → Nat) (a9 : Nat → Nat) (a10 : Nat → Nat), w1 = gb_w9 g h0 a0 a1 a2 a3 a4 a5 ba5 a6 a7 a8 ta8 a9 a10) ∧ va_P (g.1, g.2.1) vwCl w1 t.heap ∧ va_K (g.1, g.2.1) vwCl (gb_T g) t ∧ va_D (va_A [(h0, .inr (9, [.null, .null, .null, .null, .null, .int 0, .null, .null, .null, .null, .null, .null]))] sz) w1) (va_A [(h0, .inr (9, [.null, .null, .null, .null, .null, .int 0, .null, .null, .null, .null, .null, .null]))] sz)) 132 2608 (va_A [(h0, .inr (9, [.null, .null, .null, .null, .null, .int 0, .null, .null, .null, .null, .null, .null]))] sz) := by
  refine Met.ofW (cc := cX9_init) (maxL := 1) (ret := none) (by decide +kernel) rfl ?_
  intro p e s m args below meth c s₁ B hml hv
  obtain ⟨rfl, hsz, hP, hK, hD0, ho⟩ := hv
  have hx := B.exec
  have hb := B.bytes
  have hr := B.returns
  have hts0 := atoms_spec (ws := .code yX9_init cX9_init 1 none :: gb_B) B.pre
  have hts : ∀ w ∈ gb_B, w.before ([.ref h0] : List Value).toArray s = true := fun w hw => hts0 w (List.mem_cons_of_mem _ hw)
  have hown : s.vm.findClass RX9 = some m.cls := findClass_of_methodNamed B.named
  have hlocks := B.notSynchronized
  have hin : meth.name = "<init>" := (name_of_methodNamed B.named B.method).1
  subst hsz
  have hD := hD0.self (sz := s.heap.size)
  generalize hAe : va_A [(h0, .inr (9, [.null, .null, .null, .null, .null, .int 0, .null, .null, .null, .null, .null, .null]))] s.heap.size = A at hD ⊢
  have hA : ∀ q : Nat, s.heap.size ≤ q → A q := fun q h => by rw [← hAe]; exact Or.inr h
  have hS : va_S A s.heap s.heap [] := va_S.rf
  have hl := lv_entry ([.ref h0]) (n := 1) (Nat.le_of_ble_eq_true rfl)
  rw [lg_entry_eq]
  generalize (lg_sl ([.ref h0]) ++ List.replicate (1 - (lg_sl ([.ref h0])).length) Slot.unset).toArray = ls at hl ⊢
  have hl : lv_has ls 1 [(0, .ref h0)] := hl
  refine lv_aload_n hx hb dX9_init_0 rfl (lv_at hl 0 rfl) ?_
  refine W.objInit hx hb hown (hts (.methodLink RX9 1 objectInit) (w_X9_init_0)) (hts (.instanceMethod objectInit) (w_X9_init_1)) (hts _ (w_X9_init_2)) rfl (by rw [hml]; exact hl.1) rfl dX9_init_1 (Nat.le_of_ble_eq_true rfl) (Nat.le_of_ble_eq_true rfl) ?_
  refine W.eq (g2 := F0 m 4 ls []) rfl ?_
  refine lv_aload_n hx hb dX9_init_4 rfl (lv_at hl 0 rfl) ?_
  refine va_new (ci := 8) (fs := [.null, .int 0, .int 0]) (C := RX8) (T := TX8) (N := 3) hx hb hts winX8 tyX8 tyX8_ok hown (hts _ (w_X9_init_3)) (hts _ (w_X9_init_4)) (hts _ (w_X9_init_5)) hK hP hD hS hA rfl df_8 (Nat.le_of_ble_eq_true rfl) (Nat.le_of_ble_eq_true rfl) dX9_init_5 (fun o0 H hP hD hS => ?_)
  have hP : va_P (g.1, g.2.1) vwCl (((h0, .inr (9, [.null, .null, .null, .null, .null, .int 0, .null, .null, .null, .null, .null, .null])) :: ([] : va_W)) ++ [(o0, .inr (8, [.null, .int 0, .int 0]))]) H := hP
  have hD : va_D A (((h0, .inr (9, [.null, .null, .null, .null, .null, .int 0, .null, .null, .null, .null, .null, .null])) :: ([] : va_W)) ++ [(o0, .inr (8, [.null, .int 0, .int 0]))]) := hD
  refine lv_dup hx hb dX9_init_8 rfl ?_
  refine lw_ctor (nL := 1) (ws := ((h0, .inr (9, [.null, .null, .null, .null, .null, .int 0, .null, .null, .null, .null, .null, .null])) :: ([] : va_W))) (As := []) (rest := [.ref o0, .ref h0]) hx hb hml hown hts hA hP hD hS (n_X8_init l g o0  H.size) w4_X9_init_9 yok_8 ⟨rfl, rfl⟩ ⟨Nat.le_of_ble_eq_true rfl, Nat.le_of_ble_eq_true rfl⟩ ⟨Nat.le_of_ble_eq_true rfl, Nat.le_of_ble_eq_true rfl⟩ (pre_std hK hP hD) rfl hl.1 (Nat.le_of_ble_eq_true rfl) dX9_init_9 (fun u t _ h => o_w8 h) rfl (fun w1 H1 locs hw hP hD hS => ?_)
  obtain ⟨a0, rfl, rfl⟩ := hw
  generalize H1 = H at hP hS ⊢
  have hP : va_P (g.1, g.2.1) vwCl ((h0, .inr (9, [.null, .null, .null, .null, .null, .int 0, .null, .null, .null, .null, .null, .null])) :: (([] : va_W) ++ gb_w8 g a0)) H := hP
  have hD : va_D A ((h0, .inr (9, [.null, .null, .null, .null, .null, .int 0, .null, .null, .null, .null, .null, .null])) :: (([] : va_W) ++ gb_w8 g a0)) := hD
  refine va_putF (D := (g.1, g.2.1)) (ci := 9) (v := .ref (a0 0)) (ty := tyX9 0) (C := RX9) (T := TX9) (N := 12) hx hb hts winX9 tyX9 tyX9_ok nmX9 hown hK hP hD hS 0 rfl rfl 0 (by decide) (hts _ (w_X9_init_6)) (fun _ h9 => h9) rfl hin rfl (tyX9_ok 0 (by decide)) rfl rfl (Nat.le_of_ble_eq_true rfl) dX9_init_12 (fun H locs hP hD hS => ?_)
  have hP : va_P (g.1, g.2.1) vwCl ((h0, .inr (9, [.ref (a0 0), .null, .null, .null, .null, .int 0, .null, .null, .null, .null, .null, .null])) :: (([] : va_W) ++ gb_w8 g a0)) H := hP
  have hD : va_D A ((h0, .inr (9, [.ref (a0 0), .null, .null, .null, .null, .int 0, .null, .null, .null, .null, .null, .null])) :: (([] : va_W) ++ gb_w8 g a0)) := hD
  refine lv_aload_n hx hb dX9_init_15 rfl (lv_at hl 0 rfl) ?_
  refine va_new (ci := 5) (fs := [.null, .null, .null, .null, .null, .null, .int 0, .int 0]) (C := RX5) (T := TX5) (N := 8) hx hb hts winX5 tyX5 tyX5_ok hown (hts _ (w_X9_init_7)) (hts _ (w_X9_init_8)) (hts _ (w_X9_init_9)) hK hP hD hS hA rfl df_5 (Nat.le_of_ble_eq_true rfl) (Nat.le_of_ble_eq_true rfl) dX9_init_16 (fun o1 H hP hD hS => ?_)
  have hP : va_P (g.1, g.2.1) vwCl (((h0, .inr (9, [.ref (a0 0), .null, .null, .null, .null, .int 0, .null, .null, .null, .null, .null, .null])) :: (([] : va_W) ++ gb_w8 g a0)) ++ [(o1, .inr (5, [.null, .null, .null, .null, .null, .null, .int 0, .int 0]))]) H := hP
  have hD : va_D A (((h0, .inr (9, [.ref (a0 0), .null, .null, .null, .null, .int 0, .null, .null, .null, .null, .null, .null])) :: (([] : va_W) ++ gb_w8 g a0)) ++ [(o1, .inr (5, [.null, .null, .null, .null, .null, .null, .int 0, .int 0]))]) := hD
  refine lv_dup hx hb dX9_init_19 rfl ?_
  refine lw_ctor (nL := 1) (ws := ((h0, .inr (9, [.ref (a0 0), .null, .null, .null, .null, .int 0, .null, .null, .null, .null, .null, .null])) :: (([] : va_W) ++ gb_w8 g a0))) (As := []) (rest := [.ref o1, .ref h0]) hx hb hml hown hts hA hP hD hS (n_X5_init l g o1  H.size) w4_X9_init_18 yok_5 ⟨rfl, rfl⟩ ⟨Nat.le_of_ble_eq_true rfl, Nat.le_of_ble_eq_true rfl⟩ ⟨Nat.le_of_ble_eq_true rfl, Nat.le_of_ble_eq_true rfl⟩ (pre_std hK hP hD) rfl hl.1 (Nat.le_of_ble_eq_true rfl) dX9_init_20 (fun u t _ h => o_w5 h) rfl (fun w1 H1 locs hw hP hD hS => ?_)
  obtain ⟨a1, rfl, rfl⟩ := hw
  generalize H1 = H at hP hS ⊢
  have hP : va_P (g.1, g.2.1) vwCl ((h0, .inr (9, [.ref (a0 0), .null, .null, .null, .null, .int 0, .null, .null, .null, .null, .null, .null])) :: ((([] : va_W) ++ gb_w8 g a0) ++ gb_w5 g a1)) H := hP
  have hD : va_D A ((h0, .inr (9, [.ref (a0 0), .null, .null, .null, .null, .int 0, .null, .null, .null, .null, .null, .null])) :: ((([] : va_W) ++ gb_w8 g a0) ++ gb_w5 g a1)) := hD
  refine va_putF (D := (g.1, g.2.1)) (ci := 9) (v := .ref (a1 0)) (ty := tyX9 1) (C := RX9) (T := TX9) (N := 12) hx hb hts winX9 tyX9 tyX9_ok nmX9 hown hK hP hD hS 0 rfl rfl 1 (by decide) (hts _ (w_X9_init_10)) (fun _ h9 => h9) rfl hin rfl (tyX9_ok 1 (by decide)) rfl rfl (Nat.le_of_ble_eq_true rfl) dX9_init_23 (fun H locs hP hD hS => ?_)
  have hP : va_P (g.1, g.2.1) vwCl ((h0, .inr (9, [.ref (a0 0), .ref (a1 0), .null, .null, .null, .int 0, .null, .null, .null, .null, .null, .null])) :: ((([] : va_W) ++ gb_w8 g a0) ++ gb_w5 g a1)) H := hP
  have hD : va_D A ((h0, .inr (9, [.ref (a0 0), .ref (a1 0), .null, .null, .null, .int 0, .null, .null, .null, .null, .null, .null])) :: ((([] : va_W) ++ gb_w8 g a0) ++ gb_w5 g a1)) := hD
  refine lv_aload_n hx hb dX9_init_26 rfl (lv_at hl 0 rfl) ?_
  refine va_new (ci := 5) (fs := [.null, .null, .null, .null, .null, .null, .int 0, .int 0]) (C := RX5) (T := TX5) (N := 8) hx hb hts winX5 tyX5 tyX5_ok hown (hts _ (w_X9_init_7)) (hts _ (w_X9_init_8)) (hts _ (w_X9_init_9)) hK hP hD hS hA rfl df_5 (Nat.le_of_ble_eq_true rfl) (Nat.le_of_ble_eq_true rfl) dX9_init_27 (fun o2 H hP hD hS => ?_)
  have hP : va_P (g.1, g.2.1) vwCl (((h0, .inr (9, [.ref (a0 0), .ref (a1 0), .null, .null, .null, .int 0, .null, .null, .null, .null, .null, .null])) :: ((([] : va_W) ++ gb_w8 g a0) ++ gb_w5 g a1)) ++ [(o2, .inr (5, [.null, .null, .null, .null, .null, .null, .int 0, .int 0]))]) H := hP
  have hD : va_D A (((h0, .inr (9, [.ref (a0 0), .ref (a1 0), .null, .null, .null, .int 0, .null, .null, .null, .null, .null, .null])) :: ((([] : va_W) ++ gb_w8 g a0) ++ gb_w5 g a1)) ++ [(o2, .inr (5, [.null, .null, .null, .null, .null, .null, .int 0, .int 0]))]) := hD
  refine lv_dup hx hb dX9_init_30 rfl ?_
  refine lw_ctor (nL := 1) (ws := ((h0, .inr (9, [.ref (a0 0), .ref (a1 0), .null, .null, .null, .int 0, .null, .null, .null, .null, .null, .null])) :: ((([] : va_W) ++ gb_w8 g a0) ++ gb_w5 g a1))) (As := []) (rest := [.ref o2, .ref h0]) hx hb hml hown hts hA hP hD hS (n_X5_init l g o2  H.size) w4_X9_init_18 yok_5 ⟨rfl, rfl⟩ ⟨Nat.le_of_ble_eq_true rfl, Nat.le_of_ble_eq_true rfl⟩ ⟨Nat.le_of_ble_eq_true rfl, Nat.le_of_ble_eq_true rfl⟩ (pre_std hK hP hD) rfl hl.1 (Nat.le_of_ble_eq_true rfl) dX9_init_31 (fun u t _ h => o_w5 h) rfl (fun w1 H1 locs hw hP hD hS => ?_)
  obtain ⟨a2, rfl, rfl⟩ := hw
  generalize H1 = H at hP hS ⊢
  have hP : va_P (g.1, g.2.1) vwCl ((h0, .inr (9, [.ref (a0 0), .ref (a1 0), .null, .null, .null, .int 0, .null, .null, .null, .null, .null, .null])) :: (((([] : va_W) ++ gb_w8 g a0) ++ gb_w5 g a1) ++ gb_w5 g a2)) H := hP
  have hD : va_D A ((h0, .inr (9, [.ref (a0 0), .ref (a1 0), .null, .null, .null, .int 0, .null, .null, .null, .null, .null, .null])) :: (((([] : va_W) ++ gb_w8 g a0) ++ gb_w5 g a1) ++ gb_w5 g a2)) := hD
  refine va_putF (D := (g.1, g.2.1)) (ci := 9) (v := .ref (a2 0)) (ty := tyX9 2) (C := RX9) (T := TX9) (N := 12) hx hb hts winX9 tyX9 tyX9_ok nmX9 hown hK hP hD hS 0 rfl rfl 2 (by decide) (hts _ (w_X9_init_11)) (fun _ h9 => h9) rfl hin rfl (tyX9_ok 2 (by decide)) rfl rfl (Nat.le_of_ble_eq_true rfl) dX9_init_34 (fun H locs hP hD hS => ?_)
  have hP : va_P (g.1, g.2.1) vwCl ((h0, .inr (9, [.ref (a0 0), .ref (a1 0), .ref (a2 0), .null, .null, .int 0, .null, .null, .null, .null, .null, .null])) :: (((([] : va_W) ++ gb_w8 g a0) ++ gb_w5 g a1) ++ gb_w5 g a2)) H := hP
  have hD : va_D A ((h0, .inr (9, [.ref (a0 0), .ref (a1 0), .ref (a2 0), .null, .null, .int 0, .null, .null, .null, .null, .null, .null])) :: (((([] : va_W) ++ gb_w8 g a0) ++ gb_w5 g a1) ++ gb_w5 g a2)) := hD
  refine lv_aload_n hx hb dX9_init_37 rfl (lv_at hl 0 rfl) ?_
  refine va_new (ci := 7) (fs := [.null, .null, .null, .null, .null, .null, .null, .null, .null, .int 0, .int 0]) (C := RX7) (T := TX7) (N := 11) hx hb hts winX7 tyX7 tyX7_ok hown (hts _ (w_X9_init_12)) (hts _ (w_X9_init_13)) (hts _ (w_X9_init_14)) hK hP hD hS hA rfl df_7 (Nat.le_of_ble_eq_true rfl) (Nat.le_of_ble_eq_true rfl) dX9_init_38 (fun o3 H hP hD hS => ?_)
  have hP : va_P (g.1, g.2.1) vwCl (((h0, .inr (9, [.ref (a0 0), .ref (a1 0), .ref (a2 0), .null, .null, .int 0, .null, .null, .null, .null, .null, .null])) :: (((([] : va_W) ++ gb_w8 g a0) ++ gb_w5 g a1) ++ gb_w5 g a2)) ++ [(o3, .inr (7, [.null, .null, .null, .null, .null, .null, .null, .null, .null, .int 0, .int 0]))]) H := hP
  have hD : va_D A (((h0, .inr (9, [.ref (a0 0), .ref (a1 0), .ref (a2 0), .null, .null, .int 0, .null, .null, .null, .null, .null, .null])) :: (((([] : va_W) ++ gb_w8 g a0) ++ gb_w5 g a1) ++ gb_w5 g a2)) ++ [(o3, .inr (7, [.null, .null, .null, .null, .null, .null, .null, .null, .null, .int 0, .int 0]))]) := hD
  refine lv_dup hx hb dX9_init_41 rfl ?_
  refine lv_aload_n hx hb dX9_init_42 rfl (lv_at hl 0 rfl) ?_
  refine va_get (D := (g.1, g.2.1)) (ci := 9) (v := .ref (a1 0)) (C := RX9) (T := TX9) (N := 12) hx hb hts winX9 hown hK hP 0 rfl rfl 1 (by decide) (hts _ (w_X9_init_10)) (fun _ h9 => h9) rfl dX9_init_43 ?_
  refine lw_ctor (nL := 1) (ws := ((h0, .inr (9, [.ref (a0 0), .ref (a1 0), .ref (a2 0), .null, .null, .int 0, .null, .null, .null, .null, .null, .null])) :: (((([] : va_W) ++ gb_w8 g a0) ++ gb_w5 g a1) ++ gb_w5 g a2))) (As := [.ref (a1 0)]) (rest := [.ref o3, .ref h0]) hx hb hml hown hts hA hP hD hS (n_X7_init l g o3 (a1 0) H.size) w4_X9_init_28 yok_7 ⟨rfl, rfl⟩ ⟨Nat.le_of_ble_eq_true rfl, Nat.le_of_ble_eq_true rfl⟩ ⟨Nat.le_of_ble_eq_true rfl, Nat.le_of_ble_eq_true rfl⟩ (pre_std hK hP hD) rfl hl.1 (Nat.le_of_ble_eq_true rfl) dX9_init_46 (fun u t _ h => o_w7 h) rfl (fun w1 H1 locs hw hP hD hS => ?_)
  obtain ⟨a3, rfl, rfl⟩ := hw
  generalize H1 = H at hP hS ⊢
  have hP : va_P (g.1, g.2.1) vwCl ((h0, .inr (9, [.ref (a0 0), .ref (a1 0), .ref (a2 0), .null, .null, .int 0, .null, .null, .null, .null, .null, .null])) :: ((((([] : va_W) ++ gb_w8 g a0) ++ gb_w5 g a1) ++ gb_w5 g a2) ++ gb_w7 g (a1 0) a3)) H := hP
  have hD : va_D A ((h0, .inr (9, [.ref (a0 0), .ref (a1 0), .ref (a2 0), .null, .null, .int 0, .null, .null, .null, .null, .null, .null])) :: ((((([] : va_W) ++ gb_w8 g a0) ++ gb_w5 g a1) ++ gb_w5 g a2) ++ gb_w7 g (a1 0) a3)) := hD
  refine va_putF (D := (g.1, g.2.1)) (ci := 9) (v := .ref (a3 0)) (ty := tyX9 3) (C := RX9) (T := TX9) (N := 12) hx hb hts winX9 tyX9 tyX9_ok nmX9 hown hK hP hD hS 0 rfl rfl 3 (by decide) (hts _ (w_X9_init_15)) (fun _ h9 => h9) rfl hin rfl (tyX9_ok 3 (by decide)) rfl rfl (Nat.le_of_ble_eq_true rfl) dX9_init_49 (fun H locs hP hD hS => ?_)
  have hP : va_P (g.1, g.2.1) vwCl ((h0, .inr (9, [.ref (a0 0), .ref (a1 0), .ref (a2 0), .ref (a3 0), .null, .int 0, .null, .null, .null, .null, .null, .null])) :: ((((([] : va_W) ++ gb_w8 g a0) ++ gb_w5 g a1) ++ gb_w5 g a2) ++ gb_w7 g (a1 0) a3)) H := hP
  have hD : va_D A ((h0, .inr (9, [.ref (a0 0), .ref (a1 0), .ref (a2 0), .ref (a3 0), .null, .int 0, .null, .null, .null, .null, .null, .null])) :: ((((([] : va_W) ++ gb_w8 g a0) ++ gb_w5 g a1) ++ gb_w5 g a2) ++ gb_w7 g (a1 0) a3)) := hD
  refine lv_aload_n hx hb dX9_init_52 rfl (lv_at hl 0 rfl) ?_
  refine va_new (ci := 7) (fs := [.null, .null, .null, .null, .null, .null, .null, .null, .null, .int 0, .int 0]) (C := RX7) (T := TX7) (N := 11) hx hb hts winX7 tyX7 tyX7_ok hown (hts _ (w_X9_init_12)) (hts _ (w_X9_init_13)) (hts _ (w_X9_init_14)) hK hP hD hS hA rfl df_7 (Nat.le_of_ble_eq_true rfl) (Nat.le_of_ble_eq_true rfl) dX9_init_53 (fun o4 H hP hD hS => ?_)
  have hP : va_P (g.1, g.2.1) vwCl (((h0, .inr (9, [.ref (a0 0), .ref (a1 0), .ref (a2 0), .ref (a3 0), .null, .int 0, .null, .null, .null, .null, .null, .null])) :: ((((([] : va_W) ++ gb_w8 g a0) ++ gb_w5 g a1) ++ gb_w5 g a2) ++ gb_w7 g (a1 0) a3)) ++ [(o4, .inr (7, [.null, .null, .null, .null, .null, .null, .null, .null, .null, .int 0, .int 0]))]) H := hP
  have hD : va_D A (((h0, .inr (9, [.ref (a0 0), .ref (a1 0), .ref (a2 0), .ref (a3 0), .null, .int 0, .null, .null, .null, .null, .null, .null])) :: ((((([] : va_W) ++ gb_w8 g a0) ++ gb_w5 g a1) ++ gb_w5 g a2) ++ gb_w7 g (a1 0) a3)) ++ [(o4, .inr (7, [.null, .null, .null, .null, .null, .null, .null, .null, .null, .int 0, .int 0]))]) := hD
  refine lv_dup hx hb dX9_init_56 rfl ?_
  refine lv_aload_n hx hb dX9_init_57 rfl (lv_at hl 0 rfl) ?_
  refine va_get (D := (g.1, g.2.1)) (ci := 9) (v := .ref (a1 0)) (C := RX9) (T := TX9) (N := 12) hx hb hts winX9 hown hK hP 0 rfl rfl 1 (by decide) (hts _ (w_X9_init_10)) (fun _ h9 => h9) rfl dX9_init_58 ?_
  refine lw_ctor (nL := 1) (ws := ((h0, .inr (9, [.ref (a0 0), .ref (a1 0), .ref (a2 0), .ref (a3 0), .null, .int 0, .null, .null, .null, .null, .null, .null])) :: ((((([] : va_W) ++ gb_w8 g a0) ++ gb_w5 g a1) ++ gb_w5 g a2) ++ gb_w7 g (a1 0) a3))) (As := [.ref (a1 0)]) (rest := [.ref o4, .ref h0]) hx hb hml hown hts hA hP hD hS (n_X7_init l g o4 (a1 0) H.size) w4_X9_init_28 yok_7 ⟨rfl, rfl⟩ ⟨Nat.le_of_ble_eq_true rfl, Nat.le_of_ble_eq_true rfl⟩ ⟨Nat.le_of_ble_eq_true rfl, Nat.le_of_ble_eq_true rfl⟩ (pre_std hK hP hD) rfl hl.1 (Nat.le_of_ble_eq_true rfl) dX9_init_61 (fun u t _ h => o_w7 h) rfl (fun w1 H1 locs hw hP hD hS => ?_)
  obtain ⟨a4, rfl, rfl⟩ := hw
  generalize H1 = H at hP hS ⊢
  have hP : va_P (g.1, g.2.1) vwCl ((h0, .inr (9, [.ref (a0 0), .ref (a1 0), .ref (a2 0), .ref (a3 0), .null, .int 0, .null, .null, .null, .null, .null, .null])) :: (((((([] : va_W) ++ gb_w8 g a0) ++ gb_w5 g a1) ++ gb_w5 g a2) ++ gb_w7 g (a1 0) a3) ++ gb_w7 g (a1 0) a4)) H := hP
  have hD : va_D A ((h0, .inr (9, [.ref (a0 0), .ref (a1 0), .ref (a2 0), .ref (a3 0), .null, .int 0, .null, .null, .null, .null, .null, .null])) :: (((((([] : va_W) ++ gb_w8 g a0) ++ gb_w5 g a1) ++ gb_w5 g a2) ++ gb_w7 g (a1 0) a3) ++ gb_w7 g (a1 0) a4)) := hD
  refine va_putF (D := (g.1, g.2.1)) (ci := 9) (v := .ref (a4 0)) (ty := tyX9 4) (C := RX9) (T := TX9) (N := 12) hx hb hts winX9 tyX9 tyX9_ok nmX9 hown hK hP hD hS 0 rfl rfl 4 (by decide) (hts _ (w_X9_init_16)) (fun _ h9 => h9) rfl hin rfl (tyX9_ok 4 (by decide)) rfl rfl (Nat.le_of_ble_eq_true rfl) dX9_init_64 (fun H locs hP hD hS => ?_)
  have hP : va_P (g.1, g.2.1) vwCl ((h0, .inr (9, [.ref (a0 0), .ref (a1 0), .ref (a2 0), .ref (a3 0), .ref (a4 0), .int 0, .null, .null, .null, .null, .null, .null])) :: (((((([] : va_W) ++ gb_w8 g a0) ++ gb_w5 g a1) ++ gb_w5 g a2) ++ gb_w7 g (a1 0) a3) ++ gb_w7 g (a1 0) a4)) H := hP
  have hD : va_D A ((h0, .inr (9, [.ref (a0 0), .ref (a1 0), .ref (a2 0), .ref (a3 0), .ref (a4 0), .int 0, .null, .null, .null, .null, .null, .null])) :: (((((([] : va_W) ++ gb_w8 g a0) ++ gb_w5 g a1) ++ gb_w5 g a2) ++ gb_w7 g (a1 0) a3) ++ gb_w7 g (a1 0) a4)) := hD
  refine lv_aload_n hx hb dX9_init_67 rfl (lv_at hl 0 rfl) ?_
  refine va_new (ci := 3) (fs := [.null, .int 0, .int 0]) (C := RX3) (T := TX3) (N := 3) hx hb hts winX3 tyX3 tyX3_ok hown (hts _ (w_X9_init_17)) (hts _ (w_X9_init_18)) (hts _ (w_X9_init_19)) hK hP hD hS hA rfl df_3 (Nat.le_of_ble_eq_true rfl) (Nat.le_of_ble_eq_true rfl) dX9_init_68 (fun o5 H hP hD hS => ?_)
  have hP : va_P (g.1, g.2.1) vwCl (((h0, .inr (9, [.ref (a0 0), .ref (a1 0), .ref (a2 0), .ref (a3 0), .ref (a4 0), .int 0, .null, .null, .null, .null, .null, .null])) :: (((((([] : va_W) ++ gb_w8 g a0) ++ gb_w5 g a1) ++ gb_w5 g a2) ++ gb_w7 g (a1 0) a3) ++ gb_w7 g (a1 0) a4)) ++ [(o5, .inr (3, [.null, .int 0, .int 0]))]) H := hP
  have hD : va_D A (((h0, .inr (9, [.ref (a0 0), .ref (a1 0), .ref (a2 0), .ref (a3 0), .ref (a4 0), .int 0, .null, .null, .null, .null, .null, .null])) :: (((((([] : va_W) ++ gb_w8 g a0) ++ gb_w5 g a1) ++ gb_w5 g a2) ++ gb_w7 g (a1 0) a3) ++ gb_w7 g (a1 0) a4)) ++ [(o5, .inr (3, [.null, .int 0, .int 0]))]) := hD
  refine lv_dup hx hb dX9_init_71 rfl ?_
  refine lv_aload_n hx hb dX9_init_72 rfl (lv_at hl 0 rfl) ?_
  refine va_get (D := (g.1, g.2.1)) (ci := 9) (v := .ref (a1 0)) (C := RX9) (T := TX9) (N := 12) hx hb hts winX9 hown hK hP 0 rfl rfl 1 (by decide) (hts _ (w_X9_init_10)) (fun _ h9 => h9) rfl dX9_init_73 ?_
  refine lw_ctor (nL := 1) (ws := ((h0, .inr (9, [.ref (a0 0), .ref (a1 0), .ref (a2 0), .ref (a3 0), .ref (a4 0), .int 0, .null, .null, .null, .null, .null, .null])) :: (((((([] : va_W) ++ gb_w8 g a0) ++ gb_w5 g a1) ++ gb_w5 g a2) ++ gb_w7 g (a1 0) a3) ++ gb_w7 g (a1 0) a4))) (As := [.ref (a1 0)]) (rest := [.ref o5, .ref h0]) hx hb hml hown hts hA hP hD hS (n_X3_init l g o5 (a1 0) H.size) w4_X9_init_40 yok_3 ⟨rfl, rfl⟩ ⟨Nat.le_of_ble_eq_true rfl, Nat.le_of_ble_eq_true rfl⟩ ⟨Nat.le_of_ble_eq_true rfl, Nat.le_of_ble_eq_true rfl⟩ (pre_ao ho hK hP hD) rfl hl.1 (Nat.le_of_ble_eq_true rfl) dX9_init_76 (fun u t _ h => o_w3 h) rfl (fun w1 H1 locs hw hP hD hS => ?_)
  obtain ⟨a5, ba5, rfl, rfl⟩ := hw
  generalize H1 = H at hP hS ⊢
  have hP : va_P (g.1, g.2.1) vwCl ((h0, .inr (9, [.ref (a0 0), .ref (a1 0), .ref (a2 0), .ref (a3 0), .ref (a4 0), .int 0, .null, .null, .null, .null, .null, .null])) :: ((((((([] : va_W) ++ gb_w8 g a0) ++ gb_w5 g a1) ++ gb_w5 g a2) ++ gb_w7 g (a1 0) a3) ++ gb_w7 g (a1 0) a4) ++ gb_w3 g (a1 0) a5 ba5)) H := hP
  have hD : va_D A ((h0, .inr (9, [.ref (a0 0), .ref (a1 0), .ref (a2 0), .ref (a3 0), .ref (a4 0), .int 0, .null, .null, .null, .null, .null, .null])) :: ((((((([] : va_W) ++ gb_w8 g a0) ++ gb_w5 g a1) ++ gb_w5 g a2) ++ gb_w7 g (a1 0) a3) ++ gb_w7 g (a1 0) a4) ++ gb_w3 g (a1 0) a5 ba5)) := hD
  refine va_putF (D := (g.1, g.2.1)) (ci := 9) (v := .ref (a5 0)) (ty := tyX9 6) (C := RX9) (T := TX9) (N := 12) hx hb hts winX9 tyX9 tyX9_ok nmX9 hown hK hP hD hS 0 rfl rfl 6 (by decide) (hts _ (w_X9_init_20)) (fun _ h9 => h9) rfl hin rfl (tyX9_ok 6 (by decide)) rfl rfl (Nat.le_of_ble_eq_true rfl) dX9_init_79 (fun H locs hP hD hS => ?_)
  have hP : va_P (g.1, g.2.1) vwCl ((h0, .inr (9, [.ref (a0 0), .ref (a1 0), .ref (a2 0), .ref (a3 0), .ref (a4 0), .int 0, .ref (a5 0), .null, .null, .null, .null, .null])) :: ((((((([] : va_W) ++ gb_w8 g a0) ++ gb_w5 g a1) ++ gb_w5 g a2) ++ gb_w7 g (a1 0) a3) ++ gb_w7 g (a1 0) a4) ++ gb_w3 g (a1 0) a5 ba5)) H := hP
  have hD : va_D A ((h0, .inr (9, [.ref (a0 0), .ref (a1 0), .ref (a2 0), .ref (a3 0), .ref (a4 0), .int 0, .ref (a5 0), .null, .null, .null, .null, .null])) :: ((((((([] : va_W) ++ gb_w8 g a0) ++ gb_w5 g a1) ++ gb_w5 g a2) ++ gb_w7 g (a1 0) a3) ++ gb_w7 g (a1 0) a4) ++ gb_w3 g (a1 0) a5 ba5)) := hD
  refine lv_aload_n hx hb dX9_init_82 rfl (lv_at hl 0 rfl) ?_
  refine va_new (ci := 4) (fs := [.null, .int 0]) (C := RX4) (T := TX4) (N := 2) hx hb hts winX4 tyX4 tyX4_ok hown (hts _ (w_X9_init_21)) (hts _ (w_X9_init_22)) (hts _ (w_X9_init_23)) hK hP hD hS hA rfl df_4 (Nat.le_of_ble_eq_true rfl) (Nat.le_of_ble_eq_true rfl) dX9_init_83 (fun o6 H hP hD hS => ?_)
  have hP : va_P (g.1, g.2.1) vwCl (((h0, .inr (9, [.ref (a0 0), .ref (a1 0), .ref (a2 0), .ref (a3 0), .ref (a4 0), .int 0, .ref (a5 0), .null, .null, .null, .null, .null])) :: ((((((([] : va_W) ++ gb_w8 g a0) ++ gb_w5 g a1) ++ gb_w5 g a2) ++ gb_w7 g (a1 0) a3) ++ gb_w7 g (a1 0) a4) ++ gb_w3 g (a1 0) a5 ba5)) ++ [(o6, .inr (4, [.null, .int 0]))]) H := hP
  have hD : va_D A (((h0, .inr (9, [.ref (a0 0), .ref (a1 0), .ref (a2 0), .ref (a3 0), .ref (a4 0), .int 0, .ref (a5 0), .null, .null, .null, .null, .null])) :: ((((((([] : va_W) ++ gb_w8 g a0) ++ gb_w5 g a1) ++ gb_w5 g a2) ++ gb_w7 g (a1 0) a3) ++ gb_w7 g (a1 0) a4) ++ gb_w3 g (a1 0) a5 ba5)) ++ [(o6, .inr (4, [.null, .int 0]))]) := hD
  refine lv_dup hx hb dX9_init_86 rfl ?_
  refine lw_ctor (nL := 1) (ws := ((h0, .inr (9, [.ref (a0 0), .ref (a1 0), .ref (a2 0), .ref (a3 0), .ref (a4 0), .int 0, .ref (a5 0), .null, .null, .null, .null, .null])) :: ((((((([] : va_W) ++ gb_w8 g a0) ++ gb_w5 g a1) ++ gb_w5 g a2) ++ gb_w7 g (a1 0) a3) ++ gb_w7 g (a1 0) a4) ++ gb_w3 g (a1 0) a5 ba5))) (As := []) (rest := [.ref o6, .ref h0]) hx hb hml hown hts hA hP hD hS (n_X4_init l g o6  H.size) w4_X9_init_47 yok_4 ⟨rfl, rfl⟩ ⟨Nat.le_of_ble_eq_true rfl, Nat.le_of_ble_eq_true rfl⟩ ⟨Nat.le_of_ble_eq_true rfl, Nat.le_of_ble_eq_true rfl⟩ (pre_std hK hP hD) rfl hl.1 (Nat.le_of_ble_eq_true rfl) dX9_init_87 (fun u t _ h => o_w4 h) rfl (fun w1 H1 locs hw hP hD hS => ?_)
  obtain ⟨a6, rfl, rfl⟩ := hw
  generalize H1 = H at hP hS ⊢
  have hP : va_P (g.1, g.2.1) vwCl ((h0, .inr (9, [.ref (a0 0), .ref (a1 0), .ref (a2 0), .ref (a3 0), .ref (a4 0), .int 0, .ref (a5 0), .null, .null, .null, .null, .null])) :: (((((((([] : va_W) ++ gb_w8 g a0) ++ gb_w5 g a1) ++ gb_w5 g a2) ++ gb_w7 g (a1 0) a3) ++ gb_w7 g (a1 0) a4) ++ gb_w3 g (a1 0) a5 ba5) ++ gb_w4 g a6)) H := hP
  have hD : va_D A ((h0, .inr (9, [.ref (a0 0), .ref (a1 0), .ref (a2 0), .ref (a3 0), .ref (a4 0), .int 0, .ref (a5 0), .null, .null, .null, .null, .null])) :: (((((((([] : va_W) ++ gb_w8 g a0) ++ gb_w5 g a1) ++ gb_w5 g a2) ++ gb_w7 g (a1 0) a3) ++ gb_w7 g (a1 0) a4) ++ gb_w3 g (a1 0) a5 ba5) ++ gb_w4 g a6)) := hD
  refine va_putF (D := (g.1, g.2.1)) (ci := 9) (v := .ref (a6 0)) (ty := tyX9 7) (C := RX9) (T := TX9) (N := 12) hx hb hts winX9 tyX9 tyX9_ok nmX9 hown hK hP hD hS 0 rfl rfl 7 (by decide) (hts _ (w_X9_init_24)) (fun _ h9 => h9) rfl hin rfl (tyX9_ok 7 (by decide)) rfl rfl (Nat.le_of_ble_eq_true rfl) dX9_init_90 (fun H locs hP hD hS => ?_)
  have hP : va_P (g.1, g.2.1) vwCl ((h0, .inr (9, [.ref (a0 0), .ref (a1 0), .ref (a2 0), .ref (a3 0), .ref (a4 0), .int 0, .ref (a5 0), .ref (a6 0), .null, .null, .null, .null])) :: (((((((([] : va_W) ++ gb_w8 g a0) ++ gb_w5 g a1) ++ gb_w5 g a2) ++ gb_w7 g (a1 0) a3) ++ gb_w7 g (a1 0) a4) ++ gb_w3 g (a1 0) a5 ba5) ++ gb_w4 g a6)) H := hP
  have hD : va_D A ((h0, .inr (9, [.ref (a0 0), .ref (a1 0), .ref (a2 0), .ref (a3 0), .ref (a4 0), .int 0, .ref (a5 0), .ref (a6 0), .null, .null, .null, .null])) :: (((((((([] : va_W) ++ gb_w8 g a0) ++ gb_w5 g a1) ++ gb_w5 g a2) ++ gb_w7 g (a1 0) a3) ++ gb_w7 g (a1 0) a4) ++ gb_w3 g (a1 0) a5 ba5) ++ gb_w4 g a6)) := hD
  refine lv_aload_n hx hb dX9_init_93 rfl (lv_at hl 0 rfl) ?_
  refine va_new (ci := 2) (fs := [.null, .null, .null, .int 0]) (C := RX2) (T := TX2) (N := 4) hx hb hts winX2 tyX2 tyX2_ok hown (hts _ (w_X9_init_25)) (hts _ (w_X9_init_26)) (hts _ (w_X9_init_27)) hK hP hD hS hA rfl df_2 (Nat.le_of_ble_eq_true rfl) (Nat.le_of_ble_eq_true rfl) dX9_init_94 (fun o7 H hP hD hS => ?_)
  have hP : va_P (g.1, g.2.1) vwCl (((h0, .inr (9, [.ref (a0 0), .ref (a1 0), .ref (a2 0), .ref (a3 0), .ref (a4 0), .int 0, .ref (a5 0), .ref (a6 0), .null, .null, .null, .null])) :: (((((((([] : va_W) ++ gb_w8 g a0) ++ gb_w5 g a1) ++ gb_w5 g a2) ++ gb_w7 g (a1 0) a3) ++ gb_w7 g (a1 0) a4) ++ gb_w3 g (a1 0) a5 ba5) ++ gb_w4 g a6)) ++ [(o7, .inr (2, [.null, .null, .null, .int 0]))]) H := hP
  have hD : va_D A (((h0, .inr (9, [.ref (a0 0), .ref (a1 0), .ref (a2 0), .ref (a3 0), .ref (a4 0), .int 0, .ref (a5 0), .ref (a6 0), .null, .null, .null, .null])) :: (((((((([] : va_W) ++ gb_w8 g a0) ++ gb_w5 g a1) ++ gb_w5 g a2) ++ gb_w7 g (a1 0) a3) ++ gb_w7 g (a1 0) a4) ++ gb_w3 g (a1 0) a5 ba5) ++ gb_w4 g a6)) ++ [(o7, .inr (2, [.null, .null, .null, .int 0]))]) := hD
  refine lv_dup hx hb dX9_init_97 rfl ?_
  refine lw_ctor (nL := 1) (ws := ((h0, .inr (9, [.ref (a0 0), .ref (a1 0), .ref (a2 0), .ref (a3 0), .ref (a4 0), .int 0, .ref (a5 0), .ref (a6 0), .null, .null, .null, .null])) :: (((((((([] : va_W) ++ gb_w8 g a0) ++ gb_w5 g a1) ++ gb_w5 g a2) ++ gb_w7 g (a1 0) a3) ++ gb_w7 g (a1 0) a4) ++ gb_w3 g (a1 0) a5 ba5) ++ gb_w4 g a6))) (As := []) (rest := [.ref o7, .ref h0]) hx hb hml hown hts hA hP hD hS (n_X2_init l g o7  H.size) w4_X9_init_54 yok_2 ⟨rfl, rfl⟩ ⟨Nat.le_of_ble_eq_true rfl, Nat.le_of_ble_eq_true rfl⟩ ⟨Nat.le_of_ble_eq_true rfl, Nat.le_of_ble_eq_true rfl⟩ (pre_std hK hP hD) rfl hl.1 (Nat.le_of_ble_eq_true rfl) dX9_init_98 (fun u t _ h => o_w2 h) rfl (fun w1 H1 locs hw hP hD hS => ?_)
  obtain ⟨a7, rfl, rfl⟩ := hw
  generalize H1 = H at hP hS ⊢
  have hP : va_P (g.1, g.2.1) vwCl ((h0, .inr (9, [.ref (a0 0), .ref (a1 0), .ref (a2 0), .ref (a3 0), .ref (a4 0), .int 0, .ref (a5 0), .ref (a6 0), .null, .null, .null, .null])) :: ((((((((([] : va_W) ++ gb_w8 g a0) ++ gb_w5 g a1) ++ gb_w5 g a2) ++ gb_w7 g (a1 0) a3) ++ gb_w7 g (a1 0) a4) ++ gb_w3 g (a1 0) a5 ba5) ++ gb_w4 g a6) ++ gb_w2 g a7)) H := hP
  have hD : va_D A ((h0, .inr (9, [.ref (a0 0), .ref (a1 0), .ref (a2 0), .ref (a3 0), .ref (a4 0), .int 0, .ref (a5 0), .ref (a6 0), .null, .null, .null, .null])) :: ((((((((([] : va_W) ++ gb_w8 g a0) ++ gb_w5 g a1) ++ gb_w5 g a2) ++ gb_w7 g (a1 0) a3) ++ gb_w7 g (a1 0) a4) ++ gb_w3 g (a1 0) a5 ba5) ++ gb_w4 g a6) ++ gb_w2 g a7)) := hD
  refine va_putF (D := (g.1, g.2.1)) (ci := 9) (v := .ref (a7 0)) (ty := tyX9 8) (C := RX9) (T := TX9) (N := 12) hx hb hts winX9 tyX9 tyX9_ok nmX9 hown hK hP hD hS 0 rfl rfl 8 (by decide) (hts _ (w_X9_init_28)) (fun _ h9 => h9) rfl hin rfl (tyX9_ok 8 (by decide)) rfl rfl (Nat.le_of_ble_eq_true rfl) dX9_init_101 (fun H locs hP hD hS => ?_)
  have hP : va_P (g.1, g.2.1) vwCl ((h0, .inr (9, [.ref (a0 0), .ref (a1 0), .ref (a2 0), .ref (a3 0), .ref (a4 0), .int 0, .ref (a5 0), .ref (a6 0), .ref (a7 0), .null, .null, .null])) :: ((((((((([] : va_W) ++ gb_w8 g a0) ++ gb_w5 g a1) ++ gb_w5 g a2) ++ gb_w7 g (a1 0) a3) ++ gb_w7 g (a1 0) a4) ++ gb_w3 g (a1 0) a5 ba5) ++ gb_w4 g a6) ++ gb_w2 g a7)) H := hP
  have hD : va_D A ((h0, .inr (9, [.ref (a0 0), .ref (a1 0), .ref (a2 0), .ref (a3 0), .ref (a4 0), .int 0, .ref (a5 0), .ref (a6 0), .ref (a7 0), .null, .null, .null])) :: ((((((((([] : va_W) ++ gb_w8 g a0) ++ gb_w5 g a1) ++ gb_w5 g a2) ++ gb_w7 g (a1 0) a3) ++ gb_w7 g (a1 0) a4) ++ gb_w3 g (a1 0) a5 ba5) ++ gb_w4 g a6) ++ gb_w2 g a7)) := hD
  refine lv_aload_n hx hb dX9_init_104 rfl (lv_at hl 0 rfl) ?_
  refine va_new (ci := 1) (fs := [.null, .null, .null, .null, .int 0, .int 0, .int 0]) (C := RX1) (T := TX1) (N := 7) hx hb hts winX1 tyX1 tyX1_ok hown (hts _ (w_X9_init_29)) (hts _ (w_X9_init_30)) (hts _ (w_X9_init_31)) hK hP hD hS hA rfl df_1 (Nat.le_of_ble_eq_true rfl) (Nat.le_of_ble_eq_true rfl) dX9_init_105 (fun o8 H hP hD hS => ?_)
  have hP : va_P (g.1, g.2.1) vwCl (((h0, .inr (9, [.ref (a0 0), .ref (a1 0), .ref (a2 0), .ref (a3 0), .ref (a4 0), .int 0, .ref (a5 0), .ref (a6 0), .ref (a7 0), .null, .null, .null])) :: ((((((((([] : va_W) ++ gb_w8 g a0) ++ gb_w5 g a1) ++ gb_w5 g a2) ++ gb_w7 g (a1 0) a3) ++ gb_w7 g (a1 0) a4) ++ gb_w3 g (a1 0) a5 ba5) ++ gb_w4 g a6) ++ gb_w2 g a7)) ++ [(o8, .inr (1, [.null, .null, .null, .null, .int 0, .int 0, .int 0]))]) H := hP
  have hD : va_D A (((h0, .inr (9, [.ref (a0 0), .ref (a1 0), .ref (a2 0), .ref (a3 0), .ref (a4 0), .int 0, .ref (a5 0), .ref (a6 0), .ref (a7 0), .null, .null, .null])) :: ((((((((([] : va_W) ++ gb_w8 g a0) ++ gb_w5 g a1) ++ gb_w5 g a2) ++ gb_w7 g (a1 0) a3) ++ gb_w7 g (a1 0) a4) ++ gb_w3 g (a1 0) a5 ba5) ++ gb_w4 g a6) ++ gb_w2 g a7)) ++ [(o8, .inr (1, [.null, .null, .null, .null, .int 0, .int 0, .int 0]))]) := hD
  refine lv_dup hx hb dX9_init_108 rfl ?_
  refine lv_aload_n hx hb dX9_init_109 rfl (lv_at hl 0 rfl) ?_
  refine va_get (D := (g.1, g.2.1)) (ci := 9) (v := .ref (a1 0)) (C := RX9) (T := TX9) (N := 12) hx hb hts winX9 hown hK hP 0 rfl rfl 1 (by decide) (hts _ (w_X9_init_10)) (fun _ h9 => h9) rfl dX9_init_110 ?_
  refine lv_aload_n hx hb dX9_init_113 rfl (lv_at hl 0 rfl) ?_
  refine va_get (D := (g.1, g.2.1)) (ci := 9) (v := .ref (a7 0)) (C := RX9) (T := TX9) (N := 12) hx hb hts winX9 hown hK hP 0 rfl rfl 8 (by decide) (hts _ (w_X9_init_28)) (fun _ h9 => h9) rfl dX9_init_114 ?_
  refine lw_ctor (nL := 1) (ws := ((h0, .inr (9, [.ref (a0 0), .ref (a1 0), .ref (a2 0), .ref (a3 0), .ref (a4 0), .int 0, .ref (a5 0), .ref (a6 0), .ref (a7 0), .null, .null, .null])) :: ((((((((([] : va_W) ++ gb_w8 g a0) ++ gb_w5 g a1) ++ gb_w5 g a2) ++ gb_w7 g (a1 0) a3) ++ gb_w7 g (a1 0) a4) ++ gb_w3 g (a1 0) a5 ba5) ++ gb_w4 g a6) ++ gb_w2 g a7))) (As := [.ref (a1 0), .ref (a7 0)]) (rest := [.ref o8, .ref h0]) hx hb hml hown hts hA hP hD hS (n_X1_init l g o8 (a1 0) (a7 0) H.size) w4_X9_init_61 yok_1 ⟨rfl, rfl⟩ ⟨Nat.le_of_ble_eq_true rfl, Nat.le_of_ble_eq_true rfl⟩ ⟨Nat.le_of_ble_eq_true rfl, Nat.le_of_ble_eq_true rfl⟩ (pre_std hK hP hD) rfl hl.1 (Nat.le_of_ble_eq_true rfl) dX9_init_117 (fun u t _ h => o_w1 h) rfl (fun w1 H1 locs hw hP hD hS => ?_)
  obtain ⟨a8, ta8, rfl, rfl⟩ := hw
  generalize H1 = H at hP hS ⊢
  have hP : va_P (g.1, g.2.1) vwCl ((h0, .inr (9, [.ref (a0 0), .ref (a1 0), .ref (a2 0), .ref (a3 0), .ref (a4 0), .int 0, .ref (a5 0), .ref (a6 0), .ref (a7 0), .null, .null, .null])) :: (((((((((([] : va_W) ++ gb_w8 g a0) ++ gb_w5 g a1) ++ gb_w5 g a2) ++ gb_w7 g (a1 0) a3) ++ gb_w7 g (a1 0) a4) ++ gb_w3 g (a1 0) a5 ba5) ++ gb_w4 g a6) ++ gb_w2 g a7) ++ gb_w1 g (a1 0) (a7 0) a8 ta8)) H := hP
  have hD : va_D A ((h0, .inr (9, [.ref (a0 0), .ref (a1 0), .ref (a2 0), .ref (a3 0), .ref (a4 0), .int 0, .ref (a5 0), .ref (a6 0), .ref (a7 0), .null, .null, .null])) :: (((((((((([] : va_W) ++ gb_w8 g a0) ++ gb_w5 g a1) ++ gb_w5 g a2) ++ gb_w7 g (a1 0) a3) ++ gb_w7 g (a1 0) a4) ++ gb_w3 g (a1 0) a5 ba5) ++ gb_w4 g a6) ++ gb_w2 g a7) ++ gb_w1 g (a1 0) (a7 0) a8 ta8)) := hD
  refine va_putF (D := (g.1, g.2.1)) (ci := 9) (v := .ref (a8 0)) (ty := tyX9 9) (C := RX9) (T := TX9) (N := 12) hx hb hts winX9 tyX9 tyX9_ok nmX9 hown hK hP hD hS 0 rfl rfl 9 (by decide) (hts _ (w_X9_init_32)) (fun _ h9 => h9) rfl hin rfl (tyX9_ok 9 (by decide)) rfl rfl (Nat.le_of_ble_eq_true rfl) dX9_init_120 (fun H locs hP hD hS => ?_)
  have hP : va_P (g.1, g.2.1) vwCl ((h0, .inr (9, [.ref (a0 0), .ref (a1 0), .ref (a2 0), .ref (a3 0), .ref (a4 0), .int 0, .ref (a5 0), .ref (a6 0), .ref (a7 0), .ref (a8 0), .null, .null])) :: (((((((((([] : va_W) ++ gb_w8 g a0) ++ gb_w5 g a1) ++ gb_w5 g a2) ++ gb_w7 g (a1 0) a3) ++ gb_w7 g (a1 0) a4) ++ gb_w3 g (a1 0) a5 ba5) ++ gb_w4 g a6) ++ gb_w2 g a7) ++ gb_w1 g (a1 0) (a7 0) a8 ta8)) H := hP
  have hD : va_D A ((h0, .inr (9, [.ref (a0 0), .ref (a1 0), .ref (a2 0), .ref (a3 0), .ref (a4 0), .int 0, .ref (a5 0), .ref (a6 0), .ref (a7 0), .ref (a8 0), .null, .null])) :: (((((((((([] : va_W) ++ gb_w8 g a0) ++ gb_w5 g a1) ++ gb_w5 g a2) ++ gb_w7 g (a1 0) a3) ++ gb_w7 g (a1 0) a4) ++ gb_w3 g (a1 0) a5 ba5) ++ gb_w4 g a6) ++ gb_w2 g a7) ++ gb_w1 g (a1 0) (a7 0) a8 ta8)) := hD
  refine lv_aload_n hx hb dX9_init_123 rfl (lv_at hl 0 rfl) ?_
  refine va_new (ci := 0) (fs := [.null, .null, .null, .null, .null, .int 0]) (C := RX0) (T := TX0) (N := 6) hx hb hts winX0 tyX0 tyX0_ok hown (hts _ (w_X9_init_33)) (hts _ (w_X9_init_34)) (hts _ (w_X9_init_35)) hK hP hD hS hA rfl df_0 (Nat.le_of_ble_eq_true rfl) (Nat.le_of_ble_eq_true rfl) dX9_init_124 (fun o9 H hP hD hS => ?_)
  have hP : va_P (g.1, g.2.1) vwCl (((h0, .inr (9, [.ref (a0 0), .ref (a1 0), .ref (a2 0), .ref (a3 0), .ref (a4 0), .int 0, .ref (a5 0), .ref (a6 0), .ref (a7 0), .ref (a8 0), .null, .null])) :: (((((((((([] : va_W) ++ gb_w8 g a0) ++ gb_w5 g a1) ++ gb_w5 g a2) ++ gb_w7 g (a1 0) a3) ++ gb_w7 g (a1 0) a4) ++ gb_w3 g (a1 0) a5 ba5) ++ gb_w4 g a6) ++ gb_w2 g a7) ++ gb_w1 g (a1 0) (a7 0) a8 ta8)) ++ [(o9, .inr (0, [.null, .null, .null, .null, .null, .int 0]))]) H := hP
  have hD : va_D A (((h0, .inr (9, [.ref (a0 0), .ref (a1 0), .ref (a2 0), .ref (a3 0), .ref (a4 0), .int 0, .ref (a5 0), .ref (a6 0), .ref (a7 0), .ref (a8 0), .null, .null])) :: (((((((((([] : va_W) ++ gb_w8 g a0) ++ gb_w5 g a1) ++ gb_w5 g a2) ++ gb_w7 g (a1 0) a3) ++ gb_w7 g (a1 0) a4) ++ gb_w3 g (a1 0) a5 ba5) ++ gb_w4 g a6) ++ gb_w2 g a7) ++ gb_w1 g (a1 0) (a7 0) a8 ta8)) ++ [(o9, .inr (0, [.null, .null, .null, .null, .null, .int 0]))]) := hD
  refine lv_dup hx hb dX9_init_127 rfl ?_
  refine lv_aload_n hx hb dX9_init_128 rfl (lv_at hl 0 rfl) ?_
  refine va_get (D := (g.1, g.2.1)) (ci := 9) (v := .ref (a3 0)) (C := RX9) (T := TX9) (N := 12) hx hb hts winX9 hown hK hP 0 rfl rfl 3 (by decide) (hts _ (w_X9_init_15)) (fun _ h9 => h9) rfl dX9_init_129 ?_
  refine lv_aload_n hx hb dX9_init_132 rfl (lv_at hl 0 rfl) ?_
  refine va_get (D := (g.1, g.2.1)) (ci := 9) (v := .ref (a7 0)) (C := RX9) (T := TX9) (N := 12) hx hb hts winX9 hown hK hP 0 rfl rfl 8 (by decide) (hts _ (w_X9_init_28)) (fun _ h9 => h9) rfl dX9_init_133 ?_
  refine lw_ctor (nL := 1) (ws := ((h0, .inr (9, [.ref (a0 0), .ref (a1 0), .ref (a2 0), .ref (a3 0), .ref (a4 0), .int 0, .ref (a5 0), .ref (a6 0), .ref (a7 0), .ref (a8 0), .null, .null])) :: (((((((((([] : va_W) ++ gb_w8 g a0) ++ gb_w5 g a1) ++ gb_w5 g a2) ++ gb_w7 g (a1 0) a3) ++ gb_w7 g (a1 0) a4) ++ gb_w3 g (a1 0) a5 ba5) ++ gb_w4 g a6) ++ gb_w2 g a7) ++ gb_w1 g (a1 0) (a7 0) a8 ta8))) (As := [.ref (a3 0), .ref (a7 0)]) (rest := [.ref o9, .ref h0]) hx hb hml hown hts hA hP hD hS (n_X0_init l g o9 (a3 0) (a7 0) H.size) w4_X9_init_70 yok_0 ⟨rfl, rfl⟩ ⟨Nat.le_of_ble_eq_true rfl, Nat.le_of_ble_eq_true rfl⟩ ⟨Nat.le_of_ble_eq_true rfl, Nat.le_of_ble_eq_true rfl⟩ (pre_std hK hP hD) rfl hl.1 (Nat.le_of_ble_eq_true rfl) dX9_init_136 (fun u t _ h => o_w0 h) rfl (fun w1 H1 locs hw hP hD hS => ?_)
  obtain ⟨a9, rfl, rfl⟩ := hw
  generalize H1 = H at hP hS ⊢
  have hP : va_P (g.1, g.2.1) vwCl ((h0, .inr (9, [.ref (a0 0), .ref (a1 0), .ref (a2 0), .ref (a3 0), .ref (a4 0), .int 0, .ref (a5 0), .ref (a6 0), .ref (a7 0), .ref (a8 0), .null, .null])) :: ((((((((((([] : va_W) ++ gb_w8 g a0) ++ gb_w5 g a1) ++ gb_w5 g a2) ++ gb_w7 g (a1 0) a3) ++ gb_w7 g (a1 0) a4) ++ gb_w3 g (a1 0) a5 ba5) ++ gb_w4 g a6) ++ gb_w2 g a7) ++ gb_w1 g (a1 0) (a7 0) a8 ta8) ++ gb_w0 g (a3 0) (a7 0) a9)) H := hP
  have hD : va_D A ((h0, .inr (9, [.ref (a0 0), .ref (a1 0), .ref (a2 0), .ref (a3 0), .ref (a4 0), .int 0, .ref (a5 0), .ref (a6 0), .ref (a7 0), .ref (a8 0), .null, .null])) :: ((((((((((([] : va_W) ++ gb_w8 g a0) ++ gb_w5 g a1) ++ gb_w5 g a2) ++ gb_w7 g (a1 0) a3) ++ gb_w7 g (a1 0) a4) ++ gb_w3 g (a1 0) a5 ba5) ++ gb_w4 g a6) ++ gb_w2 g a7) ++ gb_w1 g (a1 0) (a7 0) a8 ta8) ++ gb_w0 g (a3 0) (a7 0) a9)) := hD
  refine va_putF (D := (g.1, g.2.1)) (ci := 9) (v := .ref (a9 0)) (ty := tyX9 10) (C := RX9) (T := TX9) (N := 12) hx hb hts winX9 tyX9 tyX9_ok nmX9 hown hK hP hD hS 0 rfl rfl 10 (by decide) (hts _ (w_X9_init_36)) (fun _ h9 => h9) rfl hin rfl (tyX9_ok 10 (by decide)) rfl rfl (Nat.le_of_ble_eq_true rfl) dX9_init_139 (fun H locs hP hD hS => ?_)
  have hP : va_P (g.1, g.2.1) vwCl ((h0, .inr (9, [.ref (a0 0), .ref (a1 0), .ref (a2 0), .ref (a3 0), .ref (a4 0), .int 0, .ref (a5 0), .ref (a6 0), .ref (a7 0), .ref (a8 0), .ref (a9 0), .null])) :: ((((((((((([] : va_W) ++ gb_w8 g a0) ++ gb_w5 g a1) ++ gb_w5 g a2) ++ gb_w7 g (a1 0) a3) ++ gb_w7 g (a1 0) a4) ++ gb_w3 g (a1 0) a5 ba5) ++ gb_w4 g a6) ++ gb_w2 g a7) ++ gb_w1 g (a1 0) (a7 0) a8 ta8) ++ gb_w0 g (a3 0) (a7 0) a9)) H := hP
  have hD : va_D A ((h0, .inr (9, [.ref (a0 0), .ref (a1 0), .ref (a2 0), .ref (a3 0), .ref (a4 0), .int 0, .ref (a5 0), .ref (a6 0), .ref (a7 0), .ref (a8 0), .ref (a9 0), .null])) :: ((((((((((([] : va_W) ++ gb_w8 g a0) ++ gb_w5 g a1) ++ gb_w5 g a2) ++ gb_w7 g (a1 0) a3) ++ gb_w7 g (a1 0) a4) ++ gb_w3 g (a1 0) a5 ba5) ++ gb_w4 g a6) ++ gb_w2 g a7) ++ gb_w1 g (a1 0) (a7 0) a8 ta8) ++ gb_w0 g (a3 0) (a7 0) a9)) := hD
  refine lv_aload_n hx hb dX9_init_142 rfl (lv_at hl 0 rfl) ?_
  refine va_new (ci := 6) (fs := [.null, .int 0]) (C := RX6) (T := TX6) (N := 2) hx hb hts winX6 tyX6 tyX6_ok hown (hts _ (w_X9_init_37)) (hts _ (w_X9_init_38)) (hts _ (w_X9_init_39)) hK hP hD hS hA rfl df_6 (Nat.le_of_ble_eq_true rfl) (Nat.le_of_ble_eq_true rfl) dX9_init_143 (fun o10 H hP hD hS => ?_)
  have hP : va_P (g.1, g.2.1) vwCl (((h0, .inr (9, [.ref (a0 0), .ref (a1 0), .ref (a2 0), .ref (a3 0), .ref (a4 0), .int 0, .ref (a5 0), .ref (a6 0), .ref (a7 0), .ref (a8 0), .ref (a9 0), .null])) :: ((((((((((([] : va_W) ++ gb_w8 g a0) ++ gb_w5 g a1) ++ gb_w5 g a2) ++ gb_w7 g (a1 0) a3) ++ gb_w7 g (a1 0) a4) ++ gb_w3 g (a1 0) a5 ba5) ++ gb_w4 g a6) ++ gb_w2 g a7) ++ gb_w1 g (a1 0) (a7 0) a8 ta8) ++ gb_w0 g (a3 0) (a7 0) a9)) ++ [(o10, .inr (6, [.null, .int 0]))]) H := hP
  have hD : va_D A (((h0, .inr (9, [.ref (a0 0), .ref (a1 0), .ref (a2 0), .ref (a3 0), .ref (a4 0), .int 0, .ref (a5 0), .ref (a6 0), .ref (a7 0), .ref (a8 0), .ref (a9 0), .null])) :: ((((((((((([] : va_W) ++ gb_w8 g a0) ++ gb_w5 g a1) ++ gb_w5 g a2) ++ gb_w7 g (a1 0) a3) ++ gb_w7 g (a1 0) a4) ++ gb_w3 g (a1 0) a5 ba5) ++ gb_w4 g a6) ++ gb_w2 g a7) ++ gb_w1 g (a1 0) (a7 0) a8 ta8) ++ gb_w0 g (a3 0) (a7 0) a9)) ++ [(o10, .inr (6, [.null, .int 0]))]) := hD
  refine lv_dup hx hb dX9_init_146 rfl ?_
  refine lw_ctor (nL := 1) (ws := ((h0, .inr (9, [.ref (a0 0), .ref (a1 0), .ref (a2 0), .ref (a3 0), .ref (a4 0), .int 0, .ref (a5 0), .ref (a6 0), .ref (a7 0), .ref (a8 0), .ref (a9 0), .null])) :: ((((((((((([] : va_W) ++ gb_w8 g a0) ++ gb_w5 g a1) ++ gb_w5 g a2) ++ gb_w7 g (a1 0) a3) ++ gb_w7 g (a1 0) a4) ++ gb_w3 g (a1 0) a5 ba5) ++ gb_w4 g a6) ++ gb_w2 g a7) ++ gb_w1 g (a1 0) (a7 0) a8 ta8) ++ gb_w0 g (a3 0) (a7 0) a9))) (As := []) (rest := [.ref o10, .ref h0]) hx hb hml hown hts hA hP hD hS (n_X6_init l g o10  H.size) w4_X9_init_79 yok_6 ⟨rfl, rfl⟩ ⟨Nat.le_of_ble_eq_true rfl, Nat.le_of_ble_eq_true rfl⟩ ⟨Nat.le_of_ble_eq_true rfl, Nat.le_of_ble_eq_true rfl⟩ (pre_std hK hP hD) rfl hl.1 (Nat.le_of_ble_eq_true rfl) dX9_init_147 (fun u t _ h => o_w6 h) rfl (fun w1 H1 locs hw hP hD hS => ?_)
  obtain ⟨a10, rfl, rfl⟩ := hw
  generalize H1 = H at hP hS ⊢
  have hP : va_P (g.1, g.2.1) vwCl ((h0, .inr (9, [.ref (a0 0), .ref (a1 0), .ref (a2 0), .ref (a3 0), .ref (a4 0), .int 0, .ref (a5 0), .ref (a6 0), .ref (a7 0), .ref (a8 0), .ref (a9 0), .null])) :: (((((((((((([] : va_W) ++ gb_w8 g a0) ++ gb_w5 g a1) ++ gb_w5 g a2) ++ gb_w7 g (a1 0) a3) ++ gb_w7 g (a1 0) a4) ++ gb_w3 g (a1 0) a5 ba5) ++ gb_w4 g a6) ++ gb_w2 g a7) ++ gb_w1 g (a1 0) (a7 0) a8 ta8) ++ gb_w0 g (a3 0) (a7 0) a9) ++ gb_w6 g a10)) H := hP
  have hD : va_D A ((h0, .inr (9, [.ref (a0 0), .ref (a1 0), .ref (a2 0), .ref (a3 0), .ref (a4 0), .int 0, .ref (a5 0), .ref (a6 0), .ref (a7 0), .ref (a8 0), .ref (a9 0), .null])) :: (((((((((((([] : va_W) ++ gb_w8 g a0) ++ gb_w5 g a1) ++ gb_w5 g a2) ++ gb_w7 g (a1 0) a3) ++ gb_w7 g (a1 0) a4) ++ gb_w3 g (a1 0) a5 ba5) ++ gb_w4 g a6) ++ gb_w2 g a7) ++ gb_w1 g (a1 0) (a7 0) a8 ta8) ++ gb_w0 g (a3 0) (a7 0) a9) ++ gb_w6 g a10)) := hD
  refine va_putF (D := (g.1, g.2.1)) (ci := 9) (v := .ref (a10 0)) (ty := tyX9 11) (C := RX9) (T := TX9) (N := 12) hx hb hts winX9 tyX9 tyX9_ok nmX9 hown hK hP hD hS 0 rfl rfl 11 (by decide) (hts _ (w_X9_init_40)) (fun _ h9 => h9) rfl hin rfl (tyX9_ok 11 (by decide)) rfl rfl (Nat.le_of_ble_eq_true rfl) dX9_init_150 (fun H locs hP hD hS => ?_)
  have hP : va_P (g.1, g.2.1) vwCl ((h0, .inr (9, [.ref (a0 0), .ref (a1 0), .ref (a2 0), .ref (a3 0), .ref (a4 0), .int 0, .ref (a5 0), .ref (a6 0), .ref (a7 0), .ref (a8 0), .ref (a9 0), .ref (a10 0)])) :: (((((((((((([] : va_W) ++ gb_w8 g a0) ++ gb_w5 g a1) ++ gb_w5 g a2) ++ gb_w7 g (a1 0) a3) ++ gb_w7 g (a1 0) a4) ++ gb_w3 g (a1 0) a5 ba5) ++ gb_w4 g a6) ++ gb_w2 g a7) ++ gb_w1 g (a1 0) (a7 0) a8 ta8) ++ gb_w0 g (a3 0) (a7 0) a9) ++ gb_w6 g a10)) H := hP
  have hD : va_D A ((h0, .inr (9, [.ref (a0 0), .ref (a1 0), .ref (a2 0), .ref (a3 0), .ref (a4 0), .int 0, .ref (a5 0), .ref (a6 0), .ref (a7 0), .ref (a8 0), .ref (a9 0), .ref (a10 0)])) :: (((((((((((([] : va_W) ++ gb_w8 g a0) ++ gb_w5 g a1) ++ gb_w5 g a2) ++ gb_w7 g (a1 0) a3) ++ gb_w7 g (a1 0) a4) ++ gb_w3 g (a1 0) a5 ba5) ++ gb_w4 g a6) ++ gb_w2 g a7) ++ gb_w1 g (a1 0) (a7 0) a8 ta8) ++ gb_w0 g (a3 0) (a7 0) a9) ++ gb_w6 g a10)) := hD
  exact W.vret hx hb hr (fun t ht hW => ⟨⟨(), rfl, trivial, gb_w9 g h0 a0 a1 a2 a3 a4 a5 ba5 a6 a7 a8 ta8 a9 a10, ⟨_, _, _, _, _, _, _, _, _, _, _, _, _, rfl⟩, by rw [ht]; exact hP, va_K.moved hW.alike hK, hD⟩, hS.F ht⟩) hS.2.2 dX9_init_153
