/-! THE CLAIM OUT OF ONE WALK OF THE LAW'S BODY. Your part is whole_start (and what it stands on); all else here is the same for every law, but numbers. -/
def R_law : String := "GrainBinsLaw"
def lw_P (b : Addr) (xs : List Int32) (args : Array Value) (s : State) : Prop := args = #[.ref b] ∧ s.IntsAt b xs ∧ xs.length ≤ 2048 ∧ (Jvm.Cond.and given_1 narrow_1).before args s = true
def lw_Q (_ : Array Value) (s : State) (o : Outcome) (t : State) : Prop := o = .returned (some (.int 1)) ∧ Framed s o t [] 601024 7293034
def lw_Z (below : List Frame) (a : Array Value) (s : State) : State → Prop := fun t => ∃ o, t.status = .running ∧ Ended t below o ∧ lw_Q a s o t
/-- the law's own end, with 1 on the stack, nothing written that was there before, its room as the claim has it -/
theorem lw_ret {p : Program} {l : Launch} {e : Env} {s : State} {m : MethodId} {below : List Frame} {meth : Method} {c : Code} {b : Nat} (hx : p.tables.exec = Jvm.exec) (hb : c.code = code) (hr : meth.sig.returnType = ret) (hlocks : meth.locks = false) {pc : Nat} {H : Heap} {ls : Array Slot} (hdg : decode code pc = .ok (.ireturn, 1)) : W p l e room_1 s m #[Value.ref b] below meth c H [] 601024 7293034 (lw_Z below #[Value.ref b] s) (F0 m pc ls [.int 1]) := by
  intro T hT X
  obtain ⟨fs, hret, hrun, hended, hW, hframe⟩ := X.leave (v := some (.int 1)) (hlocks := hlocks) (fun h => by rw [hr] at h; cases h)
  have hmeth' : T.vm.method? m = some meth := X.method'
  refine ⟨T.setFrames fs, ?_, .returned (some (.int 1)), hrun, hended, rfl, ⟨_, rfl⟩, hW, hframe⟩
  jvm_step X.here [X.here.top, hx, hb, hdg, hmeth', hr, ret, narrow_b1]
  (try refine ⟨rfl, ?_⟩); (try refine ⟨rfl, ?_⟩)
  first | (intro acts; rw [hret _ acts rfl rfl rfl]) | rw [hret _ _ rfl rfl rfl]
  exact Steps.refl _
/-- what holds at the law's entry: the machine, the code, the tables' words (any of lw_tbl by 'hts w (by decide +kernel)'), the script of L ints xs at the cell b, what the Statement gives of the start (any of its parts by flat_of_before) -/
def lw_At (p : Program) (s : State) (m : MethodId) (meth : Method) (c : Code) (b L : Nat) (xs : Nat → Int32) : Prop :=
  p.tables.exec = Jvm.exec ∧ c.code = code ∧ meth.sig.returnType = ret ∧ c.maxLocals = 8 ∧ s.vm.findClass R_law = some m.cls ∧ (∀ w ∈ lw_tbl, w.before #[Value.ref b] s = true) ∧ va_X b L xs s s.heap ∧ b < s.heap.size ∧ meth.locks = false ∧ (Jvm.Cond.and given_1 narrow_1).before #[Value.ref b] s = true
/-! THE LAW from its entry (printed by wip/whole/mkstart.py) -/
theorem df_9 : ∀ j, j < 12 → defaultValue (tyX9 j) = vp_V [.null, .null, .null, .null, .null, .int 0, .null, .null, .null, .null, .null, .null] j := fun j hj => by rcases (show j = 0 ∨ j = 1 ∨ j = 2 ∨ j = 3 ∨ j = 4 ∨ j = 5 ∨ j = 6 ∨ j = 7 ∨ j = 8 ∨ j = 9 ∨ j = 10 ∨ j = 11 by omega) with rfl | rfl | rfl | rfl | rfl | rfl | rfl | rfl | rfl | rfl | rfl | rfl <;> rfl
theorem yok_9 : yX9_init.name = "<init>" ∧ yX9_init.cls ≠ "java/lang/invoke/MethodHandle" ∧ yX9_init.cls ≠ "java/lang/invoke/VarHandle" ∧ (parseMethodDescriptor yX9_init.desc).map (fun d => d.parameters.length) = some 0 := ⟨rfl, by decide +kernel, by decide +kernel, by decide +kernel⟩
theorem df_10 : ∀ j, j < 38 → defaultValue (tyX10 j) = vp_V [.null, .null, .null, .int 0, .null, .int 0, .null, .int 0, .null, .int 0, .int 0, .null, .null, .null, .int 0, .int 0, .int 0, .int 0, .int 0, .int 0, .int 0, .long 0, .null, .null, .null, .int 0, .null, .null, .null, .int 0, .int 0, .int 0, .int 0, .int 0, .int 0, .null, .null, .int 0] j := fun j hj => by rcases (show j = 0 ∨ j = 1 ∨ j = 2 ∨ j = 3 ∨ j = 4 ∨ j = 5 ∨ j = 6 ∨ j = 7 ∨ j = 8 ∨ j = 9 ∨ j = 10 ∨ j = 11 ∨ j = 12 ∨ j = 13 ∨ j = 14 ∨ j = 15 ∨ j = 16 ∨ j = 17 ∨ j = 18 ∨ j = 19 ∨ j = 20 ∨ j = 21 ∨ j = 22 ∨ j = 23 ∨ j = 24 ∨ j = 25 ∨ j = 26 ∨ j = 27 ∨ j = 28 ∨ j = 29 ∨ j = 30 ∨ j = 31 ∨ j = 32 ∨ j = 33 ∨ j = 34 ∨ j = 35 ∨ j = 36 ∨ j = 37 by omega) with rfl | rfl | rfl | rfl | rfl | rfl | rfl | rfl | rfl | rfl | rfl | rfl | rfl | rfl | rfl | rfl | rfl | rfl | rfl | rfl | rfl | rfl | rfl | rfl | rfl | rfl | rfl | rfl | rfl | rfl | rfl | rfl | rfl | rfl | rfl | rfl | rfl | rfl <;> rfl
theorem yok_10 : yX10_init.name = "<init>" ∧ yX10_init.cls ≠ "java/lang/invoke/MethodHandle" ∧ yX10_init.cls ≠ "java/lang/invoke/VarHandle" ∧ (parseMethodDescriptor yX10_init.desc).map (fun d => d.parameters.length) = some 0 := ⟨rfl, by decide +kernel, by decide +kernel, by decide +kernel⟩
theorem law_K {s : State} {args : Array Value} (hts : ∀ w ∈ lw_tbl, w.before args s = true) : ∃ g : gb_G, ∀ ad : Nat → Nat → Nat, va_K (g.1, g.2.1) vwCl (gb_T (g.1, g.2.1, ad, g.2.2.2)) s := by
  have hB : ∀ w ∈ gb_B, w.before args s = true := fun w hw => hts w (gb_B_tbl hw)
  obtain ⟨c0, i0, k0⟩ := u_known (C := RX0) (T := TX0) (N := 6) (n := 6) hB winX0 (hts _ (show Cond.instantiable RX0 6 ∈ lw_tbl by decide +kernel))
  obtain ⟨c1, i1, k1⟩ := u_known (C := RX1) (T := TX1) (N := 7) (n := 7) hB winX1 (hts _ (show Cond.instantiable RX1 7 ∈ lw_tbl by decide +kernel))
  obtain ⟨c2, i2, k2⟩ := u_known (C := RX2) (T := TX2) (N := 4) (n := 4) hB winX2 (hts _ (show Cond.instantiable RX2 4 ∈ lw_tbl by decide +kernel))
  obtain ⟨c3, i3, k3⟩ := u_known (C := RX3) (T := TX3) (N := 3) (n := 3) hB winX3 (hts _ (show Cond.instantiable RX3 3 ∈ lw_tbl by decide +kernel))
  obtain ⟨c4, i4, k4⟩ := u_known (C := RX4) (T := TX4) (N := 2) (n := 2) hB winX4 (hts _ (show Cond.instantiable RX4 2 ∈ lw_tbl by decide +kernel))
  obtain ⟨c5, i5, k5⟩ := u_known (C := RX5) (T := TX5) (N := 8) (n := 8) hB winX5 (hts _ (show Cond.instantiable RX5 8 ∈ lw_tbl by decide +kernel))
  obtain ⟨c6, i6, k6⟩ := u_known (C := RX6) (T := TX6) (N := 2) (n := 2) hB winX6 (hts _ (show Cond.instantiable RX6 2 ∈ lw_tbl by decide +kernel))
  obtain ⟨c7, i7, k7⟩ := u_known (C := RX7) (T := TX7) (N := 11) (n := 11) hB winX7 (hts _ (show Cond.instantiable RX7 11 ∈ lw_tbl by decide +kernel))
  obtain ⟨c8, i8, k8⟩ := u_known (C := RX8) (T := TX8) (N := 3) (n := 3) hB winX8 (hts _ (show Cond.instantiable RX8 3 ∈ lw_tbl by decide +kernel))
  obtain ⟨c9, i9, k9⟩ := u_known (C := RX9) (T := TX9) (N := 12) (n := 12) hB winX9 (hts _ (show Cond.instantiable RX9 12 ∈ lw_tbl by decide +kernel))
  obtain ⟨c10, i10, k10⟩ := u_known (C := RX10) (T := TX10) (N := 38) (n := 38) hB winX10 (hts _ (show Cond.instantiable RX10 38 ∈ lw_tbl by decide +kernel))
  obtain ⟨cI, kI, pI, f1, f2, f3⟩ := Cond.arrayClass_spec (hts (.arrayClass .int) (by decide +kernel))
  obtain ⟨cB, kB, pB, f4, f5, f6⟩ := Cond.arrayClass_spec (hts (.arrayClass .byte) (by decide +kernel))
  obtain ⟨cL, kL, pL, f7, f8, f9⟩ := Cond.arrayClass_spec (hts (.arrayClass .long) (by decide +kernel))
  obtain ⟨comp, cS, kS, s1, s2, s3, s4, s5⟩ := Cond.arrayOver_spec (hts (.arrayOver (.object "GrainBins$Store")) (by decide +kernel))
  refine ⟨(fun k => ([c0, c1, c2, c3, c4, c5, c6, c7, c8, c9, c10] : List ClassId).getD k c0, fun k => ([i0, i1, i2, i3, i4, i5, i6, i7, i8, i9, i10] : List (Nat → Nat)).getD k i0, fun _ _ => 0, cI, cB, cL, cS), fun ad => ⟨fun c q hq => ?_, fun k q hk => ?_⟩⟩
  · rcases c with _ | _ | _ | _ | _ | _ | _ | _ | _ | _ | _ | c
    · cases hq; exact k0
    · cases hq; exact k1
    · cases hq; exact k2
    · cases hq; exact k3
    · cases hq; exact k4
    · cases hq; exact k5
    · cases hq; exact k6
    · cases hq; exact k7
    · cases hq; exact k8
    · cases hq; exact k9
    · cases hq; exact k10
    · cases hq
  · rcases k with _ | _ | _ | _ | k
    · cases hk; exact ⟨fun n z => ⟨(fun k h => by cases h), kI, f2, pI, f3⟩, f1⟩
    · cases hk; exact ⟨fun n z => ⟨(fun k h => by cases h), kB, f5, pB, f6⟩, f4⟩
    · cases hk; exact ⟨fun n z => ⟨(fun k h => by cases h), kL, f8, pL, f9⟩, f7⟩
    · cases hk; exact ⟨fun n z => ⟨(fun k h => by cases h), kS, s3, comp, s4⟩, kS, comp, s3, s4, s1, s5⟩
    · cases hk
theorem o_any {W1 : va_W → Prop} {D : va_G} {A : Nat → Prop} {H : Heap} {K : Prop} (h : ∃ w1, W1 w1 ∧ va_P D vwCl w1 H ∧ K ∧ va_D A w1) : ∃ w1, W1 w1 ∧ va_P D vwCl w1 H ∧ va_D A w1 := by
  obtain ⟨w1, a, b, -, c⟩ := h
  exact ⟨w1, a, b, c⟩
theorem ds_0 : decode code 0 = .ok (.new 8, 3) := by decide +kernel
theorem ds_3 : decode code 3 = .ok (.dup, 1) := by decide +kernel
theorem ds_4 : decode code 4 = .ok (.invokespecial 15, 3) := by decide +kernel
theorem ds_7 : decode code 7 = .ok (.astore_n 1, 1) := by decide +kernel
theorem ds_8 : decode code 8 = .ok (.new 16, 3) := by decide +kernel
theorem ds_11 : decode code 11 = .ok (.dup, 1) := by decide +kernel
theorem ds_12 : decode code 12 = .ok (.invokespecial 18, 3) := by decide +kernel
theorem ds_15 : decode code 15 = .ok (.astore_n 2, 1) := by decide +kernel
theorem ds_16 : decode code 16 = .ok (.iconst 1, 1) := by decide +kernel
theorem ds_17 : decode code 17 = .ok (.newarray .long, 2) := by decide +kernel
theorem ds_19 : decode code 19 = .ok (.astore_n 3, 1) := by decide +kernel
theorem ds_20 : decode code 20 = .ok (.iconst 0, 1) := by decide +kernel
theorem ds_21 : decode code 21 = .ok (.istore 4, 2) := by decide +kernel
theorem ds_1337 : decode code 1337 = .ok (.iconst 1, 1) := by decide +kernel
theorem ds_1338 : decode code 1338 = .ok (.ireturn, 1) := by decide +kernel
theorem w4_L9 : ∀ w ∈ ([.methodLink RL 15 yX9_init, .instanceMethod yX9_init, .initialized yX9_init.cls, .code yX9_init cX9_init 1 none] : List Cond), w ∈ gb_B := by
  have h : ∀ w ∈ ([.methodLink RL 15 yX9_init, .instanceMethod yX9_init, .initialized yX9_init.cls, .code yX9_init cX9_init 1 none] : List Cond), w ∈ lw_tbl ∧ goodWord w = true := by decide +kernel
  exact fun w hw => List.mem_filter.mpr (h w hw)
theorem w4_L10 : ∀ w ∈ ([.methodLink RL 18 yX10_init, .instanceMethod yX10_init, .initialized yX10_init.cls, .code yX10_init cX10_init 1 none] : List Cond), w ∈ gb_B := by
  have h : ∀ w ∈ ([.methodLink RL 18 yX10_init, .instanceMethod yX10_init, .initialized yX10_init.cls, .code yX10_init cX10_init 1 none] : List Cond), w ∈ lw_tbl ∧ goodWord w = true := by decide +kernel
  exact fun w hw => List.mem_filter.mpr (h w hw)
theorem w6_L : ∀ w ∈ ([.classLink RL 8 RX9, .instantiable RX9 12, .initialized RX9, .classLink RL 16 RX10, .instantiable RX10 38, .initialized RX10, .arrayClass .long, .arrayOver (.object RX7), .laysStatic Bundle.tN "UNASSIGNED_STACK" Bundle.steD, .laysStatic Bundle.tN "SUPPRESSED_SENTINEL" Bundle.listD, .initialized Bundle.tN] : List Cond), w ∈ lw_tbl := by decide +kernel
set_option maxHeartbeats 8000000 in
set_option maxRecDepth 100000 in
theorem whole_start {p : Program} {e : Env} {s : State} {m : MethodId} {below : List Frame} {meth : Method} {c : Code} (l : Launch) (hflags : l.flags = flags0) {b L : Nat} {xs : Nat → Int32} (hL : L ≤ 2048) (C0 : lw_At p s m meth c b L xs) : W p l e room_1 s m #[Value.ref b] below meth c s.heap [] 0 0 (lw_Z below #[Value.ref b] s) (entryFrame m ([Value.ref b] : List Value).toArray 8) := by
  obtain ⟨hx, hb, hr, hml, hown, hts, hX, hbl, hlocks, hgv⟩ := C0
  have hB : ∀ w ∈ gb_B, w.before #[Value.ref b] s = true := fun w hw => hts w (gb_B_tbl hw)
  have hfl := flat_of_before _ hgv
  have hl0 : l.stackTraces = false := by
    unfold Launch.stackTraces
    rw [hflags]
    decide +kernel
  have hxw : gb_xw s := fun w hw => va_tabs (xB_tabs w hw) rfl (hts w (xB_tbl w hw))
  obtain ⟨g, hKad⟩ := law_K hts
  have hK : va_K (g.1, g.2.1) vwCl (gb_T g) s := hKad g.2.2.1
  have ho : va_AO RX7 s := va_AO.of (hts _ (w6_L _ (List.mem_of_getElem? (i := 7) rfl)))
  obtain ⟨A, hA0⟩ : ∃ A : Nat → Prop, A = fun q => s.heap.size ≤ q := ⟨_, rfl⟩
  have hA : ∀ q, s.heap.size ≤ q → A q := fun q h => by rw [hA0]; exact h
  have hAn : ∀ q : Nat, q < s.heap.size → ¬ A q := fun q h h2 => by rw [hA0] at h2; exact absurd h2 (Nat.not_le.mpr h)
  have hxs : gb_xs A s s.heap := ⟨vx_Zqof (hts _ (w6_L _ (List.mem_of_getElem? (i := 8) rfl))) (hts _ (w6_L _ (List.mem_of_getElem? (i := 10) rfl))) (hfl _ (by decide +kernel)) hAn, vx_Zqof (hts _ (w6_L _ (List.mem_of_getElem? (i := 9) rfl))) (hts _ (w6_L _ (List.mem_of_getElem? (i := 10) rfl))) (hfl _ (by decide +kernel)) hAn⟩
  have hS : va_S A s.heap s.heap [] := va_S.rf
  have hP : va_P (g.1, g.2.1) vwCl [] s.heap := fun k q h => by cases h
  have hD : va_D A [] := ⟨fun i j p q h => (by cases h), fun k q h => (by cases h)⟩
  have hl := lv_entry ([Value.ref b]) (n := 8) (Nat.le_of_ble_eq_true rfl)
  rw [lg_entry_eq]
  generalize (lg_sl [Value.ref b] ++ List.replicate (8 - (lg_sl [Value.ref b]).length) Slot.unset).toArray = ls at hl ⊢
  have hl : lv_has ls 8 [(0, .ref b)] := hl
  refine va_new (ci := 9) (fs := [.null, .null, .null, .null, .null, .int 0, .null, .null, .null, .null, .null, .null]) (C := RX9) (T := TX9) (N := 12) hx hb hB winX9 tyX9 tyX9_ok hown (hts _ (w6_L _ (List.mem_of_getElem? (i := 0) rfl))) (hts _ (w6_L _ (List.mem_of_getElem? (i := 1) rfl))) (hts _ (w6_L _ (List.mem_of_getElem? (i := 2) rfl))) hK hP hD hS hA rfl df_9 (Nat.le_of_ble_eq_true rfl) (Nat.le_of_ble_eq_true rfl) ds_0 (fun x0 H hP hD hS => ?_)
  refine lv_dup hx hb ds_3 rfl ?_
  refine lw_ctor (nL := 8) (own := RL) (ws := []) (As := []) (rest := [.ref x0]) hx hb hml hown hB hA hP hD hS (n_X9_init l g x0 H.size) w4_L9 yok_9 ⟨rfl, rfl⟩ ⟨Nat.le_of_ble_eq_true rfl, Nat.le_of_ble_eq_true rfl⟩ ⟨Nat.le_of_ble_eq_true rfl, Nat.le_of_ble_eq_true rfl⟩ (pre_ao ho hK hP hD) rfl hl.1 (Nat.le_of_ble_eq_true rfl) ds_4 (fun u t _ h => o_any h) rfl (fun w1 H1 locs hw hP hD hS => ?_)
  obtain ⟨a0, a1, a2, a3, a4, a5, ba5, a6, a7, a8, ta8, a9, a10, rfl⟩ := hw
  generalize H1 = H at hP hS ⊢
  have hP : va_P (g.1, g.2.1) vwCl (gb_w9 g x0 a0 a1 a2 a3 a4 a5 ba5 a6 a7 a8 ta8 a9 a10) H := hP
  have hD : va_D A (gb_w9 g x0 a0 a1 a2 a3 a4 a5 ba5 a6 a7 a8 ta8 a9 a10) := hD
  refine lv_astore_n (lv' := [(1, .ref x0), (0, .ref b)]) hx hb ds_7 rfl hl (by decide) rfl (fun ls hl => ?_)
  refine va_new (ci := 10) (fs := [.null, .null, .null, .int 0, .null, .int 0, .null, .int 0, .null, .int 0, .int 0, .null, .null, .null, .int 0, .int 0, .int 0, .int 0, .int 0, .int 0, .int 0, .long 0, .null, .null, .null, .int 0, .null, .null, .null, .int 0, .int 0, .int 0, .int 0, .int 0, .int 0, .null, .null, .int 0]) (C := RX10) (T := TX10) (N := 38) hx hb hB winX10 tyX10 tyX10_ok hown (hts _ (w6_L _ (List.mem_of_getElem? (i := 3) rfl))) (hts _ (w6_L _ (List.mem_of_getElem? (i := 4) rfl))) (hts _ (w6_L _ (List.mem_of_getElem? (i := 5) rfl))) hK hP hD hS hA rfl df_10 (Nat.le_of_ble_eq_true rfl) (Nat.le_of_ble_eq_true rfl) ds_8 (fun m0 H hP hD hS => ?_)
  refine lv_dup hx hb ds_11 rfl ?_
  refine lw_ctor (nL := 8) (own := RL) (ws := gb_w9 g x0 a0 a1 a2 a3 a4 a5 ba5 a6 a7 a8 ta8 a9 a10) (As := []) (rest := [.ref m0]) hx hb hml hown hB hA hP hD hS (n_X10_init l g m0 H.size) w4_L10 yok_10 ⟨rfl, rfl⟩ ⟨Nat.le_of_ble_eq_true rfl, Nat.le_of_ble_eq_true rfl⟩ ⟨Nat.le_of_ble_eq_true rfl, Nat.le_of_ble_eq_true rfl⟩ (pre_std hK hP hD) rfl hl.1 (Nat.le_of_ble_eq_true rfl) ds_12 (fun u t hu h => o_w10 hu h) rfl (fun w1 H1 locs hw hP hD hS => ?_)
  obtain ⟨mm, u, rfl, hu, rfl⟩ := hw
  generalize H1 = H at hP hS ⊢
  refine lv_astore_n (lv' := [(2, .ref (mm 0)), (1, .ref x0), (0, .ref b)]) hx hb ds_15 rfl hl (by decide) rfl (fun ls hl => ?_)
  refine lv_iconst (v := 1) hx hb ds_16 (by decide) ?_
  refine lw_newl (N := 1) hx hb (hts _ (w6_L _ (List.mem_of_getElem? (i := 6) rfl))) hK hP hD hS hA (by decide) (by decide) (by decide) (Nat.le_of_ble_eq_true rfl) (Nat.le_of_ble_eq_true rfl) ds_17 (fun qo H hP hD hS => ?_)
  refine lv_astore_n (lv' := [(3, .ref qo), (2, .ref (mm 0)), (1, .ref x0), (0, .ref b)]) hx hb ds_19 rfl hl (by decide) rfl (fun ls hl => ?_)
  refine lv_iconst (v := 0) hx hb ds_20 (by decide) ?_
  refine lv_istore (lv' := [(4, .int 0), (3, .ref qo), (2, .ref (mm 0)), (1, .ref x0), (0, .ref b)]) hx hb ds_21 hl (by decide) rfl (fun ls hl => ?_)
  have hl : lv_has ls 8 [(4, .int 0), (0, .ref b), (1, .ref x0), (2, .ref (mm 0)), (3, .ref qo)] := lv_sub hl [0, 4, 3, 2, 1] rfl
  obtain ⟨ad, σ, e0, e36, e54, hI, hP, hD⟩ := gb_graph hP hD hu
  rw [← e0, ← e36, ← e54, z0] at hl
  obtain ⟨q1, q2, q3⟩ := I0_all hI
  refine law_loop (g := (g.1, g.2.1, ad, g.2.2.2)) (A := A) hl0 hxw hxs hL (fun cells slots h1 h2 => ⟨hx, hb, hml, hown, hB, hKad ad, hA, hD, ⟨h1, h2⟩, hX, hbl, hAn b hbl⟩) (fun H locs cells slots arr hS h1 h2 => ?_) (L + 1) 0 _ _ (by omega) (by omega) (by omega) (by omega) σ gA0 H locs ls hl ⟨q1, q2, q3, gA0_wf⟩ hP hS
  refine lv_iconst (v := 1) hx hb ds_1337 (by decide) ?_
  refine va_forget (fun q hq => by have h3 := hS.2.2 q hq; rw [hA0] at h3; exact h3) ?_
  refine W.widen (k := 601024) (n := 7293034) h1 h2 ?_
  exact lw_ret hx hb hr hlocks ds_1338
