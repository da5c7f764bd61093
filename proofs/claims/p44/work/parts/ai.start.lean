/-! THE CLAIM OUT OF ONE WALK OF THE LAW'S BODY. Your part is whole_start (and what it stands on); all else here is the same for every law, but numbers. -/
def R_law : String := "GrainBinsLaw"
def lw_P (b : Addr) (xs : List Int32) (args : Array Value) (s : State) : Prop := args = #[.ref b] ∧ s.IntsAt b xs ∧ xs.length ≤ 260 ∧ (Jvm.Cond.and given_1 narrow_1).before args s = true
def lw_Q (_ : Array Value) (s : State) (o : Outcome) (t : State) : Prop := o = .returned (some (.int 1)) ∧ Framed s o t [] 600130 7301080
def lw_Z (below : List Frame) (a : Array Value) (s : State) : State → Prop := fun t => ∃ o, t.status = .running ∧ Ended t below o ∧ lw_Q a s o t
/-- the law's own end, with 1 on the stack, nothing written that was there before, its room as the claim has it -/
theorem lw_ret {p : Program} {l : Launch} {e : Env} {s : State} {m : MethodId} {below : List Frame} {meth : Method} {c : Code} {b : Nat} (hx : p.tables.exec = Jvm.exec) (hb : c.code = code) (hr : meth.sig.returnType = ret) (hlocks : meth.locks = false) {pc : Nat} {H : Heap} {ls : Array Slot} (hdg : decode code pc = .ok (.ireturn, 1)) : W p l e room_1 s m #[Value.ref b] below meth c H [] 600130 7301080 (lw_Z below #[Value.ref b] s) (F0 m pc ls [.int 1]) := by
  intro T hT X
  obtain ⟨fs, hret, hrun, hended, hW, hframe⟩ := X.leave (v := some (.int 1)) (hlocks := hlocks) (fun h => by rw [hr] at h; cases h)
  have hmeth' : T.vm.method? m = some meth := X.method'
  refine ⟨T.setFrames fs, ?_, .returned (some (.int 1)), hrun, hended, rfl, ⟨_, rfl⟩, hW, hframe⟩
  jvm_step X.here [X.here.top, hx, hb, hdg, hmeth', hr, ret, narrow_b1]
  (try refine ⟨rfl, ?_⟩); (try refine ⟨rfl, ?_⟩)
  first | (intro acts; rw [hret _ acts rfl rfl rfl]) | rw [hret _ _ rfl rfl rfl]
  exact Steps.refl _
/-- what holds at the law's entry: the machine, the code, the tables' words (any of lw_tbl by 'hts w (by decide +kernel)'), the script of L ints xs at the cell b, what the Statement gives of the start (any of its parts by flat_of_before) -/
def lw_At (p : Program) (s : State) (m : MethodId) (meth : Method) (c : Code) (b L : Nat) (xs : Nat → Int32) : Prop :=
  p.tables.exec = Jvm.exec ∧ c.code = code ∧ meth.sig.returnType = ret ∧ c.maxLocals = 20 ∧ s.vm.findClass R_law = some m.cls ∧ (∀ w ∈ lw_tbl, w.before #[Value.ref b] s = true) ∧ va_X b L xs s s.heap ∧ b < s.heap.size ∧ meth.locks = false ∧ (Jvm.Cond.and given_1 narrow_1).before #[Value.ref b] s = true
/-! THE LAW from its entry (printed by wip/p44/mkstart.py) -/
theorem df_9 : ∀ j, j < 12 → defaultValue (tyX9 j) = vp_V [.null, .null, .null, .null, .null, .int 0, .null, .null, .null, .null, .null, .null] j := fun j hj => by rcases (show j = 0 ∨ j = 1 ∨ j = 2 ∨ j = 3 ∨ j = 4 ∨ j = 5 ∨ j = 6 ∨ j = 7 ∨ j = 8 ∨ j = 9 ∨ j = 10 ∨ j = 11 by omega) with rfl | rfl | rfl | rfl | rfl | rfl | rfl | rfl | rfl | rfl | rfl | rfl <;> rfl
theorem yok_9 : yX9_init.name = "<init>" ∧ yX9_init.cls ≠ "java/lang/invoke/MethodHandle" ∧ yX9_init.cls ≠ "java/lang/invoke/VarHandle" ∧ (parseMethodDescriptor yX9_init.desc).map (fun d => d.parameters.length) = some 0 := ⟨rfl, by decide +kernel, by decide +kernel, by decide +kernel⟩
theorem law_K {s : State} {args : Array Value} (hts : ∀ w ∈ lw_tbl, w.before args s = true) : ∃ g : gb_G, ∀ ad : Nat → Nat → Nat, va_K (g.1, g.2.1) vwCl (gb_T (g.1, g.2.1, ad, g.2.2.2)) s := by
  have hB : ∀ w ∈ gb_B, w.before args s = true := fun w hw => hts w (gb_B_tbl hw)
  have hJ := jsw_hts hts
  obtain ⟨c0, i0, k0⟩ := u_known (C := RX0) (T := TX0) (N := 6) (n := 6) hB winX0 (hts _ (show Cond.instantiable RX0 6 ∈ lw_tbl by decide +kernel))
  obtain ⟨c1, i1, k1⟩ := u_known (C := RX1) (T := TX1) (N := 7) (n := 7) hB winX1 (hts _ (show Cond.instantiable RX1 7 ∈ lw_tbl by decide +kernel))
  obtain ⟨c2, i2, k2⟩ := u_known (C := RX2) (T := TX2) (N := 4) (n := 4) hB winX2 (hts _ (show Cond.instantiable RX2 4 ∈ lw_tbl by decide +kernel))
  obtain ⟨c3, i3, k3⟩ := u_known (C := RX3) (T := TX3) (N := 3) (n := 3) hB winX3 (hts _ (show Cond.instantiable RX3 3 ∈ lw_tbl by decide +kernel))
  obtain ⟨c4, i4, k4⟩ := u_known (C := RX4) (T := TX4) (N := 2) (n := 2) hB winX4 (hts _ (show Cond.instantiable RX4 2 ∈ lw_tbl by decide +kernel))
  obtain ⟨c5, i5, k5⟩ := u_known (C := RX5) (T := TX5) (N := 8) (n := 8) hB winX5 (hts _ (show Cond.instantiable RX5 8 ∈ lw_tbl by decide +kernel))
  obtain ⟨c6, i6, k6⟩ := u_known (C := RX6) (T := TX6) (N := 2) (n := 2) hB winX6 (hts _ (show Cond.instantiable RX6 2 ∈ lw_tbl by decide +kernel))
  obtain ⟨c7, i7, k7⟩ := u_known (C := RX7) (T := TX7) (N := 11) (n := 11) hB winX7 (hts _ (show Cond.instantiable RX7 11 ∈ lw_tbl by decide +kernel))
  obtain ⟨c8, i8, k8⟩ := u_known (C := RX8) (T := TX8) (N := 3) (n := 3) hB winX8 (hts _ (show Cond.instantiable RX8 3 ∈ lw_tbl by decide +kernel))
  obtain ⟨c9, i9, k9⟩ := u_known (C := RX9) (T := TX9) (N := 12) (n := 12) hB winX9 (hts _ (show Cond.instantiable RX9 12 ∈ lw_tbl by decide +kernel))
  obtain ⟨c10, i10, k10⟩ := u_known (C := RJ0) (T := TJ0) (N := 4) (n := 4) hJ winJ0 (hts _ (show Cond.instantiable RJ0 4 ∈ lw_tbl by decide +kernel))
  obtain ⟨c11, i11, k11⟩ := u_known (C := RJ4) (T := TJ4) (N := 4) (n := 4) hJ winJ4 (hts _ (show Cond.instantiable RJ4 4 ∈ lw_tbl by decide +kernel))
  obtain ⟨cI, kI, pI, f1, f2, f3⟩ := Cond.arrayClass_spec (hts (.arrayClass .int) (by decide +kernel))
  obtain ⟨cB, kB, pB, f4, f5, f6⟩ := Cond.arrayClass_spec (hts (.arrayClass .byte) (by decide +kernel))
  obtain ⟨cL, kL, pL, f7, f8, f9⟩ := Cond.arrayClass_spec (hts (.arrayClass .long) (by decide +kernel))
  obtain ⟨comp, cS, kS, s1, s2, s3, s4, s5⟩ := Cond.arrayOver_spec (hts (.arrayOver (.object "GrainBins$Store")) (by decide +kernel))
  refine ⟨(fun k => ([c0, c1, c2, c3, c4, c5, c6, c7, c8, c9, c10, c11] : List ClassId).getD k c0, fun k => ([i0, i1, i2, i3, i4, i5, i6, i7, i8, i9, i10, i11] : List (Nat → Nat)).getD k i0, fun _ _ => 0, cI, cB, cL, cS), fun ad => ⟨fun c q hq => ?_, fun k q hk => ?_⟩⟩
  · rcases c with _ | _ | _ | _ | _ | _ | _ | _ | _ | _ | _ | _ | c
    · cases hq; exact k0
    · cases hq; exact k1
    · cases hq; exact k2
    · cases hq; exact k3
    · cases hq; exact k4
    · cases hq; exact k5
    · cases hq; exact k6
    · cases hq; exact k7
    · cases hq; exact k8
    · cases hq; exact k9
    · cases hq; exact k10
    · cases hq; exact k11
    · cases hq
  · rcases k with _ | _ | _ | _ | k
    · cases hk; exact ⟨fun n z => ⟨(fun k h => by cases h), kI, f2, pI, f3⟩, f1⟩
    · cases hk; exact ⟨fun n z => ⟨(fun k h => by cases h), kB, f5, pB, f6⟩, f4⟩
    · cases hk; exact ⟨fun n z => ⟨(fun k h => by cases h), kL, f8, pL, f9⟩, f7⟩
    · cases hk; exact ⟨fun n z => ⟨(fun k h => by cases h), kS, s3, comp, s4⟩, kS, comp, s3, s4, s1, s5⟩
    · cases hk
theorem o_any {W1 : va_W → Prop} {D : va_G} {A : Nat → Prop} {H : Heap} {K : Prop} (h : ∃ w1, W1 w1 ∧ va_P D vwCl w1 H ∧ K ∧ va_D A w1) : ∃ w1, W1 w1 ∧ va_P D vwCl w1 H ∧ va_D A w1 := by
  obtain ⟨w1, a, b, -, c⟩ := h
  exact ⟨w1, a, b, c⟩
/-- a literal, out of what is given of the start -/
theorem j_lit {s : State} {args : Array Value} {k : Nat} {tx : String} {S : List Nat} {A : Nat → Prop} (hS : ∀ n ∈ S, n < 128) (hl : S.length < 100) (h1 : (Cond.stringRef RL k tx).before args s = true) (hex : (Cond.exactly (.string RL k) "java/lang/String").before args s = true) (hco : (Cond.eq (.field (.string RL k) "java/lang/String" "coder" "B") (.int 0)).before args s = true) (har : (Cond.arrayOf (.field (.string RL k) "java/lang/String" "value" "[B") .byte).before args s = true) (hle : (Cond.eq (.length (.field (.string RL k) "java/lang/String" "value" "[B")) (.int (Int32.ofNat S.length))).before args s = true) (hel : ∀ j, j < S.length → (Cond.eq (.elem (.field (.string RL k) "java/lang/String" "value" "[B") (.int (Int32.ofNat j))) (.int (nI (S.getD j 0)))).before args s = true) (hA : ∀ a : Nat, a < s.heap.size → ¬ A a) : jlit k tx S A s := by
  have hb : ∀ j, j < S.length → (S.map nI).getD j 0 = nI (S.getD j 0) := fun j hj => by
    rw [List.getD_eq_getElem?_getD, List.getElem?_map, List.getElem?_eq_getElem hj, List.getD_eq_getElem?_getD, List.getElem?_eq_getElem hj]
    rfl
  obtain ⟨adK, adV, h, he⟩ := vk_Sof (N := 1) (tm := fun _ => .string RL k) (len := [S.length]) (byt := [S.map nI]) (A := A)
    (fun i hi => by
      obtain rfl : i = 0 := by omega
      show S.length < _
      omega) (fun i _ => hex) (fun i _ => hco) (fun i _ => har)
    (fun i hi => by
      obtain rfl : i = 0 := by omega
      exact hle)
    (fun i hi j hj => by
      obtain rfl : i = 0 := by omega
      show (Cond.eq (.elem (.field (.string RL k) "java/lang/String" "value" "[B") (.int (Int32.ofNat j))) (.int ((S.map nI).getD j 0))).before args s = true
      rw [hb j hj]
      exact hel j hj)
    (fun i j hi hj hij => absurd (show i = j by omega) hij) hA
  obtain ⟨q1, q2, q3, q4⟩ := h.1 0 (by omega)
  refine ⟨adK 0, adV 0, fun j => (S.map nI).getD j 0, vk_R.of h1 (he 0 (by omega)), ⟨q1, q2, q3, q4⟩, fun i => ?_, fun i hi => hb i hi⟩
  by_cases c : i < S.length
  · show fits .byte (.int ((S.map nI).getD i 0)) = true
    rw [hb i c, List.getD_eq_getElem?_getD, List.getElem?_eq_getElem c]
    exact jFit_c (hS _ (List.getElem_mem c))
  · show fits .byte (.int ((S.map nI).getD i 0)) = true
    rw [List.getD_eq_getElem?_getD, List.getElem?_eq_none (by rw [List.length_map]; omega)]
    exact jFit_0
theorem fl_1 : ((flatC (Jvm.Cond.and given_1 narrow_1)).drop 14).take 100 = (List.range 100).map (fun j => Cond.eq (.elem (.static "java/lang/Integer" "DigitOnes" "[B") (.int (Int32.ofNat j))) (.int (nI (48 + j % 10)))) := by decide +kernel
theorem fl_2 : ((flatC (Jvm.Cond.and given_1 narrow_1)).drop 117).take 100 = (List.range 100).map (fun j => Cond.eq (.elem (.static "java/lang/Integer" "DigitTens" "[B") (.int (Int32.ofNat j))) (.int (nI (48 + j / 10)))) := by decide +kernel
theorem fl_in {L : List Cond} {n : Nat} {F : Nat → Cond} (e : (L.drop n).take 100 = (List.range 100).map F) {j : Nat} (hj : j < 100) : F j ∈ L := by
  have h : F j ∈ (List.range 100).map F := List.mem_map.mpr ⟨j, List.mem_range.mpr hj, rfl⟩
  rw [← e] at h
  exact List.mem_of_mem_drop (List.mem_of_mem_take h)
/-- what is given of the JDK's statics -/
theorem law_C {s : State} {args : Array Value} {A : Nat → Prop} (hts : ∀ w ∈ lw_tbl, w.before args s = true) (hfl : ∀ w ∈ flatC (Jvm.Cond.and given_1 narrow_1), w.before args s = true) (hA : ∀ a : Nat, a < s.heap.size → ¬ A a) : ∃ t1 t2 : Nat, jC t1 t2 A s s.heap := by
  obtain ⟨t1, v1, a1⟩ := va_Tof (tm := .static "java/lang/Integer" "DigitOnes" "[B") (ty := .byte) (N := 100) (f := fun j => .int (nI (48 + j % 10))) (A := A) (by omega) (hfl _ (by decide +kernel)) (va_eqt (z := Int32.ofNat 100) (hfl _ (by decide +kernel))) (fun j hj => va_eqt (hfl _ (fl_in (F := fun j => Cond.eq (.elem (.static "java/lang/Integer" "DigitOnes" "[B") (.int (Int32.ofNat j))) (.int (nI (48 + j % 10)))) fl_1 hj))) hA
  obtain ⟨t2, v2, a2⟩ := va_Tof (tm := .static "java/lang/Integer" "DigitTens" "[B") (ty := .byte) (N := 100) (f := fun j => .int (nI (48 + j / 10))) (A := A) (by omega) (hfl _ (by decide +kernel)) (va_eqt (z := Int32.ofNat 100) (hfl _ (by decide +kernel))) (fun j hj => va_eqt (hfl _ (fl_in (F := fun j => Cond.eq (.elem (.static "java/lang/Integer" "DigitTens" "[B") (.int (Int32.ofNat j))) (.int (nI (48 + j / 10)))) fl_2 hj))) hA
  exact ⟨t1, t2, va_Zof (hts _ (by decide +kernel)) (hts _ (by decide +kernel)) (va_eqi (hfl _ (by decide +kernel))) hA, va_Zqof (hts _ (by decide +kernel)) (hts _ (by decide +kernel)) (hfl _ (by decide +kernel)) hA, va_Zof (hts _ (by decide +kernel)) (hts _ (by decide +kernel)) v1 hA, va_Zof (hts _ (by decide +kernel)) (hts _ (by decide +kernel)) v2 hA, a1, a2, va_Nw.of rfl (hts _ (by decide +kernel))⟩
theorem law_l83 {s : State} {args : Array Value} {A : Nat → Prop} (hts : ∀ w ∈ lw_tbl, w.before args s = true) (hfl : ∀ w ∈ flatC (Jvm.Cond.and given_1 narrow_1), w.before args s = true) (hA : ∀ a : Nat, a < s.heap.size → ¬ A a) : jlit 83 "l01" [108, 48, 49] A s := by
  have e1 : ∀ j : Fin 3, (Cond.eq (.elem (.field (.string RL 83) "java/lang/String" "value" "[B") (.int (Int32.ofNat j.val))) (.int (nI (([108, 48, 49] : List Nat).getD j.val 0)))) ∈ flatC (Jvm.Cond.and given_1 narrow_1) := by decide +kernel
  exact j_lit (by decide) (by decide) (hts _ (by decide +kernel)) (hfl _ (by decide +kernel)) (hfl _ (by decide +kernel)) (hfl _ (by decide +kernel)) (hfl _ (by decide +kernel)) (fun j hj => hfl _ (e1 ⟨j, hj⟩)) hA
theorem law_l88 {s : State} {args : Array Value} {A : Nat → Prop} (hts : ∀ w ∈ lw_tbl, w.before args s = true) (hfl : ∀ w ∈ flatC (Jvm.Cond.and given_1 narrow_1), w.before args s = true) (hA : ∀ a : Nat, a < s.heap.size → ¬ A a) : jlit 88 ";l12" [59, 108, 49, 50] A s := by
  have e1 : ∀ j : Fin 4, (Cond.eq (.elem (.field (.string RL 88) "java/lang/String" "value" "[B") (.int (Int32.ofNat j.val))) (.int (nI (([59, 108, 49, 50] : List Nat).getD j.val 0)))) ∈ flatC (Jvm.Cond.and given_1 narrow_1) := by decide +kernel
  exact j_lit (by decide) (by decide) (hts _ (by decide +kernel)) (hfl _ (by decide +kernel)) (hfl _ (by decide +kernel)) (hfl _ (by decide +kernel)) (hfl _ (by decide +kernel)) (fun j hj => hfl _ (e1 ⟨j, hj⟩)) hA
theorem law_l90 {s : State} {args : Array Value} {A : Nat → Prop} (hts : ∀ w ∈ lw_tbl, w.before args s = true) (hfl : ∀ w ∈ flatC (Jvm.Cond.and given_1 narrow_1), w.before args s = true) (hA : ∀ a : Nat, a < s.heap.size → ¬ A a) : jlit 90 ";x03" [59, 120, 48, 51] A s := by
  have e1 : ∀ j : Fin 4, (Cond.eq (.elem (.field (.string RL 90) "java/lang/String" "value" "[B") (.int (Int32.ofNat j.val))) (.int (nI (([59, 120, 48, 51] : List Nat).getD j.val 0)))) ∈ flatC (Jvm.Cond.and given_1 narrow_1) := by decide +kernel
  exact j_lit (by decide) (by decide) (hts _ (by decide +kernel)) (hfl _ (by decide +kernel)) (hfl _ (by decide +kernel)) (hfl _ (by decide +kernel)) (hfl _ (by decide +kernel)) (fun j hj => hfl _ (e1 ⟨j, hj⟩)) hA
theorem law_l92 {s : State} {args : Array Value} {A : Nat → Prop} (hts : ∀ w ∈ lw_tbl, w.before args s = true) (hfl : ∀ w ∈ flatC (Jvm.Cond.and given_1 narrow_1), w.before args s = true) (hA : ∀ a : Nat, a < s.heap.size → ¬ A a) : jlit 92 ";l032" [59, 108, 48, 51, 50] A s := by
  have e1 : ∀ j : Fin 5, (Cond.eq (.elem (.field (.string RL 92) "java/lang/String" "value" "[B") (.int (Int32.ofNat j.val))) (.int (nI (([59, 108, 48, 51, 50] : List Nat).getD j.val 0)))) ∈ flatC (Jvm.Cond.and given_1 narrow_1) := by decide +kernel
  exact j_lit (by decide) (by decide) (hts _ (by decide +kernel)) (hfl _ (by decide +kernel)) (hfl _ (by decide +kernel)) (hfl _ (by decide +kernel)) (hfl _ (by decide +kernel)) (fun j hj => hfl _ (e1 ⟨j, hj⟩)) hA
theorem law_l130 {s : State} {args : Array Value} {A : Nat → Prop} (hts : ∀ w ∈ lw_tbl, w.before args s = true) (hfl : ∀ w ∈ flatC (Jvm.Cond.and given_1 narrow_1), w.before args s = true) (hA : ∀ a : Nat, a < s.heap.size → ¬ A a) : jlit 130 ":" [58] A s := by
  have e1 : ∀ j : Fin 1, (Cond.eq (.elem (.field (.string RL 130) "java/lang/String" "value" "[B") (.int (Int32.ofNat j.val))) (.int (nI (([58] : List Nat).getD j.val 0)))) ∈ flatC (Jvm.Cond.and given_1 narrow_1) := by decide +kernel
  exact j_lit (by decide) (by decide) (hts _ (by decide +kernel)) (hfl _ (by decide +kernel)) (hfl _ (by decide +kernel)) (hfl _ (by decide +kernel)) (hfl _ (by decide +kernel)) (fun j hj => hfl _ (e1 ⟨j, hj⟩)) hA
theorem law_l132 {s : State} {args : Array Value} {A : Nat → Prop} (hts : ∀ w ∈ lw_tbl, w.before args s = true) (hfl : ∀ w ∈ flatC (Jvm.Cond.and given_1 narrow_1), w.before args s = true) (hA : ∀ a : Nat, a < s.heap.size → ¬ A a) : jlit 132 "," [44] A s := by
  have e1 : ∀ j : Fin 1, (Cond.eq (.elem (.field (.string RL 132) "java/lang/String" "value" "[B") (.int (Int32.ofNat j.val))) (.int (nI (([44] : List Nat).getD j.val 0)))) ∈ flatC (Jvm.Cond.and given_1 narrow_1) := by decide +kernel
  exact j_lit (by decide) (by decide) (hts _ (by decide +kernel)) (hfl _ (by decide +kernel)) (hfl _ (by decide +kernel)) (hfl _ (by decide +kernel)) (hfl _ (by decide +kernel)) (fun j hj => hfl _ (e1 ⟨j, hj⟩)) hA
theorem w4_L9 : ∀ w ∈ ([.methodLink RL 66 yX9_init, .instanceMethod yX9_init, .initialized yX9_init.cls, .code yX9_init cX9_init 1 none] : List Cond), w ∈ gb_B := by
  have h : ∀ w ∈ ([.methodLink RL 66 yX9_init, .instanceMethod yX9_init, .initialized yX9_init.cls, .code yX9_init cX9_init 1 none] : List Cond), w ∈ lw_tbl ∧ goodWord w = true := by decide +kernel
  exact fun w hw => List.mem_filter.mpr (h w hw)
theorem w6_L : ∀ w ∈ ([.classLink RL 18 RX9, .instantiable RX9 12, .initialized RX9, .arrayOver (.object RX7)] : List Cond), w ∈ lw_tbl := by decide +kernel
theorem jgT_0 (x : Int32) : jgT x 0 = [] := rfl
set_option maxHeartbeats 4000000 in
theorem law_all {p : Program} {l : Launch} {e : Env} {s : State} {m : MethodId} {below : List Frame} {meth : Method} {c : Code} {g : gb_G} {A : Nat → Prop} {b L t1 t2 : Nat} {xs : Nat → Int32} {Q : State → Prop} (X : jLw p s m c g A b L xs t1 t2) (hL : L < 1000) (l83 : jlit 83 "l01" [108, 48, 49] A s) (l88 : jlit 88 ";l12" [59, 108, 49, 50] A s) (l90 : jlit 90 ";x03" [59, 120, 48, 51] A s) (l92 : jlit 92 ";l032" [59, 108, 48, 51, 50] A s) (l130 : jlit 130 ":" [58] A s) (l132 : jlit 132 "," [44] A s) (fin : ∀ (H : Heap) (locs : List Loc) (cells slots : Nat) (ls : Array Slot), va_S A s.heap H locs → cells ≤ 600130 → slots ≤ 7301080 → W p l e room_1 s m #[Value.ref b] below meth c H locs cells slots Q (F0 m 1342 ls [])) {σ : gb_M} {H : Heap} {locs : List Loc} {cells slots : Nat} {ls : Array Slot} (hc : cells ≤ 1000 ∧ slots ≤ 10000) (hl : lv_has ls 20 [(1, .ref (g.2.2.1 0 0)), (0, .ref b)]) (hP : va_P (g.1, g.2.1) vwCl (gb_ws g σ ++ ([] : va_W)) H) (hD : va_D A (gb_ws g σ ++ ([] : va_W))) (hS : va_S A s.heap H locs) (hCA : CA σ gA0) : W p l e room_1 s m #[Value.ref b] below meth c H locs cells slots Q (F0 m 8 ls []) := by
  have hCA : CA σ (setT gA0 []) := hCA
  refine lw_a X hL ⟨by omega, by omega⟩ hl hP hD hS (fun h H locs ls c0 s0 a0 b0 hl hJ => ?_)
  generalize jcl L xs 0 = x at hl
  have hJ : jst g A s σ h (jgT x 0) H locs := hJ
  have hl : lv_has ls 20 [(4, .int (nI 0)), (3, .ref h), (2, .int x), (1, .ref (g.2.2.1 0 0)), (0, .ref b)] := hl
  refine lw_b X (i := 0) ⟨by omega, by omega⟩ hl hJ (fun H locs ls c1 s1 a1 b1 hl hJ => ?_) (by omega)
  refine lw_b X (i := 1) ⟨by omega, by omega⟩ hl hJ (fun H locs ls c2 s2 a2 b2 hl hJ => ?_) (by omega)
  refine lw_b X (i := 2) ⟨by omega, by omega⟩ hl hJ (fun H locs ls c3 s3 a3 b3 hl hJ => ?_) (by omega)
  refine lw_b X (i := 3) ⟨by omega, by omega⟩ hl hJ (fun H locs ls c4 s4 a4 b4 hl hJ => ?_) (by omega)
  refine lw_b2 X hl (fun ls hl => ?_)
  have hJ : jst g A s σ h (jbT x 0) H locs := hJ
  have hl : lv_has ls 20 [(4, .int (nI 0)), (3, .ref h), (2, .int x), (1, .ref (g.2.2.1 0 0)), (0, .ref b)] := hl
  refine lw_c X (i := 0) ⟨by omega, by omega⟩ hl hJ (fun H locs ls c5 s5 a5 b5 hl hJ => ?_) (by omega)
  refine lw_c X (i := 1) ⟨by omega, by omega⟩ hl hJ (fun H locs ls c6 s6 a6 b6 hl hJ => ?_) (by omega)
  refine lw_c X (i := 2) ⟨by omega, by omega⟩ hl hJ (fun H locs ls c7 s7 a7 b7 hl hJ => ?_) (by omega)
  refine lw_c X (i := 3) ⟨by omega, by omega⟩ hl hJ (fun H locs ls c8 s8 a8 b8 hl hJ => ?_) (by omega)
  refine lw_c X (i := 4) ⟨by omega, by omega⟩ hl hJ (fun H locs ls c9 s9 a9 b9 hl hJ => ?_) (by omega)
  refine lw_c X (i := 5) ⟨by omega, by omega⟩ hl hJ (fun H locs ls c10 s10 a10 b10 hl hJ => ?_) (by omega)
  refine lw_c2 X hl (fun ls hl => ?_)
  refine lw_d X l83 l88 l90 l92 (T0 := jbT x 6) (jbT_len x 6 (by omega)) ⟨by omega, by omega⟩ hl hJ (fun S H locs ls c11 s11 a11 b11 hSd hl hJ => ?_)
  have hJ : jst g A s σ h (jeT x S) H locs := hJ
  obtain ⟨h128, hlen, hland⟩ := lw_eok x hSd
  refine lw_e X h128 hlen hland ⟨by omega, by omega⟩ hl hJ hCA (fun σ Ab H locs ls c12 s12 a12 b12 hl hP hD hS hInv hCR => ?_)
  exact lw_turns X hL l130 l132 fin 19 1 (by omega) (by omega) (by omega) hInv hl hP hD hS hCR
set_option maxHeartbeats 8000000 in
set_option maxRecDepth 100000 in
theorem whole_start {p : Program} {e : Env} {s : State} {m : MethodId} {below : List Frame} {meth : Method} {c : Code} (l : Launch) (hflags : l.flags = flags0) {b L : Nat} {xs : Nat → Int32} (hL : L ≤ 260) (C0 : lw_At p s m meth c b L xs) : W p l e room_1 s m #[Value.ref b] below meth c s.heap [] 0 0 (lw_Z below #[Value.ref b] s) (entryFrame m ([Value.ref b] : List Value).toArray 20) := by
  obtain ⟨hx, hb, hr, hml, hown, hts, hX, hbl, hlocks, hgv⟩ := C0
  have hB : ∀ w ∈ gb_B, w.before #[Value.ref b] s = true := fun w hw => hts w (gb_B_tbl hw)
  have hJ := jsw_hts hts
  have hfl := flat_of_before _ hgv
  obtain ⟨g, hKad⟩ := law_K hts
  have hK : va_K (g.1, g.2.1) vwCl (gb_T g) s := hKad g.2.2.1
  have ho : va_AO RX7 s := va_AO.of (hts _ (w6_L _ (List.mem_of_getElem? (i := 3) rfl)))
  obtain ⟨A, hA0⟩ : ∃ A : Nat → Prop, A = fun q => s.heap.size ≤ q := ⟨_, rfl⟩
  have hA : ∀ q, s.heap.size ≤ q → A q := fun q h => by rw [hA0]; exact h
  have hAn : ∀ q : Nat, q < s.heap.size → ¬ A q := fun q h h2 => by rw [hA0] at h2; exact absurd h2 (Nat.not_le.mpr h)
  obtain ⟨t1, t2, hC⟩ := law_C hts hfl hAn
  have l83 := law_l83 hts hfl hAn
  have l88 := law_l88 hts hfl hAn
  have l90 := law_l90 hts hfl hAn
  have l92 := law_l92 hts hfl hAn
  have l130 := law_l130 hts hfl hAn
  have l132 := law_l132 hts hfl hAn
  have hS : va_S A s.heap s.heap [] := va_S.rf
  have hP : va_P (g.1, g.2.1) vwCl [] s.heap := fun k q h => by cases h
  have hD : va_D A [] := ⟨fun i j p q h => (by cases h), fun k q h => (by cases h)⟩
  have hl := lv_entry ([Value.ref b]) (n := 20) (Nat.le_of_ble_eq_true rfl)
  rw [lg_entry_eq]
  generalize (lg_sl [Value.ref b] ++ List.replicate (20 - (lg_sl [Value.ref b]).length) Slot.unset).toArray = ls at hl ⊢
  have hl : lv_has ls 20 [(0, .ref b)] := hl
  refine va_new (ci := 9) (fs := [.null, .null, .null, .null, .null, .int 0, .null, .null, .null, .null, .null, .null]) (C := RX9) (T := TX9) (N := 12) hx hb hB winX9 tyX9 tyX9_ok hown (hts _ (w6_L _ (List.mem_of_getElem? (i := 0) rfl))) (hts _ (w6_L _ (List.mem_of_getElem? (i := 1) rfl))) (hts _ (w6_L _ (List.mem_of_getElem? (i := 2) rfl))) hK hP hD hS hA rfl df_9 (Nat.le_of_ble_eq_true rfl) (Nat.le_of_ble_eq_true rfl) dL_law_0 (fun x0 H hP hD hS => ?_)
  refine lv_dup hx hb dL_law_3 rfl ?_
  refine lw_ctor (nL := 20) (own := RL) (ws := []) (As := []) (rest := [.ref x0]) hx hb hml hown hB hA hP hD hS (n_X9_init l g x0 H.size) w4_L9 yok_9 ⟨rfl, rfl⟩ ⟨Nat.le_of_ble_eq_true rfl, Nat.le_of_ble_eq_true rfl⟩ ⟨Nat.le_of_ble_eq_true rfl, Nat.le_of_ble_eq_true rfl⟩ (pre_ao ho hK hP hD) rfl hl.1 (Nat.le_of_ble_eq_true rfl) dL_law_4 (fun u t _ h => o_any h) rfl (fun w1 H1 locs hw hP hD hS => ?_)
  obtain ⟨a0, a1, a2, a3, a4, a5, ba5, a6, a7, a8, ta8, a9, a10, rfl⟩ := hw
  generalize H1 = H at hP hS ⊢
  have hP : va_P (g.1, g.2.1) vwCl (gb_w9 g x0 a0 a1 a2 a3 a4 a5 ba5 a6 a7 a8 ta8 a9 a10) H := hP
  have hD : va_D A (gb_w9 g x0 a0 a1 a2 a3 a4 a5 ba5 a6 a7 a8 ta8 a9 a10) := hD
  refine lv_astore_n (lv' := [(1, .ref x0), (0, .ref b)]) hx hb dL_law_7 rfl hl (by decide) rfl (fun ls hl => ?_)
  obtain ⟨ad, σ, e0, hI, hP, hD⟩ := gb_graph hP hD
  rw [← e0] at hl
  have hP : va_P (g.1, g.2.1) vwCl (gb_ws (g.1, g.2.1, ad, g.2.2.2) σ ++ ([] : va_W)) H := by rw [List.append_nil]; exact hP
  have hD : va_D A (gb_ws (g.1, g.2.1, ad, g.2.2.2) σ ++ ([] : va_W)) := by rw [List.append_nil]; exact hD σ
  refine law_all (g := (g.1, g.2.1, ad, g.2.2.2)) (A := A) (t1 := t1) (t2 := t2) (L := L) (xs := xs) ⟨hx, hb, hml, hown, hJ, hKad ad, hA, hC, hX, hAn b hbl, hbl⟩ (by omega) l83 l88 l90 l92 l130 l132 (fun H locs cells slots ls hS h1 h2 => ?_) ⟨Nat.le_of_ble_eq_true rfl, Nat.le_of_ble_eq_true rfl⟩ hl hP hD hS (I0_CA hI)
  refine lv_iconst (v := 1) hx hb dL_law_1342 (by decide) ?_
  refine va_forget (fun q hq => by have h3 := hS.2.2 q hq; rw [hA0] at h3; exact h3) ?_
  refine W.widen (k := 600130) (n := 7301080) h1 h2 ?_
  exact lw_ret hx hb hr hlocks dL_law_1343
