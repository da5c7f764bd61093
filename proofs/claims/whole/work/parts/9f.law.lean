/-! THE LAW: one of its cases -/
def dArgs (cc : ByteArray) (pc : Nat) (ks : List Int) : Prop := match ks with
  | [] => True
  | k :: t => decode cc pc = .ok (.aload_n 0, 1) ∧ decode cc (pc + 1) = .ok (.iload 4, 2) ∧ decode cc (pc + 3) = .ok (.iconst k, 1) ∧ decode cc (pc + 4) = .ok (.iadd, 1) ∧ decode cc (pc + 5) = .ok (.iaload, 1) ∧ dArgs cc (pc + 6) t
def lw_x (xs : Nat → Int32) (i : Int32) (k : Int) : Int32 := xs (i + Int32.ofInt k).toNatClampNeg
def lw_l (g : gb_G) (b : Nat) (i : Int32) : List (Nat × Value) := [(4, .int i), (0, .ref b), (1, .ref (g.2.2.1 0 0)), (2, .ref (g.2.2.1 36 0)), (3, .ref (g.2.2.1 54 0))]
def gb_Lw (p : Program) (s : State) (m : MethodId) (c : Code) (g : gb_G) (A : Nat → Prop) (cells slots b L : Nat) (xs : Nat → Int32) : Prop := p.tables.exec = Jvm.exec ∧ c.code = code ∧ c.maxLocals = 8 ∧ s.vm.findClass RL = some m.cls ∧ (∀ w ∈ gb_B, w.before #[Value.ref b] s = true) ∧ va_K (g.1, g.2.1) vwCl (gb_T g) s ∧ (∀ q, s.heap.size ≤ q → A q) ∧ (∀ σ, va_D A (gb_ws g σ)) ∧ (cells ≤ room_1.cells ∧ slots ≤ room_1.slots) ∧ va_X b L xs s s.heap ∧ b < s.heap.size ∧ ¬ A b
section LAW
variable {p : Program} {l : Launch} {e : Env} {s : State} {m : MethodId} {below : List Frame} {meth : Method} {c : Code} {g : gb_G} {A : Nat → Prop} {cells slots b L : Nat} {xs : Nat → Int32} {Q : State → Prop}
theorem lw_args (X : gb_Lw p s m c g A cells slots b L xs) {i : Int32} {H : Heap} {locs : List Loc} {arr : Array Slot} (hS : va_S A s.heap H locs) (hv : lv_has arr 8 (lw_l g b i)) : ∀ (ks : List Int) (pc : Nat) (st : List Value), dArgs code pc ks → (∀ k ∈ ks, vp_in (i + Int32.ofInt k) L) → W p l e room_1 s m #[Value.ref b] below meth c H locs cells slots Q (F0 m (pc + 6 * ks.length) arr (((ks.map (fun k => gI (lw_x xs i k))).map (gb_v g)).reverse ++ st)) → W p l e room_1 s m #[Value.ref b] below meth c H locs cells slots Q (F0 m pc arr st)
  | [], pc, st, _, _, h => h
  | k :: t, pc, st, d, hk, h => by
    obtain ⟨hx, hb, hml, hown, hts, hK, hA, hD, hcs, hX, hbl, hbA⟩ := id X
    obtain ⟨d1, d2, d3, d4, d5, d6⟩ := d
    refine lv_aload_n hx hb d1 rfl (lv_at hv 1 rfl) ?_
    refine lv_iload hx hb d2 (lv_at hv 0 rfl) ?_
    refine lv_iconst (v := Int32.ofInt k) hx hb d3 rfl ?_
    refine lv_iadd hx hb d4 ?_
    refine va_sld hx hb hX hbl hbA hS (hk k List.mem_cons_self) d5 ?_
    refine lw_args X hS hv t (pc + 6) _ d6 (fun q hq => hk q (List.mem_cons_of_mem _ hq)) ?_
    have e1 : pc + 6 + 6 * t.length = pc + 6 * (k :: t).length := by rw [List.length_cons]; omega
    rw [e1]
    rw [List.map_cons, List.map_cons, List.reverse_cons, List.append_assoc] at h
    exact h
/-- class and reference asked one behind the other -/
theorem lw_two (X : gb_Lw p s m c g A cells slots b L xs) {i : Int32} {H : Heap} {locs : List Loc} {arr : Array Slot} {σ : gb_M} {A0 : gb_Ab} (hP : va_P (g.1, g.2.1) vwCl (gb_ws g σ) H) (hS : va_S A s.heap H locs) (hv : lv_has arr 8 (lw_l g b i)) (hAll : gb_All σ A0)
    {ks : List Int} {pc n : Nat} (hn : 6 * ks.length = n) (hks : ∀ k ∈ ks, vp_in (i + Int32.ofInt k) L)
    {i1 i2 cL1 cL2 crk fr1 fr2 lo1 lo2 : Nat} {y1 y2 : MethodName} {bytes1 bytes2 : ByteArray} {ret1 ret2 : Option FieldType} {f1 f2 : gb_F}
    (hT : gb_T2 f1 f2 (gR 0 0 :: ks.map (fun k => gI (lw_x xs i k))) (gR 36 0 :: ks.map (fun k => gI (lw_x xs i k))) A0)
    (hM1 : ∀ l, gb_Met l y1 bytes1 cL1 ret1 crk (gb_rm fr1 lo1) f1) (hM2 : ∀ l, gb_Met l y2 bytes2 cL2 ret2 crk (gb_rm fr2 lo2) f2)
    (hw1 : ∀ w ∈ ([.methodLink RL i1 y1, .instanceMethod y1, .selects RX9 y1 y1, .initialized RX9, .code y1 bytes1 cL1 ret1] : List Cond), w ∈ gb_B) (hw2 : ∀ w ∈ ([.methodLink RL i2 y2, .instanceMethod y2, .selects RX10 y2 y2, .initialized RX10, .code y2 bytes2 cL2 ret2] : List Cond), w ∈ gb_B)
    (hy1 : y1.cls = RX9 ∧ y1.cls ≠ "java/lang/invoke/MethodHandle" ∧ y1.cls ≠ "java/lang/invoke/VarHandle" ∧ (parseMethodDescriptor y1.desc).map (fun d => d.parameters.length) = some ks.length) (hy2 : y2.cls = RX10 ∧ y2.cls ≠ "java/lang/invoke/MethodHandle" ∧ y2.cls ≠ "java/lang/invoke/VarHandle" ∧ (parseMethodDescriptor y2.desc).map (fun d => d.parameters.length) = some ks.length)
    (hR1 : fr1 + 1 ≤ room_1.frames ∧ 8 + (cL1 + 11) + lo1 ≤ room_1.locals) (hR2 : fr2 + 1 ≤ room_1.frames ∧ 8 + (cL2 + 11) + lo2 ≤ room_1.locals)
    (d1 : decode code pc = .ok (.aload_n 1, 1)) (dA : dArgs code (pc + 1) ks) (d2 : decode code (pc + 1 + n) = .ok (.invokevirtual i1, 3)) (d3 : decode code (pc + 1 + n + 3) = .ok (.aload_n 2, 1)) (dB : dArgs code (pc + 1 + n + 3 + 1) ks) (d4 : decode code (pc + 1 + n + 3 + 1 + n) = .ok (.invokevirtual i2, 3)) (hcrk : crk = 1 ∨ crk = 2 ∨ crk = 3)
    (h : ∀ (v : gb_V) (σ' : gb_M) (A' : gb_Ab) (H1 : Heap) (locs1 : List Loc), gb_rk crk v → gb_All σ' A' → va_P (g.1, g.2.1) vwCl (gb_ws g σ') H1 → va_S A s.heap H1 locs1 → W p l e room_1 s m #[Value.ref b] below meth c H1 locs1 cells slots Q (F0 m (pc + 1 + n + 3 + 1 + n + 3) arr [gb_v g v, gb_v g v])) : W p l e room_1 s m #[Value.ref b] below meth c H locs cells slots Q (F0 m pc arr []) := by
  obtain ⟨hx, hb, hml, hown, hts, hK, hA, hD, hcs, hX, hbl, hbA⟩ := id X
  obtain ⟨r, σ1, σ2, A', t1, t2, t3⟩ := T2_use hT hAll
  subst hn
  have hokl : gb_oks (ks.map (fun k => gI (lw_x xs i k))) := fun v hv => by
    obtain ⟨k, -, rfl⟩ := List.mem_map.mp hv
    trivial
  refine lv_aload_n hx hb d1 rfl (lv_at hv 2 rfl) ?_
  refine lw_args X hS hv ks (pc + 1) _ dA hks ?_
  refine lw_cv (g := g) (nL := 8) hx hb hml hown hts hK hA hD hcs hM1 (ci := 9) rfl hw1 hy1 ⟨rfl, rfl⟩ hR1 d2 (k := 0) (j := 0) ⟨by decide +kernel, by decide +kernel⟩ rfl hokl (by rw [List.length_map]) (t := []) (Nat.zero_le _) t1 hP hS hv rfl ?_ hcrk
  intro v σ' H1 locs1 he hk1 hP1 hS1
  obtain ⟨rfl, rfl⟩ := Prod.mk.inj he
  refine lv_aload_n hx hb d3 rfl (lv_at hv 3 rfl) ?_
  refine lw_args X hS1 hv ks (pc + 1 + 6 * ks.length + 3 + 1) _ dB hks ?_
  refine lw_cv (g := g) (nL := 8) hx hb hml hown hts hK hA hD hcs hM2 (ci := 10) rfl hw2 hy2 ⟨rfl, rfl⟩ hR2 d4 (k := 36) (j := 0) ⟨by decide +kernel, by decide +kernel⟩ rfl hokl (by rw [List.length_map]) (t := [v]) (by rcases v with x | x | x <;> exact Nat.le_of_ble_eq_true rfl) t2 hP1 hS1 hv rfl ?_ hcrk
  intro v' σ'' H2 locs2 he2 hk2 hP2 hS2
  obtain ⟨h1, rfl⟩ := Prod.mk.inj he2
  cases h1
  exact h v σ2 A' H2 locs2 hk1 t3 hP2 hS2
end LAW
