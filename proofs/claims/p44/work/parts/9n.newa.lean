/-! NEW ARRAYS, of the class ids that the world names -/
section NWA
variable {p : Program} {l : Launch} {e : Env} {R : Room} {s : State} {m : MethodId} {args : Array Value} {below : List Frame} {meth : Method} {c : Code} {g : gb_G} {A : Nat → Prop} {cells slots pc : Nat} {Q : State → Prop} {cc : ByteArray}
theorem RA_u {U : State} {c1 c2 : ClassId} (h1 : va_RA U c1 .int) (h2 : va_RA U c2 .int) : c1 = c2 := Option.some.inj (h1.symm.trans h2)
theorem RA_ub {U : State} {c1 c2 : ClassId} (h1 : va_RA U c1 .byte) (h2 : va_RA U c2 .byte) : c1 = c2 := Option.some.inj (h1.symm.trans h2)
theorem RA_ul {U : State} {c1 c2 : ClassId} (h1 : va_RA U c1 .long) (h2 : va_RA U c2 .long) : c1 = c2 := Option.some.inj (h1.symm.trans h2)
theorem lw_newi (hx : p.tables.exec = Jvm.exec) (hb : c.code = cc) (hw : (Cond.arrayClass .int).before args s = true) (hK : va_K (g.1, g.2.1) vwCl (gb_T g) s) {ws : va_W} {H H0 : Heap} {locs : List Loc} {arr : Array Slot} {st : List Value} (hP : va_P (g.1, g.2.1) vwCl ws H) (hD : va_D A ws) (hS : va_S A H0 H locs) (hA : ∀ q, H0.size ≤ q → A q) {n : Int32} {N : Nat} (hn : ¬ n < 0) (hN : n.toNatClampNeg = N) (hbytes : N ≤ 100000) (hcells : cells + 1 ≤ R.cells) (hslots : slots + N ≤ R.slots) (d : decode cc pc = .ok (.newarray .int, 2))
    (h : ∀ (q : Nat) (H1 : Heap), va_P (g.1, g.2.1) vwCl (ws ++ [(q, .inl (g.2.2.2.1, N, .inl (fun _ => 0)))]) H1 → va_D A (ws ++ [(q, .inl (g.2.2.2.1, N, .inl (fun _ => 0)))]) → va_S A H0 H1 locs → W p l e R s m args below meth c H1 locs (cells + 1) (slots + N) Q (F0 m (pc + 2) arr (.ref q :: st))) : W p l e R s m args below meth c H locs cells slots Q (F0 m pc arr (.int n :: st)) := by
  refine va_newa (atype := .int) (ty := .int) (a0 := (N, .inl (fun _ => 0))) hx hb hw rfl hK hP hD hS hA (fun _ => rfl) hn hN (by show N * 4 ≤ _; omega) hcells hslots d (fun q cA H1 hK1 hP1 hD1 hS1 => ?_)
  have e1 : cA = g.2.2.2.1 := RA_u (hK1.2 4 (cA, .int) rfl).2 (hK1.2 0 (g.2.2.2.1, .int) rfl).2
  subst e1
  exact h q H1 hP1 hD1 hS1
theorem lw_newb (hx : p.tables.exec = Jvm.exec) (hb : c.code = cc) (hw : (Cond.arrayClass .byte).before args s = true) (hK : va_K (g.1, g.2.1) vwCl (gb_T g) s) {ws : va_W} {H H0 : Heap} {locs : List Loc} {arr : Array Slot} {st : List Value} (hP : va_P (g.1, g.2.1) vwCl ws H) (hD : va_D A ws) (hS : va_S A H0 H locs) (hA : ∀ q, H0.size ≤ q → A q) {n : Int32} {N : Nat} (hn : ¬ n < 0) (hN : n.toNatClampNeg = N) (hbytes : N ≤ 100000) (hcells : cells + 1 ≤ R.cells) (hslots : slots + N ≤ R.slots) (d : decode cc pc = .ok (.newarray .byte, 2))
    (h : ∀ (q : Nat) (H1 : Heap), va_P (g.1, g.2.1) vwCl (ws ++ [(q, .inl (g.2.2.2.2.1, N, .inl (fun _ => 0)))]) H1 → va_D A (ws ++ [(q, .inl (g.2.2.2.2.1, N, .inl (fun _ => 0)))]) → va_S A H0 H1 locs → W p l e R s m args below meth c H1 locs (cells + 1) (slots + N) Q (F0 m (pc + 2) arr (.ref q :: st))) : W p l e R s m args below meth c H locs cells slots Q (F0 m pc arr (.int n :: st)) := by
  refine va_newa (atype := .byte) (ty := .byte) (a0 := (N, .inl (fun _ => 0))) hx hb hw rfl hK hP hD hS hA (fun _ => rfl) hn hN (by show N * 1 ≤ _; omega) hcells hslots d (fun q cA H1 hK1 hP1 hD1 hS1 => ?_)
  have e1 : cA = g.2.2.2.2.1 := RA_ub (hK1.2 4 (cA, .byte) rfl).2 (hK1.2 1 (g.2.2.2.2.1, .byte) rfl).2
  subst e1
  exact h q H1 hP1 hD1 hS1
theorem lw_newl (hx : p.tables.exec = Jvm.exec) (hb : c.code = cc) (hw : (Cond.arrayClass .long).before args s = true) (hK : va_K (g.1, g.2.1) vwCl (gb_T g) s) {ws : va_W} {H H0 : Heap} {locs : List Loc} {arr : Array Slot} {st : List Value} (hP : va_P (g.1, g.2.1) vwCl ws H) (hD : va_D A ws) (hS : va_S A H0 H locs) (hA : ∀ q, H0.size ≤ q → A q) {n : Int32} {N : Nat} (hn : ¬ n < 0) (hN : n.toNatClampNeg = N) (hbytes : N ≤ 100000) (hcells : cells + 1 ≤ R.cells) (hslots : slots + N ≤ R.slots) (d : decode cc pc = .ok (.newarray .long, 2))
    (h : ∀ (q : Nat) (H1 : Heap), va_P (g.1, g.2.1) vwCl (ws ++ [(q, .inl (g.2.2.2.2.2.1, N, .inr (.inl (fun _ => 0))))]) H1 → va_D A (ws ++ [(q, .inl (g.2.2.2.2.2.1, N, .inr (.inl (fun _ => 0))))]) → va_S A H0 H1 locs → W p l e R s m args below meth c H1 locs (cells + 1) (slots + N) Q (F0 m (pc + 2) arr (.ref q :: st))) : W p l e R s m args below meth c H locs cells slots Q (F0 m pc arr (.int n :: st)) := by
  refine va_newa (atype := .long) (ty := .long) (a0 := (N, .inr (.inl (fun _ => 0)))) hx hb hw rfl hK hP hD hS hA (fun _ => rfl) hn hN (by show N * 8 ≤ _; omega) hcells hslots d (fun q cA H1 hK1 hP1 hD1 hS1 => ?_)
  have e1 : cA = g.2.2.2.2.2.1 := RA_ul (hK1.2 4 (cA, .long) rfl).2 (hK1.2 2 (g.2.2.2.2.2.1, .long) rfl).2
  subst e1
  exact h q H1 hP1 hD1 hS1
end NWA
