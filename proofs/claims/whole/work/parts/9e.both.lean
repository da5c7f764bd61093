/-! BOTH at once, as the law asks them -/
theorem MC_c {σ σ' : gb_M} {A : gb_Ab} (f : gb_fP (fun k => k < 36 ∧ k ≠ 31) σ σ') (h : MC σ A) : MC σ' A := MC_fX (Q := fun k => k < 36) (I := fun _ => False) (fP_fX0 f (fun k _ z => z.1) (by omega)) ⟨by omega, by omega, by omega, by omega, by omega⟩ ⟨fun z => z, fun z => z, fun z => z, fun z => z⟩ h
def gb_All (σ : gb_M) (A : gb_Ab) : Prop := CC σ A ∧ MC σ A ∧ goneC σ ∧ wfA A
theorem T2_use {fc fm : gb_F} {ac am : List gb_V} {A : gb_Ab} {σ : gb_M} (h : gb_T2 fc fm ac am A) (hA : gb_All σ A) : ∃ (r : Option gb_V) (σ1 σ2 : gb_M) (A' : gb_Ab), fc ac σ = some (r, σ1) ∧ fm am σ1 = some (r, σ2) ∧ gb_All σ2 A' := by
  obtain ⟨h1, h2, h3, h4⟩ := hA
  obtain ⟨r, A', hw, hc, hm⟩ := h
  obtain ⟨σ1, a1, a2, a3⟩ := hc σ h1 h3
  obtain ⟨σ2, b1, b2, b3⟩ := hm σ1 (MC_c a3 h2)
  exact ⟨r, σ1, σ2, A', a1, b1, CC_fP b3 (fun k hk => by omega) a2, b2, fun b hb => by rw [b3.1 31 0 b (by omega), a3.1 31 0 b (by omega)]; exact h3 b hb, hw⟩
theorem All_x {σ σ' : gb_M} {A : gb_Ab} (f : gb_fP (fun k => k = 54) σ σ') (h : gb_All σ A) : gb_All σ' A := by
  obtain ⟨h1, h2, h3, h4⟩ := h
  exact ⟨CC_fP f (fun k hk => by omega) h1, MC_fX (Q := fun k => k = 54) (I := fun _ => False) (fP_fX0 f (fun k _ z => z) (by omega)) ⟨by omega, by omega, by omega, by omega, by omega⟩ ⟨fun z => z, fun z => z, fun z => z, fun z => z⟩ h2, fun b hb => by rw [f.1 31 0 b (by omega)]; exact h3 b hb, h4⟩
/-- an answer of that kind -/
def gb_rk (crk : Nat) (v : gb_V) : Prop := match crk with
  | 3 => ∃ y : Int64, v = gL y
  | _ => ∃ x : Int32, v = gI x
section LWC
variable {p : Program} {l : Launch} {e : Env} {R : Room} {s : State} {m : MethodId} {args : Array Value} {below : List Frame} {meth : Method} {c : Code} {g : gb_G} {A : Nat → Prop} {cells slots nL : Nat} {Q : State → Prop} {own : String} {cc : ByteArray}
/-- a method of the class or of the reference, called by the law -/
theorem lw_cv (hx : p.tables.exec = Jvm.exec) (hb : c.code = cc) (hml : c.maxLocals = nL) (hown : s.vm.findClass own = some m.cls) (hts : ∀ w ∈ gb_B, w.before args s = true) (hK : va_K (g.1, g.2.1) vwCl (gb_T g) s) (hA : ∀ q, s.heap.size ≤ q → A q) (hD : ∀ σ, va_D A (gb_ws g σ)) (hcs : cells ≤ R.cells ∧ slots ≤ R.slots)
    {C : String} {T : u_T} {N ci idx nA cL crk pc : Nat} {y : MethodName} {bytes : ByteArray} {ret : Option FieldType} {rm : Room} {f : gb_F} (hM : ∀ l, gb_Met l y bytes cL ret crk rm f) (hc : vwCl[ci]? = some (C, T, N)) (hw : ∀ w ∈ ([.methodLink own idx y, .instanceMethod y, .selects C y y, .initialized C, .code y bytes cL ret] : List Cond), w ∈ gb_B)
    (hy : y.cls = C ∧ y.cls ≠ "java/lang/invoke/MethodHandle" ∧ y.cls ≠ "java/lang/invoke/VarHandle" ∧ (parseMethodDescriptor y.desc).map (fun d => d.parameters.length) = some nA) (hrm : rm.cells = 0 ∧ rm.slots = 0) (hR : rm.frames + 1 ≤ R.frames ∧ 8 + (cL + 11) + rm.locals ≤ R.locals) (d : decode cc pc = .ok (.invokevirtual idx, 3))
    {k j : Nat} {fs : List gb_Fs} (hok : gb_ok (gR k j)) (hkd : gb_kd k = .inl (ci, fs)) {as : List gb_V} (has : gb_oks as) (hlen : as.length = nA) {t : List gb_V} (hq : gb_cs t ≤ 8) {σ : gb_M} {o : Option gb_V × gb_M} (hf : f (gR k j :: as) σ = some o) {H : Heap} {locs : List Loc} {arr : Array Slot} {ls : List (Nat × Value)} (hP : va_P (g.1, g.2.1) vwCl (gb_ws g σ) H) (hS : va_S A s.heap H locs) (hv : lv_has arr nL ls) {st : List Value} (hst : st = (as.map (gb_v g)).reverse ++ .ref (g.2.2.1 k j) :: t.map (gb_v g))
    (h : ∀ (v : gb_V) (σ' : gb_M) (H1 : Heap) (locs1 : List Loc), o = (some v, σ') → gb_rk crk v → va_P (g.1, g.2.1) vwCl (gb_ws g σ') H1 → va_S A s.heap H1 locs1 → W p l e R s m args below meth c H1 locs1 cells slots Q (F0 m (pc + 3) arr (gb_v g v :: t.map (gb_v g)))) (hcrk : crk = 1 ∨ crk = 2 ∨ crk = 3) : W p l e R s m args below meth c H locs cells slots Q (F0 m pc arr st) := by
  have hG : GoodIn gb_B (wsV own idx C y (.code y bytes cL ret :: gb_B)) := by
    intro w hw1
    rcases List.mem_append.mp hw1 with h1 | h1
    · exact gb_B_in w (hw w (List.mem_append_left [Cond.code y bytes cL ret] h1))
    · rcases List.mem_cons.mp h1 with rfl | h1
      · exact gb_B_in _ (hw _ (List.mem_of_getElem? (i := 4) rfl))
      · exact gb_B_in w h1
  have hsum := gb_cs_s g t
  have hF : ∀ q, va_A (gb_ws g σ) H.size q → A q := gb_A_in (hD σ) hA hS.1
  have hr : va_Run p l e R s m args below meth c H locs cells slots 0 0 (F0 m pc arr st) (t.map (gb_v g)) (gb_Q g crk o (va_A (gb_ws g σ) H.size) (Value.ref (g.2.2.1 k j) :: as.map (gb_v g)).toArray) (va_A (gb_ws g σ) H.size) :=
    va_runV (As := as.map (gb_v g)) (rest := t.map (gb_v g)) ⟨hx, hb, hml, hown, hts⟩ (hM l g (gR k j :: as) σ o H.size (gb_oks_c hok has) hf) (cwV nA hts hG rfl hrm.1 hrm.2 hy hR) ⟨gb_bl, gb_rcv hok hkd hc hK hP, fun U hU hW => ⟨rfl, by rw [hU], by rw [hU]; exact hP, va_K.moved hW.alike hK, (hD σ).weaken (fun _ _ _ _ => trivial)⟩⟩ rfl (by rw [List.length_map, hlen]) hv.1 (by rw [hst]) (by rw [hsum]; exact Nat.le_trans (Nat.le_of_eq (by simp [JFrame.monitorRoom])) hq) d hcs
  have fi : (∀ r : Int32, gb_rk crk (.inl r)) → va_Run p l e R s m args below meth c H locs cells slots 0 0 (F0 m pc arr st) (t.map (gb_v g)) (va_Qi (fun (r : Int32) (u : gb_M) => o.1 = some (.inl r) ∧ u = o.2) (gb_Bs g (va_A (gb_ws g σ) H.size)) (va_A (gb_ws g σ) H.size) (Value.ref (g.2.2.1 k j) :: as.map (gb_v g)).toArray) (va_A (gb_ws g σ) H.size) → W p l e R s m args below meth c H locs cells slots Q (F0 m pc arr st) := by
    intro h8 hr
    refine va_calli (a := (Value.ref (g.2.2.1 k j) :: as.map (gb_v g)).toArray) hr hS (fun q _ h => hF q h) hF (fun r u tt H1 locs1 ht hvm hw hB hz1 hk1 hS1 => ?_)
    obtain ⟨h2, rfl⟩ := hw
    obtain ⟨hP1, -, -⟩ := hB
    rw [ht] at hP1
    have h9 := h8 r
    exact h (.inl r) o.2 H1 locs1 (Prod.ext h2 rfl) h9 hP1 hS1
  rcases hcrk with rfl | rfl | rfl
  · exact fi (fun r => ⟨r, rfl⟩) hr
  · exact fi (fun r => ⟨r, rfl⟩) hr
  · refine va_calll (a := (Value.ref (g.2.2.1 k j) :: as.map (gb_v g)).toArray) hr hS (fun q _ h => hF q h) hF (fun r u tt H1 locs1 ht hvm hw hB hz1 hk1 hS1 => ?_)
    obtain ⟨h2, rfl⟩ := hw
    obtain ⟨hP1, -, -⟩ := hB
    rw [ht] at hP1
    exact h (.inr (.inl r)) o.2 H1 locs1 (Prod.ext h2 rfl) ⟨r, rfl⟩ hP1 hS1
end LWC
