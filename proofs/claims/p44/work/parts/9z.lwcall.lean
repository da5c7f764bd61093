/-! CALLS of the class by the law, beside other cells -/
theorem P_l {D : va_G} {a b : va_W} {H : Heap} (h : va_P D vwCl (a ++ b) H) : va_P D vwCl a H := fun k q hk => h k q (ix_l hk)
theorem P_r {D : va_G} {a b : va_W} {H : Heap} (h : va_P D vwCl (a ++ b) H) : va_P D vwCl b H := fun k q hk => h (k + a.length) q (ix_r rfl hk)
theorem D_l {A : Nat → Prop} {a b : va_W} (h : va_D A (a ++ b)) : va_D A a := ⟨fun i j p q hi hj e => h.1 i j p q (ix_l hi) (ix_l hj) e, fun k q hk => h.2 k q (ix_l hk)⟩
theorem D_r {A : Nat → Prop} {a b : va_W} (h : va_D A (a ++ b)) : va_D A b := ⟨fun i j p q hi hj e => by
  have h1 := h.1 _ _ p q (ix_r rfl hi) (ix_r rfl hj) e
  omega, fun k q hk => h.2 _ q (ix_r rfl hk)⟩
theorem P_c {D : va_G} {a b : va_W} {H : Heap} (h : va_P D vwCl (a ++ b) H) : va_P D vwCl (b ++ a) H := va_P.app (P_r h) (P_l h)
theorem D_c {A : Nat → Prop} {a b : va_W} (h : va_D A (a ++ b)) : va_D A (b ++ a) := va_D.app (D_r h) (D_l h) (fun i j p q hi hj e => by
  have h1 := h.1 _ _ q p (ix_l hj) (ix_r rfl hi) e.symm
  have h2 := (List.getElem?_eq_some_iff.mp hj).1
  omega)
theorem D_anyW {A : Nat → Prop} {g : gb_G} {σ : gb_M} {wr : va_W} (h : va_D A (gb_ws g σ ++ wr)) (u : gb_M) : va_D A (gb_ws g u ++ wr) := by
  have hlen : (gb_ws g u).length = (gb_ws g σ).length := by unfold gb_ws; rw [List.length_map, List.length_map]
  have hadr : ∀ (k : Nat) (q : Nat × va_E), (gb_ws g u ++ wr)[k]? = some q → ∃ e, (gb_ws g σ ++ wr)[k]? = some (q.1, e) := by
    intro k q hk
    by_cases c : k < (gb_ws g u).length
    · rw [List.getElem?_append_left c] at hk
      rw [List.getElem?_append_left (hlen ▸ c)]
      unfold gb_ws at hk ⊢
      rw [List.getElem?_map] at hk ⊢
      cases hz : gb_pl[k]? with
      | none => rw [hz] at hk; cases hk
      | some r =>
        rw [hz] at hk
        cases hk
        exact ⟨_, rfl⟩
    · rw [List.getElem?_append_right (by omega)] at hk
      refine ⟨q.2, ?_⟩
      rw [List.getElem?_append_right (by omega), ← hlen]
      exact hk
  refine ⟨fun i j a b hi hj hab => ?_, fun k q hk => ?_⟩
  · obtain ⟨e1, h1⟩ := hadr i a hi
    obtain ⟨e2, h2⟩ := hadr j b hj
    exact h.1 i j _ _ h1 h2 hab
  · obtain ⟨e1, h1⟩ := hadr k q hk
    exact h.2 k (q.1, e1) h1
/-- an answer of that kind -/
def gb_rk (crk : Nat) (v : gb_V) : Prop := match crk with
  | 3 => ∃ y : Int64, v = gL y
  | _ => ∃ x : Int32, v = gI x
section LWC
variable {p : Program} {l : Launch} {e : Env} {R : Room} {s : State} {m : MethodId} {args : Array Value} {below : List Frame} {meth : Method} {c : Code} {g : gb_G} {A : Nat → Prop} {cells slots nL : Nat} {Q : State → Prop} {own : String} {cc : ByteArray}
theorem lw_back {a : Array Value} {st0 : List Value} {pc crk : Nat} {σ : gb_M} {o : Option gb_V × gb_M} {wr : va_W} {H : Heap} {locs : List Loc} {arr : Array Slot} {t : List gb_V} (hA : ∀ q, s.heap.size ≤ q → A q) (hP : va_P (g.1, g.2.1) vwCl (gb_ws g σ ++ wr) H) (hD : va_D A (gb_ws g σ ++ wr)) (hS : va_S A s.heap H locs)
    (hr : va_Run p l e R s m args below meth c H locs cells slots 0 0 (F0 m pc arr st0) (t.map (gb_v g)) (gb_Q g crk o (va_A (gb_ws g σ) H.size) a) (va_A (gb_ws g σ) H.size))
    (h : ∀ (v : gb_V) (σ' : gb_M) (H1 : Heap) (locs1 : List Loc), o = (some v, σ') → va_P (g.1, g.2.1) vwCl (gb_ws g σ' ++ wr) H1 → va_D A (gb_ws g σ' ++ wr) → va_S A s.heap H1 locs1 → W p l e R s m args below meth c H1 locs1 cells slots Q (F0 m (pc + 3) arr (gb_v g v :: t.map (gb_v g)))) (hcrk : crk = 1 ∨ crk = 2 ∨ crk = 3) : W p l e R s m args below meth c H locs cells slots Q (F0 m pc arr st0) := by
  have hF : ∀ q, va_A (gb_ws g σ) H.size q → A q := gb_A_in (D_l hD) hA hS.1
  have fi : va_Run p l e R s m args below meth c H locs cells slots 0 0 (F0 m pc arr st0) (t.map (gb_v g)) (va_Qi (fun (r : Int32) (u : gb_M) => o.1 = some (.inl r) ∧ u = o.2) (gb_Bs g (va_A (gb_ws g σ) H.size)) (va_A (gb_ws g σ) H.size) a) (va_A (gb_ws g σ) H.size) → W p l e R s m args below meth c H locs cells slots Q (F0 m pc arr st0) := by
    intro hr
    refine va_calli (a := a) hr hS (fun q _ h => hF q h) hF (fun r u tt H1 locs1 ht hvm hw hB hz1 hk1 hS1 => ?_)
    obtain ⟨h2, rfl⟩ := hw
    obtain ⟨hP1, -, hD1⟩ := hB
    rw [ht] at hP1
    obtain ⟨hP2, hD2⟩ := j_join (P_c hP) (D_c hD) hk1 hF hP1 hD1
    exact h (.inl r) o.2 H1 locs1 (Prod.ext h2 rfl) (P_c hP2) (D_c hD2) hS1
  rcases hcrk with rfl | rfl | rfl
  · exact fi hr
  · exact fi hr
  · refine va_calll (a := a) hr hS (fun q _ h => hF q h) hF (fun r u tt H1 locs1 ht hvm hw hB hz1 hk1 hS1 => ?_)
    obtain ⟨h2, rfl⟩ := hw
    obtain ⟨hP1, -, hD1⟩ := hB
    rw [ht] at hP1
    obtain ⟨hP2, hD2⟩ := j_join (P_c hP) (D_c hD) hk1 hF hP1 hD1
    exact h (.inr (.inl r)) o.2 H1 locs1 (Prod.ext h2 rfl) (P_c hP2) (D_c hD2) hS1
/-- a method of the class -/
theorem lw_cw (hx : p.tables.exec = Jvm.exec) (hb : c.code = cc) (hml : c.maxLocals = nL) (hown : s.vm.findClass own = some m.cls) (hts : ∀ w ∈ gb_J, w.before args s = true) (hK : va_K (g.1, g.2.1) vwCl (gb_T g) s) (hA : ∀ q, s.heap.size ≤ q → A q) (hcs : cells ≤ R.cells ∧ slots ≤ R.slots)
    {C : String} {T : u_T} {N ci idx nA cL crk pc : Nat} {y : MethodName} {bytes : ByteArray} {ret : Option FieldType} {rm : Room} {f : gb_F} (hM : ∀ l, gb_Met l y bytes cL ret crk rm f) (hc : vwCl[ci]? = some (C, T, N)) (hw : ∀ w ∈ ([.methodLink own idx y, .instanceMethod y, .selects C y y, .initialized C, .code y bytes cL ret] : List Cond), w ∈ gb_B)
    (hy : y.cls = C ∧ y.cls ≠ "java/lang/invoke/MethodHandle" ∧ y.cls ≠ "java/lang/invoke/VarHandle" ∧ (parseMethodDescriptor y.desc).map (fun d => d.parameters.length) = some nA) (hrm : rm.cells = 0 ∧ rm.slots = 0) (hR : rm.frames + 1 ≤ R.frames ∧ 8 + (cL + 11) + rm.locals ≤ R.locals) (d : decode cc pc = .ok (.invokevirtual idx, 3))
    {k j : Nat} {fs : List gb_Fs} (hok : gb_ok (gR k j)) (hkd : gb_kd k = .inl (ci, fs)) {as : List gb_V} (has : gb_oks as) (hlen : as.length = nA) {t : List gb_V} (hq : gb_cs t ≤ 8) {σ : gb_M} {o : Option gb_V × gb_M} (hf : f (gR k j :: as) σ = some o) {wr : va_W} {H : Heap} {locs : List Loc} {arr : Array Slot} {ls : List (Nat × Value)} (hP : va_P (g.1, g.2.1) vwCl (gb_ws g σ ++ wr) H) (hD : va_D A (gb_ws g σ ++ wr)) (hS : va_S A s.heap H locs) (hv : lv_has arr nL ls) {st : List Value} (hst : st = (as.map (gb_v g)).reverse ++ .ref (g.2.2.1 k j) :: t.map (gb_v g))
    (h : ∀ (v : gb_V) (σ' : gb_M) (H1 : Heap) (locs1 : List Loc), o = (some v, σ') → va_P (g.1, g.2.1) vwCl (gb_ws g σ' ++ wr) H1 → va_D A (gb_ws g σ' ++ wr) → va_S A s.heap H1 locs1 → W p l e R s m args below meth c H1 locs1 cells slots Q (F0 m (pc + 3) arr (gb_v g v :: t.map (gb_v g)))) (hcrk : crk = 1 ∨ crk = 2 ∨ crk = 3) : W p l e R s m args below meth c H locs cells slots Q (F0 m pc arr st) := by
  have hB : ∀ w ∈ gb_B, w.before args s = true := fun w hw => hts w (gb_J_B hw)
  have hG : GoodIn gb_B (wsV own idx C y (.code y bytes cL ret :: gb_B)) := by
    intro w hw1
    rcases List.mem_append.mp hw1 with h1 | h1
    · exact gb_B_in w (hw w (List.mem_append_left [Cond.code y bytes cL ret] h1))
    · rcases List.mem_cons.mp h1 with rfl | h1
      · exact gb_B_in _ (hw _ (List.mem_of_getElem? (i := 4) rfl))
      · exact gb_B_in w h1
  have hsum := gb_cs_s g t
  refine lw_back (a := (Value.ref (g.2.2.1 k j) :: as.map (gb_v g)).toArray) hA hP hD hS ?_ h hcrk
  exact va_runV (As := as.map (gb_v g)) (rest := t.map (gb_v g)) ⟨hx, hb, hml, hown, hB⟩ (hM l g (gR k j :: as) σ o H.size (gb_oks_c hok has) hf) (cwV nA hB hG rfl hrm.1 hrm.2 hy hR) ⟨gb_bl, gb_rcv hok hkd hc hK (P_l hP), fun U hU hW => ⟨rfl, by rw [hU], by rw [hU]; exact P_l hP, va_K.moved hW.alike hK, (D_l hD).weaken (fun _ _ _ _ => trivial)⟩⟩ rfl (by rw [List.length_map, hlen]) hv.1 (by rw [hst]) (by rw [hsum]; exact Nat.le_trans (Nat.le_of_eq (by simp [JFrame.monitorRoom])) hq) d hcs
/-- a static method over the same cells -/
theorem lw_cs (hx : p.tables.exec = Jvm.exec) (hb : c.code = cc) (hml : c.maxLocals = nL) (hown : s.vm.findClass own = some m.cls) (hts : ∀ w ∈ gb_J, w.before args s = true) (hK : va_K (g.1, g.2.1) vwCl (gb_T g) s) (hA : ∀ q, s.heap.size ≤ q → A q) (hcs : cells ≤ R.cells ∧ slots ≤ R.slots)
    {idx nA cL crk pc : Nat} {y : MethodName} {bytes : ByteArray} {ret : Option FieldType} {rm : Room} {f : gb_F} (hM : ∀ l, gb_Met l y bytes cL ret crk rm f) (hw : ∀ w ∈ ([.methodLink own idx y, .static y, .initialized y.cls, .code y bytes cL ret] : List Cond), w ∈ gb_B)
    (hy : y.cls ≠ "java/lang/invoke/MethodHandle" ∧ y.cls ≠ "java/lang/invoke/VarHandle" ∧ (parseMethodDescriptor y.desc).map (fun d => d.parameters.length) = some nA) (hrm : rm.cells = 0 ∧ rm.slots = 0) (hR : rm.frames + 1 ≤ R.frames ∧ 8 + (cL + 11) + rm.locals ≤ R.locals) (d : decode cc pc = .ok (.invokestatic idx, 3))
    {as : List gb_V} (has : gb_oks as) (hlen : as.length = nA) {t : List gb_V} (hq : gb_cs t ≤ 8) {σ : gb_M} {o : Option gb_V × gb_M} (hf : f as σ = some o) {wr : va_W} {H : Heap} {locs : List Loc} {arr : Array Slot} {ls : List (Nat × Value)} (hP : va_P (g.1, g.2.1) vwCl (gb_ws g σ ++ wr) H) (hD : va_D A (gb_ws g σ ++ wr)) (hS : va_S A s.heap H locs) (hv : lv_has arr nL ls) {st : List Value} (hst : st = (as.map (gb_v g)).reverse ++ t.map (gb_v g))
    (h : ∀ (v : gb_V) (σ' : gb_M) (H1 : Heap) (locs1 : List Loc), o = (some v, σ') → va_P (g.1, g.2.1) vwCl (gb_ws g σ' ++ wr) H1 → va_D A (gb_ws g σ' ++ wr) → va_S A s.heap H1 locs1 → W p l e R s m args below meth c H1 locs1 cells slots Q (F0 m (pc + 3) arr (gb_v g v :: t.map (gb_v g)))) (hcrk : crk = 1 ∨ crk = 2 ∨ crk = 3) : W p l e R s m args below meth c H locs cells slots Q (F0 m pc arr st) := by
  have hB : ∀ w ∈ gb_B, w.before args s = true := fun w hw => hts w (gb_J_B hw)
  have hG : GoodIn gb_B (va_wsS own idx y (.code y bytes cL ret :: gb_B)) := by
    intro w hw1
    rcases List.mem_append.mp hw1 with h1 | h1
    · exact gb_B_in w (hw w (List.mem_append_left [Cond.code y bytes cL ret] h1))
    · rcases List.mem_cons.mp h1 with rfl | h1
      · exact gb_B_in _ (hw _ (List.mem_of_getElem? (i := 3) rfl))
      · exact gb_B_in w h1
  have hsum := gb_cs_s g t
  refine lw_back (a := (as.map (gb_v g)).toArray) hA hP hD hS ?_ h hcrk
  exact va_runS (As := as.map (gb_v g)) (rest := t.map (gb_v g)) ⟨hx, hb, hml, hown, hB⟩ (hM l g as σ o H.size has hf) (va_cwS nA hB hG rfl hrm.1 hrm.2 hy hR) ⟨gb_bl, fun U hU hW => ⟨rfl, by rw [hU], by rw [hU]; exact P_l hP, va_K.moved hW.alike hK, (D_l hD).weaken (fun _ _ _ _ => trivial)⟩⟩ rfl (by rw [List.length_map, hlen]) hv.1 (by rw [hst]) (by rw [hsum]; exact Nat.le_trans (Nat.le_of_eq (by simp [JFrame.monitorRoom])) hq) d hcs
end LWC
theorem nIZ (n : Nat) : nI n = nZ n := by
  show Int32.ofNat n = Int32.ofInt n
  apply Int32.toBitVec_inj.mp
  simp [Int32.ofNat, Int32.ofInt]
