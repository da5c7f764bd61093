/-! THE JDK's methods that the law calls: how they are stated and called -/
def jsw : List Cond := [.selects RJ4 yJ5_newCapacity_0f7a4 yJ5_newCapacity_0f7a4, .selects RJ4 yJ5_ensureCapacityInternal_d00df yJ5_ensureCapacityInternal_d00df, .selects RJ4 yJ5_putStringAt_47b60 yJ5_putStringAt_47b60, .selects RJ4 yJ5_inflateIfNeededFor_a7421 yJ5_inflateIfNeededFor_a7421]
/-- the words of the JDK's methods: those of the tables, and which private methods of the upper class are chosen -/
def gb_J : List Cond := jsw ++ gb_B
theorem gb_J_of {L : List Cond} (h : ∀ w ∈ L, w ∈ jsw ∨ (w ∈ lw_tbl ∧ goodWord w = true)) : ∀ w ∈ L, w ∈ gb_J := fun w hw => (h w hw).elim (fun q => List.mem_append_left _ q) (fun q => List.mem_append_right _ (List.mem_filter.mpr q))
theorem gb_J_B {w : Cond} (h : w ∈ gb_B) : w ∈ gb_J := List.mem_append_right _ h
theorem jsw_good : ∀ w ∈ jsw, goodWord w = true := by decide +kernel
theorem gb_J_in : GoodIn gb_J gb_J := fun w h => ⟨h, (List.mem_append.mp h).elim (fun q => good_of_word (jsw_good w q)) (fun q => good_of_word (gb_B_good q))⟩
theorem j_sel {y : MethodName} {s : State} {args : Array Value} (hy : y.cls ≠ "java/lang/invoke/MethodHandle" ∧ y.cls ≠ "java/lang/invoke/VarHandle") (hpriv : (Cond.privateMethod y).before args s = true) (hinst : (Cond.instanceMethod y).before args s = true) (h0 : (Cond.selects RJ4 yJ5_isLatin1_aae02 yJ5_isLatin1_aae02).before args s = true) (hc : y.cls = yJ5_isLatin1_aae02.cls) : (Cond.selects RJ4 y y).before args s = true := by
  obtain ⟨c, r, m, h1, h2, h3, h4, mk0, h5, h6⟩ := Cond.selects_spec h0
  obtain ⟨mk, methM, hnamed, hmethM, -, -⟩ := Cond.instanceMethod_spec hinst
  have hfound : s.methodFound? y.cls y.name y.desc = some mk := State.methodFound?_of_named hnamed hy
  have e1 := findClass_of_methodNamed hnamed
  rw [hc] at e1
  have hcls : mk.cls = m.cls := Option.some.inj (e1.symm.trans (findClass_of_methodNamed h3))
  have hsel : selectMethod {} s.vm c mk = .method mk := selectMethod_private hmethM (Cond.privateMethod_at hpriv mk methM hnamed hmethM)
  simp only [Cond.before, Cond.holds, Cond.value, h1, hfound, hnamed, hsel, hcls, h5]
  simp; exact h6
theorem jsw_hts {s : State} {args : Array Value} (hts : ∀ w ∈ lw_tbl, w.before args s = true) : ∀ w ∈ gb_J, w.before args s = true := by
  intro w hw
  rcases List.mem_append.mp hw with h | h
  · have h0 := hts (.selects RJ4 yJ5_isLatin1_aae02 yJ5_isLatin1_aae02) (by decide +kernel)
    have p1 : ∀ y ∈ [yJ5_newCapacity_0f7a4, yJ5_ensureCapacityInternal_d00df, yJ5_putStringAt_47b60, yJ5_inflateIfNeededFor_a7421], (y.cls ≠ "java/lang/invoke/MethodHandle" ∧ y.cls ≠ "java/lang/invoke/VarHandle") ∧ Cond.privateMethod y ∈ lw_tbl ∧ Cond.instanceMethod y ∈ lw_tbl ∧ y.cls = yJ5_isLatin1_aae02.cls := by decide +kernel
    have e : jsw = [yJ5_newCapacity_0f7a4, yJ5_ensureCapacityInternal_d00df, yJ5_putStringAt_47b60, yJ5_inflateIfNeededFor_a7421].map (fun y => Cond.selects RJ4 y y) := rfl
    rw [e] at h
    obtain ⟨y, hy, rfl⟩ := List.mem_map.mp h
    obtain ⟨q1, q2, q3, q4⟩ := p1 y hy
    exact j_sel q1 (hts _ q2) (hts _ q3) h0 q4
  · exact hts w (gb_B_tbl h)
theorem winJ4 : ∀ w ∈ u_ws RJ4 TJ4 4, w ∈ gb_J := by
  have h : ∀ w ∈ u_ws RJ4 TJ4 4, w ∈ jsw ∨ (w ∈ lw_tbl ∧ goodWord w = true) := by decide +kernel
  exact gb_J_of h
theorem winJ0 : ∀ w ∈ u_ws RJ0 TJ0 4, w ∈ gb_J := by
  have h : ∀ w ∈ u_ws RJ0 TJ0 4, w ∈ jsw ∨ (w ∈ lw_tbl ∧ goodWord w = true) := by decide +kernel
  exact gb_J_of h
theorem j_cast {u U : State} (hvm : u.vm.Alike U.vm) (h : va_Nw (.castable "[B" "java/lang/Cloneable") u) : va_Nw (.castable "[B" "java/lang/Cloneable") U := va_tabs rfl (rfl : (u.setVm U.vm).vm = U.vm) (by rw [Cond.castable_setVm hvm]; exact h)
def jC (t1 t2 : Nat) (A : Nat → Prop) (U : State) (H : Heap) : Prop := va_Z "java/lang/String" "COMPACT_STRINGS" "Z" (.int 1) A U H ∧ va_Zq "jdk/internal/util/Preconditions" "SIOOBE_FORMATTER" "Ljava/util/function/BiFunction;" A U H ∧ va_Z "java/lang/Integer" "DigitOnes" "[B" (.ref t1) A U H ∧ va_Z "java/lang/Integer" "DigitTens" "[B" (.ref t2) A U H ∧ va_T .byte t1 100 (fun j => .int (nI (48 + j % 10))) A U H ∧ va_T .byte t2 100 (fun j => .int (nI (48 + j / 10))) A U H ∧ va_Nw (.castable "[B" "java/lang/Cloneable") U
theorem jC.moved {t1 t2 : Nat} {A : Nat → Prop} {u U : State} {H : Heap} (hvm : u.vm.Alike U.vm) (h : jC t1 t2 A u H) : jC t1 t2 A U H := ⟨h.1.moved hvm, h.2.1.moved hvm, h.2.2.1.moved hvm, h.2.2.2.1.moved hvm, h.2.2.2.2.1.moved hvm, h.2.2.2.2.2.1.moved hvm, j_cast hvm h.2.2.2.2.2.2⟩
theorem jC.kept {t1 t2 : Nat} {A : Nat → Prop} {U : State} {H H1 : Heap} (h : jC t1 t2 A U H) (hq : ∀ a : Nat, a < H.size → ¬ A a → H1[a]? = H[a]?) : jC t1 t2 A U H1 := ⟨h.1.kept hq, h.2.1.kept hq, h.2.2.1.kept hq, h.2.2.2.1.kept hq, h.2.2.2.2.1.kept hq, h.2.2.2.2.2.1.kept hq, h.2.2.2.2.2.2⟩
theorem jC.narrow {t1 t2 : Nat} {A B : Nat → Prop} {U : State} {H : Heap} (h : jC t1 t2 A U H) (hAB : ∀ q, B q → A q) : jC t1 t2 B U H := ⟨h.1.narrow hAB, h.2.1.narrow hAB, h.2.2.1.narrow hAB, h.2.2.2.1.narrow hAB, h.2.2.2.2.1.narrow hAB, h.2.2.2.2.2.1.narrow hAB, h.2.2.2.2.2.2⟩
/-- a String that nobody writes: n letters f -/
def jL (q v n : Nat) (f : Nat → Int32) (A : Nat → Prop) (U : State) (H : Heap) : Prop := va_O "java/lang/String" q A U H ∧ va_OF "java/lang/String" "coder" "B" (.int 0) q A U H ∧ va_OF "java/lang/String" "value" "[B" (.ref v) q A U H ∧ va_T .byte v n (fun j => .int (f j)) A U H
theorem jL.moved {q v n : Nat} {f : Nat → Int32} {A : Nat → Prop} {u U : State} {H : Heap} (hvm : u.vm.Alike U.vm) (h : jL q v n f A u H) : jL q v n f A U H := ⟨h.1.moved hvm, h.2.1.moved hvm, h.2.2.1.moved hvm, h.2.2.2.moved hvm⟩
theorem jL.kept {q v n : Nat} {f : Nat → Int32} {A : Nat → Prop} {U : State} {H H1 : Heap} (h : jL q v n f A U H) (hq : ∀ a : Nat, a < H.size → ¬ A a → H1[a]? = H[a]?) : jL q v n f A U H1 := ⟨h.1.kept hq, h.2.1.kept hq, h.2.2.1.kept hq, h.2.2.2.kept hq⟩
theorem jL.narrow {q v n : Nat} {f : Nat → Int32} {A B : Nat → Prop} {U : State} {H : Heap} (h : jL q v n f A U H) (hAB : ∀ q, B q → A q) : jL q v n f B U H := ⟨h.1.narrow hAB, h.2.1.narrow hAB, h.2.2.1.narrow hAB, h.2.2.2.narrow hAB⟩
/-- more that holds of a state and does not change -/
def jX (X : (Nat → Prop) → State → Heap → Prop) : Prop := (∀ (A : Nat → Prop) (u U : State) (H : Heap), u.vm.Alike U.vm → X A u H → X A U H) ∧ (∀ (A : Nat → Prop) (U : State) (H H1 : Heap), (∀ a : Nat, a < H.size → ¬ A a → H1[a]? = H[a]?) → X A U H → X A U H1) ∧ ∀ (A B : Nat → Prop) (U : State) (H : Heap), (∀ q, B q → A q) → X A U H → X B U H
def jC0 (t1 t2 : Nat) (A : Nat → Prop) (U : State) (H : Heap) : Prop := jC t1 t2 A U H
def jCL (t1 t2 q v n : Nat) (f : Nat → Int32) (A : Nat → Prop) (U : State) (H : Heap) : Prop := jC t1 t2 A U H ∧ jL q v n f A U H
theorem jX_0 (t1 t2 : Nat) : jX (jC t1 t2) := ⟨fun _ _ _ _ h x => jC.moved h x, fun _ _ _ _ h x => jC.kept x h, fun _ _ _ _ h x => jC.narrow x h⟩
theorem jX_L (t1 t2 q v n : Nat) (f : Nat → Int32) : jX (jCL t1 t2 q v n f) := ⟨fun _ _ _ _ h x => ⟨jC.moved h x.1, jL.moved h x.2⟩, fun _ _ _ _ h x => ⟨jC.kept x.1 h, jL.kept x.2 h⟩, fun _ _ _ _ h x => ⟨jC.narrow x.1 h, jL.narrow x.2 h⟩⟩
/-- before a method that writes nothing -/
def jp (g : gb_G) (X : (Nat → Prop) → State → Heap → Prop) (av : List Value) (ws : va_W) : Array Value → State → Prop := va_Pc av (fun U => va_P (g.1, g.2.1) vwCl ws U.heap ∧ va_K (g.1, g.2.1) vwCl (gb_T g) U ∧ X (fun _ => False) U U.heap)
/-- before a method that writes in the world ws -/
def jm (g : gb_G) (X : (Nat → Prop) → State → Heap → Prop) (av : List Value) (ws : va_W) (sz : Nat) : Array Value → State → Prop := va_Pc av (fun U => U.heap.size = sz ∧ va_P (g.1, g.2.1) vwCl ws U.heap ∧ va_K (g.1, g.2.1) vwCl (gb_T g) U ∧ va_D (fun _ => True) ws ∧ X (va_A ws sz) U U.heap)
theorem jp_b {g : gb_G} {X : (Nat → Prop) → State → Heap → Prop} (hX : jX X) {av : List Value} {ws : va_W} : FrameBlind (jp g X av ws) := fun a U g' mk z => by
  obtain ⟨q0, qP, qK, qC⟩ := z
  exact ⟨q0, qP, va_K.moved (u := U) (U := U.calling g' mk a) (Vm.Alike.refl U.vm) qK, hX.1 _ U (U.calling g' mk a) _ (Vm.Alike.refl U.vm) qC⟩
theorem jm_b {g : gb_G} {X : (Nat → Prop) → State → Heap → Prop} (hX : jX X) {av : List Value} {ws : va_W} {sz : Nat} : FrameBlind (jm g X av ws sz) := fun a U g' mk z => by
  obtain ⟨q0, q1, qP, qK, qD, qC⟩ := z
  exact ⟨q0, q1, qP, va_K.moved (u := U) (U := U.calling g' mk a) (Vm.Alike.refl U.vm) qK, qD, hX.1 _ U (U.calling g' mk a) _ (Vm.Alike.refl U.vm) qC⟩
section JBA
variable {s : State} {H : Heap} {g : gb_G} {X : (Nat → Prop) → State → Heap → Prop} {A : Nat → Prop} {locs : List Loc} {ws : va_W} {av As : List Value} {b : Nat} {C : String}
theorem jp_S (hX : jX X) (hK : va_K (g.1, g.2.1) vwCl (gb_T g) s) (hC : X A s s.heap) (hS : va_S A s.heap H locs) (hP : va_P (g.1, g.2.1) vwCl ws H) : PreS s H (jp g X av ws) av :=
  ⟨jp_b hX, fun U hU hW => ⟨rfl, by rw [hU]; exact hP, va_K.moved hW.alike hK, hX.1 _ s U _ hW.alike (hX.2.2 A _ _ _ (fun _ h => h.elim) (by rw [hU]; exact hX.2.1 A s _ _ hS.2.1 hC))⟩⟩
theorem jp_V (hX : jX X) (hK : va_K (g.1, g.2.1) vwCl (gb_T g) s) (hC : X A s s.heap) (hS : va_S A s.heap H locs) (hP : va_P (g.1, g.2.1) vwCl ws H) (hR : ∃ cell : Cell, H[b]? = some cell ∧ cell.vm.isStatics = false ∧ s.vm.findClass C = some cell.cls) : PreV s H C b (jp g X (.ref b :: As) ws) As :=
  ⟨jp_b hX, hR, (jp_S hX hK hC hS hP).2⟩
theorem jm_S (hX : jX X) (hK : va_K (g.1, g.2.1) vwCl (gb_T g) s) (hC : X A s s.heap) (hS : va_S A s.heap H locs) (hP : va_P (g.1, g.2.1) vwCl ws H) (hD : va_D A ws) (hA : ∀ q, s.heap.size ≤ q → A q) : PreS s H (jm g X av ws H.size) av :=
  ⟨jm_b hX, fun U hU hW => ⟨rfl, by rw [hU], by rw [hU]; exact hP, va_K.moved hW.alike hK, hD.weaken (fun _ _ _ _ => trivial), hX.1 _ s U _ hW.alike (hX.2.2 A _ _ _ (fun q h => by
    rcases h with ⟨k, e, hk⟩ | h
    · exact hD.2 k _ hk
    · exact hA q (Nat.le_trans hS.1 h)) (by rw [hU]; exact hX.2.1 A s _ _ hS.2.1 hC))⟩⟩
theorem jm_V (hX : jX X) (hK : va_K (g.1, g.2.1) vwCl (gb_T g) s) (hC : X A s s.heap) (hS : va_S A s.heap H locs) (hP : va_P (g.1, g.2.1) vwCl ws H) (hD : va_D A ws) (hA : ∀ q, s.heap.size ≤ q → A q) (hR : ∃ cell : Cell, H[b]? = some cell ∧ cell.vm.isStatics = false ∧ s.vm.findClass C = some cell.cls) : PreV s H C b (jm g X (.ref b :: As) ws H.size) As :=
  ⟨jm_b hX, hR, (jm_S hX hK hC hS hP hD hA).2⟩
theorem jA_in (hS : va_S A s.heap H locs) (hD : va_D A ws) (hA : ∀ q, s.heap.size ≤ q → A q) : ∀ q, va_A ws H.size q → A q := fun q h => by
  rcases h with ⟨k, e, hk⟩ | h
  · exact hD.2 k _ hk
  · exact hA q (Nat.le_trans hS.1 h)
/-- the caller's other cells wr, the callee's world wc -/
theorem j_join {A0 : Nat → Prop} {D : va_G} {wr wc w1 : va_W} {H H1 : Heap} (hP : va_P D vwCl (wr ++ wc) H) (hD : va_D A0 (wr ++ wc)) (hk : ∀ q : Nat, q < H.size → ¬ va_A wc H.size q → H1[q]? = H[q]?) (hF : ∀ q, va_A wc H.size q → A0 q) (hP1 : va_P D vwCl w1 H1) (hD1 : va_D (va_A wc H.size) w1) : va_P D vwCl (wr ++ w1) H1 ∧ va_D A0 (wr ++ w1) := by
  have gl : ∀ (k : Nat) (q : Nat × va_E), wr[k]? = some q → (wr ++ wc)[k]? = some q := fun k q h => by
    rw [List.getElem?_append_left (List.getElem?_eq_some_iff.mp h).1]; exact h
  have gr : ∀ (k : Nat) (q : Nat × va_E), wc[k]? = some q → (wr ++ wc)[wr.length + k]? = some q := fun k q h => by
    rw [List.getElem?_append_right (Nat.le_add_right _ _), Nat.add_sub_cancel_left]; exact h
  have hlt : ∀ (k : Nat) (q : Nat × va_E), wr[k]? = some q → q.1 < H.size := fun k q h => (hP k q (gl k q h)).lt
  have hna : ∀ (k : Nat) (q : Nat × va_E), wr[k]? = some q → ¬ va_A wc H.size q.1 := fun k q h z => by
    rcases z with ⟨j, e, hj⟩ | z
    · have h1 := hD.1 k (wr.length + j) q (q.1, e) (gl k q h) (gr j _ hj) rfl
      have h2 := (List.getElem?_eq_some_iff.mp h).1
      omega
    · have h2 := hlt k q h
      omega
  have hPr : va_P D vwCl wr H := fun k q h => hP k q (gl k q h)
  refine ⟨va_P.app (hPr.kept fun k q h => hk q.1 (hlt k q h) (hna k q h)) hP1, va_D.app ⟨fun i j p q hi hj h => hD.1 i j p q (gl i p hi) (gl j q hj) h, fun k q h => hD.2 k q (gl k q h)⟩ (hD1.weaken fun k q h z => hF q.1 z) (fun i j p q hi hj h => ?_)⟩
  exact hna i p hi (h ▸ hD1.2 j q hj)
end JBA
section JCA
variable {p : Program} {l : Launch} {e : Env} {R : Room} {s : State} {m : MethodId} {args : Array Value} {below : List Frame} {meth : Method} {c : Code} {H : Heap} {locs : List Loc} {cells slots : Nat} {Q : State → Prop}
variable {pc : Nat} {ls : Array Slot} {rest st0 : List Value} {a : Array Value} {A : Nat → Prop} {mc ms : Nat} {g : gb_G} {wr wc : va_W} {W1 : va_W → Prop}
def jB (g : gb_G) (W1 : va_W → Prop) (B : Nat → Prop) (t : State) : Prop := ∃ w1, W1 w1 ∧ va_P (g.1, g.2.1) vwCl w1 t.heap ∧ va_D B w1
def jQv (g : gb_G) (W1 : va_W → Prop) (B : Nat → Prop) : Array Value → State → Outcome → State → Prop := va_Qv (fun _ : Unit => True) (fun _ t => jB g W1 B t) B
def jQi (g : gb_G) (v : Int32) (W1 : va_W → Prop) (B : Nat → Prop) : Array Value → State → Outcome → State → Prop := va_Qi (fun r (_ : Unit) => r = v) (fun _ t => jB g W1 B t) B
def jQr (g : gb_G) (W1 : Nat → va_W → Prop) (B : Nat → Prop) : Array Value → State → Outcome → State → Prop := va_Qr (fun _ : Unit => True) (fun _ q t => jB g (W1 q) B t) B
theorem j_v (hr : va_Run p l e R s m args below meth c H locs cells slots mc ms (F0 m pc ls st0) rest (jQv g W1 (va_A wc H.size) a) (va_A wc H.size)) (hP : va_P (g.1, g.2.1) vwCl (wr ++ wc) H) (hD : va_D A (wr ++ wc)) (hS : va_S A s.heap H locs) (hA : ∀ q, s.heap.size ≤ q → A q)
    (h : ∀ (w1 : va_W) (H1 : Heap) (locs1 : List Loc), W1 w1 → va_P (g.1, g.2.1) vwCl (wr ++ w1) H1 → va_D A (wr ++ w1) → va_S A s.heap H1 locs1 → W p l e R s m args below meth c H1 locs1 (cells + mc) (slots + ms) Q (F0 m (pc + 3) ls rest)) : W p l e R s m args below meth c H locs cells slots Q (F0 m pc ls st0) := by
  have hF : ∀ q, va_A wc H.size q → A q := fun q h => by
    rcases h with ⟨k, e, hk⟩ | h
    · exact hD.2 (wr.length + k) (q, e) (by rw [List.getElem?_append_right (Nat.le_add_right _ _), Nat.add_sub_cancel_left]; exact hk)
    · exact hA q (Nat.le_trans hS.1 h)
  refine va_callv hr hS (fun q _ h => hF q h) hF (fun u t H1 locs1 ht hvm hw1 hB1 hz1 hk1 hS1 => ?_)
  obtain ⟨w1, h1, hP1, hD1⟩ := hB1
  rw [ht] at hP1
  obtain ⟨hP2, hD2⟩ := j_join hP hD hk1 hF hP1 hD1
  exact h w1 H1 locs1 h1 hP2 hD2 hS1
theorem j_i {v : Int32} (hr : va_Run p l e R s m args below meth c H locs cells slots mc ms (F0 m pc ls st0) rest (jQi g v W1 (va_A wc H.size) a) (va_A wc H.size)) (hP : va_P (g.1, g.2.1) vwCl (wr ++ wc) H) (hD : va_D A (wr ++ wc)) (hS : va_S A s.heap H locs) (hA : ∀ q, s.heap.size ≤ q → A q)
    (h : ∀ (w1 : va_W) (H1 : Heap) (locs1 : List Loc), W1 w1 → va_P (g.1, g.2.1) vwCl (wr ++ w1) H1 → va_D A (wr ++ w1) → va_S A s.heap H1 locs1 → W p l e R s m args below meth c H1 locs1 (cells + mc) (slots + ms) Q (F0 m (pc + 3) ls (.int v :: rest))) : W p l e R s m args below meth c H locs cells slots Q (F0 m pc ls st0) := by
  have hF : ∀ q, va_A wc H.size q → A q := fun q h => by
    rcases h with ⟨k, e, hk⟩ | h
    · exact hD.2 (wr.length + k) (q, e) (by rw [List.getElem?_append_right (Nat.le_add_right _ _), Nat.add_sub_cancel_left]; exact hk)
    · exact hA q (Nat.le_trans hS.1 h)
  refine va_calli hr hS (fun q _ h => hF q h) hF (fun r u t H1 locs1 ht hvm hw1 hB1 hz1 hk1 hS1 => ?_)
  obtain ⟨w1, h1, hP1, hD1⟩ := hB1
  rw [ht] at hP1
  obtain ⟨hP2, hD2⟩ := j_join hP hD hk1 hF hP1 hD1
  subst hw1
  exact h w1 H1 locs1 h1 hP2 hD2 hS1
theorem j_r {W1 : Nat → va_W → Prop} (hr : va_Run p l e R s m args below meth c H locs cells slots mc ms (F0 m pc ls st0) rest (jQr g W1 (va_A wc H.size) a) (va_A wc H.size)) (hP : va_P (g.1, g.2.1) vwCl (wr ++ wc) H) (hD : va_D A (wr ++ wc)) (hS : va_S A s.heap H locs) (hA : ∀ q, s.heap.size ≤ q → A q)
    (h : ∀ (ra : Nat) (w1 : va_W) (H1 : Heap) (locs1 : List Loc), W1 ra w1 → va_P (g.1, g.2.1) vwCl (wr ++ w1) H1 → va_D A (wr ++ w1) → va_S A s.heap H1 locs1 → W p l e R s m args below meth c H1 locs1 (cells + mc) (slots + ms) Q (F0 m (pc + 3) ls (.ref ra :: rest))) : W p l e R s m args below meth c H locs cells slots Q (F0 m pc ls st0) := by
  have hF : ∀ q, va_A wc H.size q → A q := fun q h => by
    rcases h with ⟨k, e, hk⟩ | h
    · exact hD.2 (wr.length + k) (q, e) (by rw [List.getElem?_append_right (Nat.le_add_right _ _), Nat.add_sub_cancel_left]; exact hk)
    · exact hA q (Nat.le_trans hS.1 h)
  refine va_callr hr hS (fun q _ h => hF q h) hF (fun u ra t H1 locs1 ht hvm hw1 hB1 hz1 hk1 hS1 => ?_)
  obtain ⟨w1, h1, hP1, hD1⟩ := hB1
  rw [ht] at hP1
  obtain ⟨hP2, hD2⟩ := j_join hP hD hk1 hF hP1 hD1
  exact h ra w1 H1 locs1 h1 hP2 hD2 hS1
end JCA
theorem gj_in {l : List Cond} {y : MethodName} {b : ByteArray} {n : Nat} {r : Option FieldType} (h : ∀ w ∈ l ++ [Cond.code y b n r], w ∈ gb_J) : GoodIn gb_J (l ++ Cond.code y b n r :: gb_J) := by
  intro w hw
  rcases List.mem_append.mp hw with h1 | h1
  · exact gb_J_in w (h w (List.mem_append_left _ h1))
  · rcases List.mem_cons.mp h1 with rfl | h1
    · exact gb_J_in _ (h _ (List.mem_append_right _ List.mem_cons_self))
    · exact gb_J_in w h1
/-! the worlds: a StringBuilder, a String -/
abbrev sbW (g : gb_G) (h q cap n : Nat) (f : Nat → Int32) : va_W := [(h, .inr (11, [.ref q, .int 0, .int 0, .int (nI n)])), (q, .inl (g.2.2.2.2.1, cap, .inl f))]
abbrev stW (g : gb_G) (h q n : Nat) (f : Nat → Int32) : va_W := [(h, .inr (10, [.ref q, .int 0, .int 0, .int 0])), (q, .inl (g.2.2.2.2.1, n, .inl f))]
def jFit (f : Nat → Int32) : Prop := ∀ i, fits .byte (.int (f i)) = true
def jF (f : Nat → Int32) (T : List Nat) : Prop := jFit f ∧ ∀ i, i < T.length → f i = nI (T.getD i 0)
/-- the StringBuilder at h holds the text T -/
def jSb (g : gb_G) (h : Nat) (T : List Nat) (w1 : va_W) : Prop := ∃ (q cap : Nat) (f : Nat → Int32), w1 = sbW g h q cap T.length f ∧ jF f T ∧ T.length ≤ cap ∧ cap ≤ 502
theorem jFit_c {c : Nat} (h : c < 128) : fits .byte (.int (nI c)) = true := by
  have : ∀ c : Fin 128, fits .byte (.int (nI c.val)) = true := by decide +kernel
  exact this ⟨c, h⟩
theorem jnar {c : Nat} (h : c < 128) : (nI c).toInt8.toInt32 = nI c := by
  have : ∀ c : Fin 128, (nI c.val).toInt8.toInt32 = nI c.val := by decide +kernel
  exact this ⟨c, h⟩
theorem jFit_u {f : Nat → Int32} (h : jFit f) {k c : Nat} (hc : c < 128) : jFit (upd f k (nI c)) := fun i => by
  unfold upd; split
  · exact jFit_c hc
  · exact h i
theorem jF_up {f : Nat → Int32} {T : List Nat} (h : jF f T) {c : Nat} (hc : c < 128) : jF (upd f T.length (nI c)) (T ++ [c]) := by
  refine ⟨jFit_u h.1 hc, fun i hi => ?_⟩
  rw [List.length_append] at hi
  unfold upd
  by_cases c1 : i = T.length
  · subst c1; rw [if_pos rfl]; simp [List.getD_eq_getElem?_getD]
  · have c2 : i < T.length := by simp at hi; omega
    rw [if_neg c1, List.getD_eq_getElem?_getD, List.getElem?_append_left c2, ← List.getD_eq_getElem?_getD]; exact h.2 i c2
theorem j_shl (x : Int32) : x <<< ((0 : Int32) &&& 31) = x := by
  rw [show ((0 : Int32) &&& 31) = 0 from by decide]
  exact Int32.shiftLeft_zero
theorem j_shr (x : Int32) : x >>> ((0 : Int32) &&& 31) = x := by
  rw [show ((0 : Int32) &&& 31) = 0 from by decide]
  exact Int32.shiftRight_zero
theorem j_cat {s : State} {g : gb_G} (hK : va_K (g.1, g.2.1) vwCl (gb_T g) s) : ClassAt s RJ4 (g.1 11) := (hK.1 11 _ rfl).2
theorem jmax {a b : Nat} (ha : a < 2 ^ 31) (hb : b < 2 ^ 31) : (if nI a < nI b then nI b else nI a) = nI (max a b) := by
  by_cases h : a < b
  · rw [if_pos ((nI_ltI ha hb).mpr h)]; exact congrArg nI (by omega)
  · rw [if_neg (fun z => h ((nI_ltI ha hb).mp z))]; exact congrArg nI (by omega)
theorem jmin {a b : Nat} (ha : a < 2 ^ 31) (hb : b < 2 ^ 31) (h : a ≤ b) : (if nI b < nI a then nI b else nI a) = nI a := if_neg (fun z => by have := (nI_ltI hb ha).mp z; omega)
theorem j_cl {a : Nat} (h : a < 2 ^ 31) : (nI a).toNatClampNeg = a := nI_clamp h
theorem va_cpy_0 {f : Nat → Int32} {n i : Nat} (h : i < n) : va_cpy f (fun _ => 0) 0 0 n i = f i := by
  unfold va_cpy; rw [if_pos ⟨Nat.zero_le _, by omega⟩]; exact congrArg f (by omega)
theorem jFit_0 : fits .byte (.int 0) = true := by decide
theorem jFit_cpy {f k : Nat → Int32} (h : jFit f) (h2 : jFit k) (a b n : Nat) : jFit (va_cpy f k a b n) := fun i => by
  unfold va_cpy; split
  · exact h _
  · exact h2 i
theorem jF_of {f f' : Nat → Int32} {T : List Nat} (h : jF f T) (h1 : jFit f') (h2 : ∀ i, i < T.length → f' i = f i) : jF f' T := ⟨h1, fun i hi => (h2 i hi).trans (h.2 i hi)⟩
theorem jsub_le {a b : Nat} (h : a ≤ b) (hb : b < 2 ^ 30) : nI a - nI b ≤ 0 := by
  rw [Int32.le_iff_toInt_le, pk_sub_toInt (by omega) hb]
  show (a : Int) - b ≤ 0
  omega
