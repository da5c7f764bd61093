/-! CONSTRUCTORS that call constructors: what all of them need -/
theorem nd_of : ∀ l : List Nat, l.Nodup → va_nd l = true
  | [], _ => rfl
  | a :: t, h => by
    have h1 := List.nodup_cons.mp h
    unfold va_nd
    rw [nd_of t h1.2, decide_eq_true h1.1]
    rfl
theorem map_rg (ws : va_W) (x : Nat × va_E) : (List.range ws.length).map (fun i => (ws ++ [x])[i]?) = ws.map some := by
  apply List.ext_getElem?
  intro i
  rw [List.getElem?_map, List.getElem?_map]
  by_cases h : i < ws.length
  · rw [List.getElem?_range h, List.getElem?_eq_getElem h]
    show some ((ws ++ [x])[i]?) = some (some _)
    rw [List.getElem?_append_left h, List.getElem?_eq_getElem h]
  · rw [List.getElem?_eq_none (by rw [List.length_range]; omega), List.getElem?_eq_none (by omega)]
    rfl
theorem get_last (ws : va_W) (x : Nat × va_E) : (ws ++ [x])[ws.length]? = some x := by
  rw [List.getElem?_append_right (Nat.le_refl _), Nat.sub_self]
  rfl
theorem P_last {D : va_G} {ws : va_W} {x : Nat × va_E} {H : Heap} (hP : va_P D vwCl (ws ++ [x]) H) : va_P D vwCl [x] H := hP.sub [ws.length] (by rw [List.filterMap_cons, get_last]; rfl)
theorem D_last {A : Nat → Prop} {ws : va_W} {x : Nat × va_E} (hD : va_D A (ws ++ [x])) : va_D A [x] := hD.sub [ws.length] (by simp [va_nd]) (by rw [List.map_cons, get_last]; rfl)
theorem joinL {A0 : Nat → Prop} {D : va_G} {ws w1 : va_W} {x : Nat × va_E} {H H1 : Heap} (hP : va_P D vwCl (ws ++ [x]) H) (hD : va_D A0 (ws ++ [x])) (hk : ∀ q : Nat, q < H.size → ¬ va_A [x] H.size q → H1[q]? = H[q]?) (hF : ∀ q, va_A [x] H.size q → A0 q) (hP1 : va_P D vwCl w1 H1) (hD1 : va_D (va_A [x] H.size) w1) : va_P D vwCl (ws ++ w1) H1 ∧ va_D A0 (ws ++ w1) :=
  va_join hP hD [ws.length] (List.range ws.length) (by rw [List.map_cons, get_last]; rfl) (map_rg ws x) (nd_of _ List.nodup_range) (fun i hi h => by
    have h1 := List.mem_range.mp hi
    have h2 := List.mem_singleton.mp h
    omega) hk hF hP1 hD1
section CTC
variable {p : Program} {l : Launch} {e : Env} {R : Room} {s : State} {m : MethodId} {args : Array Value} {below : List Frame} {meth : Method} {c : Code} {cells slots nL : Nat} {Q : State → Prop} {own : String} {cc : ByteArray}
theorem lw_ctor (hx : p.tables.exec = Jvm.exec) (hb : c.code = cc) (hml : c.maxLocals = nL) (hown : s.vm.findClass own = some m.cls) (hts : ∀ w ∈ gb_B, w.before args s = true) {A : Nat → Prop} (hA : ∀ q, s.heap.size ≤ q → A q)
    {D : va_G} {ws : va_W} {q : Nat} {x : va_E} {H : Heap} {locs : List Loc} (hP : va_P D vwCl (ws ++ [(q, x)]) H) (hD : va_D A (ws ++ [(q, x)])) (hS : va_S A s.heap H locs)
    {y : MethodName} {bytes : ByteArray} {cL idx mc ms nA pc : Nat} {rm : Room} {Pc : Array Value → State → Prop} {S : Type} {post : S → Prop} {B : S → State → Prop}
    (hM : Met l y (.code y bytes cL none :: gb_B) rm Pc (va_Qv post B (va_A [(q, x)] H.size)) mc ms (va_A [(q, x)] H.size))
    (hw : ∀ w ∈ ([.methodLink own idx y, .instanceMethod y, .initialized y.cls, .code y bytes cL none] : List Cond), w ∈ gb_B)
    (hy : y.name = "<init>" ∧ y.cls ≠ "java/lang/invoke/MethodHandle" ∧ y.cls ≠ "java/lang/invoke/VarHandle" ∧ (parseMethodDescriptor y.desc).map (fun d => d.parameters.length) = some nA) (hrm : rm.cells = mc ∧ rm.slots = ms) (hR : rm.frames + 1 ≤ R.frames ∧ 8 + (cL + 11) + rm.locals ≤ R.locals) (hcs : cells + mc ≤ R.cells ∧ slots + ms ≤ R.slots)
    {As rest : List Value} (hpre : PreS s H Pc (.ref q :: As)) (hlen : As.length = nA) {arr : Array Slot} (harr : arr.size = nL) (hrest : (rest.map fun v => v.category).sum ≤ 8) (d : decode cc pc = .ok (.invokespecial idx, 3))
    {W1 : va_W → Prop} (hB : ∀ u t, post u → B u t → ∃ w1, W1 w1 ∧ va_P D vwCl w1 t.heap ∧ va_D (va_A [(q, x)] H.size) w1) {st : List Value} (hst : st = As.reverse ++ .ref q :: rest)
    (h : ∀ (w1 : va_W) (H1 : Heap) (locs1 : List Loc), W1 w1 → va_P D vwCl (ws ++ w1) H1 → va_D A (ws ++ w1) → va_S A s.heap H1 locs1 → W p l e R s m args below meth c H1 locs1 (cells + mc) (slots + ms) Q (F0 m (pc + 3) arr rest)) : W p l e R s m args below meth c H locs cells slots Q (F0 m pc arr st) := by
  have hG : GoodIn gb_B (.code y bytes cL none :: gb_B) := by
    intro w h1
    rcases List.mem_cons.mp h1 with rfl | h1
    · exact gb_B_in _ (hw _ (List.mem_of_getElem? (i := 3) rfl))
    · exact gb_B_in w h1
  have hFc := va_free (wc := [(q, x)]) hD hS hA [ws.length] (by rw [List.map_cons, get_last]; rfl)
  subst hst
  have hr : va_Run p l e R s m args below meth c H locs cells slots mc ms (F0 m pc arr (As.reverse ++ .ref q :: rest)) rest (va_Qv post B (va_A [(q, x)] H.size) (Value.ref q :: As).toArray) (va_A [(q, x)] H.size) :=
    va_runI (As := As) (rest := rest) ⟨hx, hb, hml, hown, hts⟩ hM (cwI nA hts hG rfl hrm.1 hrm.2 (hts _ (hw _ (List.mem_of_getElem? (i := 2) rfl))) (hts _ (hw _ (List.mem_of_getElem? (i := 0) rfl))) (hts _ (hw _ (List.mem_of_getElem? (i := 1) rfl))) hy.1 hy.2 hR) hpre rfl hlen harr rfl (lv_room hrest) d hcs
  refine va_callv hr hS (fun q _ h => hFc q h) hFc (fun u t H1 locs1 ht hvm hw1 hB1 hz1 hk1 hS1 => ?_)
  obtain ⟨w1, h1, hP1, hD1⟩ := hB u t hw1 hB1
  rw [ht] at hP1
  obtain ⟨hP2, hD2⟩ := joinL hP hD hk1 hFc hP1 hD1
  exact h w1 H1 locs1 h1 hP2 hD2 hS1
theorem pre_std {g : gb_G} {A : Nat → Prop} {ws : va_W} {x : Nat × va_E} {H : Heap} {av : List Value} (hK : va_K (g.1, g.2.1) vwCl (gb_T g) s) (hP : va_P (g.1, g.2.1) vwCl (ws ++ [x]) H) (hD : va_D A (ws ++ [x])) : PreS s H (va_Pc av (fun U => U.heap.size = H.size ∧ va_P (g.1, g.2.1) vwCl [x] U.heap ∧ va_K (g.1, g.2.1) vwCl (gb_T g) U ∧ va_D (fun _ => True) [x])) av :=
  ⟨fun a U g' mk z => by obtain ⟨q0, q1, qP, qK, qD⟩ := z; exact ⟨q0, q1, qP, va_K.moved (u := U) (U := U.calling g' mk a) (Vm.Alike.refl U.vm) qK, qD⟩, fun U hU hW => ⟨rfl, by rw [hU], by rw [hU]; exact P_last hP, va_K.moved hW.alike hK, (D_last hD).weaken (fun _ _ _ _ => trivial)⟩⟩
theorem pre_ao {g : gb_G} {A : Nat → Prop} {ws : va_W} {x : Nat × va_E} {H : Heap} {av : List Value} {C : String} (ho : va_AO C s) (hK : va_K (g.1, g.2.1) vwCl (gb_T g) s) (hP : va_P (g.1, g.2.1) vwCl (ws ++ [x]) H) (hD : va_D A (ws ++ [x])) : PreS s H (va_Pc av (fun U => U.heap.size = H.size ∧ va_P (g.1, g.2.1) vwCl [x] U.heap ∧ va_K (g.1, g.2.1) vwCl (gb_T g) U ∧ va_D (fun _ => True) [x] ∧ va_AO C U)) av :=
  ⟨fun a U g' mk z => by obtain ⟨q0, q1, qP, qK, qD, qo⟩ := z; exact ⟨q0, q1, qP, va_K.moved (u := U) (U := U.calling g' mk a) (Vm.Alike.refl U.vm) qK, qD, va_AO.moved (u := U) (U := U.calling g' mk a) (Vm.Alike.refl U.vm) qo⟩, fun U hU hW => ⟨rfl, by rw [hU], by rw [hU]; exact P_last hP, va_K.moved hW.alike hK, (D_last hD).weaken (fun _ _ _ _ => trivial), va_AO.moved hW.alike ho⟩⟩
end CTC
/-! what each kind of object is behind its constructor; a tells the addresses -/
abbrev gb_w8 (g : gb_G) (a : Nat → Nat) : va_W := [(a 0, .inr (8, [.ref (a 1), .int 0, .int 0])), (a 1, .inl (g.2.2.2.1, 200, .inl (fun _ => 0)))]
abbrev gb_w4 (g : gb_G) (a : Nat → Nat) : va_W := [(a 0, .inr (4, [.ref (a 1), .int 0])), (a 1, .inl (g.2.2.2.2.2.1, 8, .inr (.inl (fun _ => 0))))]
abbrev gb_w2 (g : gb_G) (a : Nat → Nat) : va_W := [(a 0, .inr (2, [.ref (a 1), .ref (a 2), .ref (a 3), .int 0])), (a 1, .inl (g.2.2.2.1, 6, .inl (fun _ => 0))), (a 2, .inl (g.2.2.2.1, 6, .inl (fun _ => 0))), (a 3, .inl (g.2.2.2.1, 6, .inl (fun _ => 0)))]
abbrev gb_w6 (g : gb_G) (a : Nat → Nat) : va_W := [(a 0, .inr (6, [.ref (a 1), .int 0])), (a 1, .inl (g.2.2.2.1, 200, .inl (fun _ => 0)))]
abbrev gb_w7 (g : gb_G) (r : Nat) (a : Nat → Nat) : va_W := [(a 0, .inr (7, [.ref r, .ref (a 1), .ref (a 2), .ref (a 3), .ref (a 4), .ref (a 5), .ref (a 6), .ref (a 7), .ref (a 8), .int 0, .int 0])), (a 1, .inl (g.2.2.2.1, 6, .inl (fun _ => 0))), (a 2, .inl (g.2.2.2.1, 6, .inl (fun _ => 0))), (a 3, .inl (g.2.2.2.1, 6, .inl (fun _ => 0))), (a 4, .inl (g.2.2.2.1, 6, .inl (fun _ => 0))), (a 5, .inl (g.2.2.2.1, 36, .inl (fun _ => 0))), (a 6, .inl (g.2.2.2.1, 36, .inl (fun _ => 0))), (a 7, .inl (g.2.2.2.1, 36, .inl (fun _ => 0))), (a 8, .inl (g.2.2.2.1, 36, .inl (fun _ => 0)))]
abbrev gb_w0 (g : gb_G) (r o : Nat) (a : Nat → Nat) : va_W := [(a 0, .inr (0, [.ref r, .ref o, .ref (a 1), .ref (a 2), .ref (a 3), .int 0])), (a 1, .inl (g.2.2.2.1, 6, .inl (fun _ => 0))), (a 2, .inl (g.2.2.2.1, 6, .inl (fun _ => 0))), (a 3, .inl (g.2.2.2.1, 6, .inl (fun _ => 0)))]
def gb_f5 : Nat → Int32 := upd (upd (upd (upd (upd (upd (fun _ => 0) (0 : Int32).toNatClampNeg 99) (1 : Int32).toNatClampNeg 99) (2 : Int32).toNatClampNeg 99) (3 : Int32).toNatClampNeg 99) (4 : Int32).toNatClampNeg 99) (5 : Int32).toNatClampNeg 99
theorem gb_f5_99 : ∀ i, i < 6 → gb_f5 i = 99 := by decide +kernel
abbrev gb_w5 (g : gb_G) (a : Nat → Nat) : va_W := [(a 0, .inr (5, [.ref (a 1), .ref (a 2), .ref (a 3), .ref (a 4), .ref (a 5), .ref (a 6), .int 0, .int 0])), (a 1, .inl (g.2.2.2.1, 6, .inl (fun _ => 0))), (a 2, .inl (g.2.2.2.1, 6, .inl gb_f5)), (a 3, .inl (g.2.2.2.1, 6, .inl (fun _ => 0))), (a 4, .inl (g.2.2.2.1, 36, .inl (fun _ => 0))), (a 5, .inl (g.2.2.2.1, 6, .inl (fun _ => 0))), (a 6, .inl (g.2.2.2.1, 6, .inl (fun _ => 0)))]
/-- eight Stores, one behind the other -/
abbrev gb_w78 (g : gb_G) (r : Nat) (b : Nat → Nat → Nat) : va_W := ((((((((([] : va_W) ++ gb_w7 g r (b 0)) ++ gb_w7 g r (b 1)) ++ gb_w7 g r (b 2)) ++ gb_w7 g r (b 3)) ++ gb_w7 g r (b 4)) ++ gb_w7 g r (b 5)) ++ gb_w7 g r (b 6)) ++ gb_w7 g r (b 7))
abbrev gb_aq8 (g : gb_G) (q : Nat) (f : Nat → Option Nat) : Nat × va_E := (q, .inl (g.2.2.2.2.2.2, 8, .inr (.inr (.inr (.inr f)))))
abbrev gb_w3 (g : gb_G) (r : Nat) (a : Nat → Nat) (b : Nat → Nat → Nat) : va_W := (a 0, .inr (3, [.ref (a 1), .int 0, .int 0])) :: gb_aq8 g (a 1) (fun i => some (b i 0)) :: gb_w78 g r b
abbrev gb_w1 (g : gb_G) (r o : Nat) (a t : Nat → Nat) : va_W := (a 0, .inr (1, [.ref (t 0), .ref o, .ref (a 1), .ref (a 2), .int 0, .int 0, .int 0])) :: (((([] : va_W) ++ [(a 1, .inl (g.2.2.2.1, 6, .inl (fun _ => 0)))]) ++ [(a 2, .inl (g.2.2.2.1, 6, .inl (fun _ => 0)))]) ++ gb_w7 g r t)
theorem arrV_cg {cA : ClassId} {n : Nat} {z z' : Nat → Value} (h : ∀ i, i < n → z i = z' i) : arrV cA n z = arrV cA n z' := by
  unfold arrV
  have e : (fun j : Fin n => z j.val) = (fun j : Fin n => z' j.val) := funext fun j => h _ j.isLt
  rw [e]
theorem P_arr {D : va_G} {g : gb_G} {x : Nat × va_E} {q : Nat} {f f' : Nat → Option Nat} {ws : va_W} {H : Heap} (h : va_P D vwCl (x :: gb_aq8 g q f :: ws) H) (hf : ∀ i, i < 8 → f i = f' i) : va_P D vwCl (x :: gb_aq8 g q f' :: ws) H := by
  intro k y hk
  rcases k with _ | _ | k
  · exact h 0 y hk
  · cases hk
    have h1 : H[q]? = some (vp_cell _ _) := h 1 _ rfl
    show H[q]? = some (vp_cell _ _)
    rw [h1, vp_cell_q, vp_cell_q]
    exact congrArg some (arrV_cg fun i hi => by rw [hf i hi])
  · exact h (k + 2) y hk
theorem D_arr {A : Nat → Prop} {g : gb_G} {x : Nat × va_E} {q : Nat} {f f' : Nat → Option Nat} {ws : va_W} (h : va_D A (x :: gb_aq8 g q f :: ws)) : va_D A (x :: gb_aq8 g q f' :: ws) := h.set (p := 1) (e := (gb_aq8 g q f').2) rfl
/-- each constructor's end, as one list of addresses -/
theorem o_w8 {g : gb_G} {D : va_G} {A : Nat → Prop} {h0 : Nat} {H : Heap} {K : Prop} (h : ∃ q0 : Nat, va_P D vwCl [(h0, .inr (8, [.ref q0, .int 0, .int 0])), (q0, .inl (g.2.2.2.1, 200, .inl (fun _ => 0)))] H ∧ K ∧ va_D A [(h0, .inr (8, [.ref q0, .int 0, .int 0])), (q0, .inl (g.2.2.2.1, 200, .inl (fun _ => 0)))]) : ∃ w1, (∃ a : Nat → Nat, a 0 = h0 ∧ w1 = gb_w8 g a) ∧ va_P D vwCl w1 H ∧ va_D A w1 := by
  obtain ⟨q0, h1, -, h2⟩ := h
  exact ⟨gb_w8 g (fun i => ([h0, q0] : List Nat).getD i 0), ⟨_, rfl, rfl⟩, h1, h2⟩
theorem o_w4 {g : gb_G} {D : va_G} {A : Nat → Prop} {h0 : Nat} {H : Heap} {K : Prop} (h : ∃ q0 : Nat, va_P D vwCl [(h0, .inr (4, [.ref q0, .int 0])), (q0, .inl (g.2.2.2.2.2.1, 8, .inr (.inl (fun _ => 0))))] H ∧ K ∧ va_D A [(h0, .inr (4, [.ref q0, .int 0])), (q0, .inl (g.2.2.2.2.2.1, 8, .inr (.inl (fun _ => 0))))]) : ∃ w1, (∃ a : Nat → Nat, a 0 = h0 ∧ w1 = gb_w4 g a) ∧ va_P D vwCl w1 H ∧ va_D A w1 := by
  obtain ⟨q0, h1, -, h2⟩ := h
  exact ⟨gb_w4 g (fun i => ([h0, q0] : List Nat).getD i 0), ⟨_, rfl, rfl⟩, h1, h2⟩
theorem o_w2 {g : gb_G} {D : va_G} {A : Nat → Prop} {h0 : Nat} {H : Heap} {K : Prop} (h : ∃ q0 q1 q2 : Nat, va_P D vwCl [(h0, .inr (2, [.ref q0, .ref q1, .ref q2, .int 0])), (q0, .inl (g.2.2.2.1, 6, .inl (fun _ => 0))), (q1, .inl (g.2.2.2.1, 6, .inl (fun _ => 0))), (q2, .inl (g.2.2.2.1, 6, .inl (fun _ => 0)))] H ∧ K ∧ va_D A [(h0, .inr (2, [.ref q0, .ref q1, .ref q2, .int 0])), (q0, .inl (g.2.2.2.1, 6, .inl (fun _ => 0))), (q1, .inl (g.2.2.2.1, 6, .inl (fun _ => 0))), (q2, .inl (g.2.2.2.1, 6, .inl (fun _ => 0)))]) : ∃ w1, (∃ a : Nat → Nat, a 0 = h0 ∧ w1 = gb_w2 g a) ∧ va_P D vwCl w1 H ∧ va_D A w1 := by
  obtain ⟨q0, q1, q2, h1, -, h2⟩ := h
  exact ⟨gb_w2 g (fun i => ([h0, q0, q1, q2] : List Nat).getD i 0), ⟨_, rfl, rfl⟩, h1, h2⟩
theorem o_w6 {g : gb_G} {D : va_G} {A : Nat → Prop} {h0 : Nat} {H : Heap} {K : Prop} (h : ∃ q0 : Nat, va_P D vwCl [(h0, .inr (6, [.ref q0, .int 0])), (q0, .inl (g.2.2.2.1, 200, .inl (fun _ => 0)))] H ∧ K ∧ va_D A [(h0, .inr (6, [.ref q0, .int 0])), (q0, .inl (g.2.2.2.1, 200, .inl (fun _ => 0)))]) : ∃ w1, (∃ a : Nat → Nat, a 0 = h0 ∧ w1 = gb_w6 g a) ∧ va_P D vwCl w1 H ∧ va_D A w1 := by
  obtain ⟨q0, h1, -, h2⟩ := h
  exact ⟨gb_w6 g (fun i => ([h0, q0] : List Nat).getD i 0), ⟨_, rfl, rfl⟩, h1, h2⟩
theorem o_w7 {g : gb_G} {D : va_G} {A : Nat → Prop} {h0 : Nat} {r : Nat} {H : Heap} {K : Prop} (h : ∃ q0 q1 q2 q3 q4 q5 q6 q7 : Nat, va_P D vwCl [(h0, .inr (7, [.ref r, .ref q0, .ref q1, .ref q2, .ref q3, .ref q4, .ref q5, .ref q6, .ref q7, .int 0, .int 0])), (q0, .inl (g.2.2.2.1, 6, .inl (fun _ => 0))), (q1, .inl (g.2.2.2.1, 6, .inl (fun _ => 0))), (q2, .inl (g.2.2.2.1, 6, .inl (fun _ => 0))), (q3, .inl (g.2.2.2.1, 6, .inl (fun _ => 0))), (q4, .inl (g.2.2.2.1, 36, .inl (fun _ => 0))), (q5, .inl (g.2.2.2.1, 36, .inl (fun _ => 0))), (q6, .inl (g.2.2.2.1, 36, .inl (fun _ => 0))), (q7, .inl (g.2.2.2.1, 36, .inl (fun _ => 0)))] H ∧ K ∧ va_D A [(h0, .inr (7, [.ref r, .ref q0, .ref q1, .ref q2, .ref q3, .ref q4, .ref q5, .ref q6, .ref q7, .int 0, .int 0])), (q0, .inl (g.2.2.2.1, 6, .inl (fun _ => 0))), (q1, .inl (g.2.2.2.1, 6, .inl (fun _ => 0))), (q2, .inl (g.2.2.2.1, 6, .inl (fun _ => 0))), (q3, .inl (g.2.2.2.1, 6, .inl (fun _ => 0))), (q4, .inl (g.2.2.2.1, 36, .inl (fun _ => 0))), (q5, .inl (g.2.2.2.1, 36, .inl (fun _ => 0))), (q6, .inl (g.2.2.2.1, 36, .inl (fun _ => 0))), (q7, .inl (g.2.2.2.1, 36, .inl (fun _ => 0)))]) : ∃ w1, (∃ a : Nat → Nat, a 0 = h0 ∧ w1 = gb_w7 g r a) ∧ va_P D vwCl w1 H ∧ va_D A w1 := by
  obtain ⟨q0, q1, q2, q3, q4, q5, q6, q7, h1, -, h2⟩ := h
  exact ⟨gb_w7 g r (fun i => ([h0, q0, q1, q2, q3, q4, q5, q6, q7] : List Nat).getD i 0), ⟨_, rfl, rfl⟩, h1, h2⟩
theorem o_w0 {g : gb_G} {D : va_G} {A : Nat → Prop} {h0 : Nat} {r o : Nat} {H : Heap} {K : Prop} (h : ∃ q0 q1 q2 : Nat, va_P D vwCl [(h0, .inr (0, [.ref r, .ref o, .ref q0, .ref q1, .ref q2, .int 0])), (q0, .inl (g.2.2.2.1, 6, .inl (fun _ => 0))), (q1, .inl (g.2.2.2.1, 6, .inl (fun _ => 0))), (q2, .inl (g.2.2.2.1, 6, .inl (fun _ => 0)))] H ∧ K ∧ va_D A [(h0, .inr (0, [.ref r, .ref o, .ref q0, .ref q1, .ref q2, .int 0])), (q0, .inl (g.2.2.2.1, 6, .inl (fun _ => 0))), (q1, .inl (g.2.2.2.1, 6, .inl (fun _ => 0))), (q2, .inl (g.2.2.2.1, 6, .inl (fun _ => 0)))]) : ∃ w1, (∃ a : Nat → Nat, a 0 = h0 ∧ w1 = gb_w0 g r o a) ∧ va_P D vwCl w1 H ∧ va_D A w1 := by
  obtain ⟨q0, q1, q2, h1, -, h2⟩ := h
  exact ⟨gb_w0 g r o (fun i => ([h0, q0, q1, q2] : List Nat).getD i 0), ⟨_, rfl, rfl⟩, h1, h2⟩
theorem o_w5 {g : gb_G} {D : va_G} {A : Nat → Prop} {h0 : Nat} {H : Heap} {K : Prop} (h : ∃ q0 q1 q2 q3 q4 q5 : Nat, va_P D vwCl [(h0, .inr (5, [.ref q0, .ref q1, .ref q2, .ref q3, .ref q4, .ref q5, .int 0, .int 0])), (q0, .inl (g.2.2.2.1, 6, .inl (fun _ => 0))), (q1, .inl (g.2.2.2.1, 6, .inl (upd (upd (upd (upd (upd (upd (fun _ => 0) (0 : Int32).toNatClampNeg 99) (1 : Int32).toNatClampNeg 99) (2 : Int32).toNatClampNeg 99) (3 : Int32).toNatClampNeg 99) (4 : Int32).toNatClampNeg 99) (5 : Int32).toNatClampNeg 99))), (q2, .inl (g.2.2.2.1, 6, .inl (fun _ => 0))), (q3, .inl (g.2.2.2.1, 36, .inl (fun _ => 0))), (q4, .inl (g.2.2.2.1, 6, .inl (fun _ => 0))), (q5, .inl (g.2.2.2.1, 6, .inl (fun _ => 0)))] H ∧ K ∧ va_D A [(h0, .inr (5, [.ref q0, .ref q1, .ref q2, .ref q3, .ref q4, .ref q5, .int 0, .int 0])), (q0, .inl (g.2.2.2.1, 6, .inl (fun _ => 0))), (q1, .inl (g.2.2.2.1, 6, .inl (upd (upd (upd (upd (upd (upd (fun _ => 0) (0 : Int32).toNatClampNeg 99) (1 : Int32).toNatClampNeg 99) (2 : Int32).toNatClampNeg 99) (3 : Int32).toNatClampNeg 99) (4 : Int32).toNatClampNeg 99) (5 : Int32).toNatClampNeg 99))), (q2, .inl (g.2.2.2.1, 6, .inl (fun _ => 0))), (q3, .inl (g.2.2.2.1, 36, .inl (fun _ => 0))), (q4, .inl (g.2.2.2.1, 6, .inl (fun _ => 0))), (q5, .inl (g.2.2.2.1, 6, .inl (fun _ => 0)))]) : ∃ w1, (∃ a : Nat → Nat, a 0 = h0 ∧ w1 = gb_w5 g a) ∧ va_P D vwCl w1 H ∧ va_D A w1 := by
  obtain ⟨q0, q1, q2, q3, q4, q5, h1, -, h2⟩ := h
  exact ⟨gb_w5 g (fun i => ([h0, q0, q1, q2, q3, q4, q5] : List Nat).getD i 0), ⟨_, rfl, rfl⟩, h1, h2⟩
