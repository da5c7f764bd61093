/-! MEM: fields, arrays, calls -/
def gb_okb (r : Nat × Nat) : Bool := Nat.blt r.1 gb_kinds.length && Nat.blt r.2 (gb_cnt r.1)
theorem gb_okb_s {r : Nat × Nat} (h : gb_okb r = true) : gb_ok (.inr (.inr r)) := by
  unfold gb_okb at h
  rw [Bool.and_eq_true] at h
  exact ⟨Nat.le_of_ble_eq_true h.1, Nat.le_of_ble_eq_true h.2⟩
def gb_cl1 (q : Nat × Nat) : Bool := match gb_kd q.1 with
  | .inl o => o.2.all (fun f => match f with
    | some (some r) => gb_okb (r.1, r.2 q.2)
    | _ => true)
  | .inr a => match Nat.beq a.1 3 with
    | true => (List.range a.2.1).all (fun i => gb_okb (a.2.2 q.2 i))
    | false => true
theorem gb_cl : gb_pl.all gb_cl1 = true := by decide +kernel
theorem gb_cl_f {k j ci : Nat} {fs : List gb_Fs} {i : Nat} {r : Nat × (Nat → Nat)} (h : gb_ok (.inr (.inr (k, j)))) (hk : gb_kd k = .inl (ci, fs)) (hi : fs[i]? = some (some (some r))) : gb_ok (.inr (.inr (r.1, r.2 j))) := by
  have h1 := List.all_eq_true.mp gb_cl (k, j) (gb_pl_mem h)
  unfold gb_cl1 at h1
  rw [show gb_kd (k, j).1 = .inl (ci, fs) from hk] at h1
  exact gb_okb_s (List.all_eq_true.mp h1 _ (List.mem_of_getElem? hi))
theorem gb_cl_a {k j n i : Nat} {φ : Nat → Nat → Nat × Nat} (h : gb_ok (.inr (.inr (k, j)))) (hk : gb_kd k = .inr (3, n, φ)) (hi : i < n) : gb_ok (.inr (.inr (φ j i))) := by
  have h1 := List.all_eq_true.mp gb_cl (k, j) (gb_pl_mem h)
  unfold gb_cl1 at h1
  rw [show gb_kd (k, j).1 = .inr (3, n, φ) from hk] at h1
  exact gb_okb_s (List.all_eq_true.mp h1 _ (List.mem_range.mpr hi))
theorem gb_in_lt {i : Int32} {n : Nat} (h : gb_in i n = true) : i.toNatClampNeg < n := Nat.not_le.mp fun q => gb_in_s h (Or.inr q)
def gb_ct (v : gb_V) : Nat := match v with
  | .inr (.inl _) => 2
  | _ => 1
def gb_cs (st : List gb_V) : Nat := match st with
  | [] => 0
  | v :: t => gb_ct v + gb_cs t
theorem gb_cs_s (g : gb_G) : ∀ st : List gb_V, ((st.map (gb_v g)).map (fun v => v.category)).sum = gb_cs st
  | [] => rfl
  | v :: t => by
    rw [List.map_cons, List.map_cons, List.sum_cons, gb_cs_s g t]
    rcases v with x | x | x <;> rfl
def gb_tk (n : Nat) (st acc : List gb_V) (f : List gb_V → List gb_V → gb_R) : gb_R := match n, st with
  | 0, st => f acc st
  | n + 1, v :: t => gb_tk n t (v :: acc) f
  | _ + 1, [] => none
theorem gb_tk_s {f : List gb_V → List gb_V → gb_R} {out} : ∀ {n : Nat} {st acc : List gb_V}, gb_tk n st acc f = some out → ∃ as t, st = as.reverse ++ t ∧ as.length = n ∧ f (as ++ acc) t = some out
  | 0, st, acc, h => ⟨[], st, rfl, rfl, h⟩
  | n + 1, [], acc, h => gb_no h
  | n + 1, v :: t, acc, h => by
    obtain ⟨as, t', h1, h2, h3⟩ := gb_tk_s (n := n) (st := t) (acc := v :: acc) h
    refine ⟨as ++ [v], t', ?_, ?_, ?_⟩
    · rw [List.reverse_append, h1]; rfl
    · rw [List.length_append, h2]; rfl
    · rw [List.append_assoc]; exact h3
theorem oq_tk {E : gb_C → List gb_V → List gb_V → gb_R} (h : ∀ x t, gb_O1 (fun n => E n x t)) : ∀ (k : Nat) (st acc : List gb_V), gb_O1 (fun n => gb_tk k st acc (E n))
  | 0, st, acc => h acc st
  | k + 1, [], acc => oq_0
  | k + 1, v :: t, acc => oq_tk h k t (v :: acc)
def gb_fsel (fs : List gb_Fs) (k : Nat) (fi fl : gb_R) (fr : Nat × (Nat → Nat) → gb_R) : gb_R := match fs[k]? with
  | some none => fi
  | some (some none) => fl
  | some (some (some q)) => fr q
  | none => none
def o_gf (ci k : Nat) (n : gb_C) : gb_C := fun lv st σ => gb_pR st fun r t => gb_ob r.1 ci fun fs => gb_fsel fs k (n lv (.inl (σ.1 r.1 r.2 k) :: t) σ) (n lv (.inr (.inl (σ.2 r.1 r.2 k)) :: t) σ) (fun q => n lv (.inr (.inr (q.1, q.2 r.2)) :: t) σ)
theorem q_gf (ci k : Nat) : gb_Op (o_gf ci k) := fun lv st σ => oq_pR fun r t => oq_ob fun fs => by
  unfold gb_fsel
  cases fs[k]? with
  | none => exact oq_0
  | some f => rcases f with _ | _ | q <;> exact oq_k
def gb_rb (v : Option gb_V) (rk : Nat) (t : List gb_V) (f : List gb_V → gb_R) : gb_R := match rk, v with
  | 0, none => f t
  | 1, some (.inl x) => f (.inl x :: t)
  | 2, some (.inl x) => f (.inl x :: t)
  | 3, some (.inr (.inl x)) => f (.inr (.inl x) :: t)
  | _, _ => none
def gb_b0 (r : gb_R) (f : gb_M → gb_R) : gb_R := match r with
  | some (none, σ) => f σ
  | _ => none
def gb_b1 (r : gb_R) (f : Int32 → gb_M → gb_R) : gb_R := match r with
  | some (some (.inl x), σ) => f x σ
  | _ => none
def gb_b3 (r : gb_R) (f : Int64 → gb_M → gb_R) : gb_R := match r with
  | some (some (.inr (.inl x)), σ) => f x σ
  | _ => none
def gb_cb (rk : Nat) (r : gb_R) (t : List gb_V) (f : List gb_V → gb_M → gb_R) : gb_R := match rk with
  | 0 => gb_b0 r (fun σ => f t σ)
  | 1 => gb_b1 r (fun x σ => f (.inl x :: t) σ)
  | 2 => gb_b1 r (fun x σ => f (.inl x :: t) σ)
  | 3 => gb_b3 r (fun x σ => f (.inr (.inl x) :: t) σ)
  | _ => none
theorem gb_cb_s {rk : Nat} {r : gb_R} {t : List gb_V} {f : List gb_V → gb_M → gb_R} {out} (h : gb_cb rk r t f = some out) : ∃ o, r = some o ∧ gb_rb o.1 rk t (fun t => f t o.2) = some out := by
  unfold gb_cb at h
  split at h
  · rcases r with _ | ⟨_ | x | x | x, σ⟩ <;> first | exact gb_no h | exact ⟨_, rfl, h⟩
  · rcases r with _ | ⟨_ | x | x | x, σ⟩ <;> first | exact gb_no h | exact ⟨_, rfl, h⟩
  · rcases r with _ | ⟨_ | x | x | x, σ⟩ <;> first | exact gb_no h | exact ⟨_, rfl, h⟩
  · rcases r with _ | ⟨_ | x | x | x, σ⟩ <;> first | exact gb_no h | exact ⟨_, rfl, h⟩
  · exact gb_no h
theorem oq_cb {rk : Nat} {r : gb_R} {t : List gb_V} {E : gb_C → List gb_V → gb_M → gb_R} (h : ∀ t σ, gb_O1 (fun n => E n t σ)) : gb_O1 (fun n => gb_cb rk r t (E n)) := by
  unfold gb_cb
  split
  · rcases r with _ | ⟨_ | x | x | x, σ⟩ <;> first | exact h _ _ | exact oq_0
  · rcases r with _ | ⟨_ | x | x | x, σ⟩ <;> first | exact h _ _ | exact oq_0
  · rcases r with _ | ⟨_ | x | x | x, σ⟩ <;> first | exact h _ _ | exact oq_0
  · rcases r with _ | ⟨_ | x | x | x, σ⟩ <;> first | exact h _ _ | exact oq_0
  · exact oq_0
def o_cv (nA ci crk : Nat) (f : gb_F) (n : gb_C) : gb_C := fun lv st σ => gb_tk nA st [] fun as t => gb_pR t fun r t => gb_ob r.1 ci fun _ => gb_gd (Nat.ble (gb_cs t) 8) (gb_cb crk (f (.inr (.inr r) :: as) σ) t fun t σ' => n lv t σ')
def o_cs (nA crk : Nat) (f : gb_F) (n : gb_C) : gb_C := fun lv st σ => gb_tk nA st [] fun as t => gb_gd (Nat.ble (gb_cs t) 8) (gb_cb crk (f as σ) t fun t σ' => n lv t σ')
theorem q_cv (nA ci crk : Nat) (f : gb_F) : gb_Op (o_cv nA ci crk f) := fun lv st σ => oq_tk (fun as t => oq_pR fun r t => oq_ob fun _ => oq_gd (oq_cb fun t σ' => oq_k)) nA st []
theorem q_cs (nA crk : Nat) (f : gb_F) : gb_Op (o_cs nA crk f) := fun lv st σ => oq_tk (fun as t => oq_gd (oq_cb fun t σ' => oq_k)) nA st []
/-! a method's contract -/
def gb_Bs (g : gb_G) (A : Nat → Prop) : gb_M → State → Prop := fun u t => va_P (g.1, g.2.1) vwCl (gb_ws g u) t.heap ∧ va_K (g.1, g.2.1) vwCl (gb_T g) t ∧ va_D A (gb_ws g u)
def gb_Q (g : gb_G) (rk : Nat) (out : Option gb_V × gb_M) (A : Nat → Prop) : Array Value → State → Outcome → State → Prop := match rk with
  | 0 => va_Qv (fun u : gb_M => out.1 = none ∧ u = out.2) (gb_Bs g A) A
  | 3 => va_Ql (fun (r : Int64) (u : gb_M) => out.1 = some (.inr (.inl r)) ∧ u = out.2) (gb_Bs g A) A
  | _ => va_Qi (fun (r : Int32) (u : gb_M) => out.1 = some (.inl r) ∧ u = out.2) (gb_Bs g A) A
def gb_Pc (g : gb_G) (as : List gb_V) (σ : gb_M) (sz : Nat) : Array Value → State → Prop := va_Pc (as.map (gb_v g)) (fun U => U.heap.size = sz ∧ va_P (g.1, g.2.1) vwCl (gb_ws g σ) U.heap ∧ va_K (g.1, g.2.1) vwCl (gb_T g) U ∧ va_D (fun _ => True) (gb_ws g σ))
def gb_Met (l : Launch) (y : MethodName) (b : ByteArray) (nL : Nat) (ret : Option FieldType) (rk : Nat) (rm : Room) (f : gb_F) : Prop :=
  ∀ (g : gb_G) (as : List gb_V) (σ : gb_M) (out : Option gb_V × gb_M) (sz : Nat), gb_oks as → f as σ = some out → Met l y (.code y b nL ret :: gb_B) rm (gb_Pc g as σ sz) (gb_Q g rk out (va_A (gb_ws g σ) sz)) 0 0 (va_A (gb_ws g σ) sz)
theorem gb_A_in {A : Nat → Prop} {g : gb_G} {σ : gb_M} {sz n : Nat} (hD : va_D A (gb_ws g σ)) (hA : ∀ q, sz ≤ q → A q) (hn : sz ≤ n) : ∀ q, va_A (gb_ws g σ) n q → A q := by
  intro q h
  rcases h with ⟨k, e, h⟩ | h
  · exact hD.2 k (q, e) h
  · exact hA q (Nat.le_trans hn h)
theorem gb_bl {g : gb_G} {as : List gb_V} {σ : gb_M} {sz : Nat} : FrameBlind (gb_Pc g as σ sz) := fun a U g' mk q => by
  obtain ⟨q0, q1, qP, qK, qD⟩ := q
  exact ⟨q0, q1, qP, va_K.moved (u := U) (U := U.calling g' mk a) (Vm.Alike.refl U.vm) qK, qD⟩
theorem gb_rcv {g : gb_G} {σ : gb_M} {s : State} {H : Heap} {r : Nat × Nat} {ci : Nat} {fs : List gb_Fs} {q : vw_C} (hok : gb_ok (.inr (.inr r))) (hk : gb_kd r.1 = .inl (ci, fs)) (hc : vwCl[ci]? = some q) (hK : va_K (g.1, g.2.1) vwCl (gb_T g) s) (hP : va_P (g.1, g.2.1) vwCl (gb_ws g σ) H) : ∃ cell : Cell, H[g.2.2.1 r.1 r.2]? = some cell ∧ cell.vm.isStatics = false ∧ s.vm.findClass q.1 = some cell.cls := by
  obtain ⟨q0, -, h0⟩ := gb_at hok
  have h1 := h0 g σ
  unfold gb_en at h1
  rw [show gb_kd (r.1, r.2).1 = .inl (ci, fs) from hk] at h1
  exact va_recv hK hP hc h1
section SMEM
variable {own : String} {cc : ByteArray} {nL : Nat} {R : Room} {rk pc : Nat} {n : gb_C}
theorem s_gf {ref C : String} {T : u_T} {N ci k idx : Nat} (hin : ∀ w ∈ u_ws C T N, w ∈ gb_B) (hc : vwCl[ci]? = some (C, T, N)) (hk : k < N) (hw : Cond.fieldLink own idx ref (T k).2.1 (T k).2.2.1 ∈ gb_B) (hr : (T k).1 = ref) (d : decode cc pc = .ok (.getfield idx, 3)) (h : gb_S own cc nL R rk (pc + 3) n) : gb_S own cc nL R rk pc (o_gf ci k n) := by
  intro p l e s m args below meth c g A cells slots Qo X lv st σ out hl hs ho H locs arr hP hS hv
  obtain ⟨hx, hb, hml, hown, hts, hK, hA, hD, hcs, hrt⟩ := id X
  unfold o_gf at ho
  obtain ⟨r, t, rfl, ho1⟩ := gb_pR_s ho
  obtain ⟨fs, hkd, ho2⟩ := gb_ob_s ho1
  have hok := gb_oks_h hs
  obtain ⟨q0, -, h0⟩ := gb_at (k := r.1) (j := r.2) hok
  have he := h0 g σ
  unfold gb_en at he
  rw [show gb_kd (r.1, r.2).1 = .inl (ci, fs) from hkd] at he
  have he : (gb_ws g σ)[q0]? = some (g.2.2.1 r.1 r.2, .inr (ci, gb_mk g r.2 (σ.1 r.1 r.2) (σ.2 r.1 r.2) fs 0)) := he
  have fin : ∀ v : gb_V, gb_ok v → (gb_mk g r.2 (σ.1 r.1 r.2) (σ.2 r.1 r.2) fs 0)[k]? = some (gb_v g v) → n lv (v :: t) σ = some out → W p l e R s m args below meth c H locs cells slots (Qo out) (F0 m pc arr ((.inr (.inr r) :: t : List gb_V).map (gb_v g))) := fun v hv1 hv2 hv3 =>
    va_get (D := (g.1, g.2.1)) hx hb hts hin hown hK hP q0 he hc k hk (hts _ hw) (fun x hx => hr ▸ hx) hv2 d (h X _ _ _ _ hl (gb_oks_c hv1 (gb_oks_t hs)) hv3 H locs arr hP hS hv)
  unfold gb_fsel at ho2
  cases hf : fs[k]? with
  | none => rw [hf] at ho2; exact gb_no ho2
  | some f =>
    rw [hf] at ho2
    rcases f with _ | _ | q
    · refine fin (.inl (σ.1 r.1 r.2 k)) trivial ?_ ho2
      have := gb_mk_i g r.2 (σ.1 r.1 r.2) (σ.2 r.1 r.2) fs 0 k hf
      rwa [Nat.zero_add] at this
    · refine fin (.inr (.inl (σ.2 r.1 r.2 k))) trivial ?_ ho2
      have := gb_mk_l g r.2 (σ.1 r.1 r.2) (σ.2 r.1 r.2) fs 0 k hf
      rwa [Nat.zero_add] at this
    · exact fin (.inr (.inr (q.1, q.2 r.2))) (gb_cl_f hok hkd hf) (gb_mk_r g r.2 (σ.1 r.1 r.2) (σ.2 r.1 r.2) q fs 0 k hf) ho2
def o_pf (ci k : Nat) (n : gb_C) : gb_C := fun lv st σ => gb_pI st fun x t => gb_pR t fun r t => gb_ob r.1 ci fun fs => gb_fsel fs k (n lv t (gb_si σ r.1 r.2 k x)) none (fun _ => none)
theorem q_pf (ci k : Nat) : gb_Op (o_pf ci k) := fun lv st σ => oq_pI fun x t => oq_pR fun r t => oq_ob fun fs => by
  unfold gb_fsel
  cases fs[k]? with
  | none => exact oq_0
  | some f => rcases f with _ | _ | q <;> first | exact oq_k | exact oq_0
theorem s_pf {ref C : String} {T : u_T} {N ci k idx : Nat} {ty0 : Nat → FieldType} (hin : ∀ w ∈ u_ws C T N, w ∈ gb_B) (hc : vwCl[ci]? = some (C, T, N)) (hk : k < N) (hty : ∀ k, k < N → parseFieldDescriptor (T k).2.2.1 = some (ty0 k)) (hnm : ∀ a, a < N → ∀ b, b < N → a ≠ b → (T a).2.1 ≠ (T b).2.1) (hfin : (T k).2.2.2 = false) (hd : parseFieldDescriptor (T k).2.2.1 = some .int) (hw : Cond.fieldLink own idx ref (T k).2.1 (T k).2.2.1 ∈ gb_B) (hr : (T k).1 = ref) (d : decode cc pc = .ok (.putfield idx, 3)) (h : gb_S own cc nL R rk (pc + 3) n) : gb_S own cc nL R rk pc (o_pf ci k n) := by
  intro p l e s m args below meth c g A cells slots Qo X lv st σ out hl hs ho H locs arr hP hS hv
  obtain ⟨hx, hb, hml, hown, hts, hK, hA, hD, hcs, hrt⟩ := id X
  unfold o_pf at ho
  obtain ⟨x, t1, rfl, ho1⟩ := gb_pI_s ho
  obtain ⟨r, t, rfl, ho2⟩ := gb_pR_s (st := t1) ho1
  obtain ⟨fs, hkd, ho3⟩ := gb_ob_s ho2
  have hok := gb_oks_h (gb_oks_t hs)
  obtain ⟨q0, hq0, h0⟩ := gb_at (k := r.1) (j := r.2) hok
  have he := h0 g σ
  unfold gb_en at he
  rw [show gb_kd (r.1, r.2).1 = .inl (ci, fs) from hkd] at he
  have he : (gb_ws g σ)[q0]? = some (g.2.2.1 r.1 r.2, .inr (ci, gb_mk g r.2 (σ.1 r.1 r.2) (σ.2 r.1 r.2) fs 0)) := he
  have fin : fs[k]? = some (none) → n lv t (gb_si σ r.1 r.2 k x) = some out → W p l e R s m args below meth c H locs cells slots (Qo out) (F0 m pc arr ((.inl x :: .inr (.inr r) :: t : List gb_V).map (gb_v g))) := fun hf hv3 => by
    have hset : (gb_ws g σ).set q0 (g.2.2.1 r.1 r.2, .inr (ci, (gb_mk g r.2 (σ.1 r.1 r.2) (σ.2 r.1 r.2) fs 0).set k (.int x))) = gb_ws g (gb_si σ r.1 r.2 k x) := by
      refine gb_set hq0 gb_si_o ?_
      have := gb_mk_si g r.2 (σ.1 r.1 r.2) (σ.2 r.1 r.2) x fs 0 k hf
      rw [Nat.zero_add] at this
      rw [this, hkd, (gb_si_s σ r.1 r.2 k x).1, (gb_si_s σ r.1 r.2 k x).2]
      rfl
    refine va_put (D := (g.1, g.2.1)) (v := .int x) (ty := .int) hx hb hts hin ty0 hty hnm hown hK hP (hD σ) hS q0 he hc k hk (hts _ hw) (fun x hx => hr ▸ hx) hfin hd rfl rfl (by rw [gb_mk_len]; exact (List.getElem?_eq_some_iff.mp hf).1) d (fun H1 locs1 hP1 hD1 hS1 => ?_)
    rw [hset] at hP1
    exact h X _ _ _ _ hl (gb_oks_t (gb_oks_t hs)) hv3 H1 locs1 arr hP1 hS1 hv
  unfold gb_fsel at ho3
  cases hf : fs[k]? with
  | none => rw [hf] at ho3; exact gb_no ho3
  | some f =>
    rw [hf] at ho3
    rcases f with _ | _ | q
    · exact fin hf ho3
    · exact gb_no ho3
    · exact gb_no ho3
def o_pz (ci k : Nat) (n : gb_C) : gb_C := fun lv st σ => gb_pI st fun x t => gb_gd (decide (x = 0 ∨ x = 1)) (gb_pR t fun r t => gb_ob r.1 ci fun fs => gb_fsel fs k (n lv t (gb_si σ r.1 r.2 k x)) none (fun _ => none))
theorem q_pz (ci k : Nat) : gb_Op (o_pz ci k) := fun lv st σ => oq_pI fun x t => oq_gd (oq_pR fun r t => oq_ob fun fs => by
  unfold gb_fsel
  cases fs[k]? with
  | none => exact oq_0
  | some f => rcases f with _ | _ | q <;> first | exact oq_k | exact oq_0)
theorem s_pz {ref C : String} {T : u_T} {N ci k idx : Nat} {ty0 : Nat → FieldType} (hin : ∀ w ∈ u_ws C T N, w ∈ gb_B) (hc : vwCl[ci]? = some (C, T, N)) (hk : k < N) (hty : ∀ k, k < N → parseFieldDescriptor (T k).2.2.1 = some (ty0 k)) (hnm : ∀ a, a < N → ∀ b, b < N → a ≠ b → (T a).2.1 ≠ (T b).2.1) (hfin : (T k).2.2.2 = false) (hd : parseFieldDescriptor (T k).2.2.1 = some .boolean) (hw : Cond.fieldLink own idx ref (T k).2.1 (T k).2.2.1 ∈ gb_B) (hr : (T k).1 = ref) (d : decode cc pc = .ok (.putfield idx, 3)) (h : gb_S own cc nL R rk (pc + 3) n) : gb_S own cc nL R rk pc (o_pz ci k n) := by
  intro p l e s m args below meth c g A cells slots Qo X lv st σ out hl hs ho H locs arr hP hS hv
  obtain ⟨hx, hb, hml, hown, hts, hK, hA, hD, hcs, hrt⟩ := id X
  unfold o_pz at ho
  obtain ⟨x, t1, rfl, ho1⟩ := gb_pI_s ho
  obtain ⟨hbz, ho2⟩ := gb_gd_s ho1
  have hbo := of_decide_eq_true hbz
  have hbz : x &&& 1 = x := by rcases hbo with rfl | rfl <;> rfl
  obtain ⟨r, t, rfl, ho3⟩ := gb_pR_s (st := t1) ho2
  obtain ⟨fs, hkd, ho4⟩ := gb_ob_s ho3
  have hok := gb_oks_h (gb_oks_t hs)
  obtain ⟨q0, hq0, h0⟩ := gb_at (k := r.1) (j := r.2) hok
  have he := h0 g σ
  unfold gb_en at he
  rw [show gb_kd (r.1, r.2).1 = .inl (ci, fs) from hkd] at he
  have he : (gb_ws g σ)[q0]? = some (g.2.2.1 r.1 r.2, .inr (ci, gb_mk g r.2 (σ.1 r.1 r.2) (σ.2 r.1 r.2) fs 0)) := he
  have fin : fs[k]? = some (none) → n lv t (gb_si σ r.1 r.2 k x) = some out → W p l e R s m args below meth c H locs cells slots (Qo out) (F0 m pc arr ((.inl x :: .inr (.inr r) :: t : List gb_V).map (gb_v g))) := fun hf hv3 => by
    have hset : (gb_ws g σ).set q0 (g.2.2.1 r.1 r.2, .inr (ci, (gb_mk g r.2 (σ.1 r.1 r.2) (σ.2 r.1 r.2) fs 0).set k (.int x))) = gb_ws g (gb_si σ r.1 r.2 k x) := by
      refine gb_set hq0 gb_si_o ?_
      have := gb_mk_si g r.2 (σ.1 r.1 r.2) (σ.2 r.1 r.2) x fs 0 k hf
      rw [Nat.zero_add] at this
      rw [this, hkd, (gb_si_s σ r.1 r.2 k x).1, (gb_si_s σ r.1 r.2 k x).2]
      rfl
    refine va_put (D := (g.1, g.2.1)) (v := .int x) (ty := .boolean) hx hb hts hin ty0 hty hnm hown hK hP (hD σ) hS q0 he hc k hk (hts _ hw) (fun x hx => hr ▸ hx) hfin hd (by show Value.int (x &&& 1) = _; rw [hbz]) (by rcases hbo with rfl | rfl <;> rfl) (by rw [gb_mk_len]; exact (List.getElem?_eq_some_iff.mp hf).1) d (fun H1 locs1 hP1 hD1 hS1 => ?_)
    rw [hset] at hP1
    exact h X _ _ _ _ hl (gb_oks_t (gb_oks_t hs)) hv3 H1 locs1 arr hP1 hS1 hv
  unfold gb_fsel at ho4
  cases hf : fs[k]? with
  | none => rw [hf] at ho4; exact gb_no ho4
  | some f =>
    rw [hf] at ho4
    rcases f with _ | _ | q
    · exact fin hf ho4
    · exact gb_no ho4
    · exact gb_no ho4
def o_pl (ci k : Nat) (n : gb_C) : gb_C := fun lv st σ => gb_pL st fun x t => gb_pR t fun r t => gb_ob r.1 ci fun fs => gb_fsel fs k none (n lv t (gb_sl σ r.1 r.2 k x)) (fun _ => none)
theorem q_pl (ci k : Nat) : gb_Op (o_pl ci k) := fun lv st σ => oq_pL fun x t => oq_pR fun r t => oq_ob fun fs => by
  unfold gb_fsel
  cases fs[k]? with
  | none => exact oq_0
  | some f => rcases f with _ | _ | q <;> first | exact oq_k | exact oq_0
theorem s_pl {ref C : String} {T : u_T} {N ci k idx : Nat} {ty0 : Nat → FieldType} (hin : ∀ w ∈ u_ws C T N, w ∈ gb_B) (hc : vwCl[ci]? = some (C, T, N)) (hk : k < N) (hty : ∀ k, k < N → parseFieldDescriptor (T k).2.2.1 = some (ty0 k)) (hnm : ∀ a, a < N → ∀ b, b < N → a ≠ b → (T a).2.1 ≠ (T b).2.1) (hfin : (T k).2.2.2 = false) (hd : parseFieldDescriptor (T k).2.2.1 = some .long) (hw : Cond.fieldLink own idx ref (T k).2.1 (T k).2.2.1 ∈ gb_B) (hr : (T k).1 = ref) (d : decode cc pc = .ok (.putfield idx, 3)) (h : gb_S own cc nL R rk (pc + 3) n) : gb_S own cc nL R rk pc (o_pl ci k n) := by
  intro p l e s m args below meth c g A cells slots Qo X lv st σ out hl hs ho H locs arr hP hS hv
  obtain ⟨hx, hb, hml, hown, hts, hK, hA, hD, hcs, hrt⟩ := id X
  unfold o_pl at ho
  obtain ⟨x, t1, rfl, ho1⟩ := gb_pL_s ho
  obtain ⟨r, t, rfl, ho2⟩ := gb_pR_s (st := t1) ho1
  obtain ⟨fs, hkd, ho3⟩ := gb_ob_s ho2
  have hok := gb_oks_h (gb_oks_t hs)
  obtain ⟨q0, hq0, h0⟩ := gb_at (k := r.1) (j := r.2) hok
  have he := h0 g σ
  unfold gb_en at he
  rw [show gb_kd (r.1, r.2).1 = .inl (ci, fs) from hkd] at he
  have he : (gb_ws g σ)[q0]? = some (g.2.2.1 r.1 r.2, .inr (ci, gb_mk g r.2 (σ.1 r.1 r.2) (σ.2 r.1 r.2) fs 0)) := he
  have fin : fs[k]? = some (some none) → n lv t (gb_sl σ r.1 r.2 k x) = some out → W p l e R s m args below meth c H locs cells slots (Qo out) (F0 m pc arr ((.inr (.inl x) :: .inr (.inr r) :: t : List gb_V).map (gb_v g))) := fun hf hv3 => by
    have hset : (gb_ws g σ).set q0 (g.2.2.1 r.1 r.2, .inr (ci, (gb_mk g r.2 (σ.1 r.1 r.2) (σ.2 r.1 r.2) fs 0).set k (.long x))) = gb_ws g (gb_sl σ r.1 r.2 k x) := by
      refine gb_set hq0 gb_sl_o ?_
      have := gb_mk_sl g r.2 (σ.1 r.1 r.2) (σ.2 r.1 r.2) x fs 0 k hf
      rw [Nat.zero_add] at this
      rw [this, hkd, (gb_sl_s σ r.1 r.2 k x).1, (gb_sl_s σ r.1 r.2 k x).2]
      rfl
    refine va_put (D := (g.1, g.2.1)) (v := .long x) (ty := .long) hx hb hts hin ty0 hty hnm hown hK hP (hD σ) hS q0 he hc k hk (hts _ hw) (fun x hx => hr ▸ hx) hfin hd rfl rfl (by rw [gb_mk_len]; exact (List.getElem?_eq_some_iff.mp hf).1) d (fun H1 locs1 hP1 hD1 hS1 => ?_)
    rw [hset] at hP1
    exact h X _ _ _ _ hl (gb_oks_t (gb_oks_t hs)) hv3 H1 locs1 arr hP1 hS1 hv
  unfold gb_fsel at ho3
  cases hf : fs[k]? with
  | none => rw [hf] at ho3; exact gb_no ho3
  | some f =>
    rw [hf] at ho3
    rcases f with _ | _ | q
    · exact gb_no ho3
    · exact fin hf ho3
    · exact gb_no ho3
def o_iald (n : gb_C) : gb_C := fun lv st σ => gb_pI st fun i t => gb_pR t fun r t => gb_ar r.1 0 fun N _ => gb_gd (gb_in i N) (n lv (.inl (σ.1 r.1 r.2 i.toNatClampNeg) :: t) σ)
theorem q_iald : gb_Op o_iald := fun _ _ _ => oq_pI fun _ _ => oq_pR fun _ _ => oq_ar fun _ _ => oq_gd oq_k
theorem s_iald (d : decode cc pc = .ok (.iaload, 1)) (h : gb_S own cc nL R rk (pc + 1) n) : gb_S own cc nL R rk pc (o_iald n) := by
  intro p l e s m args below meth c g A cells slots Qo X lv st σ out hl hs ho H locs arr hP hS hv
  obtain ⟨hx, hb, hml, hown, hts, hK, hA, hD, hcs, hrt⟩ := id X
  unfold o_iald at ho
  obtain ⟨i, t1, rfl, ho1⟩ := gb_pI_s ho
  obtain ⟨r, t, rfl, ho2⟩ := gb_pR_s (st := t1) ho1
  obtain ⟨N, φ, hkd, ho3⟩ := gb_ar_s ho2
  obtain ⟨hi, ho4⟩ := gb_gd_s ho3
  have hok := gb_oks_h (gb_oks_t hs)
  obtain ⟨q0, -, h0⟩ := gb_at (k := r.1) (j := r.2) hok
  have he := h0 g σ
  unfold gb_en at he
  rw [show gb_kd (r.1, r.2).1 = .inr (0, N, φ) from hkd] at he
  exact va_iald (D := (g.1, g.2.1)) hx hb hK hP q0 0 he rfl (gb_in_s hi) d (h X _ _ _ _ hl (gb_oks_c (v := .inl (σ.1 r.1 r.2 i.toNatClampNeg)) trivial (gb_oks_t (gb_oks_t hs))) ho4 H locs arr hP hS hv)
def o_bald (n : gb_C) : gb_C := fun lv st σ => gb_pI st fun i t => gb_pR t fun r t => gb_ar r.1 1 fun N _ => gb_gd (gb_in i N) (n lv (.inl (σ.1 r.1 r.2 i.toNatClampNeg) :: t) σ)
theorem q_bald : gb_Op o_bald := fun _ _ _ => oq_pI fun _ _ => oq_pR fun _ _ => oq_ar fun _ _ => oq_gd oq_k
theorem s_bald (d : decode cc pc = .ok (.baload, 1)) (h : gb_S own cc nL R rk (pc + 1) n) : gb_S own cc nL R rk pc (o_bald n) := by
  intro p l e s m args below meth c g A cells slots Qo X lv st σ out hl hs ho H locs arr hP hS hv
  obtain ⟨hx, hb, hml, hown, hts, hK, hA, hD, hcs, hrt⟩ := id X
  unfold o_bald at ho
  obtain ⟨i, t1, rfl, ho1⟩ := gb_pI_s ho
  obtain ⟨r, t, rfl, ho2⟩ := gb_pR_s (st := t1) ho1
  obtain ⟨N, φ, hkd, ho3⟩ := gb_ar_s ho2
  obtain ⟨hi, ho4⟩ := gb_gd_s ho3
  have hok := gb_oks_h (gb_oks_t hs)
  obtain ⟨q0, -, h0⟩ := gb_at (k := r.1) (j := r.2) hok
  have he := h0 g σ
  unfold gb_en at he
  rw [show gb_kd (r.1, r.2).1 = .inr (1, N, φ) from hkd] at he
  exact va_bald (D := (g.1, g.2.1)) hx hb hK hP q0 1 he rfl (gb_in_s hi) d (h X _ _ _ _ hl (gb_oks_c (v := .inl (σ.1 r.1 r.2 i.toNatClampNeg)) trivial (gb_oks_t (gb_oks_t hs))) ho4 H locs arr hP hS hv)
def o_lald (n : gb_C) : gb_C := fun lv st σ => gb_pI st fun i t => gb_pR t fun r t => gb_ar r.1 2 fun N _ => gb_gd (gb_in i N) (n lv (.inr (.inl (σ.2 r.1 r.2 i.toNatClampNeg)) :: t) σ)
theorem q_lald : gb_Op o_lald := fun _ _ _ => oq_pI fun _ _ => oq_pR fun _ _ => oq_ar fun _ _ => oq_gd oq_k
theorem s_lald (d : decode cc pc = .ok (.laload, 1)) (h : gb_S own cc nL R rk (pc + 1) n) : gb_S own cc nL R rk pc (o_lald n) := by
  intro p l e s m args below meth c g A cells slots Qo X lv st σ out hl hs ho H locs arr hP hS hv
  obtain ⟨hx, hb, hml, hown, hts, hK, hA, hD, hcs, hrt⟩ := id X
  unfold o_lald at ho
  obtain ⟨i, t1, rfl, ho1⟩ := gb_pI_s ho
  obtain ⟨r, t, rfl, ho2⟩ := gb_pR_s (st := t1) ho1
  obtain ⟨N, φ, hkd, ho3⟩ := gb_ar_s ho2
  obtain ⟨hi, ho4⟩ := gb_gd_s ho3
  have hok := gb_oks_h (gb_oks_t hs)
  obtain ⟨q0, -, h0⟩ := gb_at (k := r.1) (j := r.2) hok
  have he := h0 g σ
  unfold gb_en at he
  rw [show gb_kd (r.1, r.2).1 = .inr (2, N, φ) from hkd] at he
  exact va_lald (D := (g.1, g.2.1)) hx hb hK hP q0 2 he rfl (gb_in_s hi) d (h X _ _ _ _ hl (gb_oks_c (v := .inr (.inl (σ.2 r.1 r.2 i.toNatClampNeg))) trivial (gb_oks_t (gb_oks_t hs))) ho4 H locs arr hP hS hv)
def o_aald (n : gb_C) : gb_C := fun lv st σ => gb_pI st fun i t => gb_pR t fun r t => gb_ar r.1 3 fun N φ => gb_gd (gb_in i N) (n lv (.inr (.inr (φ r.2 i.toNatClampNeg)) :: t) σ)
theorem q_aald : gb_Op o_aald := fun _ _ _ => oq_pI fun _ _ => oq_pR fun _ _ => oq_ar fun _ _ => oq_gd oq_k
theorem s_aald (d : decode cc pc = .ok (.aaload, 1)) (h : gb_S own cc nL R rk (pc + 1) n) : gb_S own cc nL R rk pc (o_aald n) := by
  intro p l e s m args below meth c g A cells slots Qo X lv st σ out hl hs ho H locs arr hP hS hv
  obtain ⟨hx, hb, hml, hown, hts, hK, hA, hD, hcs, hrt⟩ := id X
  unfold o_aald at ho
  obtain ⟨i, t1, rfl, ho1⟩ := gb_pI_s ho
  obtain ⟨r, t, rfl, ho2⟩ := gb_pR_s (st := t1) ho1
  obtain ⟨N, φ, hkd, ho3⟩ := gb_ar_s ho2
  obtain ⟨hi, ho4⟩ := gb_gd_s ho3
  have hok := gb_oks_h (gb_oks_t hs)
  obtain ⟨q0, -, h0⟩ := gb_at (k := r.1) (j := r.2) hok
  have he := h0 g σ
  unfold gb_en at he
  rw [show gb_kd (r.1, r.2).1 = .inr (3, N, φ) from hkd] at he
  exact va_aldq (D := (g.1, g.2.1)) hx hb hK hP q0 3 he rfl (gb_in_s hi) d (h X _ _ _ _ hl (gb_oks_c (gb_cl_a hok hkd (gb_in_lt hi)) (gb_oks_t (gb_oks_t hs))) ho4 H locs arr hP hS hv)
def o_iast (n : gb_C) : gb_C := fun lv st σ => gb_pI st fun x t => gb_pI t fun i t => gb_pR t fun r t => gb_ar r.1 0 fun N _ => gb_gd (gb_in i N) (n lv t (gb_si σ r.1 r.2 i.toNatClampNeg (x)))
theorem q_iast : gb_Op o_iast := fun _ _ _ => oq_pI fun _ _ => oq_pI fun _ _ => oq_pR fun _ _ => oq_ar fun _ _ => oq_gd oq_k
theorem s_iast (d : decode cc pc = .ok (.iastore, 1)) (h : gb_S own cc nL R rk (pc + 1) n) : gb_S own cc nL R rk pc (o_iast n) := by
  intro p l e s m args below meth c g A cells slots Qo X lv st σ out hl hs ho H locs arr hP hS hv
  obtain ⟨hx, hb, hml, hown, hts, hK, hA, hD, hcs, hrt⟩ := id X
  unfold o_iast at ho
  obtain ⟨x, t1, rfl, ho1⟩ := gb_pI_s ho
  obtain ⟨i, t2, rfl, ho2⟩ := gb_pI_s (st := t1) ho1
  obtain ⟨r, t, rfl, ho3⟩ := gb_pR_s (st := t2) ho2
  obtain ⟨N, φ, hkd, ho4⟩ := gb_ar_s ho3
  obtain ⟨hi, ho5⟩ := gb_gd_s ho4
  have hok := gb_oks_h (gb_oks_t (gb_oks_t hs))
  obtain ⟨q0, hq0, h0⟩ := gb_at (k := r.1) (j := r.2) hok
  have he := h0 g σ
  unfold gb_en at he
  rw [show gb_kd (r.1, r.2).1 = .inr (0, N, φ) from hkd] at he
  refine va_iast (D := (g.1, g.2.1)) hx hb hK hP (hD σ) hS q0 0 he rfl (gb_in_s hi) d (fun H1 locs1 hP1 hD1 hS1 => ?_)
  have hset := gb_set (g := g) (σ := σ) (σ' := gb_si σ r.1 r.2 i.toNatClampNeg (x)) hq0 gb_si_o (x := gb_cell g (gb_kd r.1) r.2 ((gb_si σ r.1 r.2 i.toNatClampNeg (x)).1 r.1 r.2) ((gb_si σ r.1 r.2 i.toNatClampNeg (x)).2 r.1 r.2)) rfl
  rw [hkd, (gb_si_s σ r.1 r.2 i.toNatClampNeg (x)).1, (gb_si_s σ r.1 r.2 i.toNatClampNeg (x)).2] at hset
  exact h X _ _ _ _ hl (gb_oks_t (gb_oks_t (gb_oks_t hs))) ho5 H1 locs1 arr (by rw [← hset]; exact hP1) hS1 hv
def o_bast (n : gb_C) : gb_C := fun lv st σ => gb_pI st fun x t => gb_pI t fun i t => gb_pR t fun r t => gb_ar r.1 1 fun N _ => gb_gd (gb_in i N) (n lv t (gb_si σ r.1 r.2 i.toNatClampNeg (x.toInt8.toInt32)))
theorem q_bast : gb_Op o_bast := fun _ _ _ => oq_pI fun _ _ => oq_pI fun _ _ => oq_pR fun _ _ => oq_ar fun _ _ => oq_gd oq_k
theorem s_bast (d : decode cc pc = .ok (.bastore, 1)) (h : gb_S own cc nL R rk (pc + 1) n) : gb_S own cc nL R rk pc (o_bast n) := by
  intro p l e s m args below meth c g A cells slots Qo X lv st σ out hl hs ho H locs arr hP hS hv
  obtain ⟨hx, hb, hml, hown, hts, hK, hA, hD, hcs, hrt⟩ := id X
  unfold o_bast at ho
  obtain ⟨x, t1, rfl, ho1⟩ := gb_pI_s ho
  obtain ⟨i, t2, rfl, ho2⟩ := gb_pI_s (st := t1) ho1
  obtain ⟨r, t, rfl, ho3⟩ := gb_pR_s (st := t2) ho2
  obtain ⟨N, φ, hkd, ho4⟩ := gb_ar_s ho3
  obtain ⟨hi, ho5⟩ := gb_gd_s ho4
  have hok := gb_oks_h (gb_oks_t (gb_oks_t hs))
  obtain ⟨q0, hq0, h0⟩ := gb_at (k := r.1) (j := r.2) hok
  have he := h0 g σ
  unfold gb_en at he
  rw [show gb_kd (r.1, r.2).1 = .inr (1, N, φ) from hkd] at he
  refine va_bast (D := (g.1, g.2.1)) hx hb hK hP (hD σ) hS q0 1 he rfl (gb_in_s hi) d (fun H1 locs1 hP1 hD1 hS1 => ?_)
  have hset := gb_set (g := g) (σ := σ) (σ' := gb_si σ r.1 r.2 i.toNatClampNeg (x.toInt8.toInt32)) hq0 gb_si_o (x := gb_cell g (gb_kd r.1) r.2 ((gb_si σ r.1 r.2 i.toNatClampNeg (x.toInt8.toInt32)).1 r.1 r.2) ((gb_si σ r.1 r.2 i.toNatClampNeg (x.toInt8.toInt32)).2 r.1 r.2)) rfl
  rw [hkd, (gb_si_s σ r.1 r.2 i.toNatClampNeg (x.toInt8.toInt32)).1, (gb_si_s σ r.1 r.2 i.toNatClampNeg (x.toInt8.toInt32)).2] at hset
  exact h X _ _ _ _ hl (gb_oks_t (gb_oks_t (gb_oks_t hs))) ho5 H1 locs1 arr (by rw [← hset]; exact hP1) hS1 hv
def o_last (n : gb_C) : gb_C := fun lv st σ => gb_pL st fun x t => gb_pI t fun i t => gb_pR t fun r t => gb_ar r.1 2 fun N _ => gb_gd (gb_in i N) (n lv t (gb_sl σ r.1 r.2 i.toNatClampNeg (x)))
theorem q_last : gb_Op o_last := fun _ _ _ => oq_pL fun _ _ => oq_pI fun _ _ => oq_pR fun _ _ => oq_ar fun _ _ => oq_gd oq_k
theorem s_last (d : decode cc pc = .ok (.lastore, 1)) (h : gb_S own cc nL R rk (pc + 1) n) : gb_S own cc nL R rk pc (o_last n) := by
  intro p l e s m args below meth c g A cells slots Qo X lv st σ out hl hs ho H locs arr hP hS hv
  obtain ⟨hx, hb, hml, hown, hts, hK, hA, hD, hcs, hrt⟩ := id X
  unfold o_last at ho
  obtain ⟨x, t1, rfl, ho1⟩ := gb_pL_s ho
  obtain ⟨i, t2, rfl, ho2⟩ := gb_pI_s (st := t1) ho1
  obtain ⟨r, t, rfl, ho3⟩ := gb_pR_s (st := t2) ho2
  obtain ⟨N, φ, hkd, ho4⟩ := gb_ar_s ho3
  obtain ⟨hi, ho5⟩ := gb_gd_s ho4
  have hok := gb_oks_h (gb_oks_t (gb_oks_t hs))
  obtain ⟨q0, hq0, h0⟩ := gb_at (k := r.1) (j := r.2) hok
  have he := h0 g σ
  unfold gb_en at he
  rw [show gb_kd (r.1, r.2).1 = .inr (2, N, φ) from hkd] at he
  refine va_last (D := (g.1, g.2.1)) hx hb hK hP (hD σ) hS q0 2 he rfl (gb_in_s hi) d (fun H1 locs1 hP1 hD1 hS1 => ?_)
  have hset := gb_set (g := g) (σ := σ) (σ' := gb_sl σ r.1 r.2 i.toNatClampNeg (x)) hq0 gb_sl_o (x := gb_cell g (gb_kd r.1) r.2 ((gb_sl σ r.1 r.2 i.toNatClampNeg (x)).1 r.1 r.2) ((gb_sl σ r.1 r.2 i.toNatClampNeg (x)).2 r.1 r.2)) rfl
  rw [hkd, (gb_sl_s σ r.1 r.2 i.toNatClampNeg (x)).1, (gb_sl_s σ r.1 r.2 i.toNatClampNeg (x)).2] at hset
  exact h X _ _ _ _ hl (gb_oks_t (gb_oks_t (gb_oks_t hs))) ho5 H1 locs1 arr (by rw [← hset]; exact hP1) hS1 hv
def o_mmin (n : gb_C) : gb_C := fun lv st σ => gb_pI st fun y t => gb_pI t fun x t => gb_gd (Nat.ble (gb_cs t) 8) (n lv (.inl (if y < x then y else x) :: t) σ)
theorem q_mmin : gb_Op o_mmin := fun _ _ _ => oq_pI fun _ _ => oq_pI fun _ _ => oq_gd oq_k
theorem s_mmin {idx : Nat} (hR : 1 ≤ R.frames ∧ 21 ≤ R.locals) (hw : ∀ w ∈ ([.methodLink own idx Lib.Math.min.name, .static Lib.Math.min.name, .initialized "java/lang/Math", .code Lib.Math.min.name Lib.Math.min.code 2 (some .int)] : List Cond), w ∈ gb_B) (d : decode cc pc = .ok (.invokestatic idx, 3)) (h : gb_S own cc nL R rk (pc + 3) n) : gb_S own cc nL R rk pc (o_mmin n) := by
  intro p l e s m args below meth c g A cells slots Qo X lv st σ out hl hs ho H locs arr hP hS hv
  obtain ⟨hx, hb, hml, hown, hts, hK, hA, hD, hcs, hrt⟩ := id X
  unfold o_mmin at ho
  obtain ⟨y, t1, rfl, ho1⟩ := gb_pI_s ho
  obtain ⟨x, t, rfl, ho2⟩ := gb_pI_s (st := t1) ho1
  obtain ⟨hq, ho3⟩ := gb_gd_s ho2
  have hq := Nat.le_of_ble_eq_true hq
  have hsum := gb_cs_s g t
  exact va_mmin hx hb (hml.trans hv.1.symm) hown (hts _ (hw _ (List.mem_of_getElem? (i := 0) rfl))) (hts _ (hw _ (List.mem_of_getElem? (i := 1) rfl))) (hts _ (hw _ (List.mem_of_getElem? (i := 2) rfl))) (hts _ (hw _ (List.mem_of_getElem? (i := 3) rfl))) hR.1 (by rw [hsum]; omega) hcs.1 hcs.2 d (h X _ _ _ _ hl (gb_oks_c (v := .inl _) trivial (gb_oks_t (gb_oks_t hs))) ho3 H locs arr hP hS hv)
def o_mmax (n : gb_C) : gb_C := fun lv st σ => gb_pI st fun y t => gb_pI t fun x t => gb_gd (Nat.ble (gb_cs t) 8) (n lv (.inl (if x < y then y else x) :: t) σ)
theorem q_mmax : gb_Op o_mmax := fun _ _ _ => oq_pI fun _ _ => oq_pI fun _ _ => oq_gd oq_k
theorem s_mmax {idx : Nat} (hR : 1 ≤ R.frames ∧ 21 ≤ R.locals) (hw : ∀ w ∈ ([.methodLink own idx Lib.Math.max.name, .static Lib.Math.max.name, .initialized "java/lang/Math", .code Lib.Math.max.name Lib.Math.max.code 2 (some .int)] : List Cond), w ∈ gb_B) (d : decode cc pc = .ok (.invokestatic idx, 3)) (h : gb_S own cc nL R rk (pc + 3) n) : gb_S own cc nL R rk pc (o_mmax n) := by
  intro p l e s m args below meth c g A cells slots Qo X lv st σ out hl hs ho H locs arr hP hS hv
  obtain ⟨hx, hb, hml, hown, hts, hK, hA, hD, hcs, hrt⟩ := id X
  unfold o_mmax at ho
  obtain ⟨y, t1, rfl, ho1⟩ := gb_pI_s ho
  obtain ⟨x, t, rfl, ho2⟩ := gb_pI_s (st := t1) ho1
  obtain ⟨hq, ho3⟩ := gb_gd_s ho2
  have hq := Nat.le_of_ble_eq_true hq
  have hsum := gb_cs_s g t
  exact va_mmax hx hb (hml.trans hv.1.symm) hown (hts _ (hw _ (List.mem_of_getElem? (i := 0) rfl))) (hts _ (hw _ (List.mem_of_getElem? (i := 1) rfl))) (hts _ (hw _ (List.mem_of_getElem? (i := 2) rfl))) (hts _ (hw _ (List.mem_of_getElem? (i := 3) rfl))) hR.1 (by rw [hsum]; omega) hcs.1 hcs.2 d (h X _ _ _ _ hl (gb_oks_c (v := .inl _) trivial (gb_oks_t (gb_oks_t hs))) ho3 H locs arr hP hS hv)
def o_mminl (n : gb_C) : gb_C := fun lv st σ => gb_pL st fun y t => gb_pL t fun x t => gb_gd (Nat.ble (gb_cs t) 8) (n lv (.inr (.inl (if y < x then y else x)) :: t) σ)
theorem q_mminl : gb_Op o_mminl := fun _ _ _ => oq_pL fun _ _ => oq_pL fun _ _ => oq_gd oq_k
theorem s_mminl {idx : Nat} (hR : 1 ≤ R.frames ∧ 23 ≤ R.locals) (hw : ∀ w ∈ ([.methodLink own idx Lib.MathLoose.min_long.x, .static Lib.MathLoose.min_long.x, .initialized "java/lang/Math", .code Lib.MathLoose.min_long.x Lib.MathLoose.min_long.code 4 (some .long)] : List Cond), w ∈ gb_B) (d : decode cc pc = .ok (.invokestatic idx, 3)) (h : gb_S own cc nL R rk (pc + 3) n) : gb_S own cc nL R rk pc (o_mminl n) := by
  intro p l e s m args below meth c g A cells slots Qo X lv st σ out hl hs ho H locs arr hP hS hv
  obtain ⟨hx, hb, hml, hown, hts, hK, hA, hD, hcs, hrt⟩ := id X
  unfold o_mminl at ho
  obtain ⟨y, t1, rfl, ho1⟩ := gb_pL_s ho
  obtain ⟨x, t, rfl, ho2⟩ := gb_pL_s (st := t1) ho1
  obtain ⟨hq, ho3⟩ := gb_gd_s ho2
  have hq := Nat.le_of_ble_eq_true hq
  have hsum := gb_cs_s g t
  exact va_mmin_long hx hb (hml.trans hv.1.symm) hown (hts _ (hw _ (List.mem_of_getElem? (i := 0) rfl))) (hts _ (hw _ (List.mem_of_getElem? (i := 1) rfl))) (hts _ (hw _ (List.mem_of_getElem? (i := 2) rfl))) (hts _ (hw _ (List.mem_of_getElem? (i := 3) rfl))) hR.1 (by rw [hsum]; omega) hcs.1 hcs.2 d (h X _ _ _ _ hl (gb_oks_c (v := .inr (.inl _)) trivial (gb_oks_t (gb_oks_t hs))) ho3 H locs arr hP hS hv)
theorem gb_back {p : Program} {l : Launch} {e : Env} {s : State} {m : MethodId} {args : Array Value} {below : List Frame} {meth : Method} {c : Code} {g : gb_G} {A : Nat → Prop} {cells slots : Nat} {Qo : Option gb_V × gb_M → State → Prop} (X : gb_Cx own cc nL R rk p l e s m args below meth c g A cells slots Qo) (h : gb_S own cc nL R rk (pc + 3) n)
    {lv : gb_L} {t : List gb_V} {σ : gb_M} {out o : Option gb_V × gb_M} {crk : Nat} {H : Heap} {locs : List Loc} {arr : Array Slot} {a : Array Value} {st1 : List Value} (hl : gb_okl lv) (hs : gb_oks t) (ho : gb_rb o.1 crk t (fun t => n lv t o.2) = some out) (hP : va_P (g.1, g.2.1) vwCl (gb_ws g σ) H) (hS : va_S A s.heap H locs) (hv : lv_has arr nL (lv.map (gb_q g)))
    (hr : va_Run p l e R s m args below meth c H locs cells slots 0 0 (F0 m pc arr st1) (t.map (gb_v g)) (gb_Q g crk o (va_A (gb_ws g σ) H.size) a) (va_A (gb_ws g σ) H.size)) : W p l e R s m args below meth c H locs cells slots (Qo out) (F0 m pc arr st1) := by
  obtain ⟨hx, hb, hml, hown, hts, hK, hA, hD, hcs, hrt⟩ := id X
  have hF : ∀ q, va_A (gb_ws g σ) H.size q → A q := gb_A_in (hD σ) hA hS.1
  unfold gb_rb at ho
  split at ho
  · next h1 =>
    refine va_callv (a := a) hr hS (fun q _ h => hF q h) hF (fun u tt H1 locs1 ht hvm hw hB hz1 hk1 hS1 => ?_)
    obtain ⟨-, rfl⟩ := hw
    obtain ⟨hP1, -, -⟩ := hB
    rw [ht] at hP1
    exact h X _ _ _ _ hl hs ho H1 locs1 arr hP1 hS1 hv
  · next x h1 =>
    refine va_calli (a := a) hr hS (fun q _ h => hF q h) hF (fun r u tt H1 locs1 ht hvm hw hB hz1 hk1 hS1 => ?_)
    obtain ⟨h2, rfl⟩ := hw
    have h3 := h1.symm.trans h2
    cases h3
    obtain ⟨hP1, -, -⟩ := hB
    rw [ht] at hP1
    exact h X _ _ _ _ hl (gb_oks_c (v := .inl x) trivial hs) ho H1 locs1 arr hP1 hS1 hv
  · next x h1 =>
    refine va_calli (a := a) hr hS (fun q _ h => hF q h) hF (fun r u tt H1 locs1 ht hvm hw hB hz1 hk1 hS1 => ?_)
    obtain ⟨h2, rfl⟩ := hw
    have h3 := h1.symm.trans h2
    cases h3
    obtain ⟨hP1, -, -⟩ := hB
    rw [ht] at hP1
    exact h X _ _ _ _ hl (gb_oks_c (v := .inl x) trivial hs) ho H1 locs1 arr hP1 hS1 hv
  · next x h1 =>
    refine va_calll (a := a) hr hS (fun q _ h => hF q h) hF (fun r u tt H1 locs1 ht hvm hw hB hz1 hk1 hS1 => ?_)
    obtain ⟨h2, rfl⟩ := hw
    have h3 := h1.symm.trans h2
    cases h3
    obtain ⟨hP1, -, -⟩ := hB
    rw [ht] at hP1
    exact h X _ _ _ _ hl (gb_oks_c (v := .inr (.inl x)) trivial hs) ho H1 locs1 arr hP1 hS1 hv
  · exact gb_no ho
theorem s_cv {C : String} {T : u_T} {N ci idx nA cL crk : Nat} {y : MethodName} {bytes : ByteArray} {ret : Option FieldType} {rm : Room} {f : gb_F} (hM : ∀ l, gb_Met l y bytes cL ret crk rm f) (hc : vwCl[ci]? = some (C, T, N)) (hw : ∀ w ∈ ([.methodLink own idx y, .instanceMethod y, .selects C y y, .initialized C, .code y bytes cL ret] : List Cond), w ∈ gb_B)
    (hy : y.cls = C ∧ y.cls ≠ "java/lang/invoke/MethodHandle" ∧ y.cls ≠ "java/lang/invoke/VarHandle" ∧ (parseMethodDescriptor y.desc).map (fun d => d.parameters.length) = some nA) (hrm : rm.cells = 0 ∧ rm.slots = 0) (hR : rm.frames + 1 ≤ R.frames ∧ 8 + (cL + 11) + rm.locals ≤ R.locals) (d : decode cc pc = .ok (.invokevirtual idx, 3)) (h : gb_S own cc nL R rk (pc + 3) n) : gb_S own cc nL R rk pc (o_cv nA ci crk f n) := by
  intro p l e s m args below meth c g A cells slots Qo X lv st σ out hl hs ho H locs arr hP hS hv
  obtain ⟨hx, hb, hml, hown, hts, hK, hA, hD, hcs, hrt⟩ := id X
  unfold o_cv at ho
  obtain ⟨as, t1, rfl, hlen, ho1⟩ := gb_tk_s ho
  obtain ⟨r, t, rfl, ho2⟩ := gb_pR_s (st := t1) ho1
  obtain ⟨fs, hkd, ho3⟩ := gb_ob_s ho2
  obtain ⟨hq, ho4⟩ := gb_gd_s ho3
  obtain ⟨o, hf, ho5⟩ := gb_cb_s ho4
  rw [List.append_nil] at hf
  have hst : gb_oks (.inr (.inr r) :: t) := fun w hw => hs w (List.mem_append_right _ hw)
  have has : gb_oks (.inr (.inr r) :: as) := gb_oks_c (gb_oks_h hst) (fun w hw => hs w (List.mem_append_left _ (List.mem_reverse.mpr hw)))
  have hG : GoodIn gb_B (wsV own idx C y (.code y bytes cL ret :: gb_B)) := by
    intro w hw1
    rcases List.mem_append.mp hw1 with h1 | h1
    · exact gb_B_in w (hw w (List.mem_append_left [Cond.code y bytes cL ret] h1))
    · rcases List.mem_cons.mp h1 with rfl | h1
      · exact gb_B_in _ (hw _ (List.mem_of_getElem? (i := 4) rfl))
      · exact gb_B_in w h1
  have hsum := gb_cs_s g t
  refine gb_back X h (o := o) (σ := σ) hl (gb_oks_t hst) ho5 hP hS hv (a := (Value.ref (g.2.2.1 r.1 r.2) :: as.map (gb_v g)).toArray) ?_
  exact va_runV (As := as.map (gb_v g)) (rest := t.map (gb_v g)) ⟨hx, hb, hml, hown, hts⟩ (hM l g (.inr (.inr r) :: as) σ o H.size has hf) (cwV nA hts hG rfl hrm.1 hrm.2 hy hR) ⟨gb_bl, gb_rcv (gb_oks_h hst) hkd hc hK hP, fun U hU hW => ⟨rfl, by rw [hU], by rw [hU]; exact hP, va_K.moved hW.alike hK, (hD σ).weaken (fun _ _ _ _ => trivial)⟩⟩ rfl (by rw [List.length_map, hlen]) hv.1 (by rw [List.map_append, List.map_reverse]; rfl) (by rw [hsum]; exact Nat.le_trans (Nat.le_of_eq (by simp [JFrame.monitorRoom])) (Nat.le_of_ble_eq_true hq)) d hcs
theorem s_cs {idx nA cL crk : Nat} {y : MethodName} {bytes : ByteArray} {ret : Option FieldType} {rm : Room} {f : gb_F} (hM : ∀ l, gb_Met l y bytes cL ret crk rm f) (hw : ∀ w ∈ ([.methodLink own idx y, .static y, .initialized y.cls, .code y bytes cL ret] : List Cond), w ∈ gb_B)
    (hy : y.cls ≠ "java/lang/invoke/MethodHandle" ∧ y.cls ≠ "java/lang/invoke/VarHandle" ∧ (parseMethodDescriptor y.desc).map (fun d => d.parameters.length) = some nA) (hrm : rm.cells = 0 ∧ rm.slots = 0) (hR : rm.frames + 1 ≤ R.frames ∧ 8 + (cL + 11) + rm.locals ≤ R.locals) (d : decode cc pc = .ok (.invokestatic idx, 3)) (h : gb_S own cc nL R rk (pc + 3) n) : gb_S own cc nL R rk pc (o_cs nA crk f n) := by
  intro p l e s m args below meth c g A cells slots Qo X lv st σ out hl hs ho H locs arr hP hS hv
  obtain ⟨hx, hb, hml, hown, hts, hK, hA, hD, hcs, hrt⟩ := id X
  unfold o_cs at ho
  obtain ⟨as, t, rfl, hlen, ho1⟩ := gb_tk_s ho
  obtain ⟨hq, ho2⟩ := gb_gd_s ho1
  obtain ⟨o, hf, ho3⟩ := gb_cb_s ho2
  rw [List.append_nil] at hf
  have hst : gb_oks t := fun w hw => hs w (List.mem_append_right _ hw)
  have has : gb_oks as := fun w hw => hs w (List.mem_append_left _ (List.mem_reverse.mpr hw))
  have hG : GoodIn gb_B (va_wsS own idx y (.code y bytes cL ret :: gb_B)) := by
    intro w hw1
    rcases List.mem_append.mp hw1 with h1 | h1
    · exact gb_B_in w (hw w (List.mem_append_left [Cond.code y bytes cL ret] h1))
    · rcases List.mem_cons.mp h1 with rfl | h1
      · exact gb_B_in _ (hw _ (List.mem_of_getElem? (i := 3) rfl))
      · exact gb_B_in w h1
  have hsum := gb_cs_s g t
  refine gb_back X h (o := o) (σ := σ) hl hst ho3 hP hS hv (a := (as.map (gb_v g)).toArray) ?_
  exact va_runS (As := as.map (gb_v g)) (rest := t.map (gb_v g)) ⟨hx, hb, hml, hown, hts⟩ (hM l g as σ o H.size has hf) (va_cwS nA hts hG rfl hrm.1 hrm.2 hy hR) ⟨gb_bl, fun U hU hW => ⟨rfl, by rw [hU], by rw [hU]; exact hP, va_K.moved hW.alike hK, (hD σ).weaken (fun _ _ _ _ => trivial)⟩⟩ rfl (by rw [List.length_map, hlen]) hv.1 (by rw [List.map_append, List.map_reverse]) (by rw [hsum]; exact Nat.le_trans (Nat.le_of_eq (by simp [JFrame.monitorRoom])) (Nat.le_of_ble_eq_true hq)) d hcs
end SMEM
