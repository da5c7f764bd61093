/-! OPS: an instruction over (locals, stack, memory), with what follows as an argument -/
def gb_gI (lv : gb_L) (i : Nat) (f : Int32 → gb_R) : gb_R := match gb_get lv i with
  | some (.inl x) => f x
  | _ => none
def gb_gL (lv : gb_L) (i : Nat) (f : Int64 → gb_R) : gb_R := match gb_get lv i with
  | some (.inr (.inl x)) => f x
  | _ => none
def gb_gR (lv : gb_L) (i : Nat) (f : Nat × Nat → gb_R) : gb_R := match gb_get lv i with
  | some (.inr (.inr x)) => f x
  | _ => none
def gb_pA (st : List gb_V) (f : gb_V → List gb_V → gb_R) : gb_R := match st with
  | v :: t => f v t
  | [] => none
def gb_pI (st : List gb_V) (f : Int32 → List gb_V → gb_R) : gb_R := match st with
  | .inl x :: t => f x t
  | _ => none
def gb_pL (st : List gb_V) (f : Int64 → List gb_V → gb_R) : gb_R := match st with
  | .inr (.inl x) :: t => f x t
  | _ => none
def gb_pR (st : List gb_V) (f : Nat × Nat → List gb_V → gb_R) : gb_R := match st with
  | .inr (.inr x) :: t => f x t
  | _ => none
def gb_gd (b : Bool) (f : gb_R) : gb_R := match b with
  | true => f
  | false => none
def gb_ob (k ci : Nat) (f : List gb_Fs → gb_R) : gb_R := match gb_kd k with
  | .inl o => gb_gd (Nat.beq o.1 ci) (f o.2)
  | .inr _ => none
def gb_ar (k tg : Nat) (f : Nat → (Nat → Nat → Nat × Nat) → gb_R) : gb_R := match gb_kd k with
  | .inr a => gb_gd (Nat.beq a.1 tg) (f a.2.1 a.2.2)
  | .inl _ => none
def gb_in (i : Int32) (n : Nat) : Bool := !(decide (i < 0) || Nat.ble n i.toNatClampNeg)
theorem gb_in_s {i : Int32} {n : Nat} (h : gb_in i n = true) : vp_in i n := by
  unfold gb_in at h
  unfold vp_in
  intro hc
  rcases hc with hc | hc
  · simp [hc] at h
  · rw [Nat.ble_eq_true_of_le hc] at h
    simp at h
theorem gb_no {out : Option gb_V × gb_M} {C : Prop} (h : (none : gb_R) = some out) : C := by cases h
theorem gb_gd_s {b : Bool} {f : gb_R} {out} (h : gb_gd b f = some out) : b = true ∧ f = some out := by
  cases b with
  | true => exact ⟨rfl, h⟩
  | false => exact gb_no h
theorem gb_gI_s {lv : gb_L} {i : Nat} {f : Int32 → gb_R} {out} (h : gb_gI lv i f = some out) : ∃ x, gb_get lv i = some (.inl x) ∧ f x = some out := by
  unfold gb_gI at h
  cases hg : gb_get lv i with
  | none => rw [hg] at h; exact gb_no h
  | some v =>
    rw [hg] at h
    rcases v with x | x | x
    · exact ⟨x, rfl, h⟩
    · exact gb_no h
    · exact gb_no h
theorem gb_gL_s {lv : gb_L} {i : Nat} {f : Int64 → gb_R} {out} (h : gb_gL lv i f = some out) : ∃ x, gb_get lv i = some (.inr (.inl x)) ∧ f x = some out := by
  unfold gb_gL at h
  cases hg : gb_get lv i with
  | none => rw [hg] at h; exact gb_no h
  | some v =>
    rw [hg] at h
    rcases v with x | x | x
    · exact gb_no h
    · exact ⟨x, rfl, h⟩
    · exact gb_no h
theorem gb_gR_s {lv : gb_L} {i : Nat} {f : Nat × Nat → gb_R} {out} (h : gb_gR lv i f = some out) : ∃ x, gb_get lv i = some (.inr (.inr x)) ∧ f x = some out := by
  unfold gb_gR at h
  cases hg : gb_get lv i with
  | none => rw [hg] at h; exact gb_no h
  | some v =>
    rw [hg] at h
    rcases v with x | x | x
    · exact gb_no h
    · exact gb_no h
    · exact ⟨x, rfl, h⟩
theorem gb_pA_s {st : List gb_V} {f : gb_V → List gb_V → gb_R} {out} (h : gb_pA st f = some out) : ∃ x t, st = x :: t ∧ f x t = some out := by
  rcases st with _ | ⟨v, t⟩
  · exact gb_no h
  · exact ⟨v, t, rfl, h⟩
theorem gb_pI_s {st : List gb_V} {f : Int32 → List gb_V → gb_R} {out} (h : gb_pI st f = some out) : ∃ x t, st = .inl x :: t ∧ f x t = some out := by
  rcases st with _ | ⟨x | x | x, t⟩
  · exact gb_no h
  · exact ⟨x, t, rfl, h⟩
  · exact gb_no h
  · exact gb_no h
theorem gb_pL_s {st : List gb_V} {f : Int64 → List gb_V → gb_R} {out} (h : gb_pL st f = some out) : ∃ x t, st = .inr (.inl x) :: t ∧ f x t = some out := by
  rcases st with _ | ⟨x | x | x, t⟩
  · exact gb_no h
  · exact gb_no h
  · exact ⟨x, t, rfl, h⟩
  · exact gb_no h
theorem gb_pR_s {st : List gb_V} {f : Nat × Nat → List gb_V → gb_R} {out} (h : gb_pR st f = some out) : ∃ x t, st = .inr (.inr x) :: t ∧ f x t = some out := by
  rcases st with _ | ⟨x | x | x, t⟩
  · exact gb_no h
  · exact gb_no h
  · exact gb_no h
  · exact ⟨x, t, rfl, h⟩
theorem gb_ob_s {k ci : Nat} {f : List gb_Fs → gb_R} {out} (h : gb_ob k ci f = some out) : ∃ fs, gb_kd k = .inl (ci, fs) ∧ f fs = some out := by
  unfold gb_ob at h
  cases hk : gb_kd k with
  | inl o =>
    rw [hk] at h
    obtain ⟨h1, h2⟩ := gb_gd_s h
    obtain ⟨a, fs⟩ := o
    have : a = ci := Nat.eq_of_beq_eq_true h1
    subst this
    exact ⟨fs, rfl, h2⟩
  | inr a => rw [hk] at h; exact gb_no h
theorem gb_ar_s {k tg : Nat} {f : Nat → (Nat → Nat → Nat × Nat) → gb_R} {out} (h : gb_ar k tg f = some out) : ∃ n φ, gb_kd k = .inr (tg, n, φ) ∧ f n φ = some out := by
  unfold gb_ar at h
  cases hk : gb_kd k with
  | inr o =>
    rw [hk] at h
    obtain ⟨h1, h2⟩ := gb_gd_s h
    obtain ⟨a, n, φ⟩ := o
    have : a = tg := Nat.eq_of_beq_eq_true h1
    subst this
    exact ⟨n, φ, rfl, h2⟩
  | inl a => rw [hk] at h; exact gb_no h
/-! one continuation at most -/
def gb_O1 (E : gb_C → gb_R) : Prop := (∃ lv' st' σ', ∀ n, E n = n lv' st' σ') ∨ ∀ n, E n = none
theorem oq_k {lv st σ} : gb_O1 (fun n => n lv st σ) := Or.inl ⟨_, _, _, fun _ => rfl⟩
theorem oq_0 : gb_O1 (fun _ => none) := Or.inr fun _ => rfl
theorem oq_gd {b : Bool} {E : gb_C → gb_R} (h : gb_O1 E) : gb_O1 (fun n => gb_gd b (E n)) := by
  cases b with
  | true => exact h
  | false => exact oq_0
theorem oq_gI {lv : gb_L} {i : Nat} {E : gb_C → Int32 → gb_R} (h : ∀ x, gb_O1 (fun n => E n x)) : gb_O1 (fun n => gb_gI lv i (E n)) := by
  unfold gb_gI
  cases gb_get lv i with
  | none => exact oq_0
  | some v => rcases v with x | x | x <;> first | exact h x | exact oq_0
theorem oq_gL {lv : gb_L} {i : Nat} {E : gb_C → Int64 → gb_R} (h : ∀ x, gb_O1 (fun n => E n x)) : gb_O1 (fun n => gb_gL lv i (E n)) := by
  unfold gb_gL
  cases gb_get lv i with
  | none => exact oq_0
  | some v => rcases v with x | x | x <;> first | exact h x | exact oq_0
theorem oq_gR {lv : gb_L} {i : Nat} {E : gb_C → Nat × Nat → gb_R} (h : ∀ x, gb_O1 (fun n => E n x)) : gb_O1 (fun n => gb_gR lv i (E n)) := by
  unfold gb_gR
  cases gb_get lv i with
  | none => exact oq_0
  | some v => rcases v with x | x | x <;> first | exact h x | exact oq_0
theorem oq_pA {st : List gb_V} {E : gb_C → gb_V → List gb_V → gb_R} (h : ∀ x t, gb_O1 (fun n => E n x t)) : gb_O1 (fun n => gb_pA st (E n)) := by
  rcases st with _ | ⟨x, t⟩
  · exact oq_0
  · exact h x t
theorem oq_pI {st : List gb_V} {E : gb_C → Int32 → List gb_V → gb_R} (h : ∀ x t, gb_O1 (fun n => E n x t)) : gb_O1 (fun n => gb_pI st (E n)) := by
  rcases st with _ | ⟨x | x | x, t⟩ <;> first | exact h x t | exact oq_0
theorem oq_pL {st : List gb_V} {E : gb_C → Int64 → List gb_V → gb_R} (h : ∀ x t, gb_O1 (fun n => E n x t)) : gb_O1 (fun n => gb_pL st (E n)) := by
  rcases st with _ | ⟨x | x | x, t⟩ <;> first | exact h x t | exact oq_0
theorem oq_pR {st : List gb_V} {E : gb_C → Nat × Nat → List gb_V → gb_R} (h : ∀ x t, gb_O1 (fun n => E n x t)) : gb_O1 (fun n => gb_pR st (E n)) := by
  rcases st with _ | ⟨x | x | x, t⟩ <;> first | exact h x t | exact oq_0
theorem oq_ob {k ci : Nat} {E : gb_C → List gb_Fs → gb_R} (h : ∀ x, gb_O1 (fun n => E n x)) : gb_O1 (fun n => gb_ob k ci (E n)) := by
  unfold gb_ob
  cases gb_kd k with
  | inl o => exact oq_gd (h _)
  | inr a => exact oq_0
theorem oq_ar {k tg : Nat} {E : gb_C → Nat → (Nat → Nat → Nat × Nat) → gb_R} (h : ∀ x y, gb_O1 (fun n => E n x y)) : gb_O1 (fun n => gb_ar k tg (E n)) := by
  unfold gb_ar
  cases gb_kd k with
  | inr o => exact oq_gd (h _ _)
  | inl a => exact oq_0
section SOPS
variable {own : String} {cc : ByteArray} {nL : Nat} {R : Room} {rk pc : Nat} {n : gb_C}
def o_il (i : Nat) (n : gb_C) : gb_C := fun lv st σ => gb_gI lv i fun x => n lv (.inl x :: st) σ
theorem q_il (i : Nat) : gb_Op (o_il i) := fun _ _ _ => oq_gI fun _ => oq_k
theorem s_il {i : Nat} (d : decode cc pc = .ok (.iload i, 2)) (h : gb_S own cc nL R rk (pc + 2) n) : gb_S own cc nL R rk pc (o_il i n) := by
  intro p l e s m args below meth c g A cells slots Qo X lv st σ out hl hs ho H locs arr hP hS hv
  obtain ⟨hx, hb, hml, hown, hts, hK, hA, hD, hcs, hrt⟩ := id X
  obtain ⟨x, hg, ho⟩ := gb_gI_s ho
  exact lv_iload hx hb d (gb_lk hv hg) (h X _ _ _ _ hl (gb_oks_c (v := .inl x) trivial hs) ho H locs arr hP hS hv)
theorem s_iln {k : Fin 4} (i : Nat) (hi : (k : Nat) = i) (d : decode cc pc = .ok (.iload_n k, 1)) (h : gb_S own cc nL R rk (pc + 1) n) : gb_S own cc nL R rk pc (o_il i n) := by
  intro p l e s m args below meth c g A cells slots Qo X lv st σ out hl hs ho H locs arr hP hS hv
  obtain ⟨hx, hb, hml, hown, hts, hK, hA, hD, hcs, hrt⟩ := id X
  obtain ⟨x, hg, ho⟩ := gb_gI_s ho
  exact lv_iload_n hx hb d hi (gb_lk hv hg) (h X _ _ _ _ hl (gb_oks_c (v := .inl x) trivial hs) ho H locs arr hP hS hv)
def o_ll (i : Nat) (n : gb_C) : gb_C := fun lv st σ => gb_gL lv i fun x => n lv (.inr (.inl x) :: st) σ
theorem q_ll (i : Nat) : gb_Op (o_ll i) := fun _ _ _ => oq_gL fun _ => oq_k
theorem s_ll {i : Nat} (d : decode cc pc = .ok (.lload i, 2)) (h : gb_S own cc nL R rk (pc + 2) n) : gb_S own cc nL R rk pc (o_ll i n) := by
  intro p l e s m args below meth c g A cells slots Qo X lv st σ out hl hs ho H locs arr hP hS hv
  obtain ⟨hx, hb, hml, hown, hts, hK, hA, hD, hcs, hrt⟩ := id X
  obtain ⟨x, hg, ho⟩ := gb_gL_s ho
  exact lv_lload hx hb d (gb_lk hv hg) (h X _ _ _ _ hl (gb_oks_c (v := .inr (.inl x)) trivial hs) ho H locs arr hP hS hv)
theorem s_lln {k : Fin 4} (i : Nat) (hi : (k : Nat) = i) (d : decode cc pc = .ok (.lload_n k, 1)) (h : gb_S own cc nL R rk (pc + 1) n) : gb_S own cc nL R rk pc (o_ll i n) := by
  intro p l e s m args below meth c g A cells slots Qo X lv st σ out hl hs ho H locs arr hP hS hv
  obtain ⟨hx, hb, hml, hown, hts, hK, hA, hD, hcs, hrt⟩ := id X
  obtain ⟨x, hg, ho⟩ := gb_gL_s ho
  exact lv_lload_n hx hb d hi (gb_lk hv hg) (h X _ _ _ _ hl (gb_oks_c (v := .inr (.inl x)) trivial hs) ho H locs arr hP hS hv)
def o_al (i : Nat) (n : gb_C) : gb_C := fun lv st σ => gb_gR lv i fun x => n lv (.inr (.inr x) :: st) σ
theorem q_al (i : Nat) : gb_Op (o_al i) := fun _ _ _ => oq_gR fun _ => oq_k
theorem s_al {i : Nat} (d : decode cc pc = .ok (.aload i, 2)) (h : gb_S own cc nL R rk (pc + 2) n) : gb_S own cc nL R rk pc (o_al i n) := by
  intro p l e s m args below meth c g A cells slots Qo X lv st σ out hl hs ho H locs arr hP hS hv
  obtain ⟨hx, hb, hml, hown, hts, hK, hA, hD, hcs, hrt⟩ := id X
  obtain ⟨x, hg, ho⟩ := gb_gR_s ho
  exact lv_aload hx hb d (gb_lk hv hg) (h X _ _ _ _ hl (gb_oks_c (v := .inr (.inr x)) (hl _ (gb_get_mem hg)) hs) ho H locs arr hP hS hv)
theorem s_aln {k : Fin 4} (i : Nat) (hi : (k : Nat) = i) (d : decode cc pc = .ok (.aload_n k, 1)) (h : gb_S own cc nL R rk (pc + 1) n) : gb_S own cc nL R rk pc (o_al i n) := by
  intro p l e s m args below meth c g A cells slots Qo X lv st σ out hl hs ho H locs arr hP hS hv
  obtain ⟨hx, hb, hml, hown, hts, hK, hA, hD, hcs, hrt⟩ := id X
  obtain ⟨x, hg, ho⟩ := gb_gR_s ho
  exact lv_aload_n hx hb d hi (gb_lk hv hg) (h X _ _ _ _ hl (gb_oks_c (v := .inr (.inr x)) (hl _ (gb_get_mem hg)) hs) ho H locs arr hP hS hv)
def o_ci (v : Int32) (n : gb_C) : gb_C := fun lv st σ => n lv (.inl v :: st) σ
theorem q_ci (v : Int32) : gb_Op (o_ci v) := fun _ _ _ => oq_k
def o_cl (v : Int64) (n : gb_C) : gb_C := fun lv st σ => n lv (.inr (.inl v) :: st) σ
theorem q_cl (v : Int64) : gb_Op (o_cl v) := fun _ _ _ => oq_k
theorem s_iconst {k : Int} {v : Int32} (hv0 : Int32.ofInt k = v) (d : decode cc pc = .ok (.iconst k, 1)) (h : gb_S own cc nL R rk (pc + 1) n) : gb_S own cc nL R rk pc (o_ci v n) := by
  intro p l e s m args below meth c g A cells slots Qo X lv st σ out hl hs ho H locs arr hP hS hv
  obtain ⟨hx, hb, hml, hown, hts, hK, hA, hD, hcs, hrt⟩ := id X
  exact lv_iconst hx hb d hv0 (h X _ _ _ _ hl (gb_oks_c (v := .inl v) trivial hs) ho H locs arr hP hS hv)
theorem s_bipush {k : Int} {v : Int32} (hv0 : (Int8.ofInt k).toInt32 = v) (d : decode cc pc = .ok (.bipush k, 2)) (h : gb_S own cc nL R rk (pc + 2) n) : gb_S own cc nL R rk pc (o_ci v n) := by
  intro p l e s m args below meth c g A cells slots Qo X lv st σ out hl hs ho H locs arr hP hS hv
  obtain ⟨hx, hb, hml, hown, hts, hK, hA, hD, hcs, hrt⟩ := id X
  exact lv_bipush hx hb d hv0 (h X _ _ _ _ hl (gb_oks_c (v := .inl v) trivial hs) ho H locs arr hP hS hv)
theorem s_sipush {k : Int} {v : Int32} (hv0 : (Int16.ofInt k).toInt32 = v) (d : decode cc pc = .ok (.sipush k, 3)) (h : gb_S own cc nL R rk (pc + 3) n) : gb_S own cc nL R rk pc (o_ci v n) := by
  intro p l e s m args below meth c g A cells slots Qo X lv st σ out hl hs ho H locs arr hP hS hv
  obtain ⟨hx, hb, hml, hown, hts, hK, hA, hD, hcs, hrt⟩ := id X
  exact lv_sipush hx hb d hv0 (h X _ _ _ _ hl (gb_oks_c (v := .inl v) trivial hs) ho H locs arr hP hS hv)
theorem s_ldc {k : Nat} {v : Int32} (hw : Cond.constant own k v ∈ gb_B) (d : decode cc pc = .ok (.ldc k, 2)) (h : gb_S own cc nL R rk (pc + 2) n) : gb_S own cc nL R rk pc (o_ci v n) := by
  intro p l e s m args below meth c g A cells slots Qo X lv st σ out hl hs ho H locs arr hP hS hv
  obtain ⟨hx, hb, hml, hown, hts, hK, hA, hD, hcs, hrt⟩ := id X
  exact lv_ldc hx hb hown (hts _ hw) d (h X _ _ _ _ hl (gb_oks_c (v := .inl v) trivial hs) ho H locs arr hP hS hv)
theorem s_ldcw {k : Nat} {v : Int32} (hw : Cond.constant own k v ∈ gb_B) (d : decode cc pc = .ok (.ldc_w k, 3)) (h : gb_S own cc nL R rk (pc + 3) n) : gb_S own cc nL R rk pc (o_ci v n) := by
  intro p l e s m args below meth c g A cells slots Qo X lv st σ out hl hs ho H locs arr hP hS hv
  obtain ⟨hx, hb, hml, hown, hts, hK, hA, hD, hcs, hrt⟩ := id X
  exact lv_ldcw hx hb hown (hts _ hw) d (h X _ _ _ _ hl (gb_oks_c (v := .inl v) trivial hs) ho H locs arr hP hS hv)
theorem s_ldc2 {k : Nat} {v : Int64} (hw : Cond.constantLong own k v ∈ gb_B) (d : decode cc pc = .ok (.ldc2_w k, 3)) (h : gb_S own cc nL R rk (pc + 3) n) : gb_S own cc nL R rk pc (o_cl v n) := by
  intro p l e s m args below meth c g A cells slots Qo X lv st σ out hl hs ho H locs arr hP hS hv
  obtain ⟨hx, hb, hml, hown, hts, hK, hA, hD, hcs, hrt⟩ := id X
  exact lv_ldc2 hx hb hown (hts _ hw) d (h X _ _ _ _ hl (gb_oks_c (v := .inr (.inl v)) trivial hs) ho H locs arr hP hS hv)
theorem s_lconst {k : Fin 2} {v : Int64} (hv0 : Int64.ofNat (k : Nat) = v) (d : decode cc pc = .ok (.lconst k, 1)) (h : gb_S own cc nL R rk (pc + 1) n) : gb_S own cc nL R rk pc (o_cl v n) := by
  intro p l e s m args below meth c g A cells slots Qo X lv st σ out hl hs ho H locs arr hP hS hv
  obtain ⟨hx, hb, hml, hown, hts, hK, hA, hD, hcs, hrt⟩ := id X
  exact lv_lconst hx hb d hv0 (h X _ _ _ _ hl (gb_oks_c (v := .inr (.inl v)) trivial hs) ho H locs arr hP hS hv)
def o_is (i : Nat) (n : gb_C) : gb_C := fun lv st σ => gb_pI st fun x t => n (gb_put lv i (.inl x)) t σ
theorem q_is (i : Nat) : gb_Op (o_is i) := fun _ _ _ => oq_pI fun _ _ => oq_k
def o_ls (i : Nat) (n : gb_C) : gb_C := fun lv st σ => gb_pL st fun x t => n (gb_putL lv i (.inr (.inl x))) t σ
theorem q_ls (i : Nat) : gb_Op (o_ls i) := fun _ _ _ => oq_pL fun _ _ => oq_k
def o_inc (i : Nat) (k : Int32) (n : gb_C) : gb_C := fun lv st σ => gb_gI lv i fun x => n (gb_put lv i (.inl (x + k))) st σ
theorem q_inc (i : Nat) (k : Int32) : gb_Op (o_inc i k) := fun _ _ _ => oq_gI fun _ => oq_k
theorem s_is {i : Nat} (hn : i < nL) (d : decode cc pc = .ok (.istore i, 2)) (h : gb_S own cc nL R rk (pc + 2) n) : gb_S own cc nL R rk pc (o_is i n) := by
  intro p l e s m args below meth c g A cells slots Qo X lv st σ out hl hs ho H locs arr hP hS hv
  obtain ⟨hx, hb, hml, hown, hts, hK, hA, hD, hcs, hrt⟩ := id X
  obtain ⟨x, t, rfl, ho⟩ := gb_pI_s ho
  exact lv_istore hx hb d hv hn (gb_put_c g lv i (.inl x)) (fun ls1 hv1 => h X _ _ _ _ (gb_okl_put (v := .inl x) hl trivial) (gb_oks_t hs) ho H locs ls1 hP hS hv1)
theorem s_isn {k : Fin 4} (i : Nat) (hi : (k : Nat) = i) (hn : i < nL) (d : decode cc pc = .ok (.istore_n k, 1)) (h : gb_S own cc nL R rk (pc + 1) n) : gb_S own cc nL R rk pc (o_is i n) := by
  intro p l e s m args below meth c g A cells slots Qo X lv st σ out hl hs ho H locs arr hP hS hv
  obtain ⟨hx, hb, hml, hown, hts, hK, hA, hD, hcs, hrt⟩ := id X
  obtain ⟨x, t, rfl, ho⟩ := gb_pI_s ho
  exact lv_istore_n hx hb d hi hv hn (gb_put_c g lv i (.inl x)) (fun ls1 hv1 => h X _ _ _ _ (gb_okl_put (v := .inl x) hl trivial) (gb_oks_t hs) ho H locs ls1 hP hS hv1)
theorem s_ls {i : Nat} (hn : i + 1 < nL) (d : decode cc pc = .ok (.lstore i, 2)) (h : gb_S own cc nL R rk (pc + 2) n) : gb_S own cc nL R rk pc (o_ls i n) := by
  intro p l e s m args below meth c g A cells slots Qo X lv st σ out hl hs ho H locs arr hP hS hv
  obtain ⟨hx, hb, hml, hown, hts, hK, hA, hD, hcs, hrt⟩ := id X
  obtain ⟨x, t, rfl, ho⟩ := gb_pL_s ho
  exact lv_lstore hx hb d hv hn (gb_putL_c g lv i (.inr (.inl x))) (fun ls1 hv1 => h X _ _ _ _ (gb_okl_putL (v := .inr (.inl x)) hl trivial) (gb_oks_t hs) ho H locs ls1 hP hS hv1)
theorem s_lsn {k : Fin 4} (i : Nat) (hi : (k : Nat) = i) (hn : i + 1 < nL) (d : decode cc pc = .ok (.lstore_n k, 1)) (h : gb_S own cc nL R rk (pc + 1) n) : gb_S own cc nL R rk pc (o_ls i n) := by
  intro p l e s m args below meth c g A cells slots Qo X lv st σ out hl hs ho H locs arr hP hS hv
  obtain ⟨hx, hb, hml, hown, hts, hK, hA, hD, hcs, hrt⟩ := id X
  obtain ⟨x, t, rfl, ho⟩ := gb_pL_s ho
  exact lv_lstore_n hx hb d hi hv hn (gb_putL_c g lv i (.inr (.inl x))) (fun ls1 hv1 => h X _ _ _ _ (gb_okl_putL (v := .inr (.inl x)) hl trivial) (gb_oks_t hs) ho H locs ls1 hP hS hv1)
theorem s_inc {i : Nat} {z : Int} {k : Int32} (hz : Int32.ofInt z = k) (hn : i < nL) (d : decode cc pc = .ok (.iinc i z, 3)) (h : gb_S own cc nL R rk (pc + 3) n) : gb_S own cc nL R rk pc (o_inc i k n) := by
  intro p l e s m args below meth c g A cells slots Qo X lv st σ out hl hs ho H locs arr hP hS hv
  obtain ⟨hx, hb, hml, hown, hts, hK, hA, hD, hcs, hrt⟩ := id X
  obtain ⟨x, hg, ho⟩ := gb_gI_s ho
  obtain ⟨k0, hk0⟩ := List.getElem?_of_mem (List.mem_map.mpr ⟨(i, .inl x), gb_get_mem hg, rfl⟩ : gb_q g (i, .inl x) ∈ lv.map (gb_q g))
  exact lv_iinc (k := k0) (x := x) (v := x + k) hx hb d hv hk0 (by rw [hz]) hn (gb_put_c g lv i (.inl (x + k))) (fun ls1 hv1 => h X _ _ _ _ (gb_okl_put (v := .inl (x + k)) hl trivial) hs ho H locs ls1 hP hS hv1)
def o_ib (f : Int32 → Int32 → Int32) (n : gb_C) : gb_C := fun lv st σ => gb_pI st fun y t => gb_pI t fun x t => n lv (.inl (f x y) :: t) σ
theorem q_ib (f : Int32 → Int32 → Int32) : gb_Op (o_ib f) := fun _ _ _ => oq_pI fun _ _ => oq_pI fun _ _ => oq_k
def o_lb (f : Int64 → Int64 → Int64) (n : gb_C) : gb_C := fun lv st σ => gb_pL st fun y t => gb_pL t fun x t => n lv (.inr (.inl (f x y)) :: t) σ
theorem q_lb (f : Int64 → Int64 → Int64) : gb_Op (o_lb f) := fun _ _ _ => oq_pL fun _ _ => oq_pL fun _ _ => oq_k
def o_lsh (f : Int64 → Int32 → Int64) (n : gb_C) : gb_C := fun lv st σ => gb_pI st fun y t => gb_pL t fun x t => n lv (.inr (.inl (f x y)) :: t) σ
theorem q_lsh (f : Int64 → Int32 → Int64) : gb_Op (o_lsh f) := fun _ _ _ => oq_pI fun _ _ => oq_pL fun _ _ => oq_k
def o_ig (b : Int32 → Bool) (f : Int32 → Int32 → Int32) (n : gb_C) : gb_C := fun lv st σ => gb_pI st fun y t => gb_pI t fun x t => gb_gd (b y) (n lv (.inl (f x y) :: t) σ)
theorem q_ig (b : Int32 → Bool) (f : Int32 → Int32 → Int32) : gb_Op (o_ig b f) := fun _ _ _ => oq_pI fun _ _ => oq_pI fun _ _ => oq_gd oq_k
theorem s_iadd (d : decode cc pc = .ok (.iadd, 1)) (h : gb_S own cc nL R rk (pc + 1) n) : gb_S own cc nL R rk pc (o_ib (fun x y => x + y) n) := by
  intro p l e s m args below meth c g A cells slots Qo X lv st σ out hl hs ho H locs arr hP hS hv
  obtain ⟨hx, hb, hml, hown, hts, hK, hA, hD, hcs, hrt⟩ := id X
  obtain ⟨y, t1, rfl, ho⟩ := gb_pI_s ho
  obtain ⟨x, t, rfl, ho⟩ := gb_pI_s (st := t1) ho
  exact lv_iadd hx hb d (h X _ _ _ _ hl (gb_oks_c (v := .inl _) trivial (gb_oks_t (gb_oks_t hs))) ho H locs arr hP hS hv)
theorem s_isub (d : decode cc pc = .ok (.isub, 1)) (h : gb_S own cc nL R rk (pc + 1) n) : gb_S own cc nL R rk pc (o_ib (fun x y => x - y) n) := by
  intro p l e s m args below meth c g A cells slots Qo X lv st σ out hl hs ho H locs arr hP hS hv
  obtain ⟨hx, hb, hml, hown, hts, hK, hA, hD, hcs, hrt⟩ := id X
  obtain ⟨y, t1, rfl, ho⟩ := gb_pI_s ho
  obtain ⟨x, t, rfl, ho⟩ := gb_pI_s (st := t1) ho
  exact lv_isub hx hb d (h X _ _ _ _ hl (gb_oks_c (v := .inl _) trivial (gb_oks_t (gb_oks_t hs))) ho H locs arr hP hS hv)
theorem s_imul (d : decode cc pc = .ok (.imul, 1)) (h : gb_S own cc nL R rk (pc + 1) n) : gb_S own cc nL R rk pc (o_ib (fun x y => x * y) n) := by
  intro p l e s m args below meth c g A cells slots Qo X lv st σ out hl hs ho H locs arr hP hS hv
  obtain ⟨hx, hb, hml, hown, hts, hK, hA, hD, hcs, hrt⟩ := id X
  obtain ⟨y, t1, rfl, ho⟩ := gb_pI_s ho
  obtain ⟨x, t, rfl, ho⟩ := gb_pI_s (st := t1) ho
  exact lv_imul hx hb d (h X _ _ _ _ hl (gb_oks_c (v := .inl _) trivial (gb_oks_t (gb_oks_t hs))) ho H locs arr hP hS hv)
theorem s_iand (d : decode cc pc = .ok (.iand, 1)) (h : gb_S own cc nL R rk (pc + 1) n) : gb_S own cc nL R rk pc (o_ib (fun x y => x &&& y) n) := by
  intro p l e s m args below meth c g A cells slots Qo X lv st σ out hl hs ho H locs arr hP hS hv
  obtain ⟨hx, hb, hml, hown, hts, hK, hA, hD, hcs, hrt⟩ := id X
  obtain ⟨y, t1, rfl, ho⟩ := gb_pI_s ho
  obtain ⟨x, t, rfl, ho⟩ := gb_pI_s (st := t1) ho
  exact lv_iand hx hb d (h X _ _ _ _ hl (gb_oks_c (v := .inl _) trivial (gb_oks_t (gb_oks_t hs))) ho H locs arr hP hS hv)
theorem s_ior (d : decode cc pc = .ok (.ior, 1)) (h : gb_S own cc nL R rk (pc + 1) n) : gb_S own cc nL R rk pc (o_ib (fun x y => x ||| y) n) := by
  intro p l e s m args below meth c g A cells slots Qo X lv st σ out hl hs ho H locs arr hP hS hv
  obtain ⟨hx, hb, hml, hown, hts, hK, hA, hD, hcs, hrt⟩ := id X
  obtain ⟨y, t1, rfl, ho⟩ := gb_pI_s ho
  obtain ⟨x, t, rfl, ho⟩ := gb_pI_s (st := t1) ho
  exact lv_ior hx hb d (h X _ _ _ _ hl (gb_oks_c (v := .inl _) trivial (gb_oks_t (gb_oks_t hs))) ho H locs arr hP hS hv)
theorem s_ishl (d : decode cc pc = .ok (.ishl, 1)) (h : gb_S own cc nL R rk (pc + 1) n) : gb_S own cc nL R rk pc (o_ib (fun x y => x <<< (y &&& 31)) n) := by
  intro p l e s m args below meth c g A cells slots Qo X lv st σ out hl hs ho H locs arr hP hS hv
  obtain ⟨hx, hb, hml, hown, hts, hK, hA, hD, hcs, hrt⟩ := id X
  obtain ⟨y, t1, rfl, ho⟩ := gb_pI_s ho
  obtain ⟨x, t, rfl, ho⟩ := gb_pI_s (st := t1) ho
  exact lv_ishl hx hb d (h X _ _ _ _ hl (gb_oks_c (v := .inl _) trivial (gb_oks_t (gb_oks_t hs))) ho H locs arr hP hS hv)
theorem s_ishr (d : decode cc pc = .ok (.ishr, 1)) (h : gb_S own cc nL R rk (pc + 1) n) : gb_S own cc nL R rk pc (o_ib (fun x y => x >>> (y &&& 31)) n) := by
  intro p l e s m args below meth c g A cells slots Qo X lv st σ out hl hs ho H locs arr hP hS hv
  obtain ⟨hx, hb, hml, hown, hts, hK, hA, hD, hcs, hrt⟩ := id X
  obtain ⟨y, t1, rfl, ho⟩ := gb_pI_s ho
  obtain ⟨x, t, rfl, ho⟩ := gb_pI_s (st := t1) ho
  exact lv_ishr hx hb d (h X _ _ _ _ hl (gb_oks_c (v := .inl _) trivial (gb_oks_t (gb_oks_t hs))) ho H locs arr hP hS hv)
theorem s_iushr (d : decode cc pc = .ok (.iushr, 1)) (h : gb_S own cc nL R rk (pc + 1) n) : gb_S own cc nL R rk pc (o_ib (fun x y => (x.toUInt32 >>> (y.toUInt32 &&& Int32.toUInt32 31)).toInt32) n) := by
  intro p l e s m args below meth c g A cells slots Qo X lv st σ out hl hs ho H locs arr hP hS hv
  obtain ⟨hx, hb, hml, hown, hts, hK, hA, hD, hcs, hrt⟩ := id X
  obtain ⟨y, t1, rfl, ho⟩ := gb_pI_s ho
  obtain ⟨x, t, rfl, ho⟩ := gb_pI_s (st := t1) ho
  exact lv_iushr hx hb d rfl (h X _ _ _ _ hl (gb_oks_c (v := .inl _) trivial (gb_oks_t (gb_oks_t hs))) ho H locs arr hP hS hv)
theorem s_idiv (d : decode cc pc = .ok (.idiv, 1)) (h : gb_S own cc nL R rk (pc + 1) n) : gb_S own cc nL R rk pc (o_ig (fun y => !(decide (y = 0))) (fun x y => x / y) n) := by
  intro p l e s m args below meth c g A cells slots Qo X lv st σ out hl hs ho H locs arr hP hS hv
  obtain ⟨hx, hb, hml, hown, hts, hK, hA, hD, hcs, hrt⟩ := id X
  obtain ⟨y, t1, rfl, ho⟩ := gb_pI_s ho
  obtain ⟨x, t, rfl, ho⟩ := gb_pI_s (st := t1) ho
  obtain ⟨hq, ho⟩ := gb_gd_s ho
  have hne : ¬ y = 0 := by intro e; simp [e] at hq
  exact lv_idiv hx hb d hne (h X _ _ _ _ hl (gb_oks_c (v := .inl _) trivial (gb_oks_t (gb_oks_t hs))) ho H locs arr hP hS hv)
theorem s_irem (d : decode cc pc = .ok (.irem, 1)) (h : gb_S own cc nL R rk (pc + 1) n) : gb_S own cc nL R rk pc (o_ig (fun y => !(decide (y = 0))) (fun x y => x - x / y * y) n) := by
  intro p l e s m args below meth c g A cells slots Qo X lv st σ out hl hs ho H locs arr hP hS hv
  obtain ⟨hx, hb, hml, hown, hts, hK, hA, hD, hcs, hrt⟩ := id X
  obtain ⟨y, t1, rfl, ho⟩ := gb_pI_s ho
  obtain ⟨x, t, rfl, ho⟩ := gb_pI_s (st := t1) ho
  obtain ⟨hq, ho⟩ := gb_gd_s ho
  have hne : ¬ y = 0 := by intro e; simp [e] at hq
  exact lv_irem hx hb d hne (h X _ _ _ _ hl (gb_oks_c (v := .inl _) trivial (gb_oks_t (gb_oks_t hs))) ho H locs arr hP hS hv)
theorem s_ladd (d : decode cc pc = .ok (.ladd, 1)) (h : gb_S own cc nL R rk (pc + 1) n) : gb_S own cc nL R rk pc (o_lb (fun x y => x + y) n) := by
  intro p l e s m args below meth c g A cells slots Qo X lv st σ out hl hs ho H locs arr hP hS hv
  obtain ⟨hx, hb, hml, hown, hts, hK, hA, hD, hcs, hrt⟩ := id X
  obtain ⟨y, t1, rfl, ho⟩ := gb_pL_s ho
  obtain ⟨x, t, rfl, ho⟩ := gb_pL_s (st := t1) ho
  exact lv_ladd hx hb d (h X _ _ _ _ hl (gb_oks_c (v := .inr (.inl _)) trivial (gb_oks_t (gb_oks_t hs))) ho H locs arr hP hS hv)
theorem s_lsub (d : decode cc pc = .ok (.lsub, 1)) (h : gb_S own cc nL R rk (pc + 1) n) : gb_S own cc nL R rk pc (o_lb (fun x y => x - y) n) := by
  intro p l e s m args below meth c g A cells slots Qo X lv st σ out hl hs ho H locs arr hP hS hv
  obtain ⟨hx, hb, hml, hown, hts, hK, hA, hD, hcs, hrt⟩ := id X
  obtain ⟨y, t1, rfl, ho⟩ := gb_pL_s ho
  obtain ⟨x, t, rfl, ho⟩ := gb_pL_s (st := t1) ho
  exact lv_lsub hx hb d (h X _ _ _ _ hl (gb_oks_c (v := .inr (.inl _)) trivial (gb_oks_t (gb_oks_t hs))) ho H locs arr hP hS hv)
theorem s_land (d : decode cc pc = .ok (.land, 1)) (h : gb_S own cc nL R rk (pc + 1) n) : gb_S own cc nL R rk pc (o_lb (fun x y => x &&& y) n) := by
  intro p l e s m args below meth c g A cells slots Qo X lv st σ out hl hs ho H locs arr hP hS hv
  obtain ⟨hx, hb, hml, hown, hts, hK, hA, hD, hcs, hrt⟩ := id X
  obtain ⟨y, t1, rfl, ho⟩ := gb_pL_s ho
  obtain ⟨x, t, rfl, ho⟩ := gb_pL_s (st := t1) ho
  exact lv_land hx hb d (h X _ _ _ _ hl (gb_oks_c (v := .inr (.inl _)) trivial (gb_oks_t (gb_oks_t hs))) ho H locs arr hP hS hv)
theorem s_lor (d : decode cc pc = .ok (.lor, 1)) (h : gb_S own cc nL R rk (pc + 1) n) : gb_S own cc nL R rk pc (o_lb (fun x y => x ||| y) n) := by
  intro p l e s m args below meth c g A cells slots Qo X lv st σ out hl hs ho H locs arr hP hS hv
  obtain ⟨hx, hb, hml, hown, hts, hK, hA, hD, hcs, hrt⟩ := id X
  obtain ⟨y, t1, rfl, ho⟩ := gb_pL_s ho
  obtain ⟨x, t, rfl, ho⟩ := gb_pL_s (st := t1) ho
  exact lv_lor hx hb d (h X _ _ _ _ hl (gb_oks_c (v := .inr (.inl _)) trivial (gb_oks_t (gb_oks_t hs))) ho H locs arr hP hS hv)
theorem s_lshl (d : decode cc pc = .ok (.lshl, 1)) (h : gb_S own cc nL R rk (pc + 1) n) : gb_S own cc nL R rk pc (o_lsh (fun x y => x <<< (y.toInt64 &&& 63)) n) := by
  intro p l e s m args below meth c g A cells slots Qo X lv st σ out hl hs ho H locs arr hP hS hv
  obtain ⟨hx, hb, hml, hown, hts, hK, hA, hD, hcs, hrt⟩ := id X
  obtain ⟨y, t1, rfl, ho⟩ := gb_pI_s ho
  obtain ⟨x, t, rfl, ho⟩ := gb_pL_s (st := t1) ho
  exact lv_lshl hx hb d rfl (h X _ _ _ _ hl (gb_oks_c (v := .inr (.inl _)) trivial (gb_oks_t (gb_oks_t hs))) ho H locs arr hP hS hv)
theorem s_lshr (d : decode cc pc = .ok (.lshr, 1)) (h : gb_S own cc nL R rk (pc + 1) n) : gb_S own cc nL R rk pc (o_lsh (fun x y => x >>> (y.toInt64 &&& 63)) n) := by
  intro p l e s m args below meth c g A cells slots Qo X lv st σ out hl hs ho H locs arr hP hS hv
  obtain ⟨hx, hb, hml, hown, hts, hK, hA, hD, hcs, hrt⟩ := id X
  obtain ⟨y, t1, rfl, ho⟩ := gb_pI_s ho
  obtain ⟨x, t, rfl, ho⟩ := gb_pL_s (st := t1) ho
  exact lv_lshr hx hb d rfl (h X _ _ _ _ hl (gb_oks_c (v := .inr (.inl _)) trivial (gb_oks_t (gb_oks_t hs))) ho H locs arr hP hS hv)
def o_iu (f : Int32 → Int32) (n : gb_C) : gb_C := fun lv st σ => gb_pI st fun x t => n lv (.inl (f x) :: t) σ
theorem q_iu (f : Int32 → Int32) : gb_Op (o_iu f) := fun _ _ _ => oq_pI fun _ _ => oq_k
def o_i2l (n : gb_C) : gb_C := fun lv st σ => gb_pI st fun x t => n lv (.inr (.inl x.toInt64) :: t) σ
theorem q_i2l : gb_Op o_i2l := fun _ _ _ => oq_pI fun _ _ => oq_k
def o_l2i (n : gb_C) : gb_C := fun lv st σ => gb_pL st fun x t => n lv (.inl x.toInt32 :: t) σ
theorem q_l2i : gb_Op o_l2i := fun _ _ _ => oq_pL fun _ _ => oq_k
def o_lcmp (n : gb_C) : gb_C := fun lv st σ => gb_pL st fun y t => gb_pL t fun x t => n lv (.inl (lg_cmp x y) :: t) σ
theorem q_lcmp : gb_Op o_lcmp := fun _ _ _ => oq_pL fun _ _ => oq_pL fun _ _ => oq_k
theorem s_i2b (d : decode cc pc = .ok (.i2b, 1)) (h : gb_S own cc nL R rk (pc + 1) n) : gb_S own cc nL R rk pc (o_iu (fun x => x.toInt8.toInt32) n) := by
  intro p l e s m args below meth c g A cells slots Qo X lv st σ out hl hs ho H locs arr hP hS hv
  obtain ⟨hx, hb, hml, hown, hts, hK, hA, hD, hcs, hrt⟩ := id X
  obtain ⟨x, t, rfl, ho⟩ := gb_pI_s ho
  exact lv_i2b hx hb d rfl (h X _ _ _ _ hl (gb_oks_c (v := .inl _) trivial (gb_oks_t hs)) ho H locs arr hP hS hv)
theorem s_ineg (d : decode cc pc = .ok (.ineg, 1)) (h : gb_S own cc nL R rk (pc + 1) n) : gb_S own cc nL R rk pc (o_iu (fun x => -x) n) := by
  intro p l e s m args below meth c g A cells slots Qo X lv st σ out hl hs ho H locs arr hP hS hv
  obtain ⟨hx, hb, hml, hown, hts, hK, hA, hD, hcs, hrt⟩ := id X
  obtain ⟨x, t, rfl, ho⟩ := gb_pI_s ho
  exact lv_ineg hx hb d (h X _ _ _ _ hl (gb_oks_c (v := .inl _) trivial (gb_oks_t hs)) ho H locs arr hP hS hv)
theorem s_i2l (d : decode cc pc = .ok (.i2l, 1)) (h : gb_S own cc nL R rk (pc + 1) n) : gb_S own cc nL R rk pc (o_i2l n) := by
  intro p l e s m args below meth c g A cells slots Qo X lv st σ out hl hs ho H locs arr hP hS hv
  obtain ⟨hx, hb, hml, hown, hts, hK, hA, hD, hcs, hrt⟩ := id X
  obtain ⟨x, t, rfl, ho⟩ := gb_pI_s ho
  exact lv_i2l hx hb d rfl (h X _ _ _ _ hl (gb_oks_c (v := .inr (.inl _)) trivial (gb_oks_t hs)) ho H locs arr hP hS hv)
theorem s_l2i (d : decode cc pc = .ok (.l2i, 1)) (h : gb_S own cc nL R rk (pc + 1) n) : gb_S own cc nL R rk pc (o_l2i n) := by
  intro p l e s m args below meth c g A cells slots Qo X lv st σ out hl hs ho H locs arr hP hS hv
  obtain ⟨hx, hb, hml, hown, hts, hK, hA, hD, hcs, hrt⟩ := id X
  obtain ⟨x, t, rfl, ho⟩ := gb_pL_s ho
  exact lv_l2i hx hb d rfl (h X _ _ _ _ hl (gb_oks_c (v := .inl _) trivial (gb_oks_t hs)) ho H locs arr hP hS hv)
theorem s_lcmp (d : decode cc pc = .ok (.lcmp, 1)) (h : gb_S own cc nL R rk (pc + 1) n) : gb_S own cc nL R rk pc (o_lcmp n) := by
  intro p l e s m args below meth c g A cells slots Qo X lv st σ out hl hs ho H locs arr hP hS hv
  obtain ⟨hx, hb, hml, hown, hts, hK, hA, hD, hcs, hrt⟩ := id X
  obtain ⟨y, t1, rfl, ho⟩ := gb_pL_s ho
  obtain ⟨x, t, rfl, ho⟩ := gb_pL_s (st := t1) ho
  exact W.lcmp hx hb d (h X _ _ _ _ hl (gb_oks_c (v := .inl _) trivial (gb_oks_t (gb_oks_t hs))) ho H locs arr hP hS hv)
def o_dup (n : gb_C) : gb_C := fun lv st σ => gb_pA st fun v t => gb_gd (!gb_wd v) (n lv (v :: v :: t) σ)
theorem q_dup : gb_Op o_dup := fun _ _ _ => oq_pA fun _ _ => oq_gd oq_k
def o_dup2 (n : gb_C) : gb_C := fun lv st σ => gb_pA st fun v t => gb_pA t fun w t => gb_gd (!gb_wd v) (gb_gd (!gb_wd w) (n lv (v :: w :: v :: w :: t) σ))
theorem q_dup2 : gb_Op o_dup2 := fun _ _ _ => oq_pA fun _ _ => oq_pA fun _ _ => oq_gd (oq_gd oq_k)
def o_dup2w (n : gb_C) : gb_C := fun lv st σ => gb_pA st fun v t => gb_gd (gb_wd v) (n lv (v :: v :: t) σ)
theorem q_dup2w : gb_Op o_dup2w := fun _ _ _ => oq_pA fun _ _ => oq_gd oq_k
def o_dupx1 (n : gb_C) : gb_C := fun lv st σ => gb_pA st fun v t => gb_pA t fun w t => gb_gd (!gb_wd v) (gb_gd (!gb_wd w) (n lv (v :: w :: v :: t) σ))
theorem q_dupx1 : gb_Op o_dupx1 := fun _ _ _ => oq_pA fun _ _ => oq_pA fun _ _ => oq_gd (oq_gd oq_k)
def o_pop (n : gb_C) : gb_C := fun lv st σ => gb_pA st fun v t => gb_gd (!gb_wd v) (n lv t σ)
theorem q_pop : gb_Op o_pop := fun _ _ _ => oq_pA fun _ _ => oq_gd oq_k
theorem gb_c1 {g : gb_G} {v : gb_V} (h : (!gb_wd v) = true) : (gb_v g v).category = 1 := by
  rcases v with x | x | x
  · rfl
  · cases h
  · rfl
theorem gb_c2 {g : gb_G} {v : gb_V} (h : gb_wd v = true) : (gb_v g v).category = 2 := by
  rcases v with x | x | x
  · cases h
  · rfl
  · cases h
theorem s_dup (d : decode cc pc = .ok (.dup, 1)) (h : gb_S own cc nL R rk (pc + 1) n) : gb_S own cc nL R rk pc (o_dup n) := by
  intro p l e s m args below meth c g A cells slots Qo X lv st σ out hl hs ho H locs arr hP hS hv
  obtain ⟨hx, hb, hml, hown, hts, hK, hA, hD, hcs, hrt⟩ := id X
  obtain ⟨v, t, rfl, ho⟩ := gb_pA_s ho
  obtain ⟨hq, ho⟩ := gb_gd_s ho
  exact lv_dup hx hb d (gb_c1 hq) (h X _ _ _ _ hl (gb_oks_c (gb_oks_h hs) hs) ho H locs arr hP hS hv)
theorem s_dup2 (d : decode cc pc = .ok (.dup2, 1)) (h : gb_S own cc nL R rk (pc + 1) n) : gb_S own cc nL R rk pc (o_dup2 n) := by
  intro p l e s m args below meth c g A cells slots Qo X lv st σ out hl hs ho H locs arr hP hS hv
  obtain ⟨hx, hb, hml, hown, hts, hK, hA, hD, hcs, hrt⟩ := id X
  obtain ⟨v, t1, rfl, ho⟩ := gb_pA_s ho
  obtain ⟨w, t, rfl, ho⟩ := gb_pA_s (st := t1) ho
  obtain ⟨hq, ho⟩ := gb_gd_s ho
  obtain ⟨hq2, ho⟩ := gb_gd_s ho
  exact lv_dup2_11 hx hb d (gb_c1 hq) (gb_c1 hq2) (h X _ _ _ _ hl (gb_oks_c (gb_oks_h hs) (gb_oks_c (gb_oks_h (gb_oks_t hs)) hs)) ho H locs arr hP hS hv)
theorem s_dup2w (d : decode cc pc = .ok (.dup2, 1)) (h : gb_S own cc nL R rk (pc + 1) n) : gb_S own cc nL R rk pc (o_dup2w n) := by
  intro p l e s m args below meth c g A cells slots Qo X lv st σ out hl hs ho H locs arr hP hS hv
  obtain ⟨hx, hb, hml, hown, hts, hK, hA, hD, hcs, hrt⟩ := id X
  obtain ⟨v, t, rfl, ho⟩ := gb_pA_s ho
  obtain ⟨hq, ho⟩ := gb_gd_s ho
  exact lv_dup2_2 hx hb d (gb_c2 hq) (h X _ _ _ _ hl (gb_oks_c (gb_oks_h hs) hs) ho H locs arr hP hS hv)
theorem s_dupx1 (d : decode cc pc = .ok (.dup_x1, 1)) (h : gb_S own cc nL R rk (pc + 1) n) : gb_S own cc nL R rk pc (o_dupx1 n) := by
  intro p l e s m args below meth c g A cells slots Qo X lv st σ out hl hs ho H locs arr hP hS hv
  obtain ⟨hx, hb, hml, hown, hts, hK, hA, hD, hcs, hrt⟩ := id X
  obtain ⟨v, t1, rfl, ho⟩ := gb_pA_s ho
  obtain ⟨w, t, rfl, ho⟩ := gb_pA_s (st := t1) ho
  obtain ⟨hq, ho⟩ := gb_gd_s ho
  obtain ⟨hq2, ho⟩ := gb_gd_s ho
  exact lv_dup_x1 hx hb d (gb_c1 hq) (gb_c1 hq2) (h X _ _ _ _ hl (gb_oks_c (gb_oks_h hs) (gb_oks_c (gb_oks_h (gb_oks_t hs)) (gb_oks_c (gb_oks_h hs) (gb_oks_t (gb_oks_t hs))))) ho H locs arr hP hS hv)
theorem s_pop (d : decode cc pc = .ok (.pop, 1)) (h : gb_S own cc nL R rk (pc + 1) n) : gb_S own cc nL R rk pc (o_pop n) := by
  intro p l e s m args below meth c g A cells slots Qo X lv st σ out hl hs ho H locs arr hP hS hv
  obtain ⟨hx, hb, hml, hown, hts, hK, hA, hD, hcs, hrt⟩ := id X
  obtain ⟨v, t, rfl, ho⟩ := gb_pA_s ho
  obtain ⟨hq, ho⟩ := gb_gd_s ho
  exact lv_pop hx hb d (gb_c1 hq) (h X _ _ _ _ hl (gb_oks_t hs) ho H locs arr hP hS hv)
theorem gb_li2 {c : gb_L → List gb_V → gb_M → Bool ⊕ Unit} {st' : List gb_V → List gb_V} {F G : gb_K → gb_C} (hF : gb_Li F) (hG : gb_Li G) : gb_Li (fun κ lv st σ => match c lv st σ with
    | .inl true => F κ lv (st' st) σ
    | .inl false => G κ lv (st' st) σ
    | .inr _ => none) := by
  intro κ lv st σ r h
  cases hc : c lv st σ with
  | inl b =>
    cases b with
    | true =>
      simp only [hc] at h ⊢
      exact hF κ _ _ _ r h
    | false =>
      simp only [hc] at h ⊢
      exact hG κ _ _ _ r h
  | inr u =>
    simp only [hc] at h
    exact gb_no h
def o_ceq (T N : gb_C) : gb_C := fun lv st σ => gb_pI st fun y t => gb_pI t fun x t => if x = y then T lv t σ else N lv t σ
def o_zeq (T N : gb_C) : gb_C := fun lv st σ => gb_pI st fun x t => if x = 0 then T lv t σ else N lv t σ
theorem q_ceq {F G : gb_K → gb_C} (hF : gb_Li F) (hG : gb_Li G) : gb_Li (fun κ => o_ceq (F κ) (G κ)) := by
  intro κ lv st σ r h
  rcases st with _ | ⟨y | y | y, st⟩
  · exact gb_no h
  · rcases st with _ | ⟨x | x | x, t⟩
    · exact gb_no h
    · by_cases hc : x = y
      · have e : ∀ κ, o_ceq (F κ) (G κ) lv (.inl y :: .inl x :: t) σ = F κ lv t σ := fun κ => if_pos hc
        simp only [e] at h ⊢
        exact hF κ _ _ _ r h
      · have e : ∀ κ, o_ceq (F κ) (G κ) lv (.inl y :: .inl x :: t) σ = G κ lv t σ := fun κ => if_neg hc
        simp only [e] at h ⊢
        exact hG κ _ _ _ r h
    · exact gb_no h
    · exact gb_no h
  · exact gb_no h
  · exact gb_no h
theorem q_zeq {F G : gb_K → gb_C} (hF : gb_Li F) (hG : gb_Li G) : gb_Li (fun κ => o_zeq (F κ) (G κ)) := by
  intro κ lv st σ r h
  rcases st with _ | ⟨x | x | x, t⟩
  · exact gb_no h
  · by_cases hc : x = 0
    · have e : ∀ κ, o_zeq (F κ) (G κ) lv (.inl x :: t) σ = F κ lv t σ := fun κ => if_pos hc
      simp only [e] at h ⊢
      exact hF κ _ _ _ r h
    · have e : ∀ κ, o_zeq (F κ) (G κ) lv (.inl x :: t) σ = G κ lv t σ := fun κ => if_neg hc
      simp only [e] at h ⊢
      exact hG κ _ _ _ r h
  · exact gb_no h
  · exact gb_no h
theorem s_ceq {off : Int} {tgt : Nat} {n2 : gb_C} (ht : (pc : Int) + off = (tgt : Int)) (d : decode cc pc = .ok (.if_icmp .eq off, 3)) (h : gb_S own cc nL R rk tgt n) (h2 : gb_S own cc nL R rk (pc + 3) n2) : gb_S own cc nL R rk pc (o_ceq n n2) := by
  intro p l e s m args below meth c g A cells slots Qo X lv st σ out hl hs ho H locs arr hP hS hv
  obtain ⟨hx, hb, hml, hown, hts, hK, hA, hD, hcs, hrt⟩ := id X
  obtain ⟨y, t1, rfl, ho⟩ := gb_pI_s ho
  obtain ⟨x, t, rfl, ho⟩ := gb_pI_s (st := t1) ho
  exact lv_icmp_eq hx hb d ht (fun hc => (h X _ _ _ _ hl (gb_oks_t (gb_oks_t hs)) ((if_pos hc).symm.trans ho) H locs arr hP hS hv)) (fun hc => (h2 X _ _ _ _ hl (gb_oks_t (gb_oks_t hs)) ((if_neg hc).symm.trans ho) H locs arr hP hS hv))
theorem s_zeq {off : Int} {tgt : Nat} {n2 : gb_C} (ht : (pc : Int) + off = (tgt : Int)) (d : decode cc pc = .ok (.ifCond .eq off, 3)) (h : gb_S own cc nL R rk tgt n) (h2 : gb_S own cc nL R rk (pc + 3) n2) : gb_S own cc nL R rk pc (o_zeq n n2) := by
  intro p l e s m args below meth c g A cells slots Qo X lv st σ out hl hs ho H locs arr hP hS hv
  obtain ⟨hx, hb, hml, hown, hts, hK, hA, hD, hcs, hrt⟩ := id X
  obtain ⟨x, t, rfl, ho⟩ := gb_pI_s ho
  exact lv_if_eq hx hb d ht (fun hc => (h X _ _ _ _ hl (gb_oks_t hs) ((if_pos hc).symm.trans ho) H locs arr hP hS hv)) (fun hc => (h2 X _ _ _ _ hl (gb_oks_t hs) ((if_neg hc).symm.trans ho) H locs arr hP hS hv))
theorem s_cne {off : Int} {tgt : Nat} {n2 : gb_C} (ht : (pc : Int) + off = (tgt : Int)) (d : decode cc pc = .ok (.if_icmp .ne off, 3)) (h : gb_S own cc nL R rk tgt n) (h2 : gb_S own cc nL R rk (pc + 3) n2) : gb_S own cc nL R rk pc (o_ceq n2 n) := by
  intro p l e s m args below meth c g A cells slots Qo X lv st σ out hl hs ho H locs arr hP hS hv
  obtain ⟨hx, hb, hml, hown, hts, hK, hA, hD, hcs, hrt⟩ := id X
  obtain ⟨y, t1, rfl, ho⟩ := gb_pI_s ho
  obtain ⟨x, t, rfl, ho⟩ := gb_pI_s (st := t1) ho
  exact lv_icmp_ne hx hb d ht (fun hc => (h X _ _ _ _ hl (gb_oks_t (gb_oks_t hs)) ((if_neg hc).symm.trans ho) H locs arr hP hS hv)) (fun hc => (h2 X _ _ _ _ hl (gb_oks_t (gb_oks_t hs)) ((if_pos hc).symm.trans ho) H locs arr hP hS hv))
theorem s_zne {off : Int} {tgt : Nat} {n2 : gb_C} (ht : (pc : Int) + off = (tgt : Int)) (d : decode cc pc = .ok (.ifCond .ne off, 3)) (h : gb_S own cc nL R rk tgt n) (h2 : gb_S own cc nL R rk (pc + 3) n2) : gb_S own cc nL R rk pc (o_zeq n2 n) := by
  intro p l e s m args below meth c g A cells slots Qo X lv st σ out hl hs ho H locs arr hP hS hv
  obtain ⟨hx, hb, hml, hown, hts, hK, hA, hD, hcs, hrt⟩ := id X
  obtain ⟨x, t, rfl, ho⟩ := gb_pI_s ho
  exact lv_if_ne hx hb d ht (fun hc => (h X _ _ _ _ hl (gb_oks_t hs) ((if_neg hc).symm.trans ho) H locs arr hP hS hv)) (fun hc => (h2 X _ _ _ _ hl (gb_oks_t hs) ((if_pos hc).symm.trans ho) H locs arr hP hS hv))
def o_clt (T N : gb_C) : gb_C := fun lv st σ => gb_pI st fun y t => gb_pI t fun x t => if x < y then T lv t σ else N lv t σ
def o_zlt (T N : gb_C) : gb_C := fun lv st σ => gb_pI st fun x t => if x < 0 then T lv t σ else N lv t σ
theorem q_clt {F G : gb_K → gb_C} (hF : gb_Li F) (hG : gb_Li G) : gb_Li (fun κ => o_clt (F κ) (G κ)) := by
  intro κ lv st σ r h
  rcases st with _ | ⟨y | y | y, st⟩
  · exact gb_no h
  · rcases st with _ | ⟨x | x | x, t⟩
    · exact gb_no h
    · by_cases hc : x < y
      · have e : ∀ κ, o_clt (F κ) (G κ) lv (.inl y :: .inl x :: t) σ = F κ lv t σ := fun κ => if_pos hc
        simp only [e] at h ⊢
        exact hF κ _ _ _ r h
      · have e : ∀ κ, o_clt (F κ) (G κ) lv (.inl y :: .inl x :: t) σ = G κ lv t σ := fun κ => if_neg hc
        simp only [e] at h ⊢
        exact hG κ _ _ _ r h
    · exact gb_no h
    · exact gb_no h
  · exact gb_no h
  · exact gb_no h
theorem q_zlt {F G : gb_K → gb_C} (hF : gb_Li F) (hG : gb_Li G) : gb_Li (fun κ => o_zlt (F κ) (G κ)) := by
  intro κ lv st σ r h
  rcases st with _ | ⟨x | x | x, t⟩
  · exact gb_no h
  · by_cases hc : x < 0
    · have e : ∀ κ, o_zlt (F κ) (G κ) lv (.inl x :: t) σ = F κ lv t σ := fun κ => if_pos hc
      simp only [e] at h ⊢
      exact hF κ _ _ _ r h
    · have e : ∀ κ, o_zlt (F κ) (G κ) lv (.inl x :: t) σ = G κ lv t σ := fun κ => if_neg hc
      simp only [e] at h ⊢
      exact hG κ _ _ _ r h
  · exact gb_no h
  · exact gb_no h
theorem s_clt {off : Int} {tgt : Nat} {n2 : gb_C} (ht : (pc : Int) + off = (tgt : Int)) (d : decode cc pc = .ok (.if_icmp .lt off, 3)) (h : gb_S own cc nL R rk tgt n) (h2 : gb_S own cc nL R rk (pc + 3) n2) : gb_S own cc nL R rk pc (o_clt n n2) := by
  intro p l e s m args below meth c g A cells slots Qo X lv st σ out hl hs ho H locs arr hP hS hv
  obtain ⟨hx, hb, hml, hown, hts, hK, hA, hD, hcs, hrt⟩ := id X
  obtain ⟨y, t1, rfl, ho⟩ := gb_pI_s ho
  obtain ⟨x, t, rfl, ho⟩ := gb_pI_s (st := t1) ho
  exact lv_icmp_lt hx hb d ht (fun hc => (h X _ _ _ _ hl (gb_oks_t (gb_oks_t hs)) ((if_pos hc).symm.trans ho) H locs arr hP hS hv)) (fun hc => (h2 X _ _ _ _ hl (gb_oks_t (gb_oks_t hs)) ((if_neg hc).symm.trans ho) H locs arr hP hS hv))
theorem s_zlt {off : Int} {tgt : Nat} {n2 : gb_C} (ht : (pc : Int) + off = (tgt : Int)) (d : decode cc pc = .ok (.ifCond .lt off, 3)) (h : gb_S own cc nL R rk tgt n) (h2 : gb_S own cc nL R rk (pc + 3) n2) : gb_S own cc nL R rk pc (o_zlt n n2) := by
  intro p l e s m args below meth c g A cells slots Qo X lv st σ out hl hs ho H locs arr hP hS hv
  obtain ⟨hx, hb, hml, hown, hts, hK, hA, hD, hcs, hrt⟩ := id X
  obtain ⟨x, t, rfl, ho⟩ := gb_pI_s ho
  exact lv_if_lt hx hb d ht (fun hc => (h X _ _ _ _ hl (gb_oks_t hs) ((if_pos hc).symm.trans ho) H locs arr hP hS hv)) (fun hc => (h2 X _ _ _ _ hl (gb_oks_t hs) ((if_neg hc).symm.trans ho) H locs arr hP hS hv))
def o_cge (T N : gb_C) : gb_C := fun lv st σ => gb_pI st fun y t => gb_pI t fun x t => if y ≤ x then T lv t σ else N lv t σ
def o_zge (T N : gb_C) : gb_C := fun lv st σ => gb_pI st fun x t => if 0 ≤ x then T lv t σ else N lv t σ
theorem q_cge {F G : gb_K → gb_C} (hF : gb_Li F) (hG : gb_Li G) : gb_Li (fun κ => o_cge (F κ) (G κ)) := by
  intro κ lv st σ r h
  rcases st with _ | ⟨y | y | y, st⟩
  · exact gb_no h
  · rcases st with _ | ⟨x | x | x, t⟩
    · exact gb_no h
    · by_cases hc : y ≤ x
      · have e : ∀ κ, o_cge (F κ) (G κ) lv (.inl y :: .inl x :: t) σ = F κ lv t σ := fun κ => if_pos hc
        simp only [e] at h ⊢
        exact hF κ _ _ _ r h
      · have e : ∀ κ, o_cge (F κ) (G κ) lv (.inl y :: .inl x :: t) σ = G κ lv t σ := fun κ => if_neg hc
        simp only [e] at h ⊢
        exact hG κ _ _ _ r h
    · exact gb_no h
    · exact gb_no h
  · exact gb_no h
  · exact gb_no h
theorem q_zge {F G : gb_K → gb_C} (hF : gb_Li F) (hG : gb_Li G) : gb_Li (fun κ => o_zge (F κ) (G κ)) := by
  intro κ lv st σ r h
  rcases st with _ | ⟨x | x | x, t⟩
  · exact gb_no h
  · by_cases hc : 0 ≤ x
    · have e : ∀ κ, o_zge (F κ) (G κ) lv (.inl x :: t) σ = F κ lv t σ := fun κ => if_pos hc
      simp only [e] at h ⊢
      exact hF κ _ _ _ r h
    · have e : ∀ κ, o_zge (F κ) (G κ) lv (.inl x :: t) σ = G κ lv t σ := fun κ => if_neg hc
      simp only [e] at h ⊢
      exact hG κ _ _ _ r h
  · exact gb_no h
  · exact gb_no h
theorem s_cge {off : Int} {tgt : Nat} {n2 : gb_C} (ht : (pc : Int) + off = (tgt : Int)) (d : decode cc pc = .ok (.if_icmp .ge off, 3)) (h : gb_S own cc nL R rk tgt n) (h2 : gb_S own cc nL R rk (pc + 3) n2) : gb_S own cc nL R rk pc (o_cge n n2) := by
  intro p l e s m args below meth c g A cells slots Qo X lv st σ out hl hs ho H locs arr hP hS hv
  obtain ⟨hx, hb, hml, hown, hts, hK, hA, hD, hcs, hrt⟩ := id X
  obtain ⟨y, t1, rfl, ho⟩ := gb_pI_s ho
  obtain ⟨x, t, rfl, ho⟩ := gb_pI_s (st := t1) ho
  exact lv_icmp_ge hx hb d ht (fun hc => (h X _ _ _ _ hl (gb_oks_t (gb_oks_t hs)) ((if_pos hc).symm.trans ho) H locs arr hP hS hv)) (fun hc => (h2 X _ _ _ _ hl (gb_oks_t (gb_oks_t hs)) ((if_neg hc).symm.trans ho) H locs arr hP hS hv))
theorem s_zge {off : Int} {tgt : Nat} {n2 : gb_C} (ht : (pc : Int) + off = (tgt : Int)) (d : decode cc pc = .ok (.ifCond .ge off, 3)) (h : gb_S own cc nL R rk tgt n) (h2 : gb_S own cc nL R rk (pc + 3) n2) : gb_S own cc nL R rk pc (o_zge n n2) := by
  intro p l e s m args below meth c g A cells slots Qo X lv st σ out hl hs ho H locs arr hP hS hv
  obtain ⟨hx, hb, hml, hown, hts, hK, hA, hD, hcs, hrt⟩ := id X
  obtain ⟨x, t, rfl, ho⟩ := gb_pI_s ho
  exact lv_if_ge hx hb d ht (fun hc => (h X _ _ _ _ hl (gb_oks_t hs) ((if_pos hc).symm.trans ho) H locs arr hP hS hv)) (fun hc => (h2 X _ _ _ _ hl (gb_oks_t hs) ((if_neg hc).symm.trans ho) H locs arr hP hS hv))
def o_cgt (T N : gb_C) : gb_C := fun lv st σ => gb_pI st fun y t => gb_pI t fun x t => if y < x then T lv t σ else N lv t σ
def o_zgt (T N : gb_C) : gb_C := fun lv st σ => gb_pI st fun x t => if 0 < x then T lv t σ else N lv t σ
theorem q_cgt {F G : gb_K → gb_C} (hF : gb_Li F) (hG : gb_Li G) : gb_Li (fun κ => o_cgt (F κ) (G κ)) := by
  intro κ lv st σ r h
  rcases st with _ | ⟨y | y | y, st⟩
  · exact gb_no h
  · rcases st with _ | ⟨x | x | x, t⟩
    · exact gb_no h
    · by_cases hc : y < x
      · have e : ∀ κ, o_cgt (F κ) (G κ) lv (.inl y :: .inl x :: t) σ = F κ lv t σ := fun κ => if_pos hc
        simp only [e] at h ⊢
        exact hF κ _ _ _ r h
      · have e : ∀ κ, o_cgt (F κ) (G κ) lv (.inl y :: .inl x :: t) σ = G κ lv t σ := fun κ => if_neg hc
        simp only [e] at h ⊢
        exact hG κ _ _ _ r h
    · exact gb_no h
    · exact gb_no h
  · exact gb_no h
  · exact gb_no h
theorem q_zgt {F G : gb_K → gb_C} (hF : gb_Li F) (hG : gb_Li G) : gb_Li (fun κ => o_zgt (F κ) (G κ)) := by
  intro κ lv st σ r h
  rcases st with _ | ⟨x | x | x, t⟩
  · exact gb_no h
  · by_cases hc : 0 < x
    · have e : ∀ κ, o_zgt (F κ) (G κ) lv (.inl x :: t) σ = F κ lv t σ := fun κ => if_pos hc
      simp only [e] at h ⊢
      exact hF κ _ _ _ r h
    · have e : ∀ κ, o_zgt (F κ) (G κ) lv (.inl x :: t) σ = G κ lv t σ := fun κ => if_neg hc
      simp only [e] at h ⊢
      exact hG κ _ _ _ r h
  · exact gb_no h
  · exact gb_no h
theorem s_cgt {off : Int} {tgt : Nat} {n2 : gb_C} (ht : (pc : Int) + off = (tgt : Int)) (d : decode cc pc = .ok (.if_icmp .gt off, 3)) (h : gb_S own cc nL R rk tgt n) (h2 : gb_S own cc nL R rk (pc + 3) n2) : gb_S own cc nL R rk pc (o_cgt n n2) := by
  intro p l e s m args below meth c g A cells slots Qo X lv st σ out hl hs ho H locs arr hP hS hv
  obtain ⟨hx, hb, hml, hown, hts, hK, hA, hD, hcs, hrt⟩ := id X
  obtain ⟨y, t1, rfl, ho⟩ := gb_pI_s ho
  obtain ⟨x, t, rfl, ho⟩ := gb_pI_s (st := t1) ho
  exact lv_icmp_gt hx hb d ht (fun hc => (h X _ _ _ _ hl (gb_oks_t (gb_oks_t hs)) ((if_pos hc).symm.trans ho) H locs arr hP hS hv)) (fun hc => (h2 X _ _ _ _ hl (gb_oks_t (gb_oks_t hs)) ((if_neg hc).symm.trans ho) H locs arr hP hS hv))
theorem s_zgt {off : Int} {tgt : Nat} {n2 : gb_C} (ht : (pc : Int) + off = (tgt : Int)) (d : decode cc pc = .ok (.ifCond .gt off, 3)) (h : gb_S own cc nL R rk tgt n) (h2 : gb_S own cc nL R rk (pc + 3) n2) : gb_S own cc nL R rk pc (o_zgt n n2) := by
  intro p l e s m args below meth c g A cells slots Qo X lv st σ out hl hs ho H locs arr hP hS hv
  obtain ⟨hx, hb, hml, hown, hts, hK, hA, hD, hcs, hrt⟩ := id X
  obtain ⟨x, t, rfl, ho⟩ := gb_pI_s ho
  exact lv_if_gt hx hb d ht (fun hc => (h X _ _ _ _ hl (gb_oks_t hs) ((if_pos hc).symm.trans ho) H locs arr hP hS hv)) (fun hc => (h2 X _ _ _ _ hl (gb_oks_t hs) ((if_neg hc).symm.trans ho) H locs arr hP hS hv))
def o_cle (T N : gb_C) : gb_C := fun lv st σ => gb_pI st fun y t => gb_pI t fun x t => if x ≤ y then T lv t σ else N lv t σ
def o_zle (T N : gb_C) : gb_C := fun lv st σ => gb_pI st fun x t => if x ≤ 0 then T lv t σ else N lv t σ
theorem q_cle {F G : gb_K → gb_C} (hF : gb_Li F) (hG : gb_Li G) : gb_Li (fun κ => o_cle (F κ) (G κ)) := by
  intro κ lv st σ r h
  rcases st with _ | ⟨y | y | y, st⟩
  · exact gb_no h
  · rcases st with _ | ⟨x | x | x, t⟩
    · exact gb_no h
    · by_cases hc : x ≤ y
      · have e : ∀ κ, o_cle (F κ) (G κ) lv (.inl y :: .inl x :: t) σ = F κ lv t σ := fun κ => if_pos hc
        simp only [e] at h ⊢
        exact hF κ _ _ _ r h
      · have e : ∀ κ, o_cle (F κ) (G κ) lv (.inl y :: .inl x :: t) σ = G κ lv t σ := fun κ => if_neg hc
        simp only [e] at h ⊢
        exact hG κ _ _ _ r h
    · exact gb_no h
    · exact gb_no h
  · exact gb_no h
  · exact gb_no h
theorem q_zle {F G : gb_K → gb_C} (hF : gb_Li F) (hG : gb_Li G) : gb_Li (fun κ => o_zle (F κ) (G κ)) := by
  intro κ lv st σ r h
  rcases st with _ | ⟨x | x | x, t⟩
  · exact gb_no h
  · by_cases hc : x ≤ 0
    · have e : ∀ κ, o_zle (F κ) (G κ) lv (.inl x :: t) σ = F κ lv t σ := fun κ => if_pos hc
      simp only [e] at h ⊢
      exact hF κ _ _ _ r h
    · have e : ∀ κ, o_zle (F κ) (G κ) lv (.inl x :: t) σ = G κ lv t σ := fun κ => if_neg hc
      simp only [e] at h ⊢
      exact hG κ _ _ _ r h
  · exact gb_no h
  · exact gb_no h
theorem s_cle {off : Int} {tgt : Nat} {n2 : gb_C} (ht : (pc : Int) + off = (tgt : Int)) (d : decode cc pc = .ok (.if_icmp .le off, 3)) (h : gb_S own cc nL R rk tgt n) (h2 : gb_S own cc nL R rk (pc + 3) n2) : gb_S own cc nL R rk pc (o_cle n n2) := by
  intro p l e s m args below meth c g A cells slots Qo X lv st σ out hl hs ho H locs arr hP hS hv
  obtain ⟨hx, hb, hml, hown, hts, hK, hA, hD, hcs, hrt⟩ := id X
  obtain ⟨y, t1, rfl, ho⟩ := gb_pI_s ho
  obtain ⟨x, t, rfl, ho⟩ := gb_pI_s (st := t1) ho
  exact lv_icmp_le hx hb d ht (fun hc => (h X _ _ _ _ hl (gb_oks_t (gb_oks_t hs)) ((if_pos hc).symm.trans ho) H locs arr hP hS hv)) (fun hc => (h2 X _ _ _ _ hl (gb_oks_t (gb_oks_t hs)) ((if_neg hc).symm.trans ho) H locs arr hP hS hv))
theorem s_zle {off : Int} {tgt : Nat} {n2 : gb_C} (ht : (pc : Int) + off = (tgt : Int)) (d : decode cc pc = .ok (.ifCond .le off, 3)) (h : gb_S own cc nL R rk tgt n) (h2 : gb_S own cc nL R rk (pc + 3) n2) : gb_S own cc nL R rk pc (o_zle n n2) := by
  intro p l e s m args below meth c g A cells slots Qo X lv st σ out hl hs ho H locs arr hP hS hv
  obtain ⟨hx, hb, hml, hown, hts, hK, hA, hD, hcs, hrt⟩ := id X
  obtain ⟨x, t, rfl, ho⟩ := gb_pI_s ho
  exact lv_if_le hx hb d ht (fun hc => (h X _ _ _ _ hl (gb_oks_t hs) ((if_pos hc).symm.trans ho) H locs arr hP hS hv)) (fun hc => (h2 X _ _ _ _ hl (gb_oks_t hs) ((if_neg hc).symm.trans ho) H locs arr hP hS hv))
theorem s_goto {off : Int} {tgt : Nat} (ht : (pc : Int) + off = (tgt : Int)) (d : decode cc pc = .ok (.goto off, 3)) (h : gb_S own cc nL R rk tgt n) : gb_S own cc nL R rk pc n := by
  intro p l e s m args below meth c g A cells slots Qo X lv st σ out hl hs ho H locs arr hP hS hv
  obtain ⟨hx, hb, hml, hown, hts, hK, hA, hD, hcs, hrt⟩ := id X
  exact lv_goto hx hb d ht (h X _ _ _ _ hl hs ho H locs arr hP hS hv)
def o_j (ps : List Nat) (n : gb_C) : gb_C := fun lv st σ => n (gb_pick ps lv) st σ
theorem q_j (ps : List Nat) (q : Nat) : gb_Li (fun κ => o_j ps (κ q)) := fun _ _ _ _ _ h => Or.inr ⟨q, _, _, _, h, fun _ hk => hk⟩
theorem s_j {ps : List Nat} (h : gb_S own cc nL R rk pc n) : gb_S own cc nL R rk pc (o_j ps n) := by
  intro p l e s m args below meth c g A cells slots Qo X lv st σ out hl hs ho H locs arr hP hS hv
  obtain ⟨hx, hb, hml, hown, hts, hK, hA, hD, hcs, hrt⟩ := id X
  exact h X _ _ _ _ (fun q hq => hl q (gb_pick_mem hq)) hs ho H locs arr hP hS (gb_lv_mono hv (fun q hq => gb_pick_mem hq))
def o_rv : gb_C := fun _ st σ => match st with
  | [] => some (none, σ)
  | _ => none
def o_ri : gb_C := fun _ st σ => gb_pI st fun x t => match t with
  | [] => some (some (.inl x), σ)
  | _ => none
def o_rz : gb_C := fun _ st σ => gb_pI st fun x t => match t with
  | [] => gb_gd (decide (x &&& 1 = x)) (some (some (.inl x), σ))
  | _ => none
def o_rl : gb_C := fun _ st σ => gb_pL st fun x t => match t with
  | [] => some (some (.inr (.inl x)), σ)
  | _ => none
theorem s_rv (hk : rk = 0) (d : decode cc pc = .ok (.return_, 1)) : gb_S own cc nL R rk pc o_rv := by
  intro p l e s m args below meth c g A cells slots Qo X lv st σ out hl hs ho H locs arr hP hS hv
  obtain ⟨hx, hb, hml, hown, hts, hK, hA, hD, hcs, hrt⟩ := id X
  subst hk
  rcases st with _ | ⟨v, t⟩
  · have e : out = (none, σ) := (Option.some.inj ho).symm
    subst e
    exact hrt none σ H locs arr pc hP hS d
  · exact gb_no ho
theorem s_ri (hk : rk = 1) (d : decode cc pc = .ok (.ireturn, 1)) : gb_S own cc nL R rk pc o_ri := by
  intro p l e s m args below meth c g A cells slots Qo X lv st σ out hl hs ho H locs arr hP hS hv
  obtain ⟨hx, hb, hml, hown, hts, hK, hA, hD, hcs, hrt⟩ := id X
  subst hk
  obtain ⟨x, t, rfl, ho⟩ := gb_pI_s ho
  rcases t with _ | ⟨v, t⟩
  · have e : out = (some (.inl x), σ) := (Option.some.inj ho).symm
    subst e
    exact hrt (some (.inl x)) σ H locs arr pc hP hS d
  · exact gb_no ho
theorem s_rz (hk : rk = 2) (d : decode cc pc = .ok (.ireturn, 1)) : gb_S own cc nL R rk pc o_rz := by
  intro p l e s m args below meth c g A cells slots Qo X lv st σ out hl hs ho H locs arr hP hS hv
  obtain ⟨hx, hb, hml, hown, hts, hK, hA, hD, hcs, hrt⟩ := id X
  subst hk
  obtain ⟨x, t, rfl, ho⟩ := gb_pI_s ho
  rcases t with _ | ⟨v, t⟩
  · obtain ⟨hq, ho⟩ := gb_gd_s ho
    have e : out = (some (.inl x), σ) := (Option.some.inj ho).symm
    subst e
    exact hrt (some (.inl x)) σ H locs arr pc hP hS ⟨d, of_decide_eq_true hq⟩
  · exact gb_no ho
theorem s_rl (hk : rk = 3) (d : decode cc pc = .ok (.lreturn, 1)) : gb_S own cc nL R rk pc o_rl := by
  intro p l e s m args below meth c g A cells slots Qo X lv st σ out hl hs ho H locs arr hP hS hv
  obtain ⟨hx, hb, hml, hown, hts, hK, hA, hD, hcs, hrt⟩ := id X
  subst hk
  obtain ⟨x, t, rfl, ho⟩ := gb_pL_s ho
  rcases t with _ | ⟨v, t⟩
  · have e : out = (some (.inr (.inl x)), σ) := (Option.some.inj ho).symm
    subst e
    exact hrt (some (.inr (.inl x))) σ H locs arr pc hP hS d
  · exact gb_no ho
def gb_tsel (x : Int32) (lo hi : Int) (ts : List gb_C) (df : gb_C) : gb_C := if x.toInt < lo ∨ hi < x.toInt then df else match ts[(x.toInt - lo).toNat]? with
  | some t => t
  | none => fun _ _ _ => none
def o_ts (lo hi : Int) (ts : List gb_C) (df : gb_C) : gb_C := fun lv st σ => gb_pI st fun x t => gb_tsel x lo hi ts df lv t σ
theorem q_ts {lo hi : Int} {ts : List (gb_K → gb_C)} {df : gb_K → gb_C} (h : ∀ t ∈ ts, gb_Li t) (hd : gb_Li df) : gb_Li (fun κ => o_ts lo hi (ts.map (fun t => t κ)) (df κ)) := by
  intro κ lv st σ r hr
  rcases st with _ | ⟨x | x | x, st⟩
  · exact gb_no hr
  · by_cases hc : x.toInt < lo ∨ hi < x.toInt
    · have e : ∀ κ, o_ts lo hi (ts.map (fun t => t κ)) (df κ) lv (.inl x :: st) σ = df κ lv st σ := fun κ => by
        show gb_tsel x lo hi (ts.map (fun t => t κ)) (df κ) lv st σ = _
        unfold gb_tsel
        rw [if_pos hc]
      simp only [e] at hr ⊢
      exact hd κ _ _ _ r hr
    · cases ht : ts[(x.toInt - lo).toNat]? with
      | none =>
        have e : ∀ κ, o_ts lo hi (ts.map (fun t => t κ)) (df κ) lv (.inl x :: st) σ = none := fun κ => by
          show gb_tsel x lo hi (ts.map (fun t => t κ)) (df κ) lv st σ = _
          unfold gb_tsel
          rw [if_neg hc, List.getElem?_map, ht]
          rfl
        simp only [e] at hr
        exact gb_no hr
      | some f =>
        have e : ∀ κ, o_ts lo hi (ts.map (fun t => t κ)) (df κ) lv (.inl x :: st) σ = f κ lv st σ := fun κ => by
          show gb_tsel x lo hi (ts.map (fun t => t κ)) (df κ) lv st σ = _
          unfold gb_tsel
          rw [if_neg hc, List.getElem?_map, ht]
          rfl
        simp only [e] at hr ⊢
        exact h f (List.mem_of_getElem? ht) κ _ _ _ r hr
  · exact gb_no hr
  · exact gb_no hr
theorem s_ts {lo hi dflt : Int} {offs : Array Int} {len dt : Nat} {ts : List gb_C} (d : decode cc pc = .ok (.tableswitch dflt lo hi offs, len)) (hdt : (pc : Int) + dflt = (dt : Int)) (hd : gb_S own cc nL R rk dt n)
    (ht : ∀ (i : Nat) (t : gb_C), ts[i]? = some t → ∃ (off : Int) (tgt : Nat), offs[i]? = some off ∧ (pc : Int) + off = (tgt : Int) ∧ gb_S own cc nL R rk tgt t) : gb_S own cc nL R rk pc (o_ts lo hi ts n) := by
  intro p l e s m args below meth c g A cells slots Qo X lv st σ out hl hs ho H locs arr hP hS hv
  obtain ⟨hx, hb, hml, hown, hts, hK, hA, hD, hcs, hrt⟩ := id X
  obtain ⟨x, t, rfl, ho⟩ := gb_pI_s ho
  have ho : gb_tsel x lo hi ts n lv t σ = some out := ho
  unfold gb_tsel at ho
  by_cases hc : x.toInt < lo ∨ hi < x.toInt
  · rw [if_pos hc] at ho
    exact lv_tableOut hx hb d hc hdt (hd X _ _ _ _ hl (gb_oks_t hs) ho H locs arr hP hS hv)
  · rw [if_neg hc] at ho
    cases hq : ts[(x.toInt - lo).toNat]? with
    | none =>
      rw [hq] at ho
      exact gb_no ho
    | some f =>
      rw [hq] at ho
      obtain ⟨off, tgt, ho1, ho2, ho3⟩ := ht _ _ hq
      exact lv_tableIn hx hb d (fun h9 => hc (Or.inl h9)) (fun h9 => hc (Or.inr h9)) ho1 ho2 (ho3 X _ _ _ _ hl (gb_oks_t hs) ho H locs arr hP hS hv)
end SOPS
