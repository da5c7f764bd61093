/-! BLOCKS: a method's bytecode as a function over the contents of the cells; one lemma an instruction says that the machine does what the function says.
The graph of objects is static behind the constructors: a cell is (kind, index); a reference is such a pair; gb_kinds says what each kind holds. -/
abbrev gb_V : Type := Int32 ⊕ (Int64 ⊕ (Nat × Nat))
abbrev gb_M : Type := (Nat → Nat → Nat → Int32) × (Nat → Nat → Nat → Int64)
abbrev gb_L : Type := List (Nat × gb_V)
abbrev gb_R : Type := Option (Option gb_V × gb_M)
abbrev gb_C : Type := gb_L → List gb_V → gb_M → gb_R
abbrev gb_K : Type := Nat → gb_C
abbrev gb_F : Type := List gb_V → gb_M → gb_R
abbrev gb_G : Type := (Nat → ClassId) × (Nat → Nat → Nat) × (Nat → Nat → Nat) × ClassId × ClassId × ClassId × ClassId
abbrev gb_Fs : Type := Option (Option (Nat × (Nat → Nat)))
abbrev gb_Kd : Type := (Nat × List gb_Fs) ⊕ (Nat × Nat × (Nat → Nat → Nat × Nat))
abbrev gI (x : Int32) : gb_V := .inl x
abbrev gL (x : Int64) : gb_V := .inr (.inl x)
abbrev gR (k j : Nat) : gb_V := .inr (.inr (k, j))
def gb_fi : gb_Fs := none
def gb_fl : gb_Fs := some none
def gb_fr (k j : Nat) : gb_Fs := some (some (k, fun _ => j))
def gb_fj (k : Nat) : gb_Fs := some (some (k, fun j => j))
def gb_ai (n : Nat) : gb_Kd := .inr (0, n, fun _ _ => (0, 0))
def gb_ab (n : Nat) : gb_Kd := .inr (1, n, fun _ _ => (0, 0))
def gb_al (n : Nat) : gb_Kd := .inr (2, n, fun _ _ => (0, 0))
def gb_aq (n k b : Nat) : gb_Kd := .inr (3, n, fun _ i => (k, b + i))
/-- kind by kind: how many, and what it holds -/
def gb_kinds : List (Nat × gb_Kd) := [(1, .inl (9, [gb_fr 1 0, gb_fr 3 0, gb_fr 3 1, gb_fr 10 0, gb_fr 10 1, gb_fi, gb_fr 19 0, gb_fr 21 0, gb_fr 23 0, gb_fr 27 0, gb_fr 30 0, gb_fr 34 0])),
  (1, .inl (8, [gb_fr 2 0, gb_fi, gb_fi])),
  (1, gb_ai 200),
  (2, .inl (5, [gb_fj 4, gb_fj 5, gb_fj 6, gb_fj 7, gb_fj 8, gb_fj 9, gb_fi, gb_fi])),
  (2, gb_ai 6),
  (2, gb_ai 6),
  (2, gb_ai 6),
  (2, gb_ai 36),
  (2, gb_ai 6),
  (2, gb_ai 6),
  (11, .inl (7, [gb_fr 3 0, gb_fj 11, gb_fj 12, gb_fj 13, gb_fj 14, gb_fj 15, gb_fj 16, gb_fj 17, gb_fj 18, gb_fi, gb_fi])),
  (11, gb_ai 6),
  (11, gb_ai 6),
  (11, gb_ai 6),
  (11, gb_ai 6),
  (11, gb_ai 36),
  (11, gb_ai 36),
  (11, gb_ai 36),
  (11, gb_ai 36),
  (1, .inl (3, [gb_fr 20 0, gb_fi, gb_fi])),
  (1, gb_aq 8 10 2),
  (1, .inl (4, [gb_fr 22 0, gb_fi])),
  (1, gb_al 8),
  (1, .inl (2, [gb_fr 24 0, gb_fr 25 0, gb_fr 26 0, gb_fi])),
  (1, gb_ai 6),
  (1, gb_ai 6),
  (1, gb_ai 6),
  (1, .inl (1, [gb_fr 10 10, gb_fr 23 0, gb_fr 28 0, gb_fr 29 0, gb_fi, gb_fi, gb_fi])),
  (1, gb_ai 6),
  (1, gb_ai 6),
  (1, .inl (0, [gb_fr 10 0, gb_fr 23 0, gb_fr 31 0, gb_fr 32 0, gb_fr 33 0, gb_fi])),
  (1, gb_ai 6),
  (1, gb_ai 6),
  (1, gb_ai 6),
  (1, .inl (6, [gb_fr 35 0, gb_fi])),
  (1, gb_ai 200)]
def gb_kd (k : Nat) : gb_Kd := match gb_kinds[k]? with
  | some q => q.2
  | none => .inr (9, 0, fun _ _ => (0, 0))
def gb_cnt (k : Nat) : Nat := match gb_kinds[k]? with
  | some q => q.1
  | none => 0
def gb_ok (v : gb_V) : Prop := match v with
  | .inr (.inr r) => r.1 < gb_kinds.length ∧ r.2 < gb_cnt r.1
  | _ => True
/-! the cells -/
def gb_mk (g : gb_G) (j : Nat) (f : Nat → Int32) (h : Nat → Int64) : List gb_Fs → Nat → List Value
  | [], _ => []
  | none :: t, i => .int (f i) :: gb_mk g j f h t (i + 1)
  | some none :: t, i => .long (h i) :: gb_mk g j f h t (i + 1)
  | some (some q) :: t, i => .ref (g.2.2.1 q.1 (q.2 j)) :: gb_mk g j f h t (i + 1)
def gb_cell (g : gb_G) (q : gb_Kd) (j : Nat) (f : Nat → Int32) (h : Nat → Int64) : va_E := match q with
  | .inl o => .inr (o.1, gb_mk g j f h o.2 0)
  | .inr (0, n, _) => .inl (g.2.2.2.1, n, .inl f)
  | .inr (1, n, _) => .inl (g.2.2.2.2.1, n, .inl f)
  | .inr (2, n, _) => .inl (g.2.2.2.2.2.1, n, .inr (.inl h))
  | .inr (_, n, φ) => .inl (g.2.2.2.2.2.2, n, .inr (.inr (.inr (.inr (fun i => some (g.2.2.1 (φ j i).1 (φ j i).2))))))
def gb_pl : List (Nat × Nat) := (List.range gb_kinds.length).flatMap (fun k => (List.range (gb_cnt k)).map (fun j => (k, j)))
def gb_en (g : gb_G) (σ : gb_M) (q : Nat × Nat) : Nat × va_E := (g.2.2.1 q.1 q.2, gb_cell g (gb_kd q.1) q.2 (σ.1 q.1 q.2) (σ.2 q.1 q.2))
def gb_ws (g : gb_G) (σ : gb_M) : va_W := gb_pl.map (gb_en g σ)
def gb_T (g : gb_G) : List (ClassId × FieldType) := [(g.2.2.2.1, .int), (g.2.2.2.2.1, .byte), (g.2.2.2.2.2.1, .long), (g.2.2.2.2.2.2, .object "GrainBins$Store")]
def gb_si (σ : gb_M) (k j i : Nat) (v : Int32) : gb_M := (fun k' j' => if k' = k ∧ j' = j then upd (σ.1 k j) i v else σ.1 k' j', σ.2)
def gb_sl (σ : gb_M) (k j i : Nat) (v : Int64) : gb_M := (σ.1, fun k' j' => if k' = k ∧ j' = j then vp_updL (σ.2 k j) i v else σ.2 k' j')
theorem gb_pl_mem {k j : Nat} (h : k < gb_kinds.length ∧ j < gb_cnt k) : (k, j) ∈ gb_pl := by
  unfold gb_pl
  rw [List.mem_flatMap]
  exact ⟨k, List.mem_range.mpr h.1, List.mem_map.mpr ⟨j, List.mem_range.mpr h.2, rfl⟩⟩
theorem gb_pl_nd : gb_pl.Nodup := by decide +kernel
theorem gb_at {k j : Nat} (h : k < gb_kinds.length ∧ j < gb_cnt k) : ∃ q0 : Nat, gb_pl[q0]? = some (k, j) ∧ ∀ (g : gb_G) (σ : gb_M), (gb_ws g σ)[q0]? = some (gb_en g σ (k, j)) := by
  obtain ⟨q0, hq⟩ := List.getElem?_of_mem (gb_pl_mem h)
  refine ⟨q0, hq, fun g σ => ?_⟩
  unfold gb_ws
  rw [List.getElem?_map, hq]
  rfl
theorem gb_set {g : gb_G} {σ σ' : gb_M} {k j q0 : Nat} {x : va_E} (hq : gb_pl[q0]? = some (k, j)) (ho : ∀ r : Nat × Nat, r ≠ (k, j) → σ'.1 r.1 r.2 = σ.1 r.1 r.2 ∧ σ'.2 r.1 r.2 = σ.2 r.1 r.2) (hx : gb_cell g (gb_kd k) j (σ'.1 k j) (σ'.2 k j) = x) : (gb_ws g σ).set q0 (g.2.2.1 k j, x) = gb_ws g σ' := by
  apply List.ext_getElem?
  intro i
  have hlt : q0 < gb_pl.length := (List.getElem?_eq_some_iff.mp hq).1
  by_cases hi : i = q0
  · subst hi
    rw [List.getElem?_set_self (by unfold gb_ws; rw [List.length_map]; exact hlt)]
    unfold gb_ws
    rw [List.getElem?_map, hq]
    show _ = some (gb_en g σ' (k, j))
    unfold gb_en
    rw [hx]
  · rw [List.getElem?_set_ne (fun h => hi h.symm)]
    unfold gb_ws
    rw [List.getElem?_map, List.getElem?_map]
    cases hr : gb_pl[i]? with
    | none => rfl
    | some r =>
      have hne : r ≠ (k, j) := by
        intro e
        subst e
        obtain ⟨hi1, hi2⟩ := List.getElem?_eq_some_iff.mp hr
        obtain ⟨hq1, hq2⟩ := List.getElem?_eq_some_iff.mp hq
        exact hi ((List.getElem_inj gb_pl_nd).mp (hi2.trans hq2.symm))
      show some (gb_en g σ r) = some (gb_en g σ' r)
      unfold gb_en
      rw [(ho r hne).1, (ho r hne).2]
theorem gb_si_o {σ : gb_M} {k j i : Nat} {v : Int32} : ∀ r : Nat × Nat, r ≠ (k, j) → (gb_si σ k j i v).1 r.1 r.2 = σ.1 r.1 r.2 ∧ (gb_si σ k j i v).2 r.1 r.2 = σ.2 r.1 r.2 := by
  intro r hr
  refine ⟨?_, rfl⟩
  have hn : ¬ (r.1 = k ∧ r.2 = j) := fun h => hr (Prod.ext h.1 h.2)
  simp only [gb_si, if_neg hn]
theorem gb_sl_o {σ : gb_M} {k j i : Nat} {v : Int64} : ∀ r : Nat × Nat, r ≠ (k, j) → (gb_sl σ k j i v).1 r.1 r.2 = σ.1 r.1 r.2 ∧ (gb_sl σ k j i v).2 r.1 r.2 = σ.2 r.1 r.2 := by
  intro r hr
  refine ⟨rfl, ?_⟩
  have hn : ¬ (r.1 = k ∧ r.2 = j) := fun h => hr (Prod.ext h.1 h.2)
  simp only [gb_sl, if_neg hn]
theorem gb_si_s (σ : gb_M) (k j i : Nat) (v : Int32) : (gb_si σ k j i v).1 k j = upd (σ.1 k j) i v ∧ (gb_si σ k j i v).2 k j = σ.2 k j := ⟨by simp [gb_si], rfl⟩
theorem gb_sl_s (σ : gb_M) (k j i : Nat) (v : Int64) : (gb_sl σ k j i v).1 k j = σ.1 k j ∧ (gb_sl σ k j i v).2 k j = vp_updL (σ.2 k j) i v := ⟨rfl, by simp [gb_sl]⟩
theorem gb_mk_len (g : gb_G) (j : Nat) (f : Nat → Int32) (h : Nat → Int64) : ∀ (fs : List gb_Fs) (i : Nat), (gb_mk g j f h fs i).length = fs.length
  | [], _ => rfl
  | none :: t, i => by simp [gb_mk, gb_mk_len g j f h t (i + 1)]
  | some none :: t, i => by simp [gb_mk, gb_mk_len g j f h t (i + 1)]
  | some (some q) :: t, i => by simp [gb_mk, gb_mk_len g j f h t (i + 1)]
theorem gb_mk_i (g : gb_G) (j : Nat) (f : Nat → Int32) (h : Nat → Int64) : ∀ (fs : List gb_Fs) (i k : Nat), fs[k]? = some none → (gb_mk g j f h fs i)[k]? = some (.int (f (i + k)))
  | [], _, k, hk => by simp at hk
  | x :: t, i, 0, hk => by
    simp at hk
    subst hk
    rfl
  | none :: t, i, k + 1, hk => by
    have := gb_mk_i g j f h t (i + 1) k (by simpa using hk)
    simpa [gb_mk, Nat.add_assoc, Nat.add_comm 1 k] using this
  | some none :: t, i, k + 1, hk => by
    have := gb_mk_i g j f h t (i + 1) k (by simpa using hk)
    simpa [gb_mk, Nat.add_assoc, Nat.add_comm 1 k] using this
  | some (some q) :: t, i, k + 1, hk => by
    have := gb_mk_i g j f h t (i + 1) k (by simpa using hk)
    simpa [gb_mk, Nat.add_assoc, Nat.add_comm 1 k] using this
theorem gb_mk_l (g : gb_G) (j : Nat) (f : Nat → Int32) (h : Nat → Int64) : ∀ (fs : List gb_Fs) (i k : Nat), fs[k]? = some (some none) → (gb_mk g j f h fs i)[k]? = some (.long (h (i + k)))
  | [], _, k, hk => by simp at hk
  | x :: t, i, 0, hk => by
    simp at hk
    subst hk
    rfl
  | none :: t, i, k + 1, hk => by
    have := gb_mk_l g j f h t (i + 1) k (by simpa using hk)
    simpa [gb_mk, Nat.add_assoc, Nat.add_comm 1 k] using this
  | some none :: t, i, k + 1, hk => by
    have := gb_mk_l g j f h t (i + 1) k (by simpa using hk)
    simpa [gb_mk, Nat.add_assoc, Nat.add_comm 1 k] using this
  | some (some q) :: t, i, k + 1, hk => by
    have := gb_mk_l g j f h t (i + 1) k (by simpa using hk)
    simpa [gb_mk, Nat.add_assoc, Nat.add_comm 1 k] using this
theorem gb_mk_r (g : gb_G) (j : Nat) (f : Nat → Int32) (h : Nat → Int64) (r : Nat × (Nat → Nat)) : ∀ (fs : List gb_Fs) (i k : Nat), fs[k]? = some (some (some r)) → (gb_mk g j f h fs i)[k]? = some (.ref (g.2.2.1 r.1 (r.2 j)))
  | [], _, k, hk => by simp at hk
  | x :: t, i, 0, hk => by
    simp at hk
    subst hk
    rfl
  | none :: t, i, k + 1, hk => by
    have := gb_mk_r g j f h r t (i + 1) k (by simpa using hk)
    simpa [gb_mk] using this
  | some none :: t, i, k + 1, hk => by
    have := gb_mk_r g j f h r t (i + 1) k (by simpa using hk)
    simpa [gb_mk] using this
  | some (some q) :: t, i, k + 1, hk => by
    have := gb_mk_r g j f h r t (i + 1) k (by simpa using hk)
    simpa [gb_mk] using this
theorem gb_mk_cg (g : gb_G) (j : Nat) {f f' : Nat → Int32} {h h' : Nat → Int64} : ∀ (fs : List gb_Fs) (i : Nat), (∀ k, i ≤ k → f k = f' k ∧ h k = h' k) → gb_mk g j f h fs i = gb_mk g j f' h' fs i
  | [], _, _ => rfl
  | none :: t, i, hk => by simp only [gb_mk]; rw [(hk i (Nat.le_refl i)).1, gb_mk_cg g j t (i + 1) (fun k hk' => hk k (by omega))]
  | some none :: t, i, hk => by simp only [gb_mk]; rw [(hk i (Nat.le_refl i)).2, gb_mk_cg g j t (i + 1) (fun k hk' => hk k (by omega))]
  | some (some q) :: t, i, hk => by simp only [gb_mk]; rw [gb_mk_cg g j t (i + 1) (fun k hk' => hk k (by omega))]
theorem gb_upd_s (f : Nat → Int32) (k : Nat) (v : Int32) : upd f k v k = v := by simp [upd]
theorem gb_upd_n (f : Nat → Int32) {k j : Nat} (v : Int32) (h : j ≠ k) : upd f k v j = f j := by simp [upd, h]
theorem gb_updL_s (f : Nat → Int64) (k : Nat) (v : Int64) : vp_updL f k v k = v := by simp [vp_updL]
theorem gb_updL_n (f : Nat → Int64) {k j : Nat} (v : Int64) (h : j ≠ k) : vp_updL f k v j = f j := by simp [vp_updL, h]
theorem gb_mk_si (g : gb_G) (j : Nat) (f : Nat → Int32) (h : Nat → Int64) (v : Int32) : ∀ (fs : List gb_Fs) (i k : Nat), fs[k]? = some none → (gb_mk g j f h fs i).set k (.int v) = gb_mk g j (upd f (i + k) v) h fs i
  | [], _, k, hk => by simp at hk
  | x :: t, i, 0, hk => by
    simp at hk
    subst hk
    simp only [gb_mk, List.set_cons_zero, Nat.add_zero, gb_upd_s]
    rw [gb_mk_cg g j (f := f) (f' := upd f i v) (h := h) (h' := h) t (i + 1) (fun k hk' => ⟨(gb_upd_n f v (by omega)).symm, rfl⟩)]
  | none :: t, i, k + 1, hk => by
    have := gb_mk_si g j f h v t (i + 1) k (by simpa using hk)
    simp only [gb_mk, List.set_cons_succ]
    rw [this, gb_upd_n f v (by omega), show i + 1 + k = i + (k + 1) by omega]
  | some none :: t, i, k + 1, hk => by
    have := gb_mk_si g j f h v t (i + 1) k (by simpa using hk)
    simp only [gb_mk, List.set_cons_succ]
    rw [this, show i + 1 + k = i + (k + 1) by omega]
  | some (some q) :: t, i, k + 1, hk => by
    have := gb_mk_si g j f h v t (i + 1) k (by simpa using hk)
    simp only [gb_mk, List.set_cons_succ]
    rw [this, show i + 1 + k = i + (k + 1) by omega]
theorem gb_mk_sl (g : gb_G) (j : Nat) (f : Nat → Int32) (h : Nat → Int64) (v : Int64) : ∀ (fs : List gb_Fs) (i k : Nat), fs[k]? = some (some none) → (gb_mk g j f h fs i).set k (.long v) = gb_mk g j f (vp_updL h (i + k) v) fs i
  | [], _, k, hk => by simp at hk
  | x :: t, i, 0, hk => by
    simp at hk
    subst hk
    simp only [gb_mk, List.set_cons_zero, Nat.add_zero, gb_updL_s]
    rw [gb_mk_cg g j (f := f) (f' := f) (h := h) (h' := vp_updL h i v) t (i + 1) (fun k hk' => ⟨rfl, (gb_updL_n h v (by omega)).symm⟩)]
  | none :: t, i, k + 1, hk => by
    have := gb_mk_sl g j f h v t (i + 1) k (by simpa using hk)
    simp only [gb_mk, List.set_cons_succ]
    rw [this, show i + 1 + k = i + (k + 1) by omega]
  | some none :: t, i, k + 1, hk => by
    have := gb_mk_sl g j f h v t (i + 1) k (by simpa using hk)
    simp only [gb_mk, List.set_cons_succ]
    rw [this, gb_updL_n h v (by omega), show i + 1 + k = i + (k + 1) by omega]
  | some (some q) :: t, i, k + 1, hk => by
    have := gb_mk_sl g j f h v t (i + 1) k (by simpa using hk)
    simp only [gb_mk, List.set_cons_succ]
    rw [this, show i + 1 + k = i + (k + 1) by omega]
/-! values, locals -/
def gb_v (g : gb_G) (v : gb_V) : Value := match v with
  | .inl x => .int x
  | .inr (.inl y) => .long y
  | .inr (.inr r) => .ref (g.2.2.1 r.1 r.2)
def gb_q (g : gb_G) (q : Nat × gb_V) : Nat × Value := (q.1, gb_v g q.2)
def gb_wd (v : gb_V) : Bool := match v with
  | .inr (.inl _) => true
  | _ => false
theorem gb_wd_c (g : gb_G) (v : gb_V) : ((gb_v g v).category == 2) = gb_wd v := by
  rcases v with x | y | r <;> rfl
def gb_get : gb_L → Nat → Option gb_V
  | [], _ => none
  | q :: t, i => match Nat.beq q.1 i with
    | true => some q.2
    | false => gb_get t i
theorem gb_get_mem : ∀ {lv : gb_L} {i : Nat} {v : gb_V}, gb_get lv i = some v → (i, v) ∈ lv
  | [], _, _, h => by cases h
  | q :: t, i, v, h => by
    unfold gb_get at h
    cases hb : Nat.beq q.1 i with
    | true =>
      rw [hb] at h
      have : q.1 = i := Nat.eq_of_beq_eq_true hb
      subst this
      cases h
      exact List.mem_cons_self
    | false =>
      rw [hb] at h
      exact List.mem_cons_of_mem _ (gb_get_mem h)
theorem gb_lk {g : gb_G} {arr : Array Slot} {nL : Nat} {lv : gb_L} {i : Nat} {v : gb_V} (h : lv_has arr nL (lv.map (gb_q g))) (hi : gb_get lv i = some v) : arr[i]? = some (.val (gb_v g v)) :=
  h.2.2 (i, gb_v g v) (List.mem_map.mpr ⟨(i, v), gb_get_mem hi, rfl⟩)
theorem gb_beq (a b : Nat) : (a == b) = Nat.beq a b := by
  cases h : Nat.beq a b with
  | true => exact beq_iff_eq.mpr (Nat.eq_of_beq_eq_true h)
  | false => exact beq_eq_false_iff_ne.mpr (Nat.ne_of_beq_eq_false h)
def gb_put (lv : gb_L) (i : Nat) (v : gb_V) : gb_L := (i, v) :: lv.filter (fun q => !(Nat.beq q.1 i) && !(Nat.beq (q.1 + 1) i && gb_wd q.2))
def gb_putL (lv : gb_L) (i : Nat) (v : gb_V) : gb_L := (i, v) :: lv.filter (fun q => !(Nat.beq q.1 i) && (!(Nat.beq q.1 (i + 1)) && !(Nat.beq (q.1 + 1) i && gb_wd q.2)))
theorem gb_put_c (g : gb_G) (lv : gb_L) (i : Nat) (v : gb_V) : (i, gb_v g v) :: (lv.map (gb_q g)).filter (fun q => !(q.1 == i) && !(q.1 + 1 == i && q.2.category == 2)) = (gb_put lv i v).map (gb_q g) := by
  unfold gb_put
  rw [List.map_cons, List.filter_map]
  refine congrArg (fun t => _ :: List.map (gb_q g) t) (List.filter_congr fun q _ => ?_)
  show (!(q.1 == i) && !(q.1 + 1 == i && (gb_v g q.2).category == 2)) = _
  rw [gb_wd_c]
  simp only [gb_beq]
theorem gb_putL_c (g : gb_G) (lv : gb_L) (i : Nat) (v : gb_V) : (i, gb_v g v) :: (lv.map (gb_q g)).filter (fun q => !(q.1 == i) && (!(q.1 == i + 1) && !(q.1 + 1 == i && q.2.category == 2))) = (gb_putL lv i v).map (gb_q g) := by
  unfold gb_putL
  rw [List.map_cons, List.filter_map]
  refine congrArg (fun t => _ :: List.map (gb_q g) t) (List.filter_congr fun q _ => ?_)
  show (!(q.1 == i) && (!(q.1 == i + 1) && !(q.1 + 1 == i && (gb_v g q.2).category == 2))) = _
  rw [gb_wd_c]
  simp only [gb_beq]
def gb_pick (ks : List Nat) (lv : gb_L) : gb_L := match ks with
  | [] => []
  | i :: t => match gb_get lv i with
    | some v => (i, v) :: gb_pick t lv
    | none => gb_pick t lv
theorem gb_pick_mem {lv : gb_L} {q : Nat × gb_V} : ∀ {ks : List Nat}, q ∈ gb_pick ks lv → q ∈ lv
  | [], h => by cases h
  | i :: t, h => by
    unfold gb_pick at h
    cases hg : gb_get lv i with
    | none =>
      rw [hg] at h
      exact gb_pick_mem (ks := t) h
    | some v =>
      rw [hg] at h
      rcases List.mem_cons.mp h with rfl | h
      · exact gb_get_mem hg
      · exact gb_pick_mem (ks := t) h
theorem gb_lv_mono {g : gb_G} {arr : Array Slot} {nL : Nat} {lv lv' : gb_L} (h : lv_has arr nL (lv.map (gb_q g))) (hs : ∀ q ∈ lv', q ∈ lv) : lv_has arr nL (lv'.map (gb_q g)) :=
  ⟨h.1, h.2.1, fun q hq => by
    obtain ⟨r, hr, rfl⟩ := List.mem_map.mp hq
    exact h.2.2 _ (List.mem_map.mpr ⟨r, hs r hr, rfl⟩)⟩
def gb_okl (lv : gb_L) : Prop := ∀ q ∈ lv, gb_ok q.2
def gb_oks (st : List gb_V) : Prop := ∀ v ∈ st, gb_ok v
theorem gb_okl_put {lv : gb_L} {i : Nat} {v : gb_V} (h : gb_okl lv) (hv : gb_ok v) : gb_okl (gb_put lv i v) := by
  intro q hq
  rcases List.mem_cons.mp hq with rfl | hq
  · exact hv
  · exact h q (List.mem_filter.mp hq).1
theorem gb_okl_putL {lv : gb_L} {i : Nat} {v : gb_V} (h : gb_okl lv) (hv : gb_ok v) : gb_okl (gb_putL lv i v) := by
  intro q hq
  rcases List.mem_cons.mp hq with rfl | hq
  · exact hv
  · exact h q (List.mem_filter.mp hq).1
theorem gb_oks_c {v : gb_V} {st : List gb_V} (hv : gb_ok v) (h : gb_oks st) : gb_oks (v :: st) := by
  intro w hw
  rcases List.mem_cons.mp hw with rfl | hw
  · exact hv
  · exact h w hw
theorem gb_oks_t {v : gb_V} {st : List gb_V} (h : gb_oks (v :: st)) : gb_oks st := fun w hw => h w (List.mem_cons_of_mem _ hw)
theorem gb_oks_h {v : gb_V} {st : List gb_V} (h : gb_oks (v :: st)) : gb_ok v := h v List.mem_cons_self
/-! the judgement: whatever the block answers, the machine comes to -/
def gb_B : List Cond := lw_tbl.filter goodWord
theorem gb_B_tbl {w : Cond} (h : w ∈ gb_B) : w ∈ lw_tbl := (List.mem_filter.mp h).1
theorem gb_B_good {w : Cond} (h : w ∈ gb_B) : goodWord w = true := (List.mem_filter.mp h).2
theorem gb_mem_r (ws : List Cond) (ps : List Nat) (hp : ws = ps.filterMap (fun i => lw_tbl[i]?)) (h : ws.all goodWord = true) : ∀ w ∈ ws, w ∈ gb_B := by
  intro w hw
  have h1 := List.all_eq_true.mp h w hw
  rw [hp] at hw
  obtain ⟨i, -, hi⟩ := List.mem_filterMap.mp hw
  exact List.mem_filter.mpr ⟨List.mem_of_getElem? hi, h1⟩
theorem gb_B_in : GoodIn gb_B gb_B := fun w h => ⟨h, good_of_word (gb_B_good h)⟩
def gb_rs (g : gb_G) (v : Option gb_V) : List Value := match v with
  | none => []
  | some v => [gb_v g v]
def gb_rd (rk : Nat) (cc : ByteArray) (pc : Nat) (v : Option gb_V) : Prop := match rk, v with
  | 0, none => decode cc pc = .ok (.return_, 1)
  | 1, some (.inl _) => decode cc pc = .ok (.ireturn, 1)
  | 2, some (.inl x) => decode cc pc = .ok (.ireturn, 1) ∧ x &&& 1 = x
  | 3, some (.inr (.inl _)) => decode cc pc = .ok (.lreturn, 1)
  | _, _ => False
def gb_Cx (own : String) (cc : ByteArray) (nL : Nat) (R : Room) (rk : Nat) (p : Program) (l : Launch) (e : Env) (s : State) (m : MethodId) (args : Array Value) (below : List Frame) (meth : Method) (c : Code) (g : gb_G) (A : Nat → Prop) (cells slots : Nat) (Qo : Option gb_V × gb_M → State → Prop) : Prop :=
  p.tables.exec = Jvm.exec ∧ c.code = cc ∧ c.maxLocals = nL ∧ s.vm.findClass own = some m.cls ∧ (∀ w ∈ gb_B, w.before args s = true) ∧ va_K (g.1, g.2.1) vwCl (gb_T g) s ∧ (∀ q, s.heap.size ≤ q → A q) ∧ (∀ σ, va_D A (gb_ws g σ)) ∧ (cells ≤ R.cells ∧ slots ≤ R.slots) ∧
  (∀ (v : Option gb_V) (σ : gb_M) (H : Heap) (locs : List Loc) (arr : Array Slot) (pc : Nat), va_P (g.1, g.2.1) vwCl (gb_ws g σ) H → va_S A s.heap H locs → gb_rd rk cc pc v → W p l e R s m args below meth c H locs cells slots (Qo (v, σ)) (F0 m pc arr (gb_rs g v)))
def gb_S (own : String) (cc : ByteArray) (nL : Nat) (R : Room) (rk : Nat) (pc : Nat) (cd : gb_C) : Prop :=
  ∀ {p : Program} {l : Launch} {e : Env} {s : State} {m : MethodId} {args : Array Value} {below : List Frame} {meth : Method} {c : Code} {g : gb_G} {A : Nat → Prop} {cells slots : Nat} {Qo : Option gb_V × gb_M → State → Prop}, gb_Cx own cc nL R rk p l e s m args below meth c g A cells slots Qo →
  ∀ (lv : gb_L) (st : List gb_V) (σ : gb_M) (out : Option gb_V × gb_M), gb_okl lv → gb_oks st → cd lv st σ = some out → ∀ (H : Heap) (locs : List Loc) (arr : Array Slot), va_P (g.1, g.2.1) vwCl (gb_ws g σ) H → va_S A s.heap H locs → lv_has arr nL (lv.map (gb_q g)) → W p l e R s m args below meth c H locs cells slots (Qo out) (F0 m pc arr (st.map (gb_v g)))
/-! what a block says depends on one continuation at most -/
def gb_Li (F : gb_K → gb_C) : Prop := ∀ (κ : gb_K) lv st σ r, F κ lv st σ = some r → (∀ κ' : gb_K, F κ' lv st σ = some r) ∨ ∃ q lv' st' σ', κ q lv' st' σ' = some r ∧ ∀ κ' : gb_K, κ' q lv' st' σ' = some r → F κ' lv st σ = some r
def gb_Op (O : gb_C → gb_C) : Prop := ∀ lv st σ, (∃ lv' st' σ', ∀ n, O n lv st σ = n lv' st' σ') ∨ ∀ n, O n lv st σ = none
theorem gb_li {O : gb_C → gb_C} (hO : gb_Op O) {N : gb_K → gb_C} (hN : gb_Li N) : gb_Li (fun κ => O (N κ)) := by
  intro κ lv st σ r h
  have h : O (N κ) lv st σ = some r := h
  rcases hO lv st σ with ⟨lv', st', σ', hq⟩ | hq
  · rw [hq] at h
    rcases hN κ _ _ _ _ h with h1 | ⟨q, a, b, d, h1, h2⟩
    · exact Or.inl fun κ' => (hq _).trans (h1 κ')
    · exact Or.inr ⟨q, a, b, d, h1, fun κ' hk => (hq _).trans (h2 κ' hk)⟩
  · rw [hq] at h
    cases h
theorem gb_li0 (cd : gb_C) : gb_Li (fun _ => cd) := fun _ _ _ _ _ h => Or.inl fun _ => h
def gb_fn (B : gb_K → gb_K) : Nat → gb_K
  | 0 => fun _ _ _ _ => none
  | n + 1 => B (gb_fn B n)
theorem gb_fn_mono {B : gb_K → gb_K} (hB : ∀ q, gb_Li (fun κ => B κ q)) : ∀ (n : Nat) (q : Nat) lv st σ r, gb_fn B n q lv st σ = some r → gb_fn B (n + 1) q lv st σ = some r
  | 0, _, _, _, _, _, h => by cases h
  | n + 1, q, lv, st, σ, r, h => by
    rcases hB q (gb_fn B n) lv st σ r h with h1 | ⟨q', a, b, d, h1, h2⟩
    · exact h1 _
    · exact h2 _ (gb_fn_mono hB n q' a b d r h1)
theorem gb_fn_le {B : gb_K → gb_K} (hB : ∀ q, gb_Li (fun κ => B κ q)) {n m : Nat} (hnm : n ≤ m) {q : Nat} {lv st σ r} (h : gb_fn B n q lv st σ = some r) : gb_fn B m q lv st σ = some r := by
  induction hnm with
  | refl => exact h
  | step _ ih => exact gb_fn_mono hB _ _ _ _ _ _ ih
noncomputable def gb_fx (B : gb_K → gb_K) : gb_K := fun q lv st σ => by
  classical
  exact if h : ∃ r, ∃ n, gb_fn B n q lv st σ = some r then some (Classical.choose h) else none
theorem gb_fx_iff {B : gb_K → gb_K} (hB : ∀ q, gb_Li (fun κ => B κ q)) {q : Nat} {lv st σ r} : gb_fx B q lv st σ = some r ↔ ∃ n, gb_fn B n q lv st σ = some r := by
  unfold gb_fx
  constructor
  · intro h
    split at h
    · rename_i hx
      cases h
      exact Classical.choose_spec hx
    · cases h
  · rintro ⟨n, hn⟩
    have hx : ∃ r, ∃ n, gb_fn B n q lv st σ = some r := ⟨r, n, hn⟩
    rw [dif_pos hx]
    obtain ⟨n', hn'⟩ := Classical.choose_spec hx
    have h1 := gb_fn_le hB (Nat.le_max_left n n') hn
    have h2 := gb_fn_le hB (Nat.le_max_right n n') hn'
    exact h2.symm.trans h1
theorem gb_fx_eq {B : gb_K → gb_K} (hB : ∀ q, gb_Li (fun κ => B κ q)) (q : Nat) (lv st σ) : gb_fx B q lv st σ = B (gb_fx B) q lv st σ := by
  cases h : gb_fx B q lv st σ with
  | some r =>
    obtain ⟨n, hn⟩ := (gb_fx_iff hB).mp h
    cases n with
    | zero => cases hn
    | succ n =>
      rcases hB q (gb_fn B n) lv st σ r hn with h1 | ⟨q', a, b, d, h1, h2⟩
      · exact (h1 _).symm
      · exact (h2 _ ((gb_fx_iff hB).mpr ⟨n, h1⟩)).symm
  | none =>
    cases h' : B (gb_fx B) q lv st σ with
    | none => rfl
    | some r =>
      have hx : ∃ n, gb_fn B n q lv st σ = some r := by
        rcases hB q (gb_fx B) lv st σ r h' with h1 | ⟨q', a, b, d, h1, h2⟩
        · exact ⟨1, h1 _⟩
        · obtain ⟨n, hn⟩ := (gb_fx_iff hB).mp h1
          exact ⟨n + 1, h2 _ hn⟩
      rw [(gb_fx_iff hB).mpr hx] at h
      cases h
theorem gb_fx_S {own : String} {cc : ByteArray} {nL : Nat} {R : Room} {rk : Nat} {B : gb_K → gb_K} (hB : ∀ q, gb_Li (fun κ => B κ q)) (hS : ∀ κ : gb_K, (∀ q, gb_S own cc nL R rk q (κ q)) → ∀ q, gb_S own cc nL R rk q (B κ q)) (q : Nat) : gb_S own cc nL R rk q (gb_fx B q) := by
  have key : ∀ n q, gb_S own cc nL R rk q (gb_fn B n q) := by
    intro n
    induction n with
    | zero =>
      intro q p l e s m args below meth c g A cells slots Qo X lv st σ out hl hs ho
      cases ho
    | succ n ih => exact fun q => hS _ ih q
  intro p l e s m args below meth c g A cells slots Qo X lv st σ out hl hs ho
  obtain ⟨n, hn⟩ := (gb_fx_iff hB).mp ho
  exact key n q X lv st σ out hl hs hn
