/-! ORDERS, of the law -/
def joT (a t b u : Nat) : List Nat := ((((((([] : List Nat) ++ dN a) ++ [58]) ++ dN t) ++ [44]) ++ dN b) ++ [58]) ++ dN u
theorem joT_map (a t b u : Nat) : (joT a t b u).map (fun (x : Nat) => (x : Int)) = ordT a t b u := by
  unfold joT ordT
  simp only [List.map_append, List.map_cons, List.map_nil, dN_dcn, List.nil_append]
  rfl
theorem joT_len (a t b u : Nat) : (joT a t b u).length ≤ 11 := by
  have h1 := jdl_le a
  have h2 := jdl_le t
  have h3 := jdl_le b
  have h4 := jdl_le u
  simp only [joT, List.length_append, List.length_cons, List.length_nil, dN_len]
  omega
theorem joT_128 {a t b u : Nat} (ha : a < 100) (ht : t < 100) (hb : b < 100) (hu : u < 100) : ∀ x ∈ joT a t b u, x < 128 := by
  have d : ∀ v, v < 100 → ∀ n ∈ dN v, n < 128 := fun v hv n hn => by
    unfold dN at hn
    split at hn
    · simp at hn; omega
    · simp at hn; omega
  intro x hx
  simp only [joT, List.nil_append, List.mem_append, List.mem_singleton] at hx
  rcases hx with (((((hx | hx) | hx) | hx) | hx) | hx) | hx
  · exact d a ha x hx
  · omega
  · exact d t ht x hx
  · omega
  · exact d b hb x hx
  · omega
  · exact d u hu x hx
section VOO
variable {σ : gb_M} {A : gb_Ab} {T : List Int} {O : List (Nat × Int)}
theorem v_serves (h : CA σ (setT A T)) (hr : (rdT T).1 = some O) : ∃ σ', f_X9_serves [gR 0 0] σ = some (some (gI (nZ (svA A.1 O).length)), σ') ∧ ∃ R, CA σ' (setT (setR A R) []) := by
  obtain ⟨σ', e, hc⟩ := t_serves (A := setT A T) hr σ h
  exact ⟨σ', e, _, hc⟩
theorem v_picks (h : CA σ (setT A T)) (hr : (rdT T).1 = some O) : ∃ σ', f_X9_picks [gR 0 0] σ = some (some (gI (nZ (pvA A.1 O).1)), σ') ∧ ∃ R, CA σ' (setT (setR A R) []) := by
  obtain ⟨σ', e, hc⟩ := t_picks (A := setT A T) hr σ h
  exact ⟨σ', e, _, hc⟩
theorem v_sells (h : CA σ (setT A T)) (hr : (rdT T).1 = some O) : ∃ σ', f_X9_sells [gR 0 0] σ = some (some (gI (nZ (svA A.1 O).length)), σ') ∧ CA σ' (setR (setS (setT A []) (slS A.1 O)) [(nZ (slT A.1 O)).toInt64, (nZ (lA A.1 (sY A.1))).toInt64, (nZ (lA (slS A.1 O) (sY A.1))).toInt64]) := (t_sells (A := setT A T) h.2.2 hr).1 σ h
theorem jsl (h : wfA A) (hr : (rdT T).1 = some O) : 0 ≤ slT A.1 O ∧ slT A.1 O ≤ 593406 ∧ gdS (slS A.1 O) ∧ sY (slS A.1 O) = sY A.1 := (t_sells (A := setT A T) h hr).2
end VOO
theorem setT_e {A : gb_Ab} {R : List Int64} (h : A.2.2.2.1 = []) : setT (setR A R) [] = setR A R := by
  unfold setT setR
  rw [h]
theorem setST_e {A : gb_Ab} {R R' : List Int64} {s : gb_St} (h : A.2.2.2.1 = []) : setR (setS (setT (setR A R) []) s) R' = setR (setS A s) R' := by
  unfold setT setR setS
  rw [h]
theorem jOlen {a b : Nat} {t u : Int} : ([(a, t), (b, u)] : List (Nat × Int)).length = 2 := rfl
