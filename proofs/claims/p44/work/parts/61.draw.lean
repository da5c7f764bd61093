/-! DRAW -/
def rowOf (n : Nat) (f : Nat → Int64) : List Int64 := match n with
  | 0 => []
  | n + 1 => rowOf n f ++ [f n]
theorem rowOf_len {f : Nat → Int64} : ∀ n, (rowOf n f).length = n
  | 0 => rfl
  | n + 1 => by
    show (rowOf n f ++ [f n]).length = _
    rw [List.length_append, rowOf_len n]; rfl
/-- the class's ROW, entry by entry -/
theorem c_loop {n : Nat} (hn : n ≤ 8) {σ : gb_M} (J : Nat → gb_M → gb_R) (f : Nat → Int64) (h0 : rowC σ []) (hs : ∀ i, i < n → ∀ τ, gb_fP (fun k => k = 21 ∨ k = 22) σ τ → ∀ τ', f_X4_add [gR 21 0, gL (f i)] τ = some (none, τ') → J i τ = J (i + 1) τ') : ∃ τ, J 0 σ = J n τ ∧ gb_fP (fun k => k = 21 ∨ k = 22) σ τ ∧ rowC τ (rowOf n f) := by
  refine lph J (fun i τ => gb_fP (fun k => k = 21 ∨ k = 22) σ τ ∧ rowC τ (rowOf i f)) ⟨fP_rf, h0⟩ (fun i hi τ ⟨f1, hr⟩ => ?_)
  obtain ⟨τ', a1, a2, a3⟩ := c_add hr (by rw [rowOf_len]; omega) (f i)
  exact ⟨τ', hs i hi τ f1 τ' a1, fP_tr f1 a3, a2⟩