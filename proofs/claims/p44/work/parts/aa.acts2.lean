/-! sums of rows, what a move leaves in all -/
theorem jsum6 {f : Nat → Int} {t : Int} (hf : ∀ i, i < 6 → 0 ≤ f i ∧ f i ≤ 99) (h : sm 6 f = t) : ((((((0 : Int64) + (nZ (f 0)).toInt64) + (nZ (f 1)).toInt64) + (nZ (f 2)).toInt64) + (nZ (f 3)).toInt64) + (nZ (f 4)).toInt64) + (nZ (f 5)).toInt64 = (nZ t).toInt64 := by
  have e0 : (0 : Int64) = (nZ 0).toInt64 := by decide
  have h0 := hf 0 (by omega)
  have h1 := hf 1 (by omega)
  have h2 := hf 2 (by omega)
  have h3 := hf 3 (by omega)
  have h4 := hf 4 (by omega)
  have h5 := hf 5 (by omega)
  rw [e0, z64_add ⟨by omega, by omega⟩ ⟨by omega, by omega⟩ ⟨by omega, by omega⟩, z64_add ⟨by omega, by omega⟩ ⟨by omega, by omega⟩ ⟨by omega, by omega⟩, z64_add ⟨by omega, by omega⟩ ⟨by omega, by omega⟩ ⟨by omega, by omega⟩, z64_add ⟨by omega, by omega⟩ ⟨by omega, by omega⟩ ⟨by omega, by omega⟩, z64_add ⟨by omega, by omega⟩ ⟨by omega, by omega⟩ ⟨by omega, by omega⟩, z64_add ⟨by omega, by omega⟩ ⟨by omega, by omega⟩ ⟨by omega, by omega⟩]
  rw [← h]
  have e : sm 6 f = 0 + f 0 + f 1 + f 2 + f 3 + f 4 + f 5 := by simp [sm]
  rw [e]
theorem c_row {σ : gb_M} {A : gb_Ab} {R : List Int64} (h : CA σ (setR A R)) {i : Nat} (hi : i < R.length) : ∃ σ', f_X9_row [gR 0 0, gI (nZ i)] σ = some (some (gL (R.getD i 0)), σ') ∧ CA σ' (setR A R) := t_row (A := setR A R) hi σ h
theorem jlG_r {L : List gb_Ly} {t : Int} (h : ∀ l ∈ pk L t, okL l) (ht : sm 6 (fun g => lG (pk L t) g) = t) (h9 : t ≤ 99) : ∀ i, i < 6 → 0 ≤ lG (pk L t) i ∧ lG (pk L t) i ≤ 99 := by
  have nn : ∀ i, 0 ≤ lG (pk L t) i := fun i => sL_nn (fun l hl => by
    have := (h l hl).2.1
    split <;> omega)
  intro i hi
  refine ⟨nn i, ?_⟩
  have e : sm 6 (fun g => lG (pk L t) g) = 0 + lG (pk L t) 0 + lG (pk L t) 1 + lG (pk L t) 2 + lG (pk L t) 3 + lG (pk L t) 4 + lG (pk L t) 5 := by simp [sm]
  have n0 := nn 0
  have n1 := nn 1
  have n2 := nn 2
  have n3 := nn 3
  have n4 := nn 4
  have n5 := nn 5
  rw [e] at ht
  rcases (show i = 0 ∨ i = 1 ∨ i = 2 ∨ i = 3 ∨ i = 4 ∨ i = 5 by omega) with rfl | rfl | rfl | rfl | rfl | rfl <;> omega
theorem jmvrow {a b c d x y : Int} (h : y - x = (c + d) - (a + b)) (ha : rZ a ∧ -1000000 ≤ a ∧ a ≤ 1000000) (hb : rZ b ∧ -1000000 ≤ b ∧ b ≤ 1000000) (hc : rZ c ∧ -1000000 ≤ c ∧ c ≤ 1000000) (hd : rZ d ∧ -1000000 ≤ d ∧ d ≤ 1000000) : (nZ c + nZ d).toInt64 - (nZ a + nZ b).toInt64 = (nZ y - nZ x).toInt64 := by
  rw [z_add, z_add, z_sub, z64_sub ⟨by omega, by omega⟩ ⟨by omega, by omega⟩ ⟨by omega, by omega⟩, h]
theorem jYdS {s : gb_St} {b : Nat} {t : Int} : sY (dS s b t) = sY s := by
  show (if (174 : Nat) = 175 then min 2000000000 (sQ s + t * mnU s (sY s) (sB s b) t) else s.1 174) = s.1 174
  exact if_neg (by omega)
theorem jgd_move {σ : gb_M} {A : gb_Ab} (h : CR σ A) {f t : Nat} {n : Int} (hf : f < 6) (ht : t < 6) (h3 : f ≠ t) (h4 : 1 ≤ n ∧ n ≤ 99) (hm : mvW A.1 f t n = 0) : gdS (mvS A.1 f t n) := by
  obtain ⟨σ', e, hc⟩ := v_move h hf ht h3 h4 hm
  exact hc.2.2.1
