/-! COPIES: the reference -/
theorem cpl {n kd ks od os : Nat} {σ : gb_M} (J : Nat → gb_M → gb_R) (hne : kd ≠ ks ∨ od ≤ os) (hs : ∀ i, i < n → ∀ τ, gb_fP (fun k => k = kd) σ τ → J i τ = J (i + 1) (gb_si τ kd 0 (od + i) (τ.1 ks 0 (os + i)))) : ∃ τ, J 0 σ = J n τ ∧ gb_fP (fun k => k = kd) σ τ ∧ (∀ i, i < n → τ.1 kd 0 (od + i) = σ.1 ks 0 (os + i)) ∧ ∀ x, (x < od ∨ od + n ≤ x) → τ.1 kd 0 x = σ.1 kd 0 x := by
  have h := lph (n := n) (σ := σ) J (fun i τ => gb_fP (fun k => k = kd) σ τ ∧ (∀ k, k < i → τ.1 kd 0 (od + k) = σ.1 ks 0 (os + k)) ∧ ∀ x, (x < od ∨ od + i ≤ x) → τ.1 kd 0 x = σ.1 kd 0 x) ⟨fP_rf, fun k hk => by omega, fun x _ => rfl⟩ (by
    intro i hi τ ⟨f, t1, t2⟩
    refine ⟨_, hs i hi τ f, fP_si f rfl, fun k hk => ?_, fun x hx => ?_⟩
    · by_cases e : k = i
      · subst e
        rw [si_s]
        by_cases ek : kd = ks
        · subst ek
          exact t2 _ (by omega)
        · exact f.1 ks 0 _ (fun z => ek z.symm)
      · rw [si_i (by omega)]
        exact t1 k (by omega)
    · rw [si_i (by omega)]
      exact t2 x (by omega))
  exact h
theorem z176i (k i : Nat) : (176 * (k : Int) + (i : Int)).toNat = 176 * k + i := by omega
section MCOPY
variable {σ : gb_M} {s : gb_St}
/-- the reference's past -/
abbrev s0 : gb_St := (fun _ => 0, fun _ => [])
def gb_PM (σ : gb_M) (h : List gb_St) : Prop := σ.1 36 0 5 = nZ h.length ∧ h.length ≤ 8 ∧ ∀ i : Nat, i < h.length → gb_RM (σ.1 40 0) (176 * i) (h.getD i s0) ∧ gb_IV (h.getD i s0)
def hAdd (h : List gb_St) (s : gb_St) : List gb_St := (if h.length = 8 then h.tail else h) ++ [s]
theorem hAdd_len {h : List gb_St} {s : gb_St} (hl : h.length ≤ 8) : (hAdd h s).length = min 8 (h.length + 1) := by
  unfold hAdd
  rw [List.length_append]
  split
  · rw [List.length_tail]; simp; omega
  · simp; omega
theorem gd_app1 {h : List gb_St} {s d : gb_St} {i : Nat} (hi : i < h.length) : (h ++ [s]).getD i d = h.getD i d := by
  simp [List.getD, List.getElem?_append_left hi]
theorem gd_app2 {h : List gb_St} {s d : gb_St} : (h ++ [s]).getD h.length d = s := by
  simp [List.getD]
theorem gd_tail {h : List gb_St} {d : gb_St} {i : Nat} : h.tail.getD i d = h.getD (i + 1) d := by
  cases h with
  | nil => simp [List.getD]
  | cons a t => simp [List.getD]
end MCOPY
