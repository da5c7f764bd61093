/-! ACTS -/
theorem adj_lay {L : List gb_Ly} {g : Nat} {t d : Int} (h : adj L) : adj (lay1 L g t d) := by
  unfold lay1
  cases ho : onB L g d with
  | true =>
    obtain ⟨h1, h2, h3⟩ := onB_t ho
    rw [if_pos rfl]
    intro i hi
    have el : (L.dropLast ++ [(g, (lz L (L.length - 1)).2.1 + t, d)]).length = L.length := by simp; omega
    rw [el] at hi
    have e1 : lz (L.dropLast ++ [(g, (lz L (L.length - 1)).2.1 + t, d)]) i = lz L i := by rw [lz_app1 (by rw [List.length_dropLast]; omega), lz_dl (by omega)]
    rw [e1]
    by_cases e : i + 1 = L.length - 1
    · have e2 : lz (L.dropLast ++ [(g, (lz L (L.length - 1)).2.1 + t, d)]) (i + 1) = (g, (lz L (L.length - 1)).2.1 + t, d) := by
        have := lz_app2 (L := L.dropLast) (l := (g, (lz L (L.length - 1)).2.1 + t, d))
        rw [List.length_dropLast] at this
        rw [e]; exact this
      rw [e2]
      have := h i hi
      rw [e, h2, h3] at this
      exact this
    · rw [lz_app1 (by rw [List.length_dropLast]; omega), lz_dl (by omega)]
      exact h i hi
  | false =>
    rw [if_neg (by simp)]
    intro i hi
    have el : (L ++ [(g, t, d)]).length = L.length + 1 := by simp
    rw [el] at hi
    rw [lz_app1 (by omega)]
    by_cases e : i + 1 = L.length
    · rw [e, lz_app2]
      intro hc
      exact onB_f ho ⟨by omega, by rw [← e, Nat.add_sub_cancel]; exact hc.1, by rw [← e, Nat.add_sub_cancel]; exact hc.2⟩
    · rw [lz_app1 (by omega)]
      exact h i (by omega)
theorem adj_lays {P : List gb_Ly} : ∀ {A : List gb_Ly}, adj A → adj (lays A P) := by
  induction P with
  | nil => intro A h; exact h
  | cons p P ih => intro A h; exact ih (A := lay1 A p.1 p.2.1 p.2.2) (adj_lay h)
theorem adj_nil : adj [] := fun i hi => by cases hi
theorem adj_jn {L : List gb_Ly} : adj (jn L) := adj_lays (P := L) adj_nil
theorem adj_tk {L : List gb_Ly} : ∀ {t : Int}, adj L → adj (tk L t) := by
  induction L with
  | nil => intro t h; exact h
  | cons l L ih =>
    intro t h
    unfold tk
    split
    · intro i hi
      cases i with
      | zero => exact h 0 hi
      | succ i => exact h (i + 1) hi
    · exact ih (adj_t h)
theorem gd_setB {s : gb_St} {b : Nat} {L : List gb_Ly} (h : ∀ k, k < 6 → adj (sB s k)) (hL : adj L) : ∀ k, k < 6 → adj (sB (setB s b L) k) := by
  intro k hk
  by_cases e : k = b
  · subst e; rw [sB_s]; exact hL
  · rw [sB_n e]; exact h k hk
theorem sWhy_0 {s : gb_St} {b g : Nat} {t d : Int} (h : 0 ≤ sWhy s b g t d) : sWhy s b g t d = 0 ∧ ¬ sY s < sP s b ∧ lT (sB s b) + t ≤ sC s b ∧ ¬ ((sB s b).length = 6 ∧ onB (sB s b) g d = false) := by
  unfold sWhy at h ⊢
  by_cases h1 : sY s < sP s b
  · rw [if_pos h1] at h; omega
  rw [if_neg h1] at h ⊢
  by_cases h2 : sC s b < lT (sB s b) + t
  · rw [if_pos h2] at h; omega
  rw [if_neg h2] at h ⊢
  by_cases h3 : ap s (sB s b) g = true
  · rw [if_pos h3] at h; omega
  rw [if_neg h3] at h ⊢
  by_cases h4 : (sB s b).length = 6 ∧ onB (sB s b) g d = false
  · rw [if_pos h4] at h; omega
  rw [if_neg h4]
  exact ⟨rfl, h1, by omega, h4⟩
theorem sWhy_r {s : gb_St} {b g : Nat} {t d : Int} : -6 ≤ sWhy s b g t d ∧ sWhy s b g t d ≤ 0 := by
  unfold sWhy
  split
  · omega
  · split
    · omega
    · split
      · omega
      · split <;> omega
theorem sWhy_lay {s : gb_St} {b g : Nat} {t d : Int} (hI : gb_IV s) (hb : b < 6) (h : 0 ≤ sWhy s b g t d) : onB (sB s b) g d = true ∨ (sB s b).length < 6 := by
  have h4 := (sWhy_0 h).2.2.2
  have hl := (hI.2.2.2.2.2.1 b hb).1
  cases ho : onB (sB s b) g d with
  | true => exact Or.inl rfl
  | false => exact Or.inr (by have : ¬ (sB s b).length = 6 := fun e => h4 ⟨e, ho⟩; omega)