/-! MOVE -/
theorem setB_comm {s : gb_St} {f t : Nat} {L M : List gb_Ly} (h : f ≠ t) : setB (setB s f L) t M = setB (setB s t M) f L := by
  unfold setB
  refine Prod.ext rfl (funext fun k => ?_)
  by_cases e : k = t
  · subst e
    show (if k = k then M else if k = f then L else s.2 k) = if k = f then L else if k = k then M else s.2 k
    rw [if_pos rfl, if_neg (fun z => h z.symm), if_pos rfl]
  · show (if k = t then M else if k = f then L else s.2 k) = if k = f then L else if k = t then M else s.2 k
    rw [if_neg e, if_neg e]
theorem mvW_0 {s : gb_St} {f t : Nat} {n : Int} (h : 0 ≤ mvW s f t n) : mvW s f t n = 0 ∧ ¬ sY s < sP s f ∧ ¬ sY s < sP s t ∧ n ≤ lT (sB s f) ∧ lT (sB s t) + n ≤ sC s t ∧ apP s (sB s t) (pk (sB s f) n) = false ∧ (lays (sB s t) (pk (sB s f) n)).length ≤ 6 := by
  unfold mvW at h ⊢
  by_cases h1 : sY s < sP s f
  · rw [if_pos h1] at h; omega
  rw [if_neg h1] at h ⊢
  by_cases h2 : sY s < sP s t
  · rw [if_pos h2] at h; omega
  rw [if_neg h2] at h ⊢
  by_cases h3 : lT (sB s f) < n
  · rw [if_pos h3] at h; omega
  rw [if_neg h3] at h ⊢
  by_cases h4 : sC s t < lT (sB s t) + n
  · rw [if_pos h4] at h; omega
  rw [if_neg h4] at h ⊢
  by_cases h5 : apP s (sB s t) (pk (sB s f) n) = true
  · rw [if_pos h5] at h; omega
  rw [if_neg h5] at h ⊢
  by_cases h6 : 6 < (lays (sB s t) (pk (sB s f) n)).length
  · rw [if_pos h6] at h; omega
  rw [if_neg h6]
  exact ⟨rfl, h1, h2, by omega, by omega, by simpa using h5, by omega⟩
theorem mvW_r {s : gb_St} {f t : Nat} {n : Int} : -6 ≤ mvW s f t n ∧ mvW s f t n ≤ 0 := by
  unfold mvW
  repeat' split
  all_goals omega