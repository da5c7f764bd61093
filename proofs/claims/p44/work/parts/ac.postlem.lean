/-! behind an act -/
theorem jh_len {h : List gb_St} {s : gb_St} (h8 : h.length ≤ 8) : ((hAdd h s).length : Int) = min 8 ((h.length : Int) + 1) := by
  unfold hAdd
  split
  · next c => rw [List.length_append, List.length_tail, c]; rfl
  · next c => rw [List.length_append, List.length_singleton]; omega
theorem jh_last {h : List gb_St} {s : gb_St} : (hAdd h s).getD ((hAdd h s).length - 1) s0 = s := by
  unfold hAdd
  generalize (if h.length = 8 then h.tail else h) = x
  rw [List.length_append, List.length_singleton, Nat.add_sub_cancel, List.getD_eq_getElem?_getD, List.getElem?_append_right (Nat.le_refl _), Nat.sub_self]
  rfl
theorem jh_ne {h : List gb_St} {s : gb_St} : (hAdd h s).length ≠ 0 := by
  unfold hAdd
  rw [List.length_append, List.length_singleton]
  omega
theorem jmin8 {n : Int} (h : 0 ≤ n ∧ n ≤ 8) : (if nZ (n + 1) < 8 then nZ (n + 1) else 8) = nZ (min 8 (n + 1)) := by
  rw [show (8 : Int32) = nZ 8 from rfl]
  by_cases c : n + 1 < 8
  · rw [if_pos (zy_lt (b := 8) ⟨by omega, by omega⟩ ⟨by omega, by omega⟩ c), show min 8 (n + 1) = n + 1 by omega]
  · rw [if_neg (zn_lt (b := 8) ⟨by omega, by omega⟩ ⟨by omega, by omega⟩ c), show min 8 (n + 1) = 8 by omega]
