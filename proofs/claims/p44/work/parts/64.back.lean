/-! UNDO, KEEPS, BACK -/
theorem gd_last {h : List gb_St} {i : Nat} (hi : i < h.length - 1) : h.dropLast.getD i s0 = h.getD i s0 := by
  simp [List.getD, List.getElem?_dropLast, hi]
  rw [List.getElem?_eq_getElem (by omega)]
  rfl
theorem kI0 {k : Option gb_St} : (kI k = 0) ↔ k = none := by
  cases k with
  | none => exact ⟨fun _ => rfl, fun _ => rfl⟩
  | some s => exact ⟨fun h => by have : (1 : Int32) = 0 := h; exact absurd this (by decide), fun h => by cases h⟩