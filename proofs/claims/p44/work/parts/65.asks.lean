/-! ASKS 1: pair, grade, bin, value, all, mixed, takers, room -/
theorem ts_in {y lo hi : Int} {ts : List gb_C} {df t : gb_C} (hy : rZ y) (h : lo ≤ y ∧ y ≤ hi) (ht : ts[(y - lo).toNat]? = some t) : gb_tsel (nZ y) lo hi ts df = t := by
  unfold gb_tsel
  rw [nZ_ti hy, if_neg (by omega), ht]
theorem ts_out {y lo hi : Int} {ts : List gb_C} {df : gb_C} (hy : rZ y) (h : ¬ (lo ≤ y ∧ y ≤ hi)) : gb_tsel (nZ y) lo hi ts df = df := by
  unfold gb_tsel
  rw [nZ_ti hy, if_pos (by omega)]
def it {α : Type} (n : Nat) (x : α) (f : Nat → α → α) : α := match n with
  | 0 => x
  | n + 1 => f n (it n x f)