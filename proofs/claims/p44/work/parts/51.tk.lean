/-! DRAWING from below, on lists -/
def tk (L : List gb_Ly) (t : Int) : List gb_Ly := match L with
  | [] => []
  | l :: L => if t < l.2.1 then (l.1, l.2.1 - max 0 t, l.2.2) :: L else tk L (t - l.2.1)
def pk (L : List gb_Ly) (t : Int) : List gb_Ly := match L with
  | [] => []
  | l :: L => if t ≤ 0 then [] else (l.1, min t l.2.1, l.2.2) :: pk L (t - l.2.1)
def mnU (s : gb_St) (on : Int) (L : List gb_Ly) (t : Int) : Int := match L with
  | [] => 999
  | l :: L => if t ≤ 0 then 999 else min (sU s on l) (mnU s on L (t - l.2.1))
theorem tk_0 {L : List gb_Ly} {t : Int} (h : ∀ l ∈ L, okL l) (ht : t ≤ 0) : tk L t = L := by
  cases L with
  | nil => rfl
  | cons l L =>
    have := (h l List.mem_cons_self).2.1
    unfold tk
    rw [if_pos (by omega), show max 0 t = 0 by omega, Int.sub_zero]
theorem lT_c {l : gb_Ly} {L : List gb_Ly} : lT (l :: L) = l.2.1 + lT L := rfl
theorem lG_c {l : gb_Ly} {L : List gb_Ly} {g : Nat} : lG (l :: L) g = (if l.1 = g then l.2.1 else 0) + lG L g := rfl
theorem lT_nn {L : List gb_Ly} (h : ∀ l ∈ L, okL l) : 0 ≤ lT L := sL_nn (fun l hl => by have := (h l hl).2.1; omega)
theorem tk_all {L : List gb_Ly} : ∀ {t : Int}, (∀ l ∈ L, okL l) → lT L ≤ t → tk L t = [] := by
  induction L with
  | nil => intros; rfl
  | cons l L ih =>
    intro t h ht
    rw [lT_c] at ht
    have h1 := lT_nn (fun x hx => h x (List.mem_cons_of_mem l hx))
    unfold tk
    rw [if_neg (by omega)]
    exact ih (fun x hx => h x (List.mem_cons_of_mem _ hx)) (by omega)
theorem tk_app {A : List gb_Ly} {l : gb_Ly} : ∀ {t : Int}, (∀ x ∈ A, okL x) → 1 ≤ l.2.1 → tk (A ++ [l]) t = tk A t ++ (if t - lT A < l.2.1 then [(l.1, l.2.1 - max 0 (t - lT A), l.2.2)] else []) := by
  induction A with
  | nil =>
    intro t h hl
    simp only [List.nil_append, tk, lT, sL, Int.sub_zero]
  | cons a A ih =>
    intro t h hl
    have h1 := lT_nn (fun x hx => h x (List.mem_cons_of_mem a hx))
    have h2 := (h a List.mem_cons_self).2.1
    rw [List.cons_append, lT_c]
    unfold tk
    by_cases ht : t < a.2.1
    · rw [if_pos ht, if_pos ht, if_pos (by omega), show max 0 (t - (a.2.1 + lT A)) = 0 by omega, Int.sub_zero]
      rfl
    · rw [if_neg ht, if_neg ht, ih (fun x hx => h x (List.mem_cons_of_mem _ hx)) hl, show t - a.2.1 - lT A = t - (a.2.1 + lT A) by omega]
theorem lT_tk {L : List gb_Ly} : ∀ {t : Int}, (∀ x ∈ L, okL x) → lT (tk L t) = max 0 (lT L - max 0 t) := by
  induction L with
  | nil => intro t h; simp only [tk, lT, sL]; omega
  | cons l L ih =>
    intro t h
    have h1 := lT_nn (fun x hx => h x (List.mem_cons_of_mem l hx))
    have h2 := (h l List.mem_cons_self).2.1
    unfold tk
    by_cases ht : t < l.2.1
    · rw [if_pos ht, lT_c, lT_c]; simp only []; omega
    · rw [if_neg ht, ih (fun x hx => h x (List.mem_cons_of_mem _ hx)), lT_c]; omega
theorem ok_tk {L : List gb_Ly} : ∀ {t : Int}, (∀ x ∈ L, okL x) → ∀ x ∈ tk L t, okL x := by
  induction L with
  | nil => intro t h x hx; cases hx
  | cons l L ih =>
    intro t h x hx
    have h2 := h l List.mem_cons_self
    unfold tk at hx
    by_cases ht : t < l.2.1
    · rw [if_pos ht] at hx
      rcases List.mem_cons.mp hx with rfl | hx
      · exact ⟨h2.1, by show 1 ≤ l.2.1 - max 0 t; have := h2.2.1; omega, by show l.2.1 - max 0 t ≤ 99; have := h2.2.2.1; omega, h2.2.2.2⟩
      · exact h x (List.mem_cons_of_mem _ hx)
    · rw [if_neg ht] at hx
      exact ih (fun x hx => h x (List.mem_cons_of_mem _ hx)) x hx
theorem tk_len {L : List gb_Ly} : ∀ {t : Int}, (tk L t).length ≤ L.length := by
  induction L with
  | nil => intro t; exact Nat.le_refl _
  | cons l L ih =>
    intro t
    unfold tk
    split
    · exact Nat.le_refl _
    · exact Nat.le_trans ih (Nat.le_succ _)
theorem lG_tk_app {A : List gb_Ly} {l : gb_Ly} {t : Int} {g : Nat} (h : ∀ x ∈ A, okL x) (hl : 1 ≤ l.2.1) : lG (tk (A ++ [l]) t) g = lG (tk A t) g + (if l.1 = g then max 0 (l.2.1 - max 0 (t - lT A)) else 0) := by
  rw [tk_app h hl]
  unfold lG
  rw [sL_app]
  by_cases ht : t - lT A < l.2.1
  · rw [if_pos ht]
    simp only [sL]
    split <;> omega
  · rw [if_neg ht]
    simp only [sL]
    split <;> omega
theorem mnU_app {s : gb_St} {on : Int} {A : List gb_Ly} {l : gb_Ly} : ∀ {t : Int}, (∀ x ∈ A, okL x) → sU s on l ≤ 999 → mnU s on (A ++ [l]) t = min (mnU s on A t) (if lT A < t then sU s on l else 999) := by
  have hle : ∀ (A : List gb_Ly) (t : Int), mnU s on A t ≤ 999 := by
    intro A
    induction A with
    | nil => intro t; exact Int.le_refl _
    | cons a A ih => intro t; unfold mnU; split; exact Int.le_refl _; have := ih (t - a.2.1); omega
  induction A with
  | nil =>
    intro t h hu
    have e : lT [] = 0 := rfl
    by_cases ht : t ≤ 0
    · rw [if_neg (show ¬ lT [] < t by omega)]
      simp only [List.nil_append, mnU]
      rw [if_pos ht]; omega
    · rw [if_pos (show lT [] < t by omega)]
      simp only [List.nil_append, mnU]
      rw [if_neg ht]; omega
  | cons a A ih =>
    intro t h hu
    have h1 := lT_nn (fun x hx => h x (List.mem_cons_of_mem a hx))
    have h2 := (h a List.mem_cons_self).2.1
    rw [List.cons_append, lT_c]
    unfold mnU
    by_cases ht : t ≤ 0
    · rw [if_pos ht, if_pos ht, if_neg (by omega)]; omega
    · rw [if_neg ht, if_neg ht, ih (fun x hx => h x (List.mem_cons_of_mem _ hx)) hu]
      by_cases hx : lT A < t - a.2.1
      · rw [if_pos hx, if_pos (by omega)]; omega
      · rw [if_neg hx, if_neg (by omega)]; omega
theorem mnU_r {s : gb_St} {on : Int} (iw : iW s) {L : List gb_Ly} : ∀ {t : Int}, (∀ x ∈ L, okL x) → 0 ≤ mnU s on L t ∧ mnU s on L t ≤ 999 := by
  induction L with
  | nil => intro t h; exact ⟨by show (0 : Int) ≤ 999; omega, Int.le_refl _⟩
  | cons l L ih =>
    intro t h
    have h1 := ih (t := t - l.2.1) (fun x hx => h x (List.mem_cons_of_mem _ hx))
    have h2 := sU_r (on := on) iw (h l List.mem_cons_self)
    unfold mnU
    split <;> omega
/-- what of each layer is among the lowest -/
theorem pk_sum {L : List gb_Ly} {g : Nat} : ∀ {t : Int}, (∀ x ∈ L, okL x) → 0 ≤ t → sm L.length (fun i => if (lz L i).1 = g then pB L i t else 0) = lG (pk L t) g := by
  have key : ∀ (L : List gb_Ly) (t : Int), (∀ x ∈ L, okL x) → ∀ n, n ≤ L.length → sm n (fun i => if (lz L i).1 = g then pB L i t else 0) = lG (pk (L.take n) t) g := by
    intro L t h n
    induction n with
    | zero => intro _; simp [sm, pk, lG, sL]
    | succ n ih =>
      intro hn
      have app : ∀ (A : List gb_Ly) (l : gb_Ly) (t : Int), (∀ x ∈ A, okL x) → 1 ≤ l.2.1 → lG (pk (A ++ [l]) t) g = lG (pk A t) g + (if l.1 = g then max 0 (min l.2.1 (t - lT A)) else 0) := by
        intro A
        induction A with
        | nil =>
          intro l t _ hl
          simp only [List.nil_append, pk, lT, sL, lG]
          by_cases ht : t ≤ 0
          · rw [if_pos ht]; simp only [sL]; split <;> omega
          · rw [if_neg ht]; simp only [sL]; split <;> omega
        | cons a A iha =>
          intro l t hA hl
          have h1 := lT_nn (fun x hx => hA x (List.mem_cons_of_mem a hx))
          have h2 := (hA a List.mem_cons_self).2.1
          rw [List.cons_append, lT_c]
          unfold pk
          by_cases ht : t ≤ 0
          · rw [if_pos ht, if_pos ht]; split <;> omega
          · rw [if_neg ht, if_neg ht, lG_c, lG_c, iha l _ (fun x hx => hA x (List.mem_cons_of_mem _ hx)) hl, show t - a.2.1 - lT A = t - (a.2.1 + lT A) by omega]; omega
      rw [sm_s, ih (by omega), lz_take (by omega), app _ _ _ (fun x hx => h x (List.mem_of_mem_take hx)) (h _ (lz_mem (by omega))).2.1]
      rfl
  intro t h ht
  rw [key L t h L.length (Nat.le_refl _), List.take_length]
