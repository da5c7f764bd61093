/-! BITS: six of them -/
def B6 (a0 a1 a2 a3 a4 a5 : Bool) : Int32 := (if a0 then 1 else 0) ||| (if a1 then 2 else 0) ||| (if a2 then 4 else 0) ||| (if a3 then 8 else 0) ||| (if a4 then 16 else 0) ||| (if a5 then 32 else 0)
theorem bm_B6 (P : Nat → Bool) : bm 6 P = B6 (P 0) (P 1) (P 2) (P 3) (P 4) (P 5) := by
  have e : ∀ a0 a1 a2 a3 a4 a5 : Bool, bm 6 (fun n => match n with | 0 => a0 | 1 => a1 | 2 => a2 | 3 => a3 | 4 => a4 | _ => a5) = B6 a0 a1 a2 a3 a4 a5 := by decide +kernel
  exact e (P 0) (P 1) (P 2) (P 3) (P 4) (P 5)
theorem B6_and : ∀ a0 a1 a2 a3 a4 a5 b0 b1 b2 b3 b4 b5 : Bool, decide (B6 a0 a1 a2 a3 a4 a5 &&& B6 b0 b1 b2 b3 b4 b5 = 0) = !((a0 && b0) || (a1 && b1) || (a2 && b2) || (a3 && b3) || (a4 && b4) || (a5 && b5)) := by decide +kernel
theorem bm_and (P Q : Nat → Bool) : (bm 6 P &&& bm 6 Q = 0) = (∀ h, h < 6 → ¬ (P h = true ∧ Q h = true)) := by
  rw [bm_B6, bm_B6]
  have h := B6_and (P 0) (P 1) (P 2) (P 3) (P 4) (P 5) (Q 0) (Q 1) (Q 2) (Q 3) (Q 4) (Q 5)
  apply propext
  constructor
  · intro e k hk
    rw [decide_eq_true e] at h
    have : k = 0 ∨ k = 1 ∨ k = 2 ∨ k = 3 ∨ k = 4 ∨ k = 5 := by omega
    intro hc
    rcases this with rfl | rfl | rfl | rfl | rfl | rfl <;> simp [hc.1, hc.2] at h
  · intro hn
    have f : ∀ k, k < 6 → (P k && Q k) = false := by
      intro k hk
      cases hp : P k with
      | false => rfl
      | true =>
        cases hq : Q k with
        | false => rfl
        | true => exact absurd ⟨hp, hq⟩ (hn k hk)
    rw [f 0 (by omega), f 1 (by omega), f 2 (by omega), f 3 (by omega), f 4 (by omega), f 5 (by omega)] at h
    exact of_decide_eq_true h
theorem bm_cg {n : Nat} {P Q : Nat → Bool} (h : ∀ i, i < n → P i = Q i) : bm n P = bm n Q := by
  induction n with
  | zero => rfl
  | succ n ih =>
    have h1 := h n (by omega)
    have h2 := ih (fun i hi => h i (by omega))
    cases hq : Q n with
    | true => rw [bm_t hq, bm_t (h1.trans hq), h2]
    | false => rw [bm_f hq, bm_f (h1.trans hq), h2]
theorem bm_or (P : Nat → Bool) {g : Nat} (hg : g < 6) : bm 6 P ||| (nZ 1 <<< (nZ g &&& 31)) = bm 6 (fun h => P h || decide (h = g)) := by
  rw [bm_B6, bm_B6]
  have e : g = 0 ∨ g = 1 ∨ g = 2 ∨ g = 3 ∨ g = 4 ∨ g = 5 := by omega
  have f0 : ∀ a0 a1 a2 a3 a4 a5 : Bool, B6 a0 a1 a2 a3 a4 a5 ||| (nZ 1 <<< (nZ (0 : Nat) &&& 31)) = B6 (a0 || decide (0 = 0)) (a1 || decide (1 = 0)) (a2 || decide (2 = 0)) (a3 || decide (3 = 0)) (a4 || decide (4 = 0)) (a5 || decide (5 = 0)) := by decide +kernel
  have f1 : ∀ a0 a1 a2 a3 a4 a5 : Bool, B6 a0 a1 a2 a3 a4 a5 ||| (nZ 1 <<< (nZ (1 : Nat) &&& 31)) = B6 (a0 || decide (0 = 1)) (a1 || decide (1 = 1)) (a2 || decide (2 = 1)) (a3 || decide (3 = 1)) (a4 || decide (4 = 1)) (a5 || decide (5 = 1)) := by decide +kernel
  have f2 : ∀ a0 a1 a2 a3 a4 a5 : Bool, B6 a0 a1 a2 a3 a4 a5 ||| (nZ 1 <<< (nZ (2 : Nat) &&& 31)) = B6 (a0 || decide (0 = 2)) (a1 || decide (1 = 2)) (a2 || decide (2 = 2)) (a3 || decide (3 = 2)) (a4 || decide (4 = 2)) (a5 || decide (5 = 2)) := by decide +kernel
  have f3 : ∀ a0 a1 a2 a3 a4 a5 : Bool, B6 a0 a1 a2 a3 a4 a5 ||| (nZ 1 <<< (nZ (3 : Nat) &&& 31)) = B6 (a0 || decide (0 = 3)) (a1 || decide (1 = 3)) (a2 || decide (2 = 3)) (a3 || decide (3 = 3)) (a4 || decide (4 = 3)) (a5 || decide (5 = 3)) := by decide +kernel
  have f4 : ∀ a0 a1 a2 a3 a4 a5 : Bool, B6 a0 a1 a2 a3 a4 a5 ||| (nZ 1 <<< (nZ (4 : Nat) &&& 31)) = B6 (a0 || decide (0 = 4)) (a1 || decide (1 = 4)) (a2 || decide (2 = 4)) (a3 || decide (3 = 4)) (a4 || decide (4 = 4)) (a5 || decide (5 = 4)) := by decide +kernel
  have f5 : ∀ a0 a1 a2 a3 a4 a5 : Bool, B6 a0 a1 a2 a3 a4 a5 ||| (nZ 1 <<< (nZ (5 : Nat) &&& 31)) = B6 (a0 || decide (0 = 5)) (a1 || decide (1 = 5)) (a2 || decide (2 = 5)) (a3 || decide (3 = 5)) (a4 || decide (4 = 5)) (a5 || decide (5 = 5)) := by decide +kernel
  rcases e with rfl | rfl | rfl | rfl | rfl | rfl
  · exact f0 _ _ _ _ _ _
  · exact f1 _ _ _ _ _ _
  · exact f2 _ _ _ _ _ _
  · exact f3 _ _ _ _ _ _
  · exact f4 _ _ _ _ _ _
  · exact f5 _ _ _ _ _ _
theorem bm_no {n : Nat} {P : Nat → Bool} (h : ∀ i, i < n → P i = false) : bm n P = 0 := by
  induction n with
  | zero => rfl
  | succ n ih => rw [bm_f (h n (by omega)), ih (fun i hi => h i (by omega))]
theorem bm_one {g : Nat} (hg : g < 6) : nZ 1 <<< (nZ g &&& 31) = bm 6 (fun h => decide (h = g)) := by
  have h1 := bm_or (fun _ => false) hg
  rw [bm_no (fun _ _ => rfl)] at h1
  simp only [Bool.false_or] at h1
  rw [← h1]
  have e : g = 0 ∨ g = 1 ∨ g = 2 ∨ g = 3 ∨ g = 4 ∨ g = 5 := by omega
  rcases e with rfl | rfl | rfl | rfl | rfl | rfl <;> decide +kernel
theorem bm_has (P : Nat → Bool) {g : Nat} (hg : g < 6) : (bm 6 P &&& (nZ 1 <<< (nZ g &&& 31)) = 0) = (P g = false) := by
  rw [bm_one hg, bm_and]
  apply propext
  constructor
  · intro h
    cases hp : P g with
    | false => rfl
    | true => exact absurd ⟨hp, decide_eq_true rfl⟩ (h g hg)
  · intro h k hk ⟨h1, h2⟩
    rw [of_decide_eq_true h2, h] at h1
    cases h1
/-! why not -/
def onB (L : List gb_Ly) (g : Nat) (d : Int) : Bool := decide (0 < L.length ∧ (lz L (L.length - 1)).1 = g ∧ (lz L (L.length - 1)).2.2 = d)
def ap (s : gb_St) (L : List gb_Ly) (g : Nat) : Bool := L.any (fun l => decide (sO s g l.1 < 0))
def sWhy (s : gb_St) (b g : Nat) (t d : Int) : Int := if sY s < sP s b then -2 else if sC s b < lT (sB s b) + t then -4 else if ap s (sB s b) g = true then -5 else if (sB s b).length = 6 ∧ onB (sB s b) g d = false then -6 else 0
theorem lG_pos {L : List gb_Ly} {g : Nat} : (∀ l ∈ L, okL l) → ((0 < lG L g) ↔ ∃ l ∈ L, l.1 = g) := by
  intro h
  constructor
  · intro hp
    induction L with
    | nil => simp [lG, sL] at hp
    | cons l t ih =>
      by_cases e : l.1 = g
      · exact ⟨l, List.mem_cons_self, e⟩
      · have : lG (l :: t) g = lG t g := by
          show (if l.1 = g then l.2.1 else 0) + lG t g = _
          rw [if_neg e]; omega
        rw [this] at hp
        obtain ⟨x, hx, e⟩ := ih (fun x hx => h x (List.mem_cons_of_mem _ hx)) hp
        exact ⟨x, List.mem_cons_of_mem _ hx, e⟩
  · rintro ⟨l, hl, e⟩
    induction L with
    | nil => cases hl
    | cons a t ih =>
      have h1 := h a List.mem_cons_self
      have h2 := lG_nn (g := g) (fun x hx => h x (List.mem_cons_of_mem a hx))
      have h3 : lG (a :: t) g = (if a.1 = g then a.2.1 else 0) + lG t g := rfl
      rcases List.mem_cons.mp hl with rfl | hl
      · rw [h3, if_pos e]; have := h1.2.1; omega
      · have := ih (fun x hx => h x (List.mem_cons_of_mem _ hx)) hl
        rw [h3]
        have := h1.2.1
        split <;> omega
