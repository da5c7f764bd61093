/-! WAYS: the reference -/
theorem ones_64 : ∀ x : Fin 64, x.val ≠ 0 → (nZ (x.val : Int) &&& (nZ (x.val : Int) - 1)) = nZ ((x.val &&& (x.val - 1) : Nat) : Int) ∧ pc (x.val &&& (x.val - 1)) + 1 = pc x.val ∧ x.val &&& (x.val - 1) < x.val := by decide +kernel
theorem m_ones4 (σ : gb_M) : ∀ n x c : Nat, x ≤ n → x < 64 → j_X10_ones_4 (nZ c) (nZ x) σ = some (some (gI (nZ (c + pc x : Nat))), σ)
  | 0, x, c, h, hx => by
    have : x = 0 := by omega
    subst this
    rw [e_X10_ones_4, if_pos (show nZ ((0 : Nat) : Int) = 0 from rfl)]
    rfl
  | n + 1, x, c, h, hx => by
    by_cases e : x = 0
    · subst e
      rw [e_X10_ones_4, if_pos (show nZ ((0 : Nat) : Int) = 0 from rfl)]
      rfl
    · obtain ⟨h1, h2, h3⟩ := ones_64 ⟨x, hx⟩ e
      dsimp only at h1 h2 h3
      rw [e_X10_ones_4, if_neg (by rw [z0, z_eq ⟨by omega, by omega⟩ ⟨by omega, by omega⟩]; omega), h1, zs, m_ones4 σ n _ (c + 1) (by omega) (by omega), show c + 1 + pc (x &&& (x - 1)) = c + pc x by omega]
theorem m_ones (σ : gb_M) {x : Nat} (hx : x < 64) : f_X10_ones [gI (nZ x)] σ = some (some (gI (nZ (pc x))), σ) := by
  have := m_ones4 σ x x 0 (Nat.le_refl x) hx
  rw [Nat.zero_add] at this
  rw [e_X10_ones]
  exact this
theorem m_ones_any4 (σ : gb_M) : ∀ n : Nat, ∀ c x : Int32, x.toUInt32.toNat ≤ n → ∃ r, j_X10_ones_4 c x σ = some (some (gI r), σ)
  | 0, c, x, h => by
    have : x = 0 := by
      have h0 : x.toUInt32.toNat = 0 := by omega
      apply Int32.toBitVec_inj.1
      apply BitVec.eq_of_toNat_eq
      exact h0
    subst this
    exact ⟨c, by rw [e_X10_ones_4, if_pos rfl]⟩
  | n + 1, c, x, h => by
    by_cases e : x = 0
    · exact ⟨c, by rw [e_X10_ones_4, if_pos e]⟩
    · rw [e_X10_ones_4, if_neg e]
      refine m_ones_any4 σ n _ _ ?_
      have hx0 : x.toBitVec.toNat ≠ 0 := fun z => e (Int32.toBitVec_inj.1 (BitVec.eq_of_toNat_eq z))
      have hlt := x.toBitVec.isLt
      show (x &&& (x - 1)).toBitVec.toNat ≤ n
      have h' : x.toBitVec.toNat ≤ n + 1 := h
      have e1 : (x &&& (x - 1)).toBitVec.toNat = x.toBitVec.toNat &&& (x - 1).toBitVec.toNat := by
        rw [Int32.toBitVec_and, BitVec.toNat_and]
      have e2 : (x - 1).toBitVec.toNat = x.toBitVec.toNat - 1 := by
        rw [Int32.toBitVec_sub, BitVec.toNat_sub]
        have : (1 : Int32).toBitVec.toNat = 1 := rfl
        rw [this]
        omega
      rw [e1, e2]
      have := Nat.and_le_right (n := x.toBitVec.toNat) (m := x.toBitVec.toNat - 1)
      omega
theorem m_ones_any (σ : gb_M) (x : Int32) : ∃ r, f_X10_ones [gI x] σ = some (some (gI r), σ) := by
  rw [e_X10_ones]
  exact m_ones_any4 σ _ 0 x (Nat.le_refl _)
theorem m_tail0 {s : gb_M} {u : Nat} (hu : u < 64) (h : s.1 36 0 32 = 0) : gb_b1 (f_X10_ones [gI (nZ u)] s) (fun x5 s4 => gb_b1 (f_X10_ones [gI (s4.1 36 0 34)] s4) (fun x7 s6 => if x5 < x7 then
        if s6.1 36 0 32 = 0 then
          some (none, gb_si (gb_si s6 36 0 34 (nZ u)) 36 0 32 1)
        else
          if 1 = 0 then some (none, gb_si s6 36 0 32 1) else some (none, gb_si (gb_si s6 36 0 34 (nZ u)) 36 0 32 1)
      else
        gb_b1 (f_X10_ones [gI (nZ u)] s6) (fun x9 s8 => gb_b1 (f_X10_ones [gI (s8.1 36 0 34)] s8) (fun x11 s10 => if x9 = x11 then
          if s10.1 36 0 34 ≤ (nZ u) then
            if s10.1 36 0 32 = 0 then
              some (none, gb_si (gb_si s10 36 0 34 (nZ u)) 36 0 32 1)
            else
              if 0 = 0 then some (none, gb_si s10 36 0 32 1) else some (none, gb_si (gb_si s10 36 0 34 (nZ u)) 36 0 32 1)
          else
            if s10.1 36 0 32 = 0 then
              some (none, gb_si (gb_si s10 36 0 34 (nZ u)) 36 0 32 1)
            else
              if 1 = 0 then some (none, gb_si s10 36 0 32 1) else some (none, gb_si (gb_si s10 36 0 34 (nZ u)) 36 0 32 1)
        else
          if s10.1 36 0 32 = 0 then
            some (none, gb_si (gb_si s10 36 0 34 (nZ u)) 36 0 32 1)
          else
            if 0 = 0 then some (none, gb_si s10 36 0 32 1) else some (none, gb_si (gb_si s10 36 0 34 (nZ u)) 36 0 32 1))))) = some (none, gb_si (gb_si s 36 0 34 (nZ u)) 36 0 32 1) := by
  obtain ⟨r, hr⟩ := m_ones_any s (s.1 36 0 34)
  rw [m_ones s hu, g_b1, hr, g_b1]
  by_cases c1 : nZ (pc u) < r
  · rw [if_pos c1, if_pos h]
  · rw [if_neg c1, m_ones s hu, g_b1, hr, g_b1]
    by_cases c2 : nZ (pc u) = r
    · rw [if_pos c2]
      by_cases c3 : s.1 36 0 34 ≤ nZ u
      · rw [if_pos c3, if_pos h]
      · rw [if_neg c3, if_pos h]
    · rw [if_neg c2, if_pos h]
theorem m_tail1 {s : gb_M} {u v : Nat} (hu : u < 64) (hv : v < 64) (h : s.1 36 0 32 = 1) (h34 : s.1 36 0 34 = nZ v) : gb_b1 (f_X10_ones [gI (nZ u)] s) (fun x5 s4 => gb_b1 (f_X10_ones [gI (s4.1 36 0 34)] s4) (fun x7 s6 => if x5 < x7 then
        if s6.1 36 0 32 = 0 then
          some (none, gb_si (gb_si s6 36 0 34 (nZ u)) 36 0 32 1)
        else
          if 1 = 0 then some (none, gb_si s6 36 0 32 1) else some (none, gb_si (gb_si s6 36 0 34 (nZ u)) 36 0 32 1)
      else
        gb_b1 (f_X10_ones [gI (nZ u)] s6) (fun x9 s8 => gb_b1 (f_X10_ones [gI (s8.1 36 0 34)] s8) (fun x11 s10 => if x9 = x11 then
          if s10.1 36 0 34 ≤ (nZ u) then
            if s10.1 36 0 32 = 0 then
              some (none, gb_si (gb_si s10 36 0 34 (nZ u)) 36 0 32 1)
            else
              if 0 = 0 then some (none, gb_si s10 36 0 32 1) else some (none, gb_si (gb_si s10 36 0 34 (nZ u)) 36 0 32 1)
          else
            if s10.1 36 0 32 = 0 then
              some (none, gb_si (gb_si s10 36 0 34 (nZ u)) 36 0 32 1)
            else
              if 1 = 0 then some (none, gb_si s10 36 0 32 1) else some (none, gb_si (gb_si s10 36 0 34 (nZ u)) 36 0 32 1)
        else
          if s10.1 36 0 32 = 0 then
            some (none, gb_si (gb_si s10 36 0 34 (nZ u)) 36 0 32 1)
          else
            if 0 = 0 then some (none, gb_si s10 36 0 32 1) else some (none, gb_si (gb_si s10 36 0 34 (nZ u)) 36 0 32 1))))) = some (none, gb_si (if fwr u (some v) = true then gb_si s 36 0 34 (nZ u) else s) 36 0 32 1) := by
  have h1 := pc_r u
  have h2 := pc_r v
  have h11 : ¬ s.1 36 0 32 = 0 := by rw [h]; decide
  have ef : fwr u (some v) = decide (pc u < pc v ∨ (pc u = pc v ∧ u < v)) := rfl
  rw [m_ones s hu, g_b1, h34, m_ones s hv, g_b1, ef]
  by_cases c1 : pc u < pc v
  · rw [if_pos (by rw [z_lt ⟨by omega, by omega⟩ ⟨by omega, by omega⟩]; omega), if_neg h11, if_pos (decide_eq_true (Or.inl c1))]
    exact if_neg (by decide)
  · rw [if_neg (by rw [z_lt ⟨by omega, by omega⟩ ⟨by omega, by omega⟩]; omega), m_ones s hu, g_b1, h34, m_ones s hv, g_b1]
    by_cases c2 : pc u = pc v
    · rw [if_pos (by rw [c2])]
      by_cases c3 : u < v
      · rw [if_neg (by rw [h34, z_le ⟨by omega, by omega⟩ ⟨by omega, by omega⟩]; omega), if_neg h11, if_pos (decide_eq_true (Or.inr ⟨c2, c3⟩))]
        exact if_neg (by decide)
      · rw [if_pos (by rw [h34, z_le ⟨by omega, by omega⟩ ⟨by omega, by omega⟩]; omega), if_neg h11, if_neg (show ¬ (decide (pc u < pc v ∨ (pc u = pc v ∧ u < v)) = true) from fun z => by have := of_decide_eq_true z; omega)]
        exact if_pos rfl
    · rw [if_neg (by rw [z_eq ⟨by omega, by omega⟩ ⟨by omega, by omega⟩]; omega), if_neg h11, if_neg (show ¬ (decide (pc u < pc v ∨ (pc u = pc v ∧ u < v)) = true) from fun z => by have := of_decide_eq_true z; omega)]
      exact if_pos rfl
