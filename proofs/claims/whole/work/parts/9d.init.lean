/-! ROW (of the reference), and how all begins -/
theorem m_row_t {σ : gb_M} {A : gb_Ab} (h : MC σ A) {i : Nat} (hi : i < A.2.2.2.2.length) : f_X10_row [gR 36 0, gI (nZ i)] σ = some (some (gL (A.2.2.2.2.getD i 0)), gb_si σ 36 0 10 0) ∧ MC (gb_si σ 36 0 10 0) A ∧ (gb_si σ 36 0 10 0).1 36 0 10 = 0 := by
  obtain ⟨a, b, c⟩ := h.2.2.2.2
  refine ⟨?_, (MC_t h).1, si_s⟩
  have e : (gb_si σ 36 0 10 0).1 36 0 9 - 1 = nZ (A.2.2.2.2.length - 1 : Nat) := by
    rw [si_i (by omega), a, z1, z_sub]; exact congrArg nZ (by omega)
  have i0 : (0 : Int64).toInt = 0 := by decide
  rw [e_X10_row, e, m_in_t ⟨by omega, by omega⟩ (by rw [i0, nz64 ⟨by omega, by omega⟩]; omega), g_b1, e10, g_in (by omega), z_tn (by omega), Int.toNat_natCast, si_2, c i hi]
theorem m_row_f {σ : gb_M} {A : gb_Ab} (h : MC σ A) {z : Int} (hz : rZ z) (hi : ¬ (0 ≤ z ∧ z < A.2.2.2.2.length)) : ∃ x, f_X10_row [gR 36 0, gI (nZ z)] σ = some (some (gL x), gb_si (gb_si σ 36 0 10 0) 36 0 10 1) ∧ MC (gb_si (gb_si σ 36 0 10 0) 36 0 10 1) A ∧ (gb_si (gb_si σ 36 0 10 0) 36 0 10 1).1 36 0 10 = 1 := by
  obtain ⟨a, b, c⟩ := h.2.2.2.2
  refine ⟨(0 : Int32).toInt64, ?_, (MC_t (MC_t h).1).1, si_s⟩
  have e : (gb_si σ 36 0 10 0).1 36 0 9 - 1 = nZ ((A.2.2.2.2.length : Int) - 1) := by
    rw [si_i (by omega), a, z1, z_sub]
  have i0 : (0 : Int64).toInt = 0 := by decide
  rw [e_X10_row, e, m_in_f hz (by rw [i0, nz64 ⟨by omega, by omega⟩]; omega), g_b1, e00, e_X10_lost, g_b1]
theorem c_row_t {σ : gb_M} {A : gb_Ab} (h : CC σ A) {i : Nat} (hi : i < A.2.2.2.2.length) : ¬ (nZ i < 0) ∧ nZ i < σ.1 21 0 1 ∧ σ.2 22 0 i = A.2.2.2.2.getD i 0 ∧ i < 8 ∧ (nZ i).toNatClampNeg = i := by
  obtain ⟨a, b, c⟩ := h.2.2.2.2
  rw [a]
  exact ⟨by rw [z0, z_lt ⟨by omega, by omega⟩ ⟨by omega, by omega⟩]; omega, by rw [z_lt ⟨by omega, by omega⟩ ⟨by omega, by omega⟩]; omega, c i hi, by omega, by rw [z_tn (by omega), Int.toNat_natCast]⟩
theorem c_row_f {σ : gb_M} {A : gb_Ab} (h : CC σ A) {z : Int} (hz : rZ z) (hi : ¬ (0 ≤ z ∧ z < A.2.2.2.2.length)) : nZ z < 0 ∨ (¬ nZ z < 0 ∧ σ.1 21 0 1 ≤ nZ z) := by
  obtain ⟨a, b, c⟩ := h.2.2.2.2
  rw [a]
  by_cases z1 : z < 0
  · exact Or.inl (by rw [z0, z_lt hz ⟨by omega, by omega⟩]; exact z1)
  · exact Or.inr ⟨by rw [z0, z_lt hz ⟨by omega, by omega⟩]; exact z1, by rw [z_le ⟨by omega, by omega⟩ hz]; omega⟩
def gA0 : gb_Ab := (sN ru0, none, [], [], [])
theorem gA0_wf : wfA gA0 := by
  refine ⟨sN_gd uI_0, ?_, ?_, ?_⟩
  · intro s hs; cases hs
  · intro i hi; cases hi
  · show (0 : Nat) ≤ 8; omega
/-- what stands in the cells behind the constructors -/
def gb_I0 (σ : gb_M) : Prop := (∀ k j i, k ≠ 5 → k ≠ 37 → σ.1 k j i = 0) ∧ (∀ i, i < 6 → σ.1 5 0 i = 99) ∧ ∀ i, i < 176 → σ.1 37 0 i = if 6 ≤ i ∧ i < 12 then 99 else 0
theorem I0_all {σ : gb_M} (h : gb_I0 σ) : CC σ gA0 ∧ MC σ gA0 ∧ goneC σ := by
  obtain ⟨h0, h5, h37⟩ := h
  have e : ∀ k, ru0.1 k = if 6 ≤ k ∧ k < 12 then 99 else 0 := fun k => rfl
  have hO : ∀ g k, g < 6 → k < 6 → sO gA0.1 g k = 0 := fun g k hg hk => by
    show sO (sN ru0) g k = 0
    rw [sN_O hg hk]; unfold uO; rw [e, if_neg (by omega)]
  have lo : ∀ k, k < 176 → σ.1 37 0 (0 + k) = nZ ((sN ru0).1 k) := fun k hk => by
    rw [Nat.zero_add, h37 k hk]
    by_cases c : k < 54
    · rw [sN_1 c, e]; split <;> rfl
    · rw [sN_0 (by omega), if_neg (by omega)]; rfl
  refine ⟨⟨⟨sN_RS (fun g hg => ?_) (fun g hg => ⟨h0 _ _ _ (by omega) (by omega), h0 _ _ _ (by omega) (by omega), h0 _ _ _ (by omega) (by omega)⟩) (fun x hx => h0 _ _ _ (by omega) (by omega)) (h0 _ _ _ (by omega) (by omega)) (h0 _ _ _ (by omega) (by omega)), ⟨fun g hg => ?_, fun g hg => ?_, fun g k hg hk => ?_, fun g hg => ?_⟩, (sN_gd uI_0).1⟩, ⟨h0 _ _ _ (by omega) (by omega), fun s hs => by cases hs⟩, ⟨0, by omega, h0 _ _ _ (by omega) (by omega), h0 _ _ _ (by omega) (by omega), by show (0 : Nat) ≤ 8; omega, fun i hi => absurd hi (Nat.not_lt_zero _)⟩, ⟨h0 _ _ _ (by omega) (by omega), by show (0 : Nat) ≤ 200; omega, fun i hi => absurd hi (Nat.not_lt_zero _), fun i hi => absurd hi (Nat.not_lt_zero _)⟩, ⟨h0 _ _ _ (by omega) (by omega), by show (0 : Nat) ≤ 8; omega, fun i hi => absurd hi (Nat.not_lt_zero _)⟩⟩, ⟨⟨⟨fun g hg => lo g (by omega), fun g hg => ?_, fun g k hg hk => ?_, fun b hb => ?_, fun b hb => ?_, fun b hb => ?_, fun b i hb hi => absurd hi (Nat.not_lt_zero _), lo 174 (by omega), lo 175 (by omega)⟩, (sN_gd uI_0).1⟩, ⟨h0 _ _ _ (by omega) (by omega), fun s hs => by cases hs⟩, ⟨h0 _ _ _ (by omega) (by omega), by show (0 : Nat) ≤ 8; omega, fun i hi => absurd hi (Nat.not_lt_zero _)⟩, ⟨h0 _ _ _ (by omega) (by omega), by show (0 : Nat) ≤ 200; omega, fun i hi => absurd hi (Nat.not_lt_zero _), fun i hi => absurd hi (Nat.not_lt_zero _)⟩, ⟨h0 _ _ _ (by omega) (by omega), by show (0 : Nat) ≤ 8; omega, fun i hi => absurd hi (Nat.not_lt_zero _)⟩⟩, fun b hb => h0 _ _ _ (by omega) (by omega)⟩
  · rw [h0 _ _ _ (by omega) (by omega), e, if_neg (by omega)]; rfl
  · rw [h5 g hg]; show _ = nZ ((sN ru0).1 (6 + g)); rw [sN_1 (by omega), e, if_pos (by omega)]; rfl
  · rw [h0 _ _ _ (by omega) (by omega)]; show _ = nZ ((sN ru0).1 (48 + g)); rw [sN_1 (by omega), e, if_neg (by omega)]; rfl
  · rw [h0 _ _ _ (by omega) (by omega), hO g k hg hk]; rfl
  · rw [h0 _ _ _ (by omega) (by omega)]
    exact (bm_no (fun k hk => by rw [hO g k hg hk]; rfl)).symm
  · rw [show ((6 : Int) + (g : Int)).toNat = 6 + g by omega]; exact lo _ (by omega)
  · rw [show ((12 : Int) + 6 * (g : Int) + (k : Int)).toNat = 12 + (6 * g + k) by omega]; exact lo _ (by omega)
  · rw [show ((48 : Int) + (b : Int)).toNat = 48 + b by omega]; exact lo _ (by omega)
  · rw [show ((54 : Int) + (b : Int)).toNat = 54 + b by omega]; exact lo _ (by omega)
  · rw [show ((60 : Int) + (b : Int)).toNat = 60 + b by omega, Nat.zero_add, h37 _ (by omega), if_neg (by omega)]; rfl
