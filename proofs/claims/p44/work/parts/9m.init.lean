/-! HOW ALL BEGINS: what stands in the cells behind the constructors -/
def gA0 : gb_Ab := (sN ru0, none, [], [], [])
theorem gA0_wf : wfA gA0 := by
  refine ⟨sN_gd uI_0, ?_, ?_, ?_⟩
  · intro s hs; cases hs
  · intro i hi; cases hi
  · show (0 : Nat) ≤ 8; omega
def gb_I0 (σ : gb_M) : Prop := (∀ k j i, k ≠ 5 → σ.1 k j i = 0) ∧ ∀ i, i < 6 → σ.1 5 0 i = 99
theorem I0_CA {σ : gb_M} (h : gb_I0 σ) : CA σ gA0 := by
  obtain ⟨h0, h5⟩ := h
  have e : ∀ k, ru0.1 k = if 6 ≤ k ∧ k < 12 then 99 else 0 := fun k => rfl
  have hO : ∀ g k, g < 6 → k < 6 → sO gA0.1 g k = 0 := fun g k hg hk => by
    show sO (sN ru0) g k = 0
    rw [sN_O hg hk]; unfold uO; rw [e, if_neg (by omega)]
  refine ⟨⟨⟨sN_RS (fun g hg => ?_) (fun g hg => ⟨h0 _ _ _ (by omega), h0 _ _ _ (by omega), h0 _ _ _ (by omega)⟩) (fun x hx => h0 _ _ _ (by omega)) (h0 _ _ _ (by omega)) (h0 _ _ _ (by omega)), ⟨fun g hg => ?_, fun g hg => ?_, fun g k hg hk => ?_, fun g hg => ?_⟩, (sN_gd uI_0).1⟩, ⟨h0 _ _ _ (by omega), fun s hs => by cases hs⟩, ⟨0, by omega, h0 _ _ _ (by omega), h0 _ _ _ (by omega), by show (0 : Nat) ≤ 8; omega, fun i hi => absurd hi (Nat.not_lt_zero _)⟩, ⟨h0 _ _ _ (by omega), by show (0 : Nat) ≤ 200; omega, fun i hi => absurd hi (Nat.not_lt_zero _), fun i hi => absurd hi (Nat.not_lt_zero _)⟩, ⟨h0 _ _ _ (by omega), by show (0 : Nat) ≤ 8; omega, fun i hi => absurd hi (Nat.not_lt_zero _)⟩⟩, fun b hb => h0 _ _ _ (by omega), gA0_wf⟩
  · rw [h0 _ _ _ (by omega), e, if_neg (by omega)]; rfl
  · rw [h5 g hg]; show _ = nZ ((sN ru0).1 (6 + g)); rw [sN_1 (by omega), e, if_pos (by omega)]; rfl
  · rw [h0 _ _ _ (by omega)]; show _ = nZ ((sN ru0).1 (48 + g)); rw [sN_1 (by omega), e, if_neg (by omega)]; rfl
  · rw [h0 _ _ _ (by omega), hO g k hg hk]; rfl
  · rw [h0 _ _ _ (by omega)]
    exact (bm_no (fun k hk => by rw [hO g k hg hk]; rfl)).symm
