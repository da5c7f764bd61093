/-! LAND: the class reads the text -/
def rlE (x : Option (gb_Ru × Nat) × Nat) : Int := match x.1 with
  | none => -21 - (x.2 : Int)
  | some y => y.2
theorem c_rlS {T : List Int} : ∀ m u n p (σ : gb_M), T.length < m + p → 2 * n ≤ p → uI u → cR σ T p → cU σ u → ∃ (σ' : gb_M) (q : Nat), j_X5_read_15 1 (nZ (n + 1 : Nat)) σ = some (some (gI (nZ (rlE (rlS T m u n p)))), σ') ∧ cR σ' T q ∧ fU σ σ' ∧ (∀ u' N, (rlS T m u n p).1 = some (u', N) → cU σ' u' ∧ uI u' ∧ N ≤ 200) ∧ (rlS T m u n p).2 ≤ 200
  | 0, u, n, p, σ, hm, _, _, h, _ => by have := h.2.2; omega
  | m + 1, u, n, p, σ, hm, hn, hI, h, hu => by
    obtain ⟨hr, h200⟩ := cR_t h
    have hpl := h.2.2
    have fl : ∀ (τ : gb_M) (q : Nat), cR τ T q → gb_b1 (f_X8_fault [gR 1 0] τ) (fun x4 s3 => some (some (gI x4), s3)) = some (some (gI (nZ (-21 - (q : Int)))), τ) := by
      intro τ q hq
      rw [e_X8_fault, g_b1, hq.2.1, show (-21 : Int32) = nZ (-21) from rfl, z_sub]
    obtain ⟨τ, a1, a2, a3, a4⟩ := c_rlL hI h hu
    have hq := a2.2.2
    rw [e_X5_read_15, if_neg (show ¬ (200 : Int32) < nZ (n + 1 : Nat) by rw [show (200 : Int32) = nZ 200 from rfl, z_lt ⟨by omega, by omega⟩ ⟨by omega, by omega⟩]; omega), a1, g_b1]
    unfold rlS
    cases hl : (rlL T u p).1 with
    | none =>
      refine ⟨τ, _, ?_, a2, a3, fun u' N z => (by cases z), by show (rlL T u p).2 ≤ 200; omega⟩
      have : oI none = 0 := rfl
      rw [this, e00, fl τ _ a2]
      rfl
    | some u' =>
      obtain ⟨hI', hq1⟩ := rlL_q hI hl
      have hu' := a4 u' hl
      have : oI (some u') = 1 := rfl
      rw [this, e10, p_ended a2, g_b1]
      dsimp only
      by_cases c2 : (rlL T u p).2 < T.length
      · rw [if_pos c2, if_pos c2, e00]
        by_cases c4 : tA T (rlL T u p).2 = 59
        · obtain ⟨τ2, b1, b2, b3⟩ := p_takes_t a2 (c := 59) (by omega) c4
          have b1' : f_X8_takes [gR 1 0, gI 59] τ = some (some (gI 1), τ2) := b1
          obtain ⟨σ', q, i1, i2, i3, i4, i5⟩ := c_rlS m u' (n + 1) _ τ2 (by omega) (by omega) hI' b2 (cU_fP b3 (fun k _ _ => by omega) hu')
          rw [if_pos c4, b1', g_b1, e10, zs]
          exact ⟨σ', q, i1, i2, fU_tr a3 (fU_tr (fU_1 b3) i3), i4, i5⟩
        · have hf : f_X8_takes [gR 1 0, gI 59] τ = some (some (gI 0), τ) := p_takes_f a2 (c := 59) (by omega) c4
          rw [if_neg c4, hf, g_b1, e00]
          exact ⟨τ, _, by rw [fl τ _ a2]; rfl, a2, a3, fun u' N z => (by cases z), by show (rlL T u p).2 ≤ 200; omega⟩
      · rw [if_neg c2, if_neg c2, e10]
        refine ⟨τ, _, rfl, a2, a3, fun u'' N z => ?_, by show (rlL T u p).2 ≤ 200; omega⟩
        cases z
        exact ⟨hu', hI', by omega⟩
/-- rules of one index only -/
def fI (j : Nat) (σ σ' : gb_M) : Prop := ∀ k i x, ¬ (3 ≤ k ∧ k ≤ 9 ∧ i = j) → σ'.1 k i x = σ.1 k i x ∧ σ'.2 k i x = σ.2 k i x
theorem fI_rf {j : Nat} {σ : gb_M} : fI j σ σ := fun _ _ _ _ => ⟨rfl, rfl⟩
theorem fI_tr {j : Nat} {σ σ' σ'' : gb_M} (h : fI j σ σ') (h' : fI j σ' σ'') : fI j σ σ'' := fun k i x a => ⟨(h' k i x a).1.trans (h k i x a).1, (h' k i x a).2.trans (h k i x a).2⟩
theorem fI_si {j : Nat} {σ σ' : gb_M} {k i : Nat} {v : Int32} (h : fI j σ σ') (hk : 3 ≤ k ∧ k ≤ 9) : fI j σ (gb_si σ' k j i v) := by
  intro k' i' x a
  refine ⟨?_, (h k' i' x a).2⟩
  rw [← (h k' i' x a).1]
  simp only [gb_si]
  rw [if_neg (fun e => by omega)]
theorem fI_fP {j : Nat} {σ σ' : gb_M} (h : fI j σ σ') : gb_fP (fun k => 3 ≤ k ∧ k ≤ 9) σ σ' := ⟨fun k i x a => (h k i x (by omega)).1, fun k i x a => (h k i x (by omega)).2⟩
theorem fI_U {σ σ' : gb_M} (h : fI 1 σ σ') : fU σ σ' := fun k i x a => h k i x (by omega)
theorem p_rclear (σ : gb_M) : ∃ σ', f_X5_clear [gR 3 1] σ = some (none, σ') ∧ cU σ' ru0 ∧ fI 1 σ σ' := by
  obtain ⟨τ1, a1, a2, a3⟩ := lph (n := 6) (σ := σ) (fun i τ => j_X5_clear_2 1 (nZ i) τ) (fun i τ => fI 1 σ τ ∧ ∀ g, g < i → τ.1 4 1 g = 0 ∧ τ.1 5 1 g = 99 ∧ τ.1 8 1 g = 0 ∧ τ.1 9 1 g = 0) ⟨fI_rf, fun g hg => by omega⟩ (by
    intro i hi τ ⟨f, h⟩
    refine ⟨gb_si (gb_si (gb_si (gb_si τ 4 1 i 0) 5 1 i 99) 8 1 i 0) 9 1 i 0, ?_, fI_si (fI_si (fI_si (fI_si f (by omega)) (by omega)) (by omega)) (by omega), fun g hg => ?_⟩
    · show j_X5_clear_2 1 (nZ i) τ = j_X5_clear_2 1 (nZ (i + 1 : Nat)) _
      rw [e_X5_clear_2, if_neg (n6 (by omega)), g_in (by omega), g_in (by omega), g_in (by omega), g_in (by omega), z_tn (by omega), Int.toNat_natCast, zs]
    · by_cases e : g = i
      · subst e
        simp (disch := omega) only [si_k, si_s, and_self]
      · obtain ⟨h1, h2, h3, h4⟩ := h g (by omega)
        simp (disch := omega) only [si_k, si_i]
        exact ⟨h1, h2, h3, h4⟩)
  obtain ⟨τ2, b1, b2, b3⟩ := lph (n := 6) (σ := τ1) (fun i τ => j_X5_clear_45 1 (nZ i) τ) (fun i τ => (fI 1 τ1 τ ∧ ∀ k x, k ≠ 6 → τ.1 k 1 x = τ1.1 k 1 x) ∧ ∀ g, g < i → τ.1 6 1 g = 0) ⟨⟨fI_rf, fun _ _ _ => rfl⟩, fun g hg => by omega⟩ (by
    intro i hi τ ⟨⟨f, f'⟩, h⟩
    refine ⟨gb_si τ 6 1 i 0, ?_, ⟨fI_si f (by omega), fun k x hk => by rw [si_k hk]; exact f' k x hk⟩, fun g hg => ?_⟩
    · show j_X5_clear_45 1 (nZ i) τ = j_X5_clear_45 1 (nZ (i + 1 : Nat)) _
      rw [e_X5_clear_45, if_neg (n6 (by omega)), g_in (by omega), z_tn (by omega), Int.toNat_natCast, zs]
    · by_cases e : g = i
      · subst e; exact si_s
      · rw [si_i e]; exact h g (by omega))
  obtain ⟨τ3, d1, d2, d3⟩ := lph (n := 36) (σ := τ2) (fun i τ => j_X5_clear_66 1 (nZ i) τ) (fun i τ => (fI 1 τ2 τ ∧ ∀ k x, k ≠ 7 → τ.1 k 1 x = τ2.1 k 1 x) ∧ ∀ g, g < i → τ.1 7 1 g = 0) ⟨⟨fI_rf, fun _ _ _ => rfl⟩, fun g hg => by omega⟩ (by
    intro i hi τ ⟨⟨f, f'⟩, h⟩
    refine ⟨gb_si τ 7 1 i 0, ?_, ⟨fI_si f (by omega), fun k x hk => by rw [si_k hk]; exact f' k x hk⟩, fun g hg => ?_⟩
    · show j_X5_clear_66 1 (nZ i) τ = j_X5_clear_66 1 (nZ (i + 1 : Nat)) _
      rw [e_X5_clear_66, if_neg (show ¬ (36 : Int32) ≤ nZ i by rw [z36, z_le ⟨by omega, by omega⟩ ⟨by omega, by omega⟩]; omega), g_in (by omega), z_tn (by omega), Int.toNat_natCast, zs]
    · by_cases e : g = i
      · subst e; exact si_s
      · rw [si_i e]; exact h g (by omega))
  have a1' : j_X5_clear_2 1 0 σ = j_X5_clear_2 1 (nZ (6 : Nat)) τ1 := a1
  have b1' : j_X5_clear_45 1 0 τ1 = j_X5_clear_45 1 (nZ (6 : Nat)) τ2 := b1
  have d1' : j_X5_clear_66 1 0 τ2 = j_X5_clear_66 1 (nZ (36 : Nat)) τ3 := d1
  have e : ∀ k, ru0.1 k = if 6 ≤ k ∧ k < 12 then 99 else 0 := fun k => rfl
  have c3 : ∀ k x, k ≠ 7 → k ≠ 6 → τ3.1 k 1 x = τ1.1 k 1 x := fun k x h7 h6 => by rw [d2.2 k x h7, b2.2 k x h6]
  have cO : ∀ g h, g < 6 → h < 6 → uO ru0 g h = 0 := fun g h hg hh => by unfold uO; rw [e, if_neg (by omega)]
  refine ⟨gb_si (gb_si τ3 3 1 6 0) 3 1 7 0, ?_, ⟨fun g hg => ?_, fun g hg => ?_, fun g hg => ?_, fun g k hg hk => ?_, fun g hg => ?_, fun g hg => ?_, ?_, ?_⟩, fI_si (fI_si (fI_tr a2 (fI_tr b2.1 d2.1)) (by omega)) (by omega)⟩
  · rw [e_X5_clear, a1', e_X5_clear_2, if_pos (by decide), b1', e_X5_clear_45, if_pos (by decide), d1', e_X5_clear_66, if_pos (by decide)]
  · rw [si_k (by omega), si_k (by omega), c3 4 _ (by omega) (by omega), (a3 g hg).1, e, if_neg (by omega)]; rfl
  · rw [si_k (by omega), si_k (by omega), c3 5 _ (by omega) (by omega), (a3 g hg).2.1, e, if_pos (by omega)]; rfl
  · rw [si_k (by omega), si_k (by omega), d2.2 6 _ (by omega), b3 g hg, e, if_neg (by omega)]; rfl
  · rw [si_k (by omega), si_k (by omega), d3 _ (by omega), cO g k hg hk]; rfl
  · rw [si_k (by omega), si_k (by omega), c3 8 _ (by omega) (by omega), (a3 g hg).2.2.1]
    exact (bm_no (fun k hk => by rw [cO g k hg hk]; rfl)).symm
  · rw [si_k (by omega), si_k (by omega), c3 9 _ (by omega) (by omega), (a3 g hg).2.2.2]
    exact (bm_no (fun k hk => rfl)).symm
  · rw [si_i (by omega), si_s]
    exact (bm_no (fun k hk => rfl)).symm
  · rw [si_s]
    exact (bm_no (fun k hk => rfl)).symm
def ldT (T : List Int) : Option (gb_Ru × Nat) × Nat := if T.length = 0 then (some (ru0, 0), 0) else rlS T (T.length + 1) ru0 0 0
theorem p_rread {σ : gb_M} {T : List Int} (h : cR σ T 0) : ∃ (σ' : gb_M) (q : Nat), f_X5_read [gR 3 1, gR 1 0] σ = some (some (gI (nZ (rlE (ldT T)))), σ') ∧ cR σ' T q ∧ fU σ σ' ∧ (∀ u' N, (ldT T).1 = some (u', N) → cU σ' u' ∧ uI u' ∧ N ≤ 200) ∧ (ldT T).2 ≤ 200 := by
  obtain ⟨τ, a1, a2, a3⟩ := p_rclear σ
  have h1 : cR τ T 0 := cR_fP (fI_fP a3) (by omega) (by omega) h
  rw [e_X5_read, a1, g_b0, p_ended h1, g_b1]
  unfold ldT
  by_cases c0 : T.length = 0
  · rw [if_pos c0, if_neg (show ¬ 0 < T.length by omega), e10]
    exact ⟨τ, 0, rfl, h1, fI_U a3, fun u' N z => (by cases z; exact ⟨a2, uI_0, by omega⟩), by omega⟩
  · rw [if_neg c0, if_pos (show 0 < T.length by omega), e00]
    obtain ⟨σ', q, i1, i2, i3, i4, i5⟩ := c_rlS (T := T) (T.length + 1) ru0 0 0 τ (by omega) (by omega) uI_0 h1 a2
    exact ⟨σ', q, i1, i2, fU_tr (fI_U a3) i3, i4, i5⟩
