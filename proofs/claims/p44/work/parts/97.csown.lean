/-! LAND: the class takes the rules up, and its bins are empty -/
theorem p_rcopy (σ : gb_M) : ∃ σ', f_X5_copy [gR 3 0, gR 3 1] σ = some (none, σ') ∧ (∀ g, g < 6 → σ'.1 4 0 g = σ.1 4 1 g ∧ σ'.1 5 0 g = σ.1 5 1 g ∧ σ'.1 8 0 g = σ.1 8 1 g ∧ σ'.1 6 0 g = σ.1 6 1 g) ∧ (∀ x, x < 36 → σ'.1 7 0 x = σ.1 7 1 x) ∧ fI 0 σ σ' := by
  obtain ⟨τ1, a1, a2, a3⟩ := lph (n := 6) (σ := σ) (fun i τ => j_X5_copy_2 0 1 (nZ i) τ) (fun i τ => fI 0 σ τ ∧ ∀ g, g < i → τ.1 4 0 g = σ.1 4 1 g ∧ τ.1 5 0 g = σ.1 5 1 g ∧ τ.1 8 0 g = σ.1 8 1 g) ⟨fI_rf, fun g hg => by omega⟩ (by
    intro i hi τ ⟨f, h⟩
    refine ⟨gb_si (gb_si (gb_si τ 4 0 i (σ.1 4 1 i)) 5 0 i (σ.1 5 1 i)) 8 0 i (σ.1 8 1 i), ?_, fI_si (fI_si (fI_si f (by omega)) (by omega)) (by omega), fun g hg => ?_⟩
    · show j_X5_copy_2 0 1 (nZ i) τ = j_X5_copy_2 0 1 (nZ (i + 1 : Nat)) _
      rw [e_X5_copy_2, if_neg (n6 (by omega)), g_in (by omega), g_in (by omega), g_in (by omega), g_in (by omega), g_in (by omega), g_in (by omega), z_tn (by omega), Int.toNat_natCast, zs]
      simp (disch := omega) only [si_k]
      rw [(f 4 1 i (by omega)).1, (f 5 1 i (by omega)).1, (f 8 1 i (by omega)).1]
    · by_cases e : g = i
      · subst e
        simp (disch := omega) only [si_k, si_s, and_self]
      · obtain ⟨h1, h2, h3⟩ := h g (by omega)
        simp (disch := omega) only [si_k, si_i]
        exact ⟨h1, h2, h3⟩)
  obtain ⟨τ2, b1, b2, b3⟩ := lph (n := 6) (σ := τ1) (fun i τ => j_X5_copy_52 0 1 (nZ i) τ) (fun i τ => (fI 0 τ1 τ ∧ ∀ k x, k ≠ 6 → τ.1 k 0 x = τ1.1 k 0 x) ∧ ∀ g, g < i → τ.1 6 0 g = τ1.1 6 1 g) ⟨⟨fI_rf, fun _ _ _ => rfl⟩, fun g hg => by omega⟩ (by
    intro i hi τ ⟨⟨f, f'⟩, h⟩
    refine ⟨gb_si τ 6 0 i (τ1.1 6 1 i), ?_, ⟨fI_si f (by omega), fun k x hk => by rw [si_k hk]; exact f' k x hk⟩, fun g hg => ?_⟩
    · show j_X5_copy_52 0 1 (nZ i) τ = j_X5_copy_52 0 1 (nZ (i + 1 : Nat)) _
      rw [e_X5_copy_52, if_neg (n6 (by omega)), g_in (by omega), g_in (by omega), z_tn (by omega), Int.toNat_natCast, zs, (f 6 1 i (by omega)).1]
    · by_cases e : g = i
      · subst e; exact si_s
      · rw [si_i e]; exact h g (by omega))
  obtain ⟨τ3, d1, d2, d3⟩ := lph (n := 36) (σ := τ2) (fun i τ => j_X5_copy_78 0 1 (nZ i) τ) (fun i τ => (fI 0 τ2 τ ∧ ∀ k x, k ≠ 7 → τ.1 k 0 x = τ2.1 k 0 x) ∧ ∀ g, g < i → τ.1 7 0 g = τ2.1 7 1 g) ⟨⟨fI_rf, fun _ _ _ => rfl⟩, fun g hg => by omega⟩ (by
    intro i hi τ ⟨⟨f, f'⟩, h⟩
    refine ⟨gb_si τ 7 0 i (τ2.1 7 1 i), ?_, ⟨fI_si f (by omega), fun k x hk => by rw [si_k hk]; exact f' k x hk⟩, fun g hg => ?_⟩
    · show j_X5_copy_78 0 1 (nZ i) τ = j_X5_copy_78 0 1 (nZ (i + 1 : Nat)) _
      rw [e_X5_copy_78, if_neg (show ¬ (36 : Int32) ≤ nZ i by rw [z36, z_le ⟨by omega, by omega⟩ ⟨by omega, by omega⟩]; omega), g_in (by omega), g_in (by omega), z_tn (by omega), Int.toNat_natCast, zs, (f 7 1 i (by omega)).1]
    · by_cases e : g = i
      · subst e; exact si_s
      · rw [si_i e]; exact h g (by omega))
  have a1' : j_X5_copy_2 0 1 0 σ = j_X5_copy_2 0 1 (nZ (6 : Nat)) τ1 := a1
  have b1' : j_X5_copy_52 0 1 0 τ1 = j_X5_copy_52 0 1 (nZ (6 : Nat)) τ2 := b1
  have d1' : j_X5_copy_78 0 1 0 τ2 = j_X5_copy_78 0 1 (nZ (36 : Nat)) τ3 := d1
  refine ⟨τ3, by rw [e_X5_copy, a1', e_X5_copy_2, if_pos (by decide), b1', e_X5_copy_52, if_pos (by decide), d1', e_X5_copy_78, if_pos (by decide)], fun g hg => ?_, fun x hx => ?_, fI_tr a2 (fI_tr b2.1 d2.1)⟩
  · obtain ⟨h1, h2, h3⟩ := a3 g hg
    rw [d2.2 4 _ (by omega), b2.2 4 _ (by omega), d2.2 5 _ (by omega), b2.2 5 _ (by omega), d2.2 8 _ (by omega), b2.2 8 _ (by omega), d2.2 6 _ (by omega), b3 g hg, (a2 6 1 g (by omega)).1]
    exact ⟨h1, h2, h3, rfl⟩
  · rw [d3 x hx, (b2.1 7 1 x (by omega)).1, (a2 7 1 x (by omega)).1]
theorem p_sclear (σ : gb_M) : ∃ σ', f_X7_clear [gR 10 0] σ = some (none, σ') ∧ (∀ g, g < 6 → σ'.1 11 0 g = σ.1 4 0 g ∧ σ'.1 12 0 g = 0 ∧ σ'.1 13 0 g = 0 ∧ σ'.1 14 0 g = 0) ∧ (∀ x, x < 36 → σ'.1 18 0 x = 0) ∧ σ'.1 10 0 9 = 0 ∧ σ'.1 10 0 10 = 0 ∧ gb_fS 0 σ σ' := by
  obtain ⟨τ1, a1, a2, a3⟩ := lph (n := 6) (σ := σ) (fun i τ => j_X7_clear_2 0 (nZ i) τ) (fun i τ => (gb_fS 0 σ τ ∧ ∀ k x, k ≠ 11 → τ.1 k 0 x = σ.1 k 0 x) ∧ ∀ g, g < i → τ.1 11 0 g = σ.1 4 0 g) ⟨⟨fS_rf, fun _ _ _ => rfl⟩, fun g hg => by omega⟩ (by
    intro i hi τ ⟨⟨f, f'⟩, h⟩
    refine ⟨gb_si τ 11 0 i (σ.1 4 0 i), ?_, ⟨fS_si f (by omega), fun k x hk => by rw [si_k hk]; exact f' k x hk⟩, fun g hg => ?_⟩
    · show j_X7_clear_2 0 (nZ i) τ = j_X7_clear_2 0 (nZ (i + 1 : Nat)) _
      rw [e_X7_clear_2, if_neg (n6 (by omega)), g_in (by omega), g_in (by omega), z_tn (by omega), Int.toNat_natCast, zs, f.1 4 0 i (by omega)]
    · by_cases e : g = i
      · subst e; exact si_s
      · rw [si_i e]; exact h g (by omega))
  obtain ⟨τ2, b1, b2, b3⟩ := lph (n := 6) (σ := τ1) (fun i τ => j_X7_clear_31 0 (nZ i) τ) (fun i τ => (gb_fS 0 τ1 τ ∧ ∀ k x, k ≠ 12 → k ≠ 13 → k ≠ 14 → τ.1 k 0 x = τ1.1 k 0 x) ∧ ∀ g, g < i → τ.1 12 0 g = 0 ∧ τ.1 13 0 g = 0 ∧ τ.1 14 0 g = 0) ⟨⟨fS_rf, fun _ _ _ _ _ => rfl⟩, fun g hg => by omega⟩ (by
    intro i hi τ ⟨⟨f, f'⟩, h⟩
    refine ⟨gb_si (gb_si (gb_si τ 12 0 i 0) 13 0 i 0) 14 0 i 0, ?_, ⟨fS_si (fS_si (fS_si f (by omega)) (by omega)) (by omega), fun k x h1 h2 h3 => by rw [si_k h3, si_k h2, si_k h1]; exact f' k x h1 h2 h3⟩, fun g hg => ?_⟩
    · show j_X7_clear_31 0 (nZ i) τ = j_X7_clear_31 0 (nZ (i + 1 : Nat)) _
      rw [e_X7_clear_31, if_neg (n6 (by omega)), g_in (by omega), g_in (by omega), g_in (by omega), z_tn (by omega), Int.toNat_natCast, zs]
    · by_cases e : g = i
      · subst e
        simp (disch := omega) only [si_k, si_s, and_self]
      · obtain ⟨h1, h2, h3⟩ := h g (by omega)
        simp (disch := omega) only [si_k, si_i]
        exact ⟨h1, h2, h3⟩)
  obtain ⟨τ3, d1, d2, d3⟩ := lph (n := 36) (σ := τ2) (fun i τ => j_X7_clear_66 0 (nZ i) τ) (fun i τ => (gb_fS 0 τ2 τ ∧ ∀ k x, k ≠ 18 → τ.1 k 0 x = τ2.1 k 0 x) ∧ ∀ g, g < i → τ.1 18 0 g = 0) ⟨⟨fS_rf, fun _ _ _ => rfl⟩, fun g hg => by omega⟩ (by
    intro i hi τ ⟨⟨f, f'⟩, h⟩
    refine ⟨gb_si τ 18 0 i 0, ?_, ⟨fS_si f (by omega), fun k x hk => by rw [si_k hk]; exact f' k x hk⟩, fun g hg => ?_⟩
    · show j_X7_clear_66 0 (nZ i) τ = j_X7_clear_66 0 (nZ (i + 1 : Nat)) _
      rw [e_X7_clear_66, if_neg (show ¬ (36 : Int32) ≤ nZ i by rw [z36, z_le ⟨by omega, by omega⟩ ⟨by omega, by omega⟩]; omega), g_in (by omega), z_tn (by omega), Int.toNat_natCast, zs]
    · by_cases e : g = i
      · subst e; exact si_s
      · rw [si_i e]; exact h g (by omega))
  have a1' : j_X7_clear_2 0 0 σ = j_X7_clear_2 0 (nZ (6 : Nat)) τ1 := a1
  have b1' : j_X7_clear_31 0 0 τ1 = j_X7_clear_31 0 (nZ (6 : Nat)) τ2 := b1
  have d1' : j_X7_clear_66 0 0 τ2 = j_X7_clear_66 0 (nZ (36 : Nat)) τ3 := d1
  refine ⟨gb_si (gb_si τ3 10 0 9 0) 10 0 10 0, by rw [e_X7_clear, a1', e_X7_clear_2, if_pos (by decide), b1', e_X7_clear_31, if_pos (by decide), d1', e_X7_clear_66, if_pos (by decide)], fun g hg => ?_, fun x hx => ?_, by rw [si_i (by omega), si_s], si_s, fS_si (fS_si (fS_tr a2.1 (fS_tr b2.1 d2.1)) (by omega)) (by omega)⟩
  · obtain ⟨h1, h2, h3⟩ := b3 g hg
    simp (disch := omega) only [si_k, d2.2]
    rw [b2.2 11 _ (by omega) (by omega) (by omega), a3 g hg]
    exact ⟨rfl, h1, h2, h3⟩
  · rw [si_k (by omega), si_k (by omega)]; exact d3 x hx
/-- a store with new rules and nothing in it -/
def sN (u : gb_Ru) : gb_St := (fun k => if k < 54 then u.1 k else 0, fun _ => [])
theorem sN_1 {u : gb_Ru} {k : Nat} (h : k < 54) : (sN u).1 k = u.1 k := if_pos h
theorem sN_0 {u : gb_Ru} {k : Nat} (h : 54 ≤ k) : (sN u).1 k = 0 := if_neg (by omega)
theorem sN_O {u : gb_Ru} {g h : Nat} (hg : g < 6) (hh : h < 6) : sO (sN u) g h = uO u g h := sN_1 (by omega)
theorem sN_gd {u : gb_Ru} (h : uI u) : gdS (sN u) := by
  obtain ⟨h1, h2, h3, h4, h5, h6⟩ := h
  refine ⟨⟨fun g hg => ?_, fun g hg => ?_, fun g k hg hk => ?_, fun b hb => ?_, fun b hb => ?_, fun b hb => ?_, ?_⟩, fun b hb => ?_⟩
  · show 0 ≤ (sN u).1 g ∧ (sN u).1 g ≤ 999
    rw [sN_1 (by omega)]; exact h1 g hg
  · show 0 ≤ (sN u).1 (6 + g) ∧ (sN u).1 (6 + g) ≤ 99
    rw [sN_1 (by omega)]; exact h2 g hg
  · rw [sN_O hg hk, sN_O hk hg, sN_O hg hg]; exact h3 g k hg hk
  · show 0 ≤ (sN u).1 (48 + b) ∧ (sN u).1 (48 + b) ≤ 99
    rw [sN_1 (by omega)]; exact h4 b hb
  · show 0 ≤ (sN u).1 (54 + b) ∧ (sN u).1 (54 + b) ≤ 10019
    rw [sN_0 (by omega)]; omega
  · exact ⟨by show (0 : Nat) ≤ 6; omega, by show (0 : Int) ≤ 99; omega, fun l hl => by cases hl⟩
  · show 0 ≤ (sN u).1 174 ∧ (sN u).1 174 ≤ 9999 ∧ 0 ≤ (sN u).1 175 ∧ (sN u).1 175 ≤ 2000000000
    rw [sN_0 (by omega), sN_0 (by omega)]; omega
  · exact adj_nil
theorem sN_RS {σ : gb_M} {u : gb_Ru} {j : Nat} (h11 : ∀ g, g < 6 → σ.1 11 j g = nZ (u.1 g)) (h12 : ∀ g, g < 6 → σ.1 12 j g = 0 ∧ σ.1 13 j g = 0 ∧ σ.1 14 j g = 0) (h18 : ∀ x, x < 36 → σ.1 18 j x = 0) (h9 : σ.1 10 j 9 = 0) (h10 : σ.1 10 j 10 = 0) : gb_RS σ j (sN u) := by
  refine ⟨fun g hg => ?_, fun b hb => ?_, fun b hb => (h12 b hb).2.1, fun b hb => (h12 b hb).2.2, fun b i hb hi => absurd hi (Nat.not_lt_zero _), fun b g hb hg => ?_, ?_, ?_⟩
  · rw [h11 g hg]; exact congrArg nZ (sN_1 (by omega)).symm
  · rw [(h12 b hb).1]; show _ = nZ ((sN u).1 (54 + b)); rw [sN_0 (by omega)]; rfl
  · exact h18 _ (by omega)
  · rw [h9]; show _ = nZ ((sN u).1 174); rw [sN_0 (by omega)]; rfl
  · rw [h10]; show _ = nZ ((sN u).1 175); rw [sN_0 (by omega)]; rfl
