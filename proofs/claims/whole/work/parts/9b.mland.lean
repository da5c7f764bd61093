/-! LAND: the reference reads the text, and begins anew -/
section MLD
variable {T : List Int}
theorem st_F {σ : gb_M} {w : Nat} {v1 : Int32} (h : mF σ w) : j_X10_land_77 v1 0 σ = some (some (gI (nZ (-21 - (w : Int)))), σ) := by
  rw [e_X10_land_77, if_pos rfl, if_neg (mF_ne h), if_neg (mF_ne h), h.1, show (-21 : Int32) = nZ (-21) from rfl, z_sub]
theorem st_R {σ : gb_M} {q : Nat} {v1 : Int32} (h : mR σ T q) (c : q = T.length) : j_X10_land_77 v1 0 σ = gb_b0 (f_X10_begins [gR 36 0] σ) (fun s2 => j_X10_land_185 v1 0 s2) := by
  have h3 := h.2.2.1
  rw [e_X10_land_77, if_pos rfl, if_pos h3, h.1, h.2.1, if_pos (by rw [c]; exact Int32.le_refl _), if_pos h3]
theorem st_Q {σ : gb_M} {q : Nat} {v1 : Int32} (h : mR σ T q) (c : ¬ q = T.length) : ∃ σ', j_X10_land_77 v1 0 σ = some (some (gI (nZ (-21 - (q : Int)))), σ') ∧ rU σ σ' := by
  have h1 := h.2.2.2.1
  have h2 := h.2.2.2.2.1
  obtain ⟨σ', a, b, d⟩ := m_fault h (w := q) (by omega)
  refine ⟨σ', ?_, rU_w d⟩
  rw [e_X10_land_77, if_pos rfl, if_pos h.2.2.1, h.1, h.2.1, if_neg (by rw [z_le ⟨by omega, by omega⟩ ⟨by omega, by omega⟩]; omega), a, g_b0, if_neg (mF_ne b), b.1, show (-21 : Int32) = nZ (-21) from rfl, z_sub]
def mS (r : gb_R) (σ : gb_M) (x : Option (gb_Ru × Nat) × Nat) : Prop := ∃ σ', rU σ σ' ∧ (x.1 = none → r = some (some (gI (nZ (-21 - (x.2 : Int)))), σ')) ∧ ∀ u' N, x.1 = some (u', N) → r = gb_b0 (f_X10_begins [gR 36 0] σ') (fun s2 => j_X10_land_185 (nZ (N : Nat)) 0 s2) ∧ mU σ' u'
theorem mS_n {r : gb_R} {σ σ' : gb_M} {q : Nat} (f : rU σ σ') (h : r = some (some (gI (nZ (-21 - (q : Int)))), σ')) : mS r σ (none, q) := ⟨σ', f, fun _ => h, fun _ _ z => by cases z⟩
theorem m_rlS : ∀ m u n p (σ : gb_M), T.length < m + p → uI u → mR σ T p → mU σ u → mS (j_X10_land_77 (nZ (n : Nat)) 1 σ) σ (rlS T m u n p)
  | 0, u, n, p, σ, hm, _, h, _ => by have := h.2.2.2.1; omega
  | m + 1, u, n, p, σ, hm, hI, h, hu => by
    have h200 := h.2.2.2.2.1
    obtain ⟨τ, a1, a2, a3, a4⟩ := m_rlL h hu hI
    rw [e_X10_land_77, if_neg (show ¬ (1 : Int32) = 0 by decide), if_pos h.2.2.1, a1, g_b0]
    unfold rlS
    cases hl : (rlL T u p).1 with
    | none =>
      have hF := a3 hl
      rw [if_neg (mF_ne hF), if_pos (show 0 = 0 from rfl), st_F hF]
      exact mS_n a2 rfl
    | some u' =>
      obtain ⟨hI', hq1⟩ := rlL_q hI hl
      obtain ⟨hR, hu'⟩ := a4 u' hl
      have hq := hR.2.2.2.1
      have ht := tA_r h.2.2.2.2.2.2 (rlL T u p).2
      rw [if_pos hR.2.2.1, m_sees hR, g_b1]
      dsimp only
      by_cases c2 : (rlL T u p).2 < T.length
      · rw [if_pos c2]
        by_cases c4 : tA T (rlL T u p).2 = 59
        · obtain ⟨r1, r2⟩ := mR_at hR (q := (rlL T u p).2 + 1) (by omega)
          obtain ⟨σ', i1, i2⟩ := m_rlS m u' (n + 1) _ _ (by omega) hI' r1 (mU_rd r2 hu')
          rw [if_pos (show nZ (tA T (rlL T u p).2) = 59 by rw [c4]; rfl), if_neg (show ¬ 1 = 0 by decide), if_pos c4, hR.2.1, zs, zs]
          exact ⟨σ', fX_tr a2 (fX_tr (rU_w r2) i1), i2⟩
        · obtain ⟨σ', i1, i2⟩ := st_Q (v1 := nZ (n + 1 : Nat)) hR (show ¬ (rlL T u p).2 = T.length by omega)
          rw [if_neg (show ¬ nZ (tA T (rlL T u p).2) = 59 by rw [show (59 : Int32) = nZ 59 from rfl, z_eq ⟨by omega, by omega⟩ ⟨by omega, by omega⟩]; exact c4), if_pos (show 0 = 0 from rfl), if_neg c4, zs, i1]
          exact mS_n (fX_tr a2 i2) rfl
      · have e59 : ¬ nZ (tA T (rlL T u p).2) = 59 := by
          have : tA T (rlL T u p).2 = -1 := if_neg c2
          rw [this]; decide
        rw [if_neg c2, if_neg e59, if_pos (show 0 = 0 from rfl), zs, st_R hR (by omega)]
        refine ⟨τ, a2, fun z => (by cases z), fun u'' N z => ?_⟩
        cases z
        exact ⟨rfl, hu'⟩
end MLD
theorem m_begins (σ : gb_M) : ∃ σ', f_X10_begins [gR 36 0] σ = some (none, σ') ∧ gb_fP (fun k => k = 37) σ σ' ∧ ∀ x, 54 ≤ x → x < 176 → σ'.1 37 0 x = 0 := by
  obtain ⟨τ1, a1, a2, a3⟩ := lph (n := 176) (σ := σ) (fun i τ => j_X10_begins_2 (nZ i) τ) (fun i τ => gb_fP (fun k => k = 37) σ τ ∧ ∀ x, x < i → τ.1 37 0 x = 0) ⟨fP_rf, fun g hg => by omega⟩ (by
    intro i hi τ ⟨f, h⟩
    refine ⟨gb_si τ 37 0 i 0, ?_, fP_si f rfl, fun g hg => ?_⟩
    · show j_X10_begins_2 (nZ i) τ = j_X10_begins_2 (nZ (i + 1 : Nat)) _
      rw [e_X10_begins_2, if_neg (show ¬ (176 : Int32) ≤ nZ i by rw [z176, z_le ⟨by omega, by omega⟩ ⟨by omega, by omega⟩]; omega), g_in (by omega), z_tn (by omega), Int.toNat_natCast, zs]
    · by_cases e : g = i
      · subst e; exact si_s
      · rw [si_i e]; exact h g (by omega))
  obtain ⟨τ2, b1, b2, b3⟩ := lph (n := 6) (σ := τ1) (fun i τ => j_X10_begins_24 (nZ i) τ) (fun i τ => gb_fP (fun k => k = 37) τ1 τ ∧ ∀ x, 12 ≤ x → τ.1 37 0 x = τ1.1 37 0 x) ⟨fP_rf, fun _ _ => rfl⟩ (by
    intro i hi τ ⟨f, h⟩
    refine ⟨gb_si τ 37 0 (6 + (i : Int)).toNat 99, ?_, fP_si f rfl, fun x hx => by rw [si_i (by omega)]; exact h x hx⟩
    show j_X10_begins_24 (nZ i) τ = j_X10_begins_24 (nZ (i + 1 : Nat)) _
    rw [e_X10_begins_24, if_neg (n6 (by omega)), z6, z_add, g_in (by omega), z_tn (by omega), zs])
  have a1' : j_X10_begins_2 0 σ = j_X10_begins_2 (nZ (176 : Nat)) τ1 := a1
  have b1' : j_X10_begins_24 0 τ1 = j_X10_begins_24 (nZ (6 : Nat)) τ2 := b1
  exact ⟨τ2, by rw [e_X10_begins, a1', e_X10_begins_2, if_pos (by decide), b1', e_X10_begins_24, if_pos (by decide)], fP_tr a2 b2, fun x h1 h2 => by rw [b3 x (by omega)]; exact a3 x h2⟩
theorem m_185 {σ : gb_M} {N : Nat} {u : gb_Ru} (h46 : ∀ k, k < 54 → σ.1 46 0 k = nZ (u.1 k)) (h37 : ∀ x, 54 ≤ x → x < 176 → σ.1 37 0 x = 0) : ∃ σ', j_X10_land_185 (nZ N) 0 σ = some (some (gI (nZ N)), gb_si (gb_si σ' 36 0 5 0) 36 0 3 0) ∧ gb_fP (fun k => k = 37) σ σ' ∧ gb_RM (σ'.1 37 0) 0 (sN u) := by
  obtain ⟨τ, a1, a2, a3, a4⟩ := lph (n := 54) (σ := σ) (fun i τ => j_X10_land_185 (nZ N) (nZ i) τ) (fun i τ => gb_fP (fun k => k = 37) σ τ ∧ (∀ x, x < i → τ.1 37 0 x = nZ (u.1 x)) ∧ ∀ x, 54 ≤ x → x < 176 → τ.1 37 0 x = 0) ⟨fP_rf, fun g hg => by omega, h37⟩ (by
    intro i hi τ ⟨f, h, h'⟩
    refine ⟨gb_si τ 37 0 i (nZ (u.1 i)), ?_, fP_si f rfl, fun g hg => ?_, fun x h1 h2 => by rw [si_i (by omega)]; exact h' x h1 h2⟩
    · show j_X10_land_185 (nZ N) (nZ i) τ = j_X10_land_185 (nZ N) (nZ (i + 1 : Nat)) _
      rw [e_X10_land_185, if_neg (show ¬ (54 : Int32) ≤ nZ i by rw [z54, z_le ⟨by omega, by omega⟩ ⟨by omega, by omega⟩]; omega), g_in (by omega), g_in (by omega), z_tn (by omega), Int.toNat_natCast, zs, f.1 46 0 i (by omega), h46 i hi]
    · by_cases e : g = i
      · subst e; exact si_s
      · rw [si_i e]; exact h g (by omega))
  have a1' : j_X10_land_185 (nZ N) 0 σ = j_X10_land_185 (nZ N) (nZ (54 : Nat)) τ := a1
  have lo : ∀ k, k < 54 → τ.1 37 0 (0 + k) = nZ ((sN u).1 k) := fun k hk => by rw [Nat.zero_add, a3 k hk, sN_1 hk]
  have hi : ∀ k, 54 ≤ k → k < 176 → τ.1 37 0 (0 + k) = nZ ((sN u).1 k) := fun k h1 h2 => by rw [Nat.zero_add, a4 k h1 h2, sN_0 h1]; rfl
  refine ⟨τ, by rw [a1', e_X10_land_185, if_pos (by decide)], a2, fun g hg => lo g (by omega), fun g hg => ?_, fun g h hg hh => ?_, fun b hb => ?_, fun b hb => ?_, fun b hb => ?_, fun b i hb hi => absurd hi (Nat.not_lt_zero _), hi 174 (by omega) (by omega), hi 175 (by omega) (by omega)⟩
  · rw [show ((6 : Int) + (g : Int)).toNat = 6 + g by omega]; exact lo _ (by omega)
  · rw [show ((12 : Int) + 6 * (g : Int) + (h : Int)).toNat = 12 + (6 * g + h) by omega]; exact lo _ (by omega)
  · rw [show ((48 : Int) + (b : Int)).toNat = 48 + b by omega]; exact lo _ (by omega)
  · rw [show ((54 : Int) + (b : Int)).toNat = 54 + b by omega]; exact hi _ (by omega) (by omega)
  · rw [show ((60 : Int) + (b : Int)).toNat = 60 + b by omega, Nat.zero_add, a4 _ (by omega) (by omega)]; rfl
theorem m_11 (σ : gb_M) : ∃ σ', j_X10_land_11 0 σ = j_X10_land_11 (nZ (54 : Nat)) σ' ∧ gb_fP (fun k => k = 46) σ σ' ∧ ∀ x, x < 54 → σ'.1 46 0 x = nZ (ru0.1 x) := by
  have e : ∀ k, ru0.1 k = if 6 ≤ k ∧ k < 12 then 99 else 0 := fun k => rfl
  obtain ⟨τ, a1, a2, a3⟩ := lph (n := 54) (σ := σ) (fun i τ => j_X10_land_11 (nZ i) τ) (fun i τ => gb_fP (fun k => k = 46) σ τ ∧ ∀ x, x < i → τ.1 46 0 x = nZ (ru0.1 x)) ⟨fP_rf, fun g hg => by omega⟩ (by
    intro i hi τ ⟨f, h⟩
    refine ⟨gb_si τ 46 0 i (nZ (ru0.1 i)), ?_, fP_si f rfl, fun g hg => ?_⟩
    · show j_X10_land_11 (nZ i) τ = j_X10_land_11 (nZ (i + 1 : Nat)) _
      rw [e_X10_land_11, if_neg (show ¬ (54 : Int32) ≤ nZ i by rw [z54, z_le ⟨by omega, by omega⟩ ⟨by omega, by omega⟩]; omega), g_in (by omega), z_tn (by omega), Int.toNat_natCast, zs, e]
      by_cases c1 : i < 6
      · rw [if_pos (by rw [z6, z_lt ⟨by omega, by omega⟩ ⟨by omega, by omega⟩]; omega), if_neg (show ¬ (6 ≤ i ∧ i < 12) by omega)]; rfl
      · rw [if_neg (by rw [z6, z_lt ⟨by omega, by omega⟩ ⟨by omega, by omega⟩]; omega)]
        by_cases c2 : 12 ≤ i
        · rw [if_pos (by rw [z12, z_le ⟨by omega, by omega⟩ ⟨by omega, by omega⟩]; omega), if_neg (show ¬ (6 ≤ i ∧ i < 12) by omega)]; rfl
        · rw [if_neg (by rw [z12, z_le ⟨by omega, by omega⟩ ⟨by omega, by omega⟩]; omega), g_in (by omega), if_pos (show 6 ≤ i ∧ i < 12 by omega)]; rfl
    · by_cases e : g = i
      · subst e; exact si_s
      · rw [si_i e]; exact h g (by omega))
  exact ⟨τ, a1, a2, a3⟩
