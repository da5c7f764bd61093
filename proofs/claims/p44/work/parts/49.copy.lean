/-! COPIES -/
theorem lph {n : Nat} {σ : gb_M} (J : Nat → gb_M → gb_R) (I : Nat → gb_M → Prop) (h0 : I 0 σ) (hs : ∀ i, i < n → ∀ τ, I i τ → ∃ τ', J i τ = J (i + 1) τ' ∧ I (i + 1) τ') : ∃ τ, J 0 σ = J n τ ∧ I n τ := by
  have : ∀ k, k ≤ n → ∃ τ, J 0 σ = J k τ ∧ I k τ := by
    intro k
    induction k with
    | zero => intro _; exact ⟨σ, rfl, h0⟩
    | succ k ih =>
      intro hk
      obtain ⟨τ, h1, h2⟩ := ih (by omega)
      obtain ⟨τ', h3, h4⟩ := hs k (by omega) τ h2
      exact ⟨τ', h1.trans h3, h4⟩
  exact this n (Nat.le_refl n)
/-- one bin of a store -/
def gb_RB (σ : gb_M) (j : Nat) (s : gb_St) (b : Nat) : Prop :=
  σ.1 12 j b = nZ (sP s b) ∧ σ.1 13 j b = nZ (sB s b).length ∧ σ.1 14 j b = nZ (lT (sB s b)) ∧
  (∀ i : Nat, i < (sB s b).length → σ.1 15 j ((b : Int) * 6 + (i : Int)).toNat = nZ (lz (sB s b) i).1 ∧ σ.1 16 j ((b : Int) * 6 + (i : Int)).toNat = nZ (lz (sB s b) i).2.1 ∧ σ.1 17 j ((b : Int) * 6 + (i : Int)).toNat = nZ (lz (sB s b) i).2.2) ∧
  (∀ g : Nat, g < 6 → σ.1 18 j ((b : Int) * 6 + (g : Int)).toNat = nZ (lG (sB s b) g))
/-- only one bin of one store has changed -/
def gb_fB (j b : Nat) (σ σ' : gb_M) : Prop := gb_fS j σ σ' ∧ (∀ x, σ'.1 10 j x = σ.1 10 j x ∧ σ'.1 11 j x = σ.1 11 j x ∧ σ'.1 12 j x = σ.1 12 j x) ∧ (∀ x, x ≠ b → σ'.1 13 j x = σ.1 13 j x ∧ σ'.1 14 j x = σ.1 14 j x) ∧ ∀ k x, (15 ≤ k ∧ k ≤ 18) → (x < b * 6 ∨ b * 6 + 6 ≤ x) → σ'.1 k j x = σ.1 k j x
theorem RB_cg {σ σ' : gb_M} {j b : Nat} {s : gb_St} (hb : b < 6) (il : iL s) (h : gb_RB σ j s b) (h12 : σ'.1 12 j b = σ.1 12 j b) (h13 : σ'.1 13 j b = σ.1 13 j b) (h14 : σ'.1 14 j b = σ.1 14 j b) (hx : ∀ k x, (15 ≤ k ∧ k ≤ 18) → (b * 6 ≤ x ∧ x < b * 6 + 6) → σ'.1 k j x = σ.1 k j x) : gb_RB σ' j s b := by
  obtain ⟨a1, a2, a3, a4, a5⟩ := h
  have hlen := (il b hb).1
  refine ⟨by rw [h12, a1], by rw [h13, a2], by rw [h14, a3], fun i hi => ?_, fun g hg => ?_⟩
  · rw [hx 15 _ (by omega) (by omega), hx 16 _ (by omega) (by omega), hx 17 _ (by omega) (by omega)]; exact a4 i hi
  · rw [hx 18 _ (by omega) (by omega)]; exact a5 g hg
theorem RS_RB {σ : gb_M} {j : Nat} {s : gb_St} (h1 : ∀ g : Nat, g < 6 → σ.1 11 j g = nZ (sW s g)) (h2 : ∀ b, b < 6 → gb_RB σ j s b) (h3 : σ.1 10 j 9 = nZ (sY s)) (h4 : σ.1 10 j 10 = nZ (sQ s)) : gb_RS σ j s :=
  ⟨h1, fun b hb => (h2 b hb).1, fun b hb => (h2 b hb).2.1, fun b hb => (h2 b hb).2.2.1, fun b i hb hi => (h2 b hb).2.2.2.1 i hi, fun b g hb hg => (h2 b hb).2.2.2.2 g hg, h3, h4⟩
theorem RB_of {σ : gb_M} {j b : Nat} {s : gb_St} (h : gb_RS σ j s) (hb : b < 6) : gb_RB σ j s b := ⟨h.2.1 b hb, h.2.2.1 b hb, h.2.2.2.1 b hb, fun i hi => h.2.2.2.2.1 b i hb hi, fun g hg => h.2.2.2.2.2.1 b g hb hg⟩
section COPY
variable {σ : gb_M} {j j1 : Nat} {s : gb_St} {b : Nat}
theorem p_copyBin (hS : gb_RS σ j1 s) (il : iL s) (hj : j1 ≠ j) (hb : b < 6) (h12 : σ.1 12 j b = nZ (sP s b)) : ∃ σ', f_X7_copyBin [gR 10 j, gR 10 j1, gI (nZ b)] σ = some (none, σ') ∧ gb_RB σ' j s b ∧ gb_fB j b σ σ' := by
  obtain ⟨cW, cP, cN, cT, cL, cH, cY, cQ⟩ := id hS
  have hlen := (il b hb).1
  rw [e_X7_copyBin]
  simp (disch := omega) only [g_in, z_tn, Int.toNat_natCast, si_k, cN, cT]
  -- has
  obtain ⟨τ, hJ, hI⟩ := lph (n := 6) (σ := gb_si (gb_si σ 13 j b (nZ (sB s b).length)) 14 j b (nZ (lT (sB s b)))) (fun i τ => j_X7_copyBin_26 j j1 (nZ b) (nZ i) τ) (fun i τ => gb_fB j b σ τ ∧ τ.1 13 j b = nZ (sB s b).length ∧ τ.1 14 j b = nZ (lT (sB s b)) ∧ ∀ g : Nat, g < i → τ.1 18 j ((b : Int) * 6 + (g : Int)).toNat = nZ (lG (sB s b) g))
    ⟨⟨fS_si (fS_si fS_rf (by omega)) (by omega), fun x => by simp (disch := omega) only [si_k, and_self], fun x hx => by simp (disch := omega) only [si_k, si_i, and_self], fun k x hk hx => by simp (disch := omega) only [si_k]⟩, by simp (disch := omega) only [si_k, si_s], by simp (disch := omega) only [si_s], fun g hg => by omega⟩ (by
    intro i hi τ ⟨⟨f1, f2, f3, f4⟩, t13, t14, t18⟩
    have e18 : τ.1 18 j1 ((b : Int) * 6 + (i : Int)).toNat = nZ (lG (sB s b) i) := by rw [f1.1 18 j1 _ (by omega)]; exact cH b i hb hi
    refine ⟨gb_si τ 18 j ((b : Int) * 6 + (i : Int)).toNat (nZ (lG (sB s b) i)), ?_, ⟨fS_si f1 (by omega), fun x => ?_, fun x hx => ?_, fun k x hk hx => ?_⟩, ?_, ?_, fun g hg => ?_⟩
    · show j_X7_copyBin_26 _ _ _ _ _ = _
      rw [e_X7_copyBin_26]
      simp (disch := omega) only [z0, z1, z2, z3, z4, z5, z6, z12, z18, z48, z54, z60, z66, z174, z175, z_neg, z_add, z_sub, z_mul, z_tn, g_in, g_b0, g_b1, Int.toNat_natCast, z_le, z_lt, z_eq, z_mx, z_mn, if_pos, if_neg, if_true, if_false, e18, Int.natCast_add, Int.natCast_one]
    · simp (disch := omega) only [si_k]; exact f2 x
    · simp (disch := omega) only [si_k]; exact f3 x hx
    · by_cases e : k = 18
      · subst e; simp (disch := omega) only [si_i]; exact f4 _ x hk hx
      · simp (disch := omega) only [si_k]; exact f4 k x hk hx
    · simp (disch := omega) only [si_k]; exact t13
    · simp (disch := omega) only [si_k]; exact t14
    · by_cases e : g = i
      · subst e; simp only [si_s]
      · simp (disch := omega) only [si_i]; exact t18 g (by omega))
  rw [show (0 : Int32) = nZ ((0 : Nat) : Int) from rfl]
  rw [hJ]
  obtain ⟨f, t13, t14, t18⟩ := hI
  -- layers
  obtain ⟨τ2, hJ2, hI2⟩ := lph (n := (sB s b).length) (σ := τ) (fun i τ => j_X7_copyBin_62 j j1 (nZ b) (nZ i) τ) (fun i τ => gb_fB j b σ τ ∧ τ.1 13 j b = nZ (sB s b).length ∧ τ.1 14 j b = nZ (lT (sB s b)) ∧ (∀ g : Nat, g < 6 → τ.1 18 j ((b : Int) * 6 + (g : Int)).toNat = nZ (lG (sB s b) g)) ∧ ∀ k : Nat, k < i → τ.1 15 j ((b : Int) * 6 + (k : Int)).toNat = nZ (lz (sB s b) k).1 ∧ τ.1 16 j ((b : Int) * 6 + (k : Int)).toNat = nZ (lz (sB s b) k).2.1 ∧ τ.1 17 j ((b : Int) * 6 + (k : Int)).toNat = nZ (lz (sB s b) k).2.2)
    ⟨f, t13, t14, t18, fun k hk => by omega⟩ (by
    intro i hi τ ⟨⟨f1, f2, f3, f4⟩, t13, t14, t18, tl⟩
    have en : τ.1 13 j1 b = nZ (sB s b).length := by rw [f1.1 13 j1 _ (by omega)]; exact cN b hb
    have e15 : τ.1 15 j1 ((b : Int) * 6 + (i : Int)).toNat = nZ (lz (sB s b) i).1 := by rw [f1.1 15 j1 _ (by omega)]; exact (cL b i hb hi).1
    have e16 : τ.1 16 j1 ((b : Int) * 6 + (i : Int)).toNat = nZ (lz (sB s b) i).2.1 := by rw [f1.1 16 j1 _ (by omega)]; exact (cL b i hb hi).2.1
    have e17 : τ.1 17 j1 ((b : Int) * 6 + (i : Int)).toNat = nZ (lz (sB s b) i).2.2 := by rw [f1.1 17 j1 _ (by omega)]; exact (cL b i hb hi).2.2
    refine ⟨gb_si (gb_si (gb_si τ 15 j ((b : Int) * 6 + (i : Int)).toNat (nZ (lz (sB s b) i).1)) 16 j ((b : Int) * 6 + (i : Int)).toNat (nZ (lz (sB s b) i).2.1)) 17 j ((b : Int) * 6 + (i : Int)).toNat (nZ (lz (sB s b) i).2.2), ?_, ⟨fS_si (fS_si (fS_si f1 (by omega)) (by omega)) (by omega), fun x => ?_, fun x hx => ?_, fun k x hk hx => ?_⟩, ?_, ?_, fun g hg => ?_, fun k hk => ?_⟩
    · show j_X7_copyBin_62 _ _ _ _ _ = _
      rw [e_X7_copyBin_62]
      simp (disch := omega) only [z0, z1, z2, z3, z4, z5, z6, z12, z18, z48, z54, z60, z66, z174, z175, z_neg, z_add, z_sub, z_mul, z_tn, g_in, g_b0, g_b1, Int.toNat_natCast, z_le, z_lt, z_eq, z_mx, z_mn, if_pos, if_neg, if_true, if_false, en, p_place, si_k, e15, e16, e17, Int.natCast_add, Int.natCast_one]
    · simp (disch := omega) only [si_k]; exact f2 x
    · simp (disch := omega) only [si_k]; exact f3 x hx
    · have h4 := f4 k x hk hx
      have : k = 15 ∨ k = 16 ∨ k = 17 ∨ k = 18 := by omega
      rcases this with rfl | rfl | rfl | rfl <;> simp (disch := omega) only [si_k, si_i] <;> exact h4
    · simp (disch := omega) only [si_k]; exact t13
    · simp (disch := omega) only [si_k]; exact t14
    · simp (disch := omega) only [si_k]; exact t18 g hg
    · by_cases e : k = i
      · subst e; simp (disch := omega) only [si_k, si_s, and_self]
      · simp (disch := omega) only [si_k, si_i]; exact tl k (by omega))
  have h26 : j_X7_copyBin_26 j j1 (nZ b) (nZ (6 : Nat)) τ = j_X7_copyBin_62 j j1 (nZ b) (nZ (0 : Nat)) τ := by
    rw [e_X7_copyBin_26]
    simp (disch := omega) only [z0, z1, z2, z3, z4, z5, z6, z12, z18, z48, z54, z60, z66, z174, z175, z_neg, z_add, z_sub, z_mul, z_tn, g_in, g_b0, g_b1, Int.toNat_natCast, z_le, z_lt, z_eq, z_mx, z_mn, if_pos, if_neg, if_true, if_false, show ((6 : Nat) : Int) = 6 from rfl]
    rfl
  rw [h26, hJ2]
  obtain ⟨f, t13, t14, t18, tl⟩ := hI2
  have en : τ2.1 13 j1 b = nZ (sB s b).length := by rw [f.1.1 13 j1 _ (by omega)]; exact cN b hb
  refine ⟨τ2, ?_, ⟨by rw [(f.2.1 b).2.2]; exact h12, t13, t14, tl, t18⟩, f⟩
  rw [e_X7_copyBin_62]
  simp (disch := omega) only [z0, z1, z2, z3, z4, z5, z6, z12, z18, z48, z54, z60, z66, z174, z175, z_neg, z_add, z_sub, z_mul, z_tn, g_in, g_b0, g_b1, Int.toNat_natCast, z_le, z_lt, z_eq, z_mx, z_mn, if_pos, if_neg, if_true, if_false, en]
theorem p_copy (hC : gb_SC σ j1 s) (hj : j1 ≠ j) : ∃ σ', f_X7_copy [gR 10 j, gR 10 j1] σ = some (none, σ') ∧ gb_SC σ' j s ∧ gb_fS j σ σ' := by
  obtain ⟨cW, cP, cN, cT, cL, cH, cY, cQ⟩ := id hC.1
  have il := hC.2.2.2.2.2.2.2.1
  rw [e_X7_copy]
  obtain ⟨τ, hJ, hI⟩ := lph (n := 6) (σ := σ) (fun i τ => j_X7_copy_2 j j1 (nZ i) τ) (fun i τ => gb_fS j σ τ ∧ ∀ g : Nat, g < i → τ.1 11 j g = nZ (sW s g)) ⟨fS_rf, fun g hg => by omega⟩ (by
    intro i hi τ ⟨f1, t11⟩
    have e11 : τ.1 11 j1 i = nZ (sW s i) := by rw [f1.1 11 j1 _ (by omega)]; exact cW i hi
    refine ⟨gb_si τ 11 j i (nZ (sW s i)), ?_, fS_si f1 (by omega), fun g hg => ?_⟩
    · show j_X7_copy_2 _ _ _ _ = _
      rw [e_X7_copy_2]
      simp (disch := omega) only [z0, z1, z2, z3, z4, z5, z6, z12, z18, z48, z54, z60, z66, z174, z175, z_neg, z_add, z_sub, z_mul, z_tn, g_in, g_b0, g_b1, Int.toNat_natCast, z_le, z_lt, z_eq, z_mx, z_mn, if_pos, if_neg, if_true, if_false, e11, Int.natCast_add, Int.natCast_one]
    · by_cases e : g = i
      · subst e; simp only [si_s]
      · simp (disch := omega) only [si_i]; exact t11 g (by omega))
  rw [show (0 : Int32) = nZ ((0 : Nat) : Int) from rfl, hJ]
  obtain ⟨f, t11⟩ := hI
  obtain ⟨τ2, hJ2, hI2⟩ := lph (n := 6) (σ := τ) (fun i τ => j_X7_copy_28 j j1 (nZ i) τ) (fun i τ => gb_fS j σ τ ∧ (∀ g : Nat, g < 6 → τ.1 11 j g = nZ (sW s g)) ∧ ∀ b : Nat, b < i → gb_RB τ j s b) ⟨f, t11, fun b hb => by omega⟩ (by
    intro i hi τ ⟨f1, t11, tb⟩
    have e12 : τ.1 12 j1 i = nZ (sP s i) := by rw [f1.1 12 j1 _ (by omega)]; exact cP i hi
    have fx : gb_fS j σ (gb_si τ 12 j i (nZ (sP s i))) := fS_si f1 (by omega)
    obtain ⟨τ', h1, h2, h3⟩ := p_copyBin (σ := gb_si τ 12 j i (nZ (sP s i))) (fS_RS fx hj hC.1) il hj hi si_s
    obtain ⟨k1, k2, k3, k4⟩ := h3
    refine ⟨τ', ?_, fS_tr fx k1, fun g hg => ?_, fun b hb => ?_⟩
    · show j_X7_copy_28 _ _ _ _ = _
      rw [e_X7_copy_28]
      simp (disch := omega) only [z0, z1, z2, z3, z4, z5, z6, z12, z18, z48, z54, z60, z66, z174, z175, z_neg, z_add, z_sub, z_mul, z_tn, g_in, g_b0, g_b1, Int.toNat_natCast, z_le, z_lt, z_eq, z_mx, z_mn, if_pos, if_neg, if_true, if_false, e12, h1, Int.natCast_add, Int.natCast_one]
    · rw [(k2 g).2.1]
      simp (disch := omega) only [si_k]
      exact t11 g hg
    · by_cases e : b = i
      · subst e; exact h2
      · refine RB_cg (by omega) il (tb b (by omega)) ?_ ?_ ?_ (fun k x hk hx => ?_)
        · rw [(k2 b).2.2]; simp (disch := omega) only [si_i]
        · rw [(k3 b e).1]; simp (disch := omega) only [si_k]
        · rw [(k3 b e).2]; simp (disch := omega) only [si_k]
        · rw [k4 k x hk (by omega)]; simp (disch := omega) only [si_k])
  have h28 : j_X7_copy_2 j j1 (nZ (6 : Nat)) τ = j_X7_copy_28 j j1 (nZ (0 : Nat)) τ := by
    rw [e_X7_copy_2]
    simp (disch := omega) only [z0, z1, z2, z3, z4, z5, z6, z12, z18, z48, z54, z60, z66, z174, z175, z_neg, z_add, z_sub, z_mul, z_tn, g_in, g_b0, g_b1, Int.toNat_natCast, z_le, z_lt, z_eq, z_mx, z_mn, if_pos, if_neg, if_true, if_false, show ((6 : Nat) : Int) = 6 from rfl]
    rfl
  rw [h28, hJ2]
  obtain ⟨f, t11, tb⟩ := hI2
  have e9 : τ2.1 10 j1 9 = nZ (sY s) := by rw [f.1 10 j1 _ (by omega)]; exact cY
  have e10 : τ2.1 10 j1 10 = nZ (sQ s) := by rw [f.1 10 j1 _ (by omega)]; exact cQ
  have ff : gb_fS j σ (gb_si (gb_si τ2 10 j 9 (nZ (sY s))) 10 j 10 (nZ (sQ s))) := fS_si (fS_si f (by omega)) (by omega)
  refine ⟨gb_si (gb_si τ2 10 j 9 (nZ (sY s))) 10 j 10 (nZ (sQ s)), ?_, ⟨RS_RB (fun g hg => ?_) (fun b hb => ?_) ?_ ?_, fS_RR ff hC.2.1, hC.2.2⟩, ff⟩
  · rw [e_X7_copy_28]
    simp (disch := omega) only [z0, z1, z2, z3, z4, z5, z6, z12, z18, z48, z54, z60, z66, z174, z175, z_neg, z_add, z_sub, z_mul, z_tn, g_in, g_b0, g_b1, Int.toNat_natCast, z_le, z_lt, z_eq, z_mx, z_mn, if_pos, if_neg, if_true, if_false, e9, e10, sj_i, show ((6 : Nat) : Int) = 6 from rfl]
  · simp (disch := omega) only [si_k]; exact t11 g hg
  · refine RB_cg hb il (tb b hb) ?_ ?_ ?_ (fun k x hk hx => ?_) <;> simp (disch := omega) only [si_k]
  · simp (disch := omega) only [si_i, si_s]
  · simp only [si_s]
end COPY
