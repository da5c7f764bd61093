/-! ASKS 1: pair, grade, bin, value, all, mixed, takers, room -/
theorem ts_in {y lo hi : Int} {ts : List gb_C} {df t : gb_C} (hy : rZ y) (h : lo ≤ y ∧ y ≤ hi) (ht : ts[(y - lo).toNat]? = some t) : gb_tsel (nZ y) lo hi ts df = t := by
  unfold gb_tsel
  rw [nZ_ti hy, if_neg (by omega), ht]
theorem ts_out {y lo hi : Int} {ts : List gb_C} {df : gb_C} (hy : rZ y) (h : ¬ (lo ≤ y ∧ y ≤ hi)) : gb_tsel (nZ y) lo hi ts df = df := by
  unfold gb_tsel
  rw [nZ_ti hy, if_pos (by omega)]
def it {α : Type} (n : Nat) (x : α) (f : Nat → α → α) : α := match n with
  | 0 => x
  | n + 1 => f n (it n x f)
theorem th_pair {A : gb_Ab} (hA : wfA A) (a c : Int32) : gb_T2 f_X9_pair f_X10_pair [gR 0 0, gI a, gI c] [gR 36 0, gI a, gI c] A := by
  have hx := nZ_rz a
  have hy := nZ_rz c
  rw [nZ_of a, nZ_of c]
  generalize a.toInt = x at hx
  generalize c.toInt = y at hy
  have hI := hA.1.1
  by_cases h1 : 0 ≤ x ∧ x < 6
  rotate_left
  · refine T2_same hA (some (gI (-1))) (fun σ hC => ?_) (fun σ hM => ?_)
    · rw [e_X9_pair, cg_f hx h1, g_b1, e00]
    · rw [e_X10_pair, mg_f hx h1, g_b1, e00]
  obtain ⟨g, rfl⟩ : ∃ b : Nat, x = b := ⟨x.toNat, by omega⟩
  have hg : g < 6 := by omega
  by_cases h2 : 0 ≤ y ∧ y < 6
  rotate_left
  · refine T2_same hA (some (gI (-1))) (fun σ hC => ?_) (fun σ hM => ?_)
    · rw [e_X9_pair, cg_t hg, g_b1, e10, cg_f hy h2, g_b1, e00]
    · rw [e_X10_pair, mg_t hg, g_b1, e10, mg_f hy h2, g_b1, e00]
  obtain ⟨h, rfl⟩ : ∃ b : Nat, y = b := ⟨y.toNat, by omega⟩
  have hh : h < 6 := by omega
  have hr := hI.2.2.1 g h hg hh
  refine T2_same hA (some (gI (nZ (if 0 ≤ sO A.1 g h then sO A.1 g h else -2)))) (fun σ hC => ?_) (fun σ hM => ?_)
  · obtain ⟨⟨cW, cP, cN, cT, cL, cH, cY, cQ⟩, ⟨rK, rC, rO, rA⟩, -⟩ := id hC.1
    have hb := bm_has (fun k => decide (sO A.1 g k < 0)) hh
    have hmay : f_X5_may [gR 3 0, gI (nZ g), gI (nZ h)] σ = some (some (gI (if 0 ≤ sO A.1 g h then 1 else 0)), σ) := by
      rw [e_X5_may]
      simp (disch := omega) only [g_in, z_tn, Int.toNat_natCast, rA]
      by_cases h0 : 0 ≤ sO A.1 g h
      · rw [if_pos h0, if_pos]
        rw [z1]
        rw [hb]
        exact decide_eq_false (by omega)
      · rw [if_neg h0, if_neg]
        rw [z1, hb]
        simp only [Bool.not_eq_false, decide_eq_true_eq]
        omega
    rw [e_X9_pair, cg_t hg, g_b1, e10, cg_t hh, g_b1, e10, hmay, g_b1]
    by_cases h0 : 0 ≤ sO A.1 g h
    · rw [if_pos h0, if_pos h0, e10, p_lossOf hC.1 hg hh, g_b1, show max 0 (sO A.1 g h) = sO A.1 g h by omega]
    · rw [if_neg h0, if_neg h0, e00]; rfl
  · have hM1 := (MC_t (v := 0) hM).1
    rw [e_X10_pair, mg_t hg, g_b1, e10, mg_t hh, g_b1, e10, m_loss hM1.1 hg hh, g_b1]
    by_cases h0 : 0 ≤ sO A.1 g h
    · rw [if_pos (by rw [z0, z_le ⟨by omega, by omega⟩ ⟨by omega, by omega⟩]; exact h0), if_pos h0, m_loss hM1.1 hg hh, g_b1]
    · rw [if_neg (by rw [z0, z_le ⟨by omega, by omega⟩ ⟨by omega, by omega⟩]; exact h0), if_neg h0]; rfl
theorem th_grade {A : gb_Ab} (hA : wfA A) (a c : Int32) : gb_T2 f_X9_grade f_X10_grade [gR 0 0, gI a, gI c] [gR 36 0, gI a, gI c] A := by
  have hx := nZ_rz a
  have hy := nZ_rz c
  rw [nZ_of a, nZ_of c]
  generalize a.toInt = x at hx
  generalize c.toInt = y at hy
  have hI := hA.1.1
  by_cases h1 : 0 ≤ x ∧ x < 6
  rotate_left
  · refine T2_same hA (some (gI (-1))) (fun σ hC => ?_) (fun σ hM => ?_)
    · rw [e_X9_grade, cg_f hx h1, g_b1, e00]
    · rw [e_X10_grade, mg_f hx h1, g_b1, e00]
  obtain ⟨g, rfl⟩ : ∃ b : Nat, x = b := ⟨x.toNat, by omega⟩
  have hg : g < 6 := by omega
  refine T2_same hA (some (gI (nZ (if y = 0 then sW A.1 g else if y = 1 then sK A.1 g else if y = 2 then sm 6 (fun b => lG (sB A.1 b) g) else -1)))) (fun σ hC => ?_) (fun σ hM => ?_)
  · obtain ⟨⟨cW, cP, cN, cT, cL, cH, cY, cQ⟩, ⟨rK, rC, rO, rA⟩, -⟩ := id hC.1
    rw [e_X9_grade, cg_t hg, g_b1, e10]
    by_cases h2 : 0 ≤ y ∧ y ≤ 2
    · have : y = 0 ∨ y = 1 ∨ y = 2 := by omega
      rcases this with rfl | rfl | rfl
      · rw [ts_in hy h2 rfl, e_X9_grade_36, if_pos rfl]
        simp (disch := omega) only [g_in, z_tn, Int.toNat_natCast, cW]
      · rw [ts_in hy h2 rfl, e_X9_grade_46, if_neg (by omega), if_pos rfl]
        simp (disch := omega) only [g_in, z_tn, Int.toNat_natCast, rK]
      · rw [ts_in hy h2 rfl, e_X9_grade_56, if_neg (by omega), if_neg (by omega), if_pos rfl, p_tonsOf hC.1 hg, g_b1]
    · rw [ts_out hy h2, e_X9_grade_65, if_neg (by omega), if_neg (by omega), if_neg (by omega)]
      rfl
  · have hM1 := (MC_t (v := 0) hM).1
    obtain ⟨mW, mK, mO, mC, mP, mN, mL, mY, mQ⟩ := id hM1.1.1
    simp only [Nat.zero_add] at mW mK
    rw [e_X10_grade, mg_t hg, g_b1, e10]
    have st : ∀ i, i < 6 → j_X10_grade_19 (nZ g) (nZ y) (nZ (sm i (fun b => lG (sB A.1 b) g))) (nZ i) (gb_si σ 36 0 10 0) = j_X10_grade_19 (nZ g) (nZ y) (nZ (sm (i + 1) (fun b => lG (sB A.1 b) g))) (nZ (i + 1 : Nat)) (gb_si σ 36 0 10 0) := by
      intro i hi
      rw [e_X10_grade_19, sm_s, m_tonsOf hM1.1 hi hg, g_b1, if_neg (by rw [z6, z_le ⟨by omega, by omega⟩ ⟨by omega, by omega⟩]; omega), z_add, z1, z_add]
      rfl
    refine (lp (n := 6) (fun i => j_X10_grade_19 (nZ g) (nZ y) (nZ (sm i (fun b => lG (sB A.1 b) g))) (nZ i) (gb_si σ 36 0 10 0)) st).trans ?_
    try dsimp only
    have e0 : ((0 : Int) + (g : Int)).toNat = g := by omega
    rw [e_X10_grade_19, if_pos (by decide)]
    by_cases h2 : y = 0
    · rw [if_pos (by rw [z0, z_eq hy ⟨by omega, by omega⟩]; exact h2), if_pos h2]
      have k0 : (0 : Int32) + nZ g = nZ g := by rw [z0, z_add, Int.zero_add]
      rw [k0]
      simp (disch := omega) only [g_in, z_tn, Int.toNat_natCast, mW]
    · rw [if_neg (by rw [z0, z_eq hy ⟨by omega, by omega⟩]; exact h2), if_neg h2]
      by_cases h3 : y = 1
      · rw [if_pos (by rw [z1, z_eq hy ⟨by omega, by omega⟩]; exact h3), if_pos h3]
        simp (disch := omega) only [z6, z_add, g_in, z_tn, mK]
      · rw [if_neg (by rw [z1, z_eq hy ⟨by omega, by omega⟩]; exact h3), if_neg h3]
        by_cases h4 : y = 2
        · rw [if_pos (by rw [z2, z_eq hy ⟨by omega, by omega⟩]; exact h4), if_pos h4]
        · rw [if_neg (by rw [z2, z_eq hy ⟨by omega, by omega⟩]; exact h4), if_neg h4]; rfl
theorem th_bin {A : gb_Ab} (hA : wfA A) (a c : Int32) : gb_T2 f_X9_bin f_X10_bin [gR 0 0, gI a, gI c] [gR 36 0, gI a, gI c] A := by
  have hx := nZ_rz a
  have hy := nZ_rz c
  rw [nZ_of a, nZ_of c]
  generalize a.toInt = x at hx
  generalize c.toInt = y at hy
  have hI := hA.1.1
  obtain ⟨y1, y2, q1, q2⟩ := hI.2.2.2.2.2.2
  by_cases h1 : 0 ≤ x ∧ x < 6
  rotate_left
  · refine T2_same hA (some (gI (-1))) (fun σ hC => ?_) (fun σ hM => ?_)
    · rw [e_X9_bin, cb_f hx h1, g_b1, e00]
    · rw [e_X10_bin, mb_f hx h1, g_b1, e00]
  obtain ⟨b, rfl⟩ : ∃ b : Nat, x = b := ⟨x.toNat, by omega⟩
  have hb : b < 6 := by omega
  have hp := hI.2.2.2.2.1 b hb
  by_cases h2 : 0 ≤ y ∧ y ≤ 4
  rotate_left
  · refine T2_same hA (some (gI (-1))) (fun σ hC => ?_) (fun σ hM => ?_)
    · rw [e_X9_bin, cb_t hb, g_b1, e10, ts_out hy h2, e_X9_bin_105]
    · rw [e_X10_bin, mb_t hb, g_b1, e10, ts_out hy h2, e_X10_bin_99]
  have : y = 0 ∨ y = 1 ∨ y = 2 ∨ y = 3 ∨ y = 4 := by omega
  have cx : ∀ σ, CC σ A → σ.1 6 0 b = nZ (sC A.1 b) ∧ σ.1 14 0 b = nZ (lT (sB A.1 b)) ∧ σ.1 13 0 b = nZ (sB A.1 b).length ∧ σ.1 12 0 b = nZ (sP A.1 b) ∧ σ.1 10 0 9 = nZ (sY A.1) := fun σ hC => ⟨hC.1.2.1.2.1 b hb, hC.1.1.2.2.2.1 b hb, hC.1.1.2.2.1 b hb, hC.1.1.2.1 b hb, hC.1.1.2.2.2.2.2.2.1⟩
  rcases this with rfl | rfl | rfl | rfl | rfl
  · refine T2_same hA (some (gI (nZ (sC A.1 b)))) (fun σ hC => ?_) (fun σ hM => ?_)
    · obtain ⟨k1, k2, k3, k4, k5⟩ := cx σ hC
      rw [e_X9_bin, cb_t hb, g_b1, e10, ts_in hy h2 rfl, e_X9_bin_44]
      simp (disch := omega) only [g_in, z_tn, Int.toNat_natCast, k1]
    · have mC := (MC_t (v := 0) hM).1.1.1.2.2.2.1 b hb
      rw [Nat.zero_add] at mC
      rw [e_X10_bin, mb_t hb, g_b1, e10, ts_in hy h2 rfl, e_X10_bin_48]
      simp (disch := omega) only [z48, z_add, g_in, z_tn, mC]
  · refine T2_same hA (some (gI (nZ (lT (sB A.1 b))))) (fun σ hC => ?_) (fun σ hM => ?_)
    · obtain ⟨k1, k2, k3, k4, k5⟩ := cx σ hC
      rw [e_X9_bin, cb_t hb, g_b1, e10, ts_in hy h2 rfl, e_X9_bin_54]
      simp (disch := omega) only [g_in, z_tn, Int.toNat_natCast, k2]
    · rw [e_X10_bin, mb_t hb, g_b1, e10, ts_in hy h2 rfl, e_X10_bin_58, m_tonsIn (MC_t hM).1.1 hb, g_b1]
  · refine T2_same hA (some (gI (nZ (sB A.1 b).length))) (fun σ hC => ?_) (fun σ hM => ?_)
    · obtain ⟨k1, k2, k3, k4, k5⟩ := cx σ hC
      rw [e_X9_bin, cb_t hb, g_b1, e10, ts_in hy h2 rfl, e_X9_bin_64]
      simp (disch := omega) only [g_in, z_tn, Int.toNat_natCast, k3]
    · rw [e_X10_bin, mb_t hb, g_b1, e10, ts_in hy h2 rfl, e_X10_bin_64, m_many (MC_t hM).1.1 hb, g_b1]
  · refine T2_same hA (some (gI (nZ (max 0 (sP A.1 b - sY A.1))))) (fun σ hC => ?_) (fun σ hM => ?_)
    · obtain ⟨k1, k2, k3, k4, k5⟩ := cx σ hC
      rw [e_X9_bin, cb_t hb, g_b1, e10, ts_in hy h2 rfl, e_X9_bin_74]
      simp (disch := omega) only [g_in, z_tn, Int.toNat_natCast, k4, k5, z_sub, z0, z_lt, z_mx]
    · have mP := (MC_t (v := 0) hM).1.1.1.2.2.2.2.1 b hb
      have mY := (MC_t (v := 0) hM).1.1.1.2.2.2.2.2.2.2.1
      rw [Nat.zero_add] at mP mY
      have e174 : (174 : Int32).toNatClampNeg = 174 := by decide
      have e54 : (54 : Int32) + nZ b = nZ (54 + (b : Int)) := by rw [z54, z_add]
      rw [e_X10_bin, mb_t hb, g_b1, e10, ts_in hy h2 rfl, e_X10_bin_70, e174, mY, e54, z_tn (by omega), mP, z_sub, z0, z_max ⟨by omega, by omega⟩ ⟨by omega, by omega⟩]
      simp (disch := omega) only [z174, g_in]
  · refine T2_same hA (some (gI (bm 6 (fun g => decide (0 < lG (sB A.1 b) g))))) (fun σ hC => ?_) (fun σ hM => ?_)
    · rw [e_X9_bin, cb_t hb, g_b1, e10, ts_in hy h2 rfl, e_X9_bin_96, p_gradesIn hC.1 hb, g_b1]
    · rw [e_X10_bin, mb_t hb, g_b1, e10, ts_in hy h2 rfl, e_X10_bin_93, m_gradesIn (MC_t hM).1.1 hb, g_b1]
