/-! CLASS 2 -/
section C2
variable {σ : gb_M} {j : Nat} {s : gb_St} {b : Nat}
theorem p_gradesIn (hC : gb_SC σ j s) (hb : b < 6) : f_X7_gradesIn [gR 10 j, gI (nZ b)] σ = some (some (gI (bm 6 (fun g => decide (0 < lG (sB s b) g)))), σ) := by
  obtain ⟨⟨cW, cP, cN, cT, cL, cH, cY, cQ⟩, ⟨rK, rC, rO, rA⟩, iw, ik, io, ic, ip, il, id⟩ := id hC
  obtain ⟨y1, y2, q1, q2⟩ := id
  rw [e_X7_gradesIn]
  have st : ∀ i, i < 6 → j_X7_gradesIn_4 j (nZ b) (bm i (fun g => decide (0 < lG (sB s b) g))) (nZ i) σ = j_X7_gradesIn_4 j (nZ b) (bm (i + 1) (fun g => decide (0 < lG (sB s b) g))) (nZ (i + 1 : Nat)) σ := by
    intro i hi
    have h1 := lG_r il hb i
    rw [e_X7_gradesIn_4]
    by_cases h : 0 < lG (sB s b) i
    · rw [bm_t (decide_eq_true h)]
      simp (disch := omega) only [z0, z1, z2, z3, z4, z5, z6, z12, z18, z48, z54, z60, z66, z174, z175, z_neg, z_add, z_sub, z_mul, z_tn, g_in, g_b0, g_b1, Int.toNat_natCast, z_le, z_lt, z_eq, z_mx, z_mn, if_pos, if_neg, if_true, if_false, cH b i hb hi, Int.natCast_add, Int.natCast_one]
    · rw [bm_f (decide_eq_false h)]
      simp (disch := omega) only [z0, z1, z2, z3, z4, z5, z6, z12, z18, z48, z54, z60, z66, z174, z175, z_neg, z_add, z_sub, z_mul, z_tn, g_in, g_b0, g_b1, Int.toNat_natCast, z_le, z_lt, z_eq, z_mx, z_mn, if_pos, if_neg, if_true, if_false, cH b i hb hi, Int.natCast_add, Int.natCast_one]
  refine (lp (n := 6) (fun i => j_X7_gradesIn_4 j (nZ b) (bm i (fun g => decide (0 < lG (sB s b) g))) (nZ i) σ) st).trans ?_
  try dsimp only
  rw [e_X7_gradesIn_4]
  simp (disch := omega) only [z0, z1, z2, z3, z4, z5, z6, z12, z18, z48, z54, z60, z66, z174, z175, z_neg, z_add, z_sub, z_mul, z_tn, g_in, g_b0, g_b1, Int.toNat_natCast, z_le, z_lt, z_eq, z_mx, z_mn, if_pos, if_neg, if_true, if_false, show ((6 : Nat) : Int) = 6 from rfl]
theorem onB_t {L : List gb_Ly} {g : Nat} {d : Int} (h : onB L g d = true) : 0 < L.length ∧ (lz L (L.length - 1)).1 = g ∧ (lz L (L.length - 1)).2.2 = d := of_decide_eq_true h
theorem onB_f {L : List gb_Ly} {g : Nat} {d : Int} (h : onB L g d = false) : ¬ (0 < L.length ∧ (lz L (L.length - 1)).1 = g ∧ (lz L (L.length - 1)).2.2 = d) := of_decide_eq_false h
theorem p_onTop_t (hC : gb_SC σ j s) (hb : b < 6) {g : Nat} {d : Int} (h : onB (sB s b) g d = true) : f_X7_onTop [gR 10 j, gI (nZ b), gI (nZ g), gI (nZ d)] σ = some (some (gI 1), σ) := by
  obtain ⟨⟨cW, cP, cN, cT, cL, cH, cY, cQ⟩, ⟨rK, rC, rO, rA⟩, iw, ik, io, ic, ip, il, id⟩ := id hC
  obtain ⟨y1, y2, q1, q2⟩ := id
  obtain ⟨h1, h2, h3⟩ := onB_t h
  have hlen := (il b hb).1
  obtain ⟨g1, g2, g3⟩ := cL b ((sB s b).length - 1) hb (by omega)
  obtain ⟨l1, l2, l3, l4, l5⟩ := lz_ok il hb (show (sB s b).length - 1 < (sB s b).length by omega)
  have e : ((sB s b).length : Int) - 1 = (((sB s b).length - 1 : Nat) : Int) := by omega
  rw [e_X7_onTop]
  simp (disch := omega) only [z0, z1, z2, z3, z4, z5, z6, z12, z18, z48, z54, z60, z66, z174, z175, z_neg, z_add, z_sub, z_mul, z_tn, g_in, g_b0, g_b1, Int.toNat_natCast, z_le, z_lt, z_eq, z_mx, z_mn, if_pos, if_neg, if_true, if_false, cN, e, p_place, g1, g3, h2, h3]
theorem p_onTop_f (hC : gb_SC σ j s) (hb : b < 6) {g : Nat} {d : Int} (hg : g < 6) (hd : rZ d) (h : onB (sB s b) g d = false) : f_X7_onTop [gR 10 j, gI (nZ b), gI (nZ g), gI (nZ d)] σ = some (some (gI 0), σ) := by
  obtain ⟨⟨cW, cP, cN, cT, cL, cH, cY, cQ⟩, ⟨rK, rC, rO, rA⟩, iw, ik, io, ic, ip, il, id⟩ := id hC
  obtain ⟨y1, y2, q1, q2⟩ := id
  have h := onB_f h
  have hlen := (il b hb).1
  rw [e_X7_onTop]
  by_cases h0 : (sB s b).length = 0
  · simp (disch := omega) only [z0, z1, z2, z3, z4, z5, z6, z12, z18, z48, z54, z60, z66, z174, z175, z_neg, z_add, z_sub, z_mul, z_tn, g_in, g_b0, g_b1, Int.toNat_natCast, z_le, z_lt, z_eq, z_mx, z_mn, if_pos, if_neg, if_true, if_false, cN, h0, show ((0 : Nat) : Int) = 0 from rfl]
  · obtain ⟨g1, g2, g3⟩ := cL b ((sB s b).length - 1) hb (by omega)
    obtain ⟨l1, l2, l3, l4, l5⟩ := lz_ok il hb (show (sB s b).length - 1 < (sB s b).length by omega)
    have e : ((sB s b).length : Int) - 1 = (((sB s b).length - 1 : Nat) : Int) := by omega
    by_cases h1 : (lz (sB s b) ((sB s b).length - 1)).1 = g
    · have h2 : ¬ (lz (sB s b) ((sB s b).length - 1)).2.2 = d := fun h2 => h ⟨by omega, h1, h2⟩
      simp (disch := omega) only [z0, z1, z2, z3, z4, z5, z6, z12, z18, z48, z54, z60, z66, z174, z175, z_neg, z_add, z_sub, z_mul, z_tn, g_in, g_b0, g_b1, Int.toNat_natCast, z_le, z_lt, z_eq, z_mx, z_mn, if_pos, if_neg, if_true, if_false, cN, e, p_place, g1, g3]
    · simp (disch := omega) only [z0, z1, z2, z3, z4, z5, z6, z12, z18, z48, z54, z60, z66, z174, z175, z_neg, z_add, z_sub, z_mul, z_tn, g_in, g_b0, g_b1, Int.toNat_natCast, z_le, z_lt, z_eq, z_mx, z_mn, if_pos, if_neg, if_true, if_false, cN, e, p_place, g1, g3]
theorem ap_and {L : List gb_Ly} {g : Nat} (h : ∀ l ∈ L, okL l) : (bm 6 (fun k => decide (0 < lG L k)) &&& bm 6 (fun k => decide (sO s g k < 0)) = 0) = (ap s L g = false) := by
  rw [bm_and]
  apply propext
  constructor
  · intro hn
    cases ha : ap s L g with
    | false => rfl
    | true =>
      obtain ⟨l, hl, hz⟩ := List.any_eq_true.mp ha
      have hlo := (h l hl).1
      exact absurd ⟨decide_eq_true ((lG_pos h).mpr ⟨l, hl, rfl⟩), hz⟩ (hn l.1 hlo)
  · intro ha k hk ⟨h1, h2⟩
    obtain ⟨l, hl, e⟩ := (lG_pos h).mp (of_decide_eq_true h1)
    have : ap s L g = true := List.any_eq_true.mpr ⟨l, hl, by rw [e]; exact h2⟩
    rw [ha] at this
    cases this
theorem p_why (hC : gb_SC σ j s) (hb : b < 6) {g : Nat} {t d : Int} (hg : g < 6) (ht : 0 ≤ t ∧ t ≤ 99) (hd : 0 ≤ d ∧ d ≤ 10019) : f_X7_why [gR 10 j, gI (nZ b), gI (nZ g), gI (nZ t), gI (nZ d)] σ = some (some (gI (nZ (sWhy s b g t d))), σ) := by
  obtain ⟨⟨cW, cP, cN, cT, cL, cH, cY, cQ⟩, ⟨rK, rC, rO, rA⟩, iw, ik, io, ic, ip, il, id⟩ := id hC
  obtain ⟨y1, y2, q1, q2⟩ := id
  have hc := ic b hb
  have hT := lG_r il hb 0
  have hlen := (il b hb).1
  rw [e_X7_why]
  unfold sWhy
  by_cases h1 : sY s < sP s b
  · rw [if_pos h1]
    simp (disch := omega) only [z0, z1, z2, z3, z4, z5, z6, z12, z18, z48, z54, z60, z66, z174, z175, z_neg, z_add, z_sub, z_mul, z_tn, g_in, g_b0, g_b1, Int.toNat_natCast, z_le, z_lt, z_eq, z_mx, z_mn, if_pos, if_neg, if_true, if_false, p_closed_t hC hb h1]
  rw [if_neg h1]
  by_cases h2 : sC s b < lT (sB s b) + t
  · rw [if_pos h2]
    simp (disch := omega) only [z0, z1, z2, z3, z4, z5, z6, z12, z18, z48, z54, z60, z66, z174, z175, z_neg, z_add, z_sub, z_mul, z_tn, g_in, g_b0, g_b1, Int.toNat_natCast, z_le, z_lt, z_eq, z_mx, z_mn, if_pos, if_neg, if_true, if_false, p_closed_f hC hb h1, cT, rC]
  rw [if_neg h2]
  have hap := ap_and (s := s) (L := sB s b) (g := g) (il b hb).2.2
  cases h3 : ap s (sB s b) g with
  | true =>
    rw [h3] at hap
    have hap : ¬ (bm 6 (fun k => decide (0 < lG (sB s b) k)) &&& bm 6 (fun k => decide (sO s g k < 0)) = 0) := by rw [hap]; simp
    simp (disch := omega) only [p_closed_f hC hb h1, g_b1, if_true, g_in, z_tn, Int.toNat_natCast, cT, rC, z_add, z_le, if_pos, p_gradesIn hC hb, rA, if_neg hap]
    rfl
  | false =>
    rw [h3] at hap
    have hap : (bm 6 (fun k => decide (0 < lG (sB s b) k)) &&& bm 6 (fun k => decide (sO s g k < 0)) = 0) := by rw [hap]
    rw [if_neg (by simp)]
    by_cases h4 : (sB s b).length = 6
    · cases h5 : onB (sB s b) g d with
      | true =>
        rw [if_neg (by simp)]
        simp (disch := omega) only [p_closed_f hC hb h1, g_b1, if_true, g_in, z_tn, Int.toNat_natCast, cT, rC, z_add, z_le, if_pos, p_gradesIn hC hb, rA, if_pos hap, cN, z6, z_lt, if_neg, p_onTop_t hC hb h5]
        rfl
      | false =>
        rw [if_pos ⟨h4, rfl⟩]
        simp (disch := omega) only [p_closed_f hC hb h1, g_b1, if_true, g_in, z_tn, Int.toNat_natCast, cT, rC, z_add, z_le, if_pos, p_gradesIn hC hb, rA, if_pos hap, cN, z6, z_lt, if_neg, p_onTop_f hC hb hg ⟨by omega, by omega⟩ h5]
        rfl
    · rw [if_neg (fun h => h4 h.1)]
      simp (disch := omega) only [p_closed_f hC hb h1, g_b1, if_true, g_in, z_tn, Int.toNat_natCast, cT, rC, z_add, z_le, if_pos, p_gradesIn hC hb, rA, if_pos hap, cN, z6, z_lt]
      rfl
theorem p_tonsUnder (hC : gb_SC σ j s) (hb : b < 6) {n : Nat} (hn : n ≤ 6) : f_X7_tonsUnder [gR 10 j, gI (nZ b), gI (nZ n)] σ = some (some (gI (nZ (lT ((sB s b).take n)))), σ) := by
  obtain ⟨⟨cW, cP, cN, cT, cL, cH, cY, cQ⟩, ⟨rK, rC, rO, rA⟩, iw, ik, io, ic, ip, il, id⟩ := id hC
  obtain ⟨y1, y2, q1, q2⟩ := id
  have hlen := (il b hb).1
  rw [e_X7_tonsUnder]
  have st : ∀ i, i < min n (sB s b).length → j_X7_tonsUnder_5 j (nZ b) (nZ n) (nZ (sL (fun l => l.2.1) ((sB s b).take i))) (nZ i) σ = j_X7_tonsUnder_5 j (nZ b) (nZ n) (nZ (sL (fun l => l.2.1) ((sB s b).take (i + 1)))) (nZ (i + 1 : Nat)) σ := by
    intro i hi
    have hi : i < (sB s b).length := by omega
    have hlen := (il b hb).1
    obtain ⟨g1, g2, g3⟩ := cL b i hb hi
    obtain ⟨l1, l2, l3, l4, l5⟩ := lz_ok il hb hi
    rw [e_X7_tonsUnder_5]
    simp (disch := omega) only [z0, z1, z2, z3, z4, z5, z6, z12, z18, z48, z54, z60, z66, z174, z175, z_neg, z_add, z_sub, z_mul, z_tn, g_in, g_b0, g_b1, Int.toNat_natCast, z_le, z_lt, z_eq, z_mx, z_mn, if_pos, if_neg, if_true, if_false, cN, p_place, g2, sL_take hi, Int.natCast_add, Int.natCast_one]
  refine (lp (n := min n (sB s b).length) (fun i => j_X7_tonsUnder_5 j (nZ b) (nZ n) (nZ (sL (fun l => l.2.1) ((sB s b).take i))) (nZ i) σ) st).trans ?_
  try dsimp only
  try dsimp only
  rw [e_X7_tonsUnder_5]
  by_cases h : n ≤ (sB s b).length
  · rw [Nat.min_eq_left h]
    simp (disch := omega) only [z0, z1, z2, z3, z4, z5, z6, z12, z18, z48, z54, z60, z66, z174, z175, z_neg, z_add, z_sub, z_mul, z_tn, g_in, g_b0, g_b1, Int.toNat_natCast, z_le, z_lt, z_eq, z_mx, z_mn, if_pos, if_neg, if_true, if_false]
    rfl
  · rw [Nat.min_eq_right (by omega)]
    simp (disch := omega) only [z0, z1, z2, z3, z4, z5, z6, z12, z18, z48, z54, z60, z66, z174, z175, z_neg, z_add, z_sub, z_mul, z_tn, g_in, g_b0, g_b1, Int.toNat_natCast, z_le, z_lt, z_eq, z_mx, z_mn, if_pos, if_neg, if_true, if_false, cN]
    rw [List.take_length, List.take_of_length_le (by omega)]
    rfl
def pB (L : List gb_Ly) (i : Nat) (t : Int) : Int := max 0 (min (lz L i).2.1 (t - lT (L.take i)))
theorem pB_r {s : gb_St} {b i : Nat} {t : Int} (il : iL s) (hb : b < 6) (hi : i < (sB s b).length) : 0 ≤ pB (sB s b) i t ∧ pB (sB s b) i t ≤ (lz (sB s b) i).2.1 := by
  have := (lz_ok il hb hi).2.1
  unfold pB
  omega
theorem p_partBelow (hC : gb_SC σ j s) (hb : b < 6) {i : Nat} (hi : i < (sB s b).length) {t : Int} (ht : 0 ≤ t ∧ t ≤ 99) : f_X7_partBelow [gR 10 j, gI (nZ b), gI (nZ i), gI (nZ t)] σ = some (some (gI (nZ (pB (sB s b) i t))), σ) := by
  obtain ⟨⟨cW, cP, cN, cT, cL, cH, cY, cQ⟩, ⟨rK, rC, rO, rA⟩, iw, ik, io, ic, ip, il, id⟩ := id hC
  obtain ⟨y1, y2, q1, q2⟩ := id
  have hlen := (il b hb).1
  obtain ⟨g1, g2, g3⟩ := cL b i hb hi
  obtain ⟨l1, l2, l3, l4, l5⟩ := lz_ok il hb hi
  have hT := lT_take il hb i
  have hT2 := (il b hb).2.1
  rw [e_X7_partBelow]
  simp (disch := omega) only [z0, z1, z2, z3, z4, z5, z6, z12, z18, z48, z54, z60, z66, z174, z175, z_neg, z_add, z_sub, z_mul, z_tn, g_in, g_b0, g_b1, Int.toNat_natCast, z_le, z_lt, z_eq, z_mx, z_mn, if_pos, if_neg, if_true, if_false, p_tonsUnder hC hb (n := i) (by omega), p_place, g2]
  rfl
theorem p_tonsBelow (hC : gb_SC σ j s) (hb : b < 6) {g : Nat} (hg : g < 6) {t : Int} (ht : 0 ≤ t ∧ t ≤ 99) : f_X7_tonsBelow [gR 10 j, gI (nZ b), gI (nZ t), gI (nZ g)] σ = some (some (gI (nZ (sm (sB s b).length (fun i => if (lz (sB s b) i).1 = g then pB (sB s b) i t else 0)))), σ) := by
  obtain ⟨⟨cW, cP, cN, cT, cL, cH, cY, cQ⟩, ⟨rK, rC, rO, rA⟩, iw, ik, io, ic, ip, il, id⟩ := id hC
  obtain ⟨y1, y2, q1, q2⟩ := id
  have hlen := (il b hb).1
  rw [e_X7_tonsBelow]
  have st : ∀ i, i < (sB s b).length → j_X7_tonsBelow_6 j (nZ b) (nZ t) (nZ g) (nZ (sm i (fun i => if (lz (sB s b) i).1 = g then pB (sB s b) i t else 0))) (nZ i) σ = j_X7_tonsBelow_6 j (nZ b) (nZ t) (nZ g) (nZ (sm (i + 1) (fun i => if (lz (sB s b) i).1 = g then pB (sB s b) i t else 0))) (nZ (i + 1 : Nat)) σ := by
    intro i hi
    have hlen := (il b hb).1
    obtain ⟨g1, g2, g3⟩ := cL b i hb hi
    obtain ⟨l1, l2, l3, l4, l5⟩ := lz_ok il hb hi
    rw [e_X7_tonsBelow_6, sm_s]
    by_cases h : (lz (sB s b) i).1 = g
    · rw [if_pos h]
      simp (disch := omega) only [z0, z1, z2, z3, z4, z5, z6, z12, z18, z48, z54, z60, z66, z174, z175, z_neg, z_add, z_sub, z_mul, z_tn, g_in, g_b0, g_b1, Int.toNat_natCast, z_le, z_lt, z_eq, z_mx, z_mn, if_pos, if_neg, if_true, if_false, cN, p_place, g1, p_partBelow hC hb hi ht, Int.natCast_add, Int.natCast_one]
    · rw [if_neg h]
      simp (disch := omega) only [z0, z1, z2, z3, z4, z5, z6, z12, z18, z48, z54, z60, z66, z174, z175, z_neg, z_add, z_sub, z_mul, z_tn, g_in, g_b0, g_b1, Int.toNat_natCast, z_le, z_lt, z_eq, z_mx, z_mn, if_pos, if_neg, if_true, if_false, cN, p_place, g1, Int.add_zero, Int.natCast_add, Int.natCast_one]
  refine (lp (n := (sB s b).length) (fun i => j_X7_tonsBelow_6 j (nZ b) (nZ t) (nZ g) (nZ (sm i (fun i => if (lz (sB s b) i).1 = g then pB (sB s b) i t else 0))) (nZ i) σ) st).trans ?_
  try dsimp only
  rw [e_X7_tonsBelow_6]
  simp (disch := omega) only [z0, z1, z2, z3, z4, z5, z6, z12, z18, z48, z54, z60, z66, z174, z175, z_neg, z_add, z_sub, z_mul, z_tn, g_in, g_b0, g_b1, Int.toNat_natCast, z_le, z_lt, z_eq, z_mx, z_mn, if_pos, if_neg, if_true, if_false, cN]
end C2
