/-! MODEL 1: what the reference answers of its store -/
def gb_MM (σ : gb_M) (s : gb_St) : Prop := gb_RM (σ.1 37 0) 0 s ∧ gb_IV s
section M1
variable {σ : gb_M} {s : gb_St} {b : Nat}
theorem m_many (hM : gb_MM σ s) (hb : b < 6) : f_X10_many [gR 36 0, gI (nZ b)] σ = some (some (gI (nZ (sB s b).length)), σ) := by
  obtain ⟨⟨mW, mK, mO, mC, mP, mN, mL, mY, mQ⟩, iw, ik, io, ic, ip, il, id⟩ := id hM
  obtain ⟨y1, y2, q1, q2⟩ := id
  simp only [Nat.zero_add] at mW mK mO mC mP mN mL mY mQ
  rw [e_X10_many]
  simp (disch := omega) only [z0, z1, z2, z3, z4, z5, z6, z12, z18, z48, z54, z60, z66, z174, z175, z_neg, z_add, z_sub, z_mul, z_tn, g_in, g_b0, g_b1, Int.toNat_natCast, z_le, z_lt, z_eq, z_mx, z_mn, if_pos, if_neg, if_true, if_false, mN b hb]
theorem m_l0 (hM : gb_MM σ s) (hb : b < 6) {i : Nat} (hi : i < (sB s b).length) : f_X10_layerOf [gR 36 0, gI (nZ b), gI (nZ i), gI (nZ 0)] σ = some (some (gI (nZ (lz (sB s b) i).1)), σ) := by
  obtain ⟨⟨mW, mK, mO, mC, mP, mN, mL, mY, mQ⟩, iw, ik, io, ic, ip, il, id⟩ := id hM
  obtain ⟨y1, y2, q1, q2⟩ := id
  simp only [Nat.zero_add] at mW mK mO mC mP mN mL mY mQ
  have hlen := (il b hb).1
  rw [e_X10_layerOf]
  simp (disch := omega) only [z0, z1, z2, z3, z4, z5, z6, z12, z18, z48, z54, z60, z66, z174, z175, z_neg, z_add, z_sub, z_mul, z_tn, g_in, g_b0, g_b1, Int.toNat_natCast, z_le, z_lt, z_eq, z_mx, z_mn, if_pos, if_neg, if_true, if_false, mL b i hb hi]
theorem m_l1 (hM : gb_MM σ s) (hb : b < 6) {i : Nat} (hi : i < (sB s b).length) : f_X10_layerOf [gR 36 0, gI (nZ b), gI (nZ i), gI (nZ 1)] σ = some (some (gI (nZ (lz (sB s b) i).2.1)), σ) := by
  obtain ⟨⟨mW, mK, mO, mC, mP, mN, mL, mY, mQ⟩, iw, ik, io, ic, ip, il, id⟩ := id hM
  obtain ⟨y1, y2, q1, q2⟩ := id
  simp only [Nat.zero_add] at mW mK mO mC mP mN mL mY mQ
  have hlen := (il b hb).1
  rw [e_X10_layerOf]
  simp (disch := omega) only [z0, z1, z2, z3, z4, z5, z6, z12, z18, z48, z54, z60, z66, z174, z175, z_neg, z_add, z_sub, z_mul, z_tn, g_in, g_b0, g_b1, Int.toNat_natCast, z_le, z_lt, z_eq, z_mx, z_mn, if_pos, if_neg, if_true, if_false, mL b i hb hi]
theorem m_l2 (hM : gb_MM σ s) (hb : b < 6) {i : Nat} (hi : i < (sB s b).length) : f_X10_layerOf [gR 36 0, gI (nZ b), gI (nZ i), gI (nZ 2)] σ = some (some (gI (nZ (lz (sB s b) i).2.2)), σ) := by
  obtain ⟨⟨mW, mK, mO, mC, mP, mN, mL, mY, mQ⟩, iw, ik, io, ic, ip, il, id⟩ := id hM
  obtain ⟨y1, y2, q1, q2⟩ := id
  simp only [Nat.zero_add] at mW mK mO mC mP mN mL mY mQ
  have hlen := (il b hb).1
  rw [e_X10_layerOf]
  simp (disch := omega) only [z0, z1, z2, z3, z4, z5, z6, z12, z18, z48, z54, z60, z66, z174, z175, z_neg, z_add, z_sub, z_mul, z_tn, g_in, g_b0, g_b1, Int.toNat_natCast, z_le, z_lt, z_eq, z_mx, z_mn, if_pos, if_neg, if_true, if_false, mL b i hb hi]
theorem m_closed_t (hM : gb_MM σ s) (hb : b < 6) (h : sY s < sP s b) : f_X10_isClosed [gR 36 0, gI (nZ b)] σ = some (some (gI (nZ 1)), σ) := by
  obtain ⟨⟨mW, mK, mO, mC, mP, mN, mL, mY, mQ⟩, iw, ik, io, ic, ip, il, id⟩ := id hM
  obtain ⟨y1, y2, q1, q2⟩ := id
  simp only [Nat.zero_add] at mW mK mO mC mP mN mL mY mQ
  have := ip b hb
  rw [e_X10_isClosed]
  simp (disch := omega) only [z0, z1, z2, z3, z4, z5, z6, z12, z18, z48, z54, z60, z66, z174, z175, z_neg, z_add, z_sub, z_mul, z_tn, g_in, g_b0, g_b1, Int.toNat_natCast, z_le, z_lt, z_eq, z_mx, z_mn, if_pos, if_neg, if_true, if_false, mP b hb, show (174 : Int).toNat = 174 from rfl, mY]
theorem m_closed_f (hM : gb_MM σ s) (hb : b < 6) (h : ¬ sY s < sP s b) : f_X10_isClosed [gR 36 0, gI (nZ b)] σ = some (some (gI (nZ 0)), σ) := by
  obtain ⟨⟨mW, mK, mO, mC, mP, mN, mL, mY, mQ⟩, iw, ik, io, ic, ip, il, id⟩ := id hM
  obtain ⟨y1, y2, q1, q2⟩ := id
  simp only [Nat.zero_add] at mW mK mO mC mP mN mL mY mQ
  have := ip b hb
  rw [e_X10_isClosed]
  simp (disch := omega) only [z0, z1, z2, z3, z4, z5, z6, z12, z18, z48, z54, z60, z66, z174, z175, z_neg, z_add, z_sub, z_mul, z_tn, g_in, g_b0, g_b1, Int.toNat_natCast, z_le, z_lt, z_eq, z_mx, z_mn, if_pos, if_neg, if_true, if_false, mP b hb, show (174 : Int).toNat = 174 from rfl, mY]
theorem m_unitOn (hM : gb_MM σ s) (hb : b < 6) {i : Nat} (hi : i < (sB s b).length) {on : Int} (ho : 0 ≤ on ∧ on ≤ 11000) : f_X10_unitOn [gR 36 0, gI (nZ on), gI (nZ b), gI (nZ i)] σ = some (some (gI (nZ (sU s on (lz (sB s b) i)))), σ) := by
  obtain ⟨⟨mW, mK, mO, mC, mP, mN, mL, mY, mQ⟩, iw, ik, io, ic, ip, il, id⟩ := id hM
  obtain ⟨y1, y2, q1, q2⟩ := id
  simp only [Nat.zero_add] at mW mK mO mC mP mN mL mY mQ
  have hl := lz_ok il hb hi
  have g1 := m_l0 hM hb hi
  have g2 := m_l2 hM hb hi
  generalize lz (sB s b) i = l at hl g1 g2 ⊢
  obtain ⟨l1, l2, l3, l4, l5⟩ := hl
  have hw := iw l.1 l1
  have hk := ik l.1 l1
  rw [e_X10_unitOn]
  simp (disch := omega) only [z0, z1, z2, z3, z4, z5, z6, z12, z18, z48, z54, z60, z66, z174, z175, z_neg, z_add, z_sub, z_mul, z_tn, g_in, g_b0, g_b1, Int.toNat_natCast, z_le, z_lt, z_eq, z_mx, z_mn, if_pos, if_neg, if_true, if_false, g1, g2, mK l.1 l1, Int.zero_add, mW l.1 l1]
  rfl
theorem m_unit (hM : gb_MM σ s) (hb : b < 6) {i : Nat} (hi : i < (sB s b).length) : f_X10_unit [gR 36 0, gI (nZ b), gI (nZ i)] σ = some (some (gI (nZ (sU s (sY s) (lz (sB s b) i)))), σ) := by
  obtain ⟨⟨mW, mK, mO, mC, mP, mN, mL, mY, mQ⟩, iw, ik, io, ic, ip, il, id⟩ := id hM
  obtain ⟨y1, y2, q1, q2⟩ := id
  simp only [Nat.zero_add] at mW mK mO mC mP mN mL mY mQ
  rw [e_X10_unit]
  simp (disch := omega) only [z0, z1, z2, z3, z4, z5, z6, z12, z18, z48, z54, z60, z66, z174, z175, z_neg, z_add, z_sub, z_mul, z_tn, g_in, g_b0, g_b1, Int.toNat_natCast, z_le, z_lt, z_eq, z_mx, z_mn, if_pos, if_neg, if_true, if_false, show (174 : Int).toNat = 174 from rfl, mY, m_unitOn hM hb hi (on := sY s) (by omega)]
theorem m_rawOn (hM : gb_MM σ s) (hb : b < 6) {on : Int} (ho : 0 ≤ on ∧ on ≤ 11000) : f_X10_rawOn [gR 36 0, gI (nZ on), gI (nZ b)] σ = some (some (gI (nZ (lR s on (sB s b)))), σ) := by
  obtain ⟨⟨mW, mK, mO, mC, mP, mN, mL, mY, mQ⟩, iw, ik, io, ic, ip, il, id⟩ := id hM
  obtain ⟨y1, y2, q1, q2⟩ := id
  simp only [Nat.zero_add] at mW mK mO mC mP mN mL mY mQ
  have hlen := (il b hb).1
  rw [e_X10_rawOn]
  have st : ∀ i, i < (sB s b).length → j_X10_rawOn_5 (nZ on) (nZ b) (nZ (sL (fun l => l.2.1 * sU s on l) ((sB s b).take i))) (nZ i) σ = j_X10_rawOn_5 (nZ on) (nZ b) (nZ (sL (fun l => l.2.1 * sU s on l) ((sB s b).take (i + 1)))) (nZ (i + 1 : Nat)) σ := by
    intro i hi
    rw [e_X10_rawOn_5]
    simp (disch := omega) only [z0, z1, z2, z3, z4, z5, z6, z12, z18, z48, z54, z60, z66, z174, z175, z_neg, z_add, z_sub, z_mul, z_tn, g_in, g_b0, g_b1, Int.toNat_natCast, z_le, z_lt, z_eq, z_mx, z_mn, if_pos, if_neg, if_true, if_false, m_many hM hb, m_l1 hM hb hi, m_unitOn hM hb hi ho, sL_take hi, Int.natCast_add, Int.natCast_one]
  refine (lp (n := (sB s b).length) (fun i => j_X10_rawOn_5 (nZ on) (nZ b) (nZ (sL (fun l => l.2.1 * sU s on l) ((sB s b).take i))) (nZ i) σ) st).trans ?_
  try dsimp only
  try dsimp only
  rw [e_X10_rawOn_5, sL_all]
  simp (disch := omega) only [z0, z1, z2, z3, z4, z5, z6, z12, z18, z48, z54, z60, z66, z174, z175, z_neg, z_add, z_sub, z_mul, z_tn, g_in, g_b0, g_b1, Int.toNat_natCast, z_le, z_lt, z_eq, z_mx, z_mn, if_pos, if_neg, if_true, if_false, m_many hM hb]
  rfl
theorem m_tonsIn (hM : gb_MM σ s) (hb : b < 6) : f_X10_tonsIn [gR 36 0, gI (nZ b)] σ = some (some (gI (nZ (lT (sB s b)))), σ) := by
  obtain ⟨⟨mW, mK, mO, mC, mP, mN, mL, mY, mQ⟩, iw, ik, io, ic, ip, il, id⟩ := id hM
  obtain ⟨y1, y2, q1, q2⟩ := id
  simp only [Nat.zero_add] at mW mK mO mC mP mN mL mY mQ
  have hlen := (il b hb).1
  rw [e_X10_tonsIn]
  have st : ∀ i, i < (sB s b).length → j_X10_tonsIn_4 (nZ b) (nZ (sL (fun l => l.2.1) ((sB s b).take i))) (nZ i) σ = j_X10_tonsIn_4 (nZ b) (nZ (sL (fun l => l.2.1) ((sB s b).take (i + 1)))) (nZ (i + 1 : Nat)) σ := by
    intro i hi
    rw [e_X10_tonsIn_4]
    simp (disch := omega) only [z0, z1, z2, z3, z4, z5, z6, z12, z18, z48, z54, z60, z66, z174, z175, z_neg, z_add, z_sub, z_mul, z_tn, g_in, g_b0, g_b1, Int.toNat_natCast, z_le, z_lt, z_eq, z_mx, z_mn, if_pos, if_neg, if_true, if_false, m_many hM hb, m_l1 hM hb hi, sL_take hi, Int.natCast_add, Int.natCast_one]
  refine (lp (n := (sB s b).length) (fun i => j_X10_tonsIn_4 (nZ b) (nZ (sL (fun l => l.2.1) ((sB s b).take i))) (nZ i) σ) st).trans ?_
  try dsimp only
  try dsimp only
  rw [e_X10_tonsIn_4, sL_all]
  simp (disch := omega) only [z0, z1, z2, z3, z4, z5, z6, z12, z18, z48, z54, z60, z66, z174, z175, z_neg, z_add, z_sub, z_mul, z_tn, g_in, g_b0, g_b1, Int.toNat_natCast, z_le, z_lt, z_eq, z_mx, z_mn, if_pos, if_neg, if_true, if_false, m_many hM hb]
  rfl
theorem m_tonsOf (hM : gb_MM σ s) (hb : b < 6) {g : Nat} (hg : g < 6) : f_X10_tonsOf [gR 36 0, gI (nZ b), gI (nZ g)] σ = some (some (gI (nZ (lG (sB s b) g))), σ) := by
  obtain ⟨⟨mW, mK, mO, mC, mP, mN, mL, mY, mQ⟩, iw, ik, io, ic, ip, il, id⟩ := id hM
  obtain ⟨y1, y2, q1, q2⟩ := id
  simp only [Nat.zero_add] at mW mK mO mC mP mN mL mY mQ
  have hlen := (il b hb).1
  rw [e_X10_tonsOf]
  have st : ∀ i, i < (sB s b).length → j_X10_tonsOf_5 (nZ b) (nZ g) (nZ (sL (fun l => if l.1 = g then l.2.1 else 0) ((sB s b).take i))) (nZ i) σ = j_X10_tonsOf_5 (nZ b) (nZ g) (nZ (sL (fun l => if l.1 = g then l.2.1 else 0) ((sB s b).take (i + 1)))) (nZ (i + 1 : Nat)) σ := by
    intro i hi
    have hlen := (il b hb).1
    obtain ⟨l1, l2, l3, l4, l5⟩ := lz_ok il hb hi
    rw [e_X10_tonsOf_5, sL_take hi]
    by_cases h : (lz (sB s b) i).1 = g
    · rw [if_pos h]
      simp (disch := omega) only [z0, z1, z2, z3, z4, z5, z6, z12, z18, z48, z54, z60, z66, z174, z175, z_neg, z_add, z_sub, z_mul, z_tn, g_in, g_b0, g_b1, Int.toNat_natCast, z_le, z_lt, z_eq, z_mx, z_mn, if_pos, if_neg, if_true, if_false, m_many hM hb, m_l0 hM hb hi, m_l1 hM hb hi, Int.natCast_add, Int.natCast_one]
    · rw [if_neg h]
      simp (disch := omega) only [z0, z1, z2, z3, z4, z5, z6, z12, z18, z48, z54, z60, z66, z174, z175, z_neg, z_add, z_sub, z_mul, z_tn, g_in, g_b0, g_b1, Int.toNat_natCast, z_le, z_lt, z_eq, z_mx, z_mn, if_pos, if_neg, if_true, if_false, m_many hM hb, m_l0 hM hb hi, m_l1 hM hb hi, Int.natCast_add, Int.natCast_one]
  refine (lp (n := (sB s b).length) (fun i => j_X10_tonsOf_5 (nZ b) (nZ g) (nZ (sL (fun l => if l.1 = g then l.2.1 else 0) ((sB s b).take i))) (nZ i) σ) st).trans ?_
  try dsimp only
  rw [e_X10_tonsOf_5, sL_all]
  simp (disch := omega) only [z0, z1, z2, z3, z4, z5, z6, z12, z18, z48, z54, z60, z66, z174, z175, z_neg, z_add, z_sub, z_mul, z_tn, g_in, g_b0, g_b1, Int.toNat_natCast, z_le, z_lt, z_eq, z_mx, z_mn, if_pos, if_neg, if_true, if_false, m_many hM hb]
  rfl
theorem m_loss (hM : gb_MM σ s) {g h : Nat} (hg : g < 6) (hh : h < 6) : f_X10_loss [gR 36 0, gI (nZ g), gI (nZ h)] σ = some (some (gI (nZ (sO s g h))), σ) := by
  obtain ⟨⟨mW, mK, mO, mC, mP, mN, mL, mY, mQ⟩, iw, ik, io, ic, ip, il, id⟩ := id hM
  obtain ⟨y1, y2, q1, q2⟩ := id
  simp only [Nat.zero_add] at mW mK mO mC mP mN mL mY mQ
  rw [e_X10_loss]
  simp (disch := omega) only [z0, z1, z2, z3, z4, z5, z6, z12, z18, z48, z54, z60, z66, z174, z175, z_neg, z_add, z_sub, z_mul, z_tn, g_in, g_b0, g_b1, Int.toNat_natCast, z_le, z_lt, z_eq, z_mx, z_mn, if_pos, if_neg, if_true, if_false, mO g h hg hh]
theorem lM_s {s : gb_St} (io : iO s) {L : List gb_Ly} {g : Nat} (hg : g < 6) : lM s L g g = 0 := by
  unfold lM
  rw [(io g g hg hg).2.2.2]
  simp
theorem m_mixedOf (hM : gb_MM σ s) (hb : b < 6) {g h : Nat} (hg : g < 6) (hh : h < 6) : f_X10_mixedOf [gR 36 0, gI (nZ b), gI (nZ g), gI (nZ h)] σ = some (some (gI (nZ (lM s (sB s b) g h))), σ) := by
  obtain ⟨⟨mW, mK, mO, mC, mP, mN, mL, mY, mQ⟩, iw, ik, io, ic, ip, il, id⟩ := id hM
  obtain ⟨y1, y2, q1, q2⟩ := id
  simp only [Nat.zero_add] at mW mK mO mC mP mN mL mY mQ
  have h1 := lG_r il hb g
  have h2 := lG_r il hb h
  have h3 := io g h hg hh
  rw [e_X10_mixedOf]
  by_cases e : g = h
  · subst e
    rw [lM_s io hg]
    simp (disch := omega) only [z0, z1, z2, z3, z4, z5, z6, z12, z18, z48, z54, z60, z66, z174, z175, z_neg, z_add, z_sub, z_mul, z_tn, g_in, g_b0, g_b1, Int.toNat_natCast, z_le, z_lt, z_eq, z_mx, z_mn, if_pos, if_neg, if_true, if_false]
  · by_cases hz : 0 ≤ sO s g h
    · simp (disch := omega) only [z0, z1, z2, z3, z4, z5, z6, z12, z18, z48, z54, z60, z66, z174, z175, z_neg, z_add, z_sub, z_mul, z_tn, g_in, g_b0, g_b1, Int.toNat_natCast, z_le, z_lt, z_eq, z_mx, z_mn, if_pos, if_neg, if_true, if_false, m_loss hM hg hh, m_tonsOf hM hb hg, m_tonsOf hM hb hh]
      unfold lM
      rw [show max 0 (sO s g h) = sO s g h by omega]
    · simp (disch := omega) only [z0, z1, z2, z3, z4, z5, z6, z12, z18, z48, z54, z60, z66, z174, z175, z_neg, z_add, z_sub, z_mul, z_tn, g_in, g_b0, g_b1, Int.toNat_natCast, z_le, z_lt, z_eq, z_mx, z_mn, if_pos, if_neg, if_true, if_false, m_loss hM hg hh]
      unfold lM
      rw [show max 0 (sO s g h) = 0 by omega, Int.zero_mul]
theorem m_mixedIn (hM : gb_MM σ s) (hb : b < 6) : f_X10_mixedIn [gR 36 0, gI (nZ b)] σ = some (some (gI (nZ (lX s (sB s b)))), σ) := by
  have inner : ∀ (g : Nat) (c : Int), g < 6 → j_X10_mixedIn_15 (nZ b) (nZ c) (nZ g) (nZ (g + 1 : Nat)) σ = j_X10_mixedIn_4 (nZ b) (nZ (c + sm 6 (fun h => if g < h then lM s (sB s b) g h else 0))) (nZ (g + 1 : Nat)) σ := by
    intro g c hg
    have st : ∀ i, i < 6 - (g + 1) → j_X10_mixedIn_15 (nZ b) (nZ (c + sm (g + 1 + i) (fun h => if g < h then lM s (sB s b) g h else 0))) (nZ g) (nZ (g + 1 + i : Nat)) σ = j_X10_mixedIn_15 (nZ b) (nZ (c + sm (g + 1 + (i + 1)) (fun h => if g < h then lM s (sB s b) g h else 0))) (nZ g) (nZ (g + 1 + (i + 1) : Nat)) σ := by
      intro i hi
      have hm := m_mixedOf hM hb hg (h := g + 1 + i) (by omega)
      rw [e_X10_mixedIn_15, show g + 1 + (i + 1) = (g + 1 + i) + 1 by omega, sm_s, if_pos (show g < g + 1 + i by omega)]
      have hk : g + 1 + i < 6 := by omega
      generalize g + 1 + i = k at hm hk ⊢
      simp (disch := omega) only [z0, z1, z2, z3, z4, z5, z6, z12, z18, z48, z54, z60, z66, z174, z175, z_neg, z_add, z_sub, z_mul, z_tn, g_in, g_b0, g_b1, Int.toNat_natCast, z_le, z_lt, z_eq, z_mx, z_mn, if_pos, if_neg, if_true, if_false, hm, Int.natCast_add, Int.natCast_one, Int.add_assoc]
    have z : sm (g + 1) (fun h => if g < h then lM s (sB s b) g h else 0) = 0 := by
      have : sm (g + 1) (fun h => if g < h then lM s (sB s b) g h else 0) = sm (g + 1) (fun _ => 0) := sm_c (fun i hi => if_neg (by omega))
      rw [this]
      clear this st
      induction g + 1 with
      | zero => rfl
      | succ n ih => rw [sm_s, ih]; rfl
    have h1 := lp (n := 6 - (g + 1)) (fun i => j_X10_mixedIn_15 (nZ b) (nZ (c + sm (g + 1 + i) (fun h => if g < h then lM s (sB s b) g h else 0))) (nZ g) (nZ (g + 1 + i : Nat)) σ) st
    simp only [Nat.add_zero, z, Int.add_zero, show g + 1 + (6 - (g + 1)) = 6 by omega] at h1
    rw [h1, e_X10_mixedIn_15]
    simp (disch := omega) only [z0, z1, z2, z3, z4, z5, z6, z12, z18, z48, z54, z60, z66, z174, z175, z_neg, z_add, z_sub, z_mul, z_tn, g_in, g_b0, g_b1, Int.toNat_natCast, z_le, z_lt, z_eq, z_mx, z_mn, if_pos, if_neg, if_true, if_false, Int.natCast_add, Int.natCast_one, show ((6 : Nat) : Int) = 6 from rfl]
  rw [e_X10_mixedIn]
  have st : ∀ i, i < 6 → j_X10_mixedIn_4 (nZ b) (nZ (sm i (fun g => sm 6 (fun h => if g < h then lM s (sB s b) g h else 0)))) (nZ i) σ = j_X10_mixedIn_4 (nZ b) (nZ (sm (i + 1) (fun g => sm 6 (fun h => if g < h then lM s (sB s b) g h else 0)))) (nZ (i + 1 : Nat)) σ := by
    intro i hi
    rw [e_X10_mixedIn_4, sm_s, ← inner i _ hi]
    simp (disch := omega) only [z0, z1, z2, z3, z4, z5, z6, z12, z18, z48, z54, z60, z66, z174, z175, z_neg, z_add, z_sub, z_mul, z_tn, g_in, g_b0, g_b1, Int.toNat_natCast, z_le, z_lt, z_eq, z_mx, z_mn, if_pos, if_neg, if_true, if_false, Int.natCast_add, Int.natCast_one]
  refine (lp (n := 6) (fun i => j_X10_mixedIn_4 (nZ b) (nZ (sm i (fun g => sm 6 (fun h => if g < h then lM s (sB s b) g h else 0)))) (nZ i) σ) st).trans ?_
  try dsimp only
  try dsimp only
  rw [e_X10_mixedIn_4]
  simp (disch := omega) only [z0, z1, z2, z3, z4, z5, z6, z12, z18, z48, z54, z60, z66, z174, z175, z_neg, z_add, z_sub, z_mul, z_tn, g_in, g_b0, g_b1, Int.toNat_natCast, z_le, z_lt, z_eq, z_mx, z_mn, if_pos, if_neg, if_true, if_false, show ((6 : Nat) : Int) = 6 from rfl]
  rfl
theorem m_valueOn (hM : gb_MM σ s) (hb : b < 6) {on : Int} (ho : 0 ≤ on ∧ on ≤ 11000) : f_X10_valueOn [gR 36 0, gI (nZ on), gI (nZ b)] σ = some (some (gI (nZ (lV s on (sB s b)))), σ) := by
  rw [e_X10_valueOn]
  simp (disch := omega) only [z0, z1, z2, z3, z4, z5, z6, z12, z18, z48, z54, z60, z66, z174, z175, z_neg, z_add, z_sub, z_mul, z_tn, g_in, g_b0, g_b1, Int.toNat_natCast, z_le, z_lt, z_eq, z_mx, z_mn, if_pos, if_neg, if_true, if_false, m_rawOn hM hb ho, m_mixedIn hM hb]
  rfl
theorem m_valueOf (hM : gb_MM σ s) (hb : b < 6) : f_X10_valueOf [gR 36 0, gI (nZ b)] σ = some (some (gI (nZ (lV s (sY s) (sB s b)))), σ) := by
  obtain ⟨⟨mW, mK, mO, mC, mP, mN, mL, mY, mQ⟩, iw, ik, io, ic, ip, il, id⟩ := id hM
  obtain ⟨y1, y2, q1, q2⟩ := id
  simp only [Nat.zero_add] at mW mK mO mC mP mN mL mY mQ
  rw [e_X10_valueOf]
  simp (disch := omega) only [z0, z1, z2, z3, z4, z5, z6, z12, z18, z48, z54, z60, z66, z174, z175, z_neg, z_add, z_sub, z_mul, z_tn, g_in, g_b0, g_b1, Int.toNat_natCast, z_le, z_lt, z_eq, z_mx, z_mn, if_pos, if_neg, if_true, if_false, show (174 : Int).toNat = 174 from rfl, mY, m_valueOn hM hb (on := sY s) (by omega)]
theorem m_allOn (hM : gb_MM σ s) {on : Int} (ho : 0 ≤ on ∧ on ≤ 11000) : f_X10_allOn [gR 36 0, gI (nZ on)] σ = some (some (gI (nZ (lA s on))), σ) := by
  rw [e_X10_allOn]
  have st : ∀ i, i < 6 → j_X10_allOn_4 (nZ on) (nZ (sm i (fun b => lV s on (sB s b)))) (nZ i) σ = j_X10_allOn_4 (nZ on) (nZ (sm (i + 1) (fun b => lV s on (sB s b)))) (nZ (i + 1 : Nat)) σ := by
    intro i hi
    rw [e_X10_allOn_4]
    simp (disch := omega) only [z0, z1, z2, z3, z4, z5, z6, z12, z18, z48, z54, z60, z66, z174, z175, z_neg, z_add, z_sub, z_mul, z_tn, g_in, g_b0, g_b1, Int.toNat_natCast, z_le, z_lt, z_eq, z_mx, z_mn, if_pos, if_neg, if_true, if_false, m_valueOn hM hi ho, sm_s, Int.natCast_add, Int.natCast_one]
  refine (lp (n := 6) (fun i => j_X10_allOn_4 (nZ on) (nZ (sm i (fun b => lV s on (sB s b)))) (nZ i) σ) st).trans ?_
  try dsimp only
  rw [e_X10_allOn_4]
  simp (disch := omega) only [z0, z1, z2, z3, z4, z5, z6, z12, z18, z48, z54, z60, z66, z174, z175, z_neg, z_add, z_sub, z_mul, z_tn, g_in, g_b0, g_b1, Int.toNat_natCast, z_le, z_lt, z_eq, z_mx, z_mn, if_pos, if_neg, if_true, if_false, show ((6 : Nat) : Int) = 6 from rfl]
  rfl
theorem m_allNow (hM : gb_MM σ s) : f_X10_allNow [gR 36 0] σ = some (some (gI (nZ (lA s (sY s)))), σ) := by
  obtain ⟨⟨mW, mK, mO, mC, mP, mN, mL, mY, mQ⟩, iw, ik, io, ic, ip, il, id⟩ := id hM
  obtain ⟨y1, y2, q1, q2⟩ := id
  simp only [Nat.zero_add] at mW mK mO mC mP mN mL mY mQ
  rw [e_X10_allNow]
  simp (disch := omega) only [z0, z1, z2, z3, z4, z5, z6, z12, z18, z48, z54, z60, z66, z174, z175, z_neg, z_add, z_sub, z_mul, z_tn, g_in, g_b0, g_b1, Int.toNat_natCast, z_le, z_lt, z_eq, z_mx, z_mn, if_pos, if_neg, if_true, if_false, show (174 : Int).toNat = 174 from rfl, mY, m_allOn hM (on := sY s) (by omega)]
theorem m_onTop_t (hM : gb_MM σ s) (hb : b < 6) {g : Nat} {d : Int} (h : onB (sB s b) g d = true) : f_X10_isOnTop [gR 36 0, gI (nZ b), gI (nZ g), gI (nZ d)] σ = some (some (gI (nZ 1)), σ) := by
  obtain ⟨⟨mW, mK, mO, mC, mP, mN, mL, mY, mQ⟩, iw, ik, io, ic, ip, il, id⟩ := id hM
  obtain ⟨y1, y2, q1, q2⟩ := id
  simp only [Nat.zero_add] at mW mK mO mC mP mN mL mY mQ
  obtain ⟨h1, h2, h3⟩ := onB_t h
  have hlen := (il b hb).1
  have hi : (sB s b).length - 1 < (sB s b).length := by omega
  obtain ⟨l1, l2, l3, l4, l5⟩ := lz_ok il hb hi
  have e : ((sB s b).length : Int) - 1 = (((sB s b).length - 1 : Nat) : Int) := by omega
  rw [e_X10_isOnTop]
  simp (disch := omega) only [z0, z1, z2, z3, z4, z5, z6, z12, z18, z48, z54, z60, z66, z174, z175, z_neg, z_add, z_sub, z_mul, z_tn, g_in, g_b0, g_b1, Int.toNat_natCast, z_le, z_lt, z_eq, z_mx, z_mn, if_pos, if_neg, if_true, if_false, m_many hM hb, e, m_l0 hM hb hi, m_l2 hM hb hi, h2, h3]
theorem m_onTop_f (hM : gb_MM σ s) (hb : b < 6) {g : Nat} {d : Int} (hg : g < 6) (hd : rZ d) (h : onB (sB s b) g d = false) : f_X10_isOnTop [gR 36 0, gI (nZ b), gI (nZ g), gI (nZ d)] σ = some (some (gI (nZ 0)), σ) := by
  obtain ⟨⟨mW, mK, mO, mC, mP, mN, mL, mY, mQ⟩, iw, ik, io, ic, ip, il, id⟩ := id hM
  obtain ⟨y1, y2, q1, q2⟩ := id
  simp only [Nat.zero_add] at mW mK mO mC mP mN mL mY mQ
  have h := onB_f h
  have hlen := (il b hb).1
  rw [e_X10_isOnTop]
  by_cases h0 : (sB s b).length = 0
  · simp (disch := omega) only [z0, z1, z2, z3, z4, z5, z6, z12, z18, z48, z54, z60, z66, z174, z175, z_neg, z_add, z_sub, z_mul, z_tn, g_in, g_b0, g_b1, Int.toNat_natCast, z_le, z_lt, z_eq, z_mx, z_mn, if_pos, if_neg, if_true, if_false, m_many hM hb, h0, show ((0 : Nat) : Int) = 0 from rfl]
  · have hi : (sB s b).length - 1 < (sB s b).length := by omega
    obtain ⟨l1, l2, l3, l4, l5⟩ := lz_ok il hb hi
    have e : ((sB s b).length : Int) - 1 = (((sB s b).length - 1 : Nat) : Int) := by omega
    by_cases h1 : (lz (sB s b) ((sB s b).length - 1)).1 = g
    · have h2 : ¬ (lz (sB s b) ((sB s b).length - 1)).2.2 = d := fun h2 => h ⟨by omega, h1, h2⟩
      simp (disch := omega) only [z0, z1, z2, z3, z4, z5, z6, z12, z18, z48, z54, z60, z66, z174, z175, z_neg, z_add, z_sub, z_mul, z_tn, g_in, g_b0, g_b1, Int.toNat_natCast, z_le, z_lt, z_eq, z_mx, z_mn, if_pos, if_neg, if_true, if_false, m_many hM hb, e, m_l0 hM hb hi, m_l2 hM hb hi]
    · simp (disch := omega) only [z0, z1, z2, z3, z4, z5, z6, z12, z18, z48, z54, z60, z66, z174, z175, z_neg, z_add, z_sub, z_mul, z_tn, g_in, g_b0, g_b1, Int.toNat_natCast, z_le, z_lt, z_eq, z_mx, z_mn, if_pos, if_neg, if_true, if_false, m_many hM hb, e, m_l0 hM hb hi, m_l2 hM hb hi]
theorem m_mayMix_t (hM : gb_MM σ s) (hb : b < 6) {g : Nat} (hg : g < 6) (h : ap s (sB s b) g = true) : f_X10_mayMix [gR 36 0, gI (nZ b), gI (nZ g)] σ = some (some (gI (nZ 0)), σ) := by
  obtain ⟨⟨mW, mK, mO, mC, mP, mN, mL, mY, mQ⟩, iw, ik, io, ic, ip, il, id⟩ := id hM
  obtain ⟨y1, y2, q1, q2⟩ := id
  simp only [Nat.zero_add] at mW mK mO mC mP mN mL mY mQ
  have hlen := (il b hb).1
  rw [e_X10_mayMix]
  obtain ⟨k, hk, hn, hJ, he⟩ := lp_ex (n := (sB s b).length) (fun i => j_X10_mayMix_2 (nZ b) (nZ g) (nZ i) σ) (fun i => sO s g (lz (sB s b) i).1 < 0) (by
    intro i hi hp
    have hlen := (il b hb).1
    obtain ⟨l1, l2, l3, l4, l5⟩ := lz_ok il hb hi
    have := io g _ hg l1
    rw [e_X10_mayMix_2]
    simp (disch := omega) only [z0, z1, z2, z3, z4, z5, z6, z12, z18, z48, z54, z60, z66, z174, z175, z_neg, z_add, z_sub, z_mul, z_tn, g_in, g_b0, g_b1, Int.toNat_natCast, z_le, z_lt, z_eq, z_mx, z_mn, if_pos, if_neg, if_true, if_false, m_many hM hb, m_l0 hM hb hi, m_loss hM hg l1, Int.natCast_add, Int.natCast_one])
  refine hJ.trans ?_
  try dsimp only
  rcases he with rfl | ⟨hi, hp⟩
  · obtain ⟨l, hl, hz⟩ := List.any_eq_true.mp h
    obtain ⟨i, hi, rfl⟩ := lz_of_mem hl
    exact absurd (of_decide_eq_true hz) (hn i hi)
  · obtain ⟨l1, l2, l3, l4, l5⟩ := lz_ok il hb hi
    have := io g _ hg l1
    rw [e_X10_mayMix_2]
    simp (disch := omega) only [z0, z1, z2, z3, z4, z5, z6, z12, z18, z48, z54, z60, z66, z174, z175, z_neg, z_add, z_sub, z_mul, z_tn, g_in, g_b0, g_b1, Int.toNat_natCast, z_le, z_lt, z_eq, z_mx, z_mn, if_pos, if_neg, if_true, if_false, m_many hM hb, m_l0 hM hb hi, m_loss hM hg l1]
theorem m_mayMix_f (hM : gb_MM σ s) (hb : b < 6) {g : Nat} (hg : g < 6) (h : ap s (sB s b) g = false) : f_X10_mayMix [gR 36 0, gI (nZ b), gI (nZ g)] σ = some (some (gI (nZ 1)), σ) := by
  obtain ⟨⟨mW, mK, mO, mC, mP, mN, mL, mY, mQ⟩, iw, ik, io, ic, ip, il, id⟩ := id hM
  obtain ⟨y1, y2, q1, q2⟩ := id
  simp only [Nat.zero_add] at mW mK mO mC mP mN mL mY mQ
  have hlen := (il b hb).1
  have hn : ∀ i, i < (sB s b).length → ¬ sO s g (lz (sB s b) i).1 < 0 := fun i hi hz => by
    have : ap s (sB s b) g = true := List.any_eq_true.mpr ⟨_, lz_mem hi, decide_eq_true hz⟩
    rw [h] at this
    cases this
  rw [e_X10_mayMix]
  have st : ∀ i, i < (sB s b).length → j_X10_mayMix_2 (nZ b) (nZ g) (nZ i) σ = j_X10_mayMix_2 (nZ b) (nZ g) (nZ (i + 1 : Nat)) σ := by
    intro i hi
    have hlen := (il b hb).1
    obtain ⟨l1, l2, l3, l4, l5⟩ := lz_ok il hb hi
    have := io g _ hg l1
    have := hn i hi
    rw [e_X10_mayMix_2]
    simp (disch := omega) only [z0, z1, z2, z3, z4, z5, z6, z12, z18, z48, z54, z60, z66, z174, z175, z_neg, z_add, z_sub, z_mul, z_tn, g_in, g_b0, g_b1, Int.toNat_natCast, z_le, z_lt, z_eq, z_mx, z_mn, if_pos, if_neg, if_true, if_false, m_many hM hb, m_l0 hM hb hi, m_loss hM hg l1, Int.natCast_add, Int.natCast_one]
  refine (lp (n := (sB s b).length) (fun i => j_X10_mayMix_2 (nZ b) (nZ g) (nZ i) σ) st).trans ?_
  try dsimp only
  rw [e_X10_mayMix_2]
  simp (disch := omega) only [z0, z1, z2, z3, z4, z5, z6, z12, z18, z48, z54, z60, z66, z174, z175, z_neg, z_add, z_sub, z_mul, z_tn, g_in, g_b0, g_b1, Int.toNat_natCast, z_le, z_lt, z_eq, z_mx, z_mn, if_pos, if_neg, if_true, if_false, m_many hM hb]
theorem m_why (hM : gb_MM σ s) (hb : b < 6) {g : Nat} {t d : Int} (hg : g < 6) (ht : 0 ≤ t ∧ t ≤ 99) (hd : 0 ≤ d ∧ d ≤ 10019) : f_X10_whyNot [gR 36 0, gI (nZ b), gI (nZ g), gI (nZ t), gI (nZ d)] σ = some (some (gI (nZ (sWhy s b g t d))), σ) := by
  obtain ⟨⟨mW, mK, mO, mC, mP, mN, mL, mY, mQ⟩, iw, ik, io, ic, ip, il, id⟩ := id hM
  obtain ⟨y1, y2, q1, q2⟩ := id
  simp only [Nat.zero_add] at mW mK mO mC mP mN mL mY mQ
  have hc := ic b hb
  have hT := lG_r il hb 0
  have hlen := (il b hb).1
  rw [e_X10_whyNot]
  unfold sWhy
  by_cases h1 : sY s < sP s b
  · rw [if_pos h1]
    simp (disch := omega) only [z0, z1, z2, z3, z4, z5, z6, z12, z18, z48, z54, z60, z66, z174, z175, z_neg, z_add, z_sub, z_mul, z_tn, g_in, g_b0, g_b1, Int.toNat_natCast, z_le, z_lt, z_eq, z_mx, z_mn, if_pos, if_neg, if_true, if_false, m_closed_t hM hb h1]
  rw [if_neg h1]
  by_cases h2 : sC s b < lT (sB s b) + t
  · rw [if_pos h2]
    simp (disch := omega) only [z0, z1, z2, z3, z4, z5, z6, z12, z18, z48, z54, z60, z66, z174, z175, z_neg, z_add, z_sub, z_mul, z_tn, g_in, g_b0, g_b1, Int.toNat_natCast, z_le, z_lt, z_eq, z_mx, z_mn, if_pos, if_neg, if_true, if_false, m_closed_f hM hb h1, m_tonsIn hM hb, mC b hb]
  rw [if_neg h2]
  cases h3 : ap s (sB s b) g with
  | true =>
    rw [if_pos rfl]
    simp (disch := omega) only [z0, z1, z2, z3, z4, z5, z6, z12, z18, z48, z54, z60, z66, z174, z175, z_neg, z_add, z_sub, z_mul, z_tn, g_in, g_b0, g_b1, Int.toNat_natCast, z_le, z_lt, z_eq, z_mx, z_mn, if_pos, if_neg, if_true, if_false, m_closed_f hM hb h1, m_tonsIn hM hb, mC b hb, m_mayMix_t hM hb hg h3]
  | false =>
    rw [if_neg (by simp)]
    by_cases h4 : (sB s b).length = 6
    · cases h5 : onB (sB s b) g d with
      | true =>
        rw [if_neg (by simp)]
        simp (disch := omega) only [z0, z1, z2, z3, z4, z5, z6, z12, z18, z48, z54, z60, z66, z174, z175, z_neg, z_add, z_sub, z_mul, z_tn, g_in, g_b0, g_b1, Int.toNat_natCast, z_le, z_lt, z_eq, z_mx, z_mn, if_pos, if_neg, if_true, if_false, m_closed_f hM hb h1, m_tonsIn hM hb, mC b hb, m_mayMix_f hM hb hg h3, m_many hM hb, m_onTop_t hM hb h5]
      | false =>
        rw [if_pos ⟨h4, rfl⟩]
        simp (disch := omega) only [z0, z1, z2, z3, z4, z5, z6, z12, z18, z48, z54, z60, z66, z174, z175, z_neg, z_add, z_sub, z_mul, z_tn, g_in, g_b0, g_b1, Int.toNat_natCast, z_le, z_lt, z_eq, z_mx, z_mn, if_pos, if_neg, if_true, if_false, m_closed_f hM hb h1, m_tonsIn hM hb, mC b hb, m_mayMix_f hM hb hg h3, m_many hM hb, m_onTop_f hM hb hg ⟨by omega, by omega⟩ h5]
    · rw [if_neg (fun h => h4 h.1)]
      simp (disch := omega) only [z0, z1, z2, z3, z4, z5, z6, z12, z18, z48, z54, z60, z66, z174, z175, z_neg, z_add, z_sub, z_mul, z_tn, g_in, g_b0, g_b1, Int.toNat_natCast, z_le, z_lt, z_eq, z_mx, z_mn, if_pos, if_neg, if_true, if_false, m_closed_f hM hb h1, m_tonsIn hM hb, mC b hb, m_mayMix_f hM hb hg h3, m_many hM hb]
theorem m_gradesIn (hM : gb_MM σ s) (hb : b < 6) : f_X10_gradesIn [gR 36 0, gI (nZ b)] σ = some (some (gI (bm 6 (fun g => decide (0 < lG (sB s b) g)))), σ) := by
  obtain ⟨⟨mW, mK, mO, mC, mP, mN, mL, mY, mQ⟩, iw, ik, io, ic, ip, il, id⟩ := id hM
  obtain ⟨y1, y2, q1, q2⟩ := id
  simp only [Nat.zero_add] at mW mK mO mC mP mN mL mY mQ
  have hlen := (il b hb).1
  rw [e_X10_gradesIn]
  have okt : ∀ i, ∀ l ∈ (sB s b).take i, okL l := fun i l hl => (il b hb).2.2 l (List.mem_of_mem_take hl)
  have st : ∀ i, i < (sB s b).length → j_X10_gradesIn_4 (nZ b) (bm 6 (fun g => decide (0 < lG ((sB s b).take i) g))) (nZ i) σ = j_X10_gradesIn_4 (nZ b) (bm 6 (fun g => decide (0 < lG ((sB s b).take (i + 1)) g))) (nZ (i + 1 : Nat)) σ := by
    intro i hi
    have hlen := (il b hb).1
    obtain ⟨l1, l2, l3, l4, l5⟩ := lz_ok il hb hi
    have e : bm 6 (fun g => decide (0 < lG ((sB s b).take (i + 1)) g)) = bm 6 (fun g => decide (0 < lG ((sB s b).take i) g)) ||| (nZ 1 <<< (nZ ((lz (sB s b) i).1 : Nat) &&& 31)) := by
      rw [bm_or _ l1]
      refine bm_cg (fun g hg => ?_)
      rw [Bool.eq_iff_iff]
      simp only [Bool.or_eq_true, decide_eq_true_eq]
      rw [lG_pos (okt (i + 1)), lG_pos (okt i), lz_take hi]
      simp only [List.mem_append, List.mem_singleton]
      constructor
      · rintro ⟨l, hl | hl, e⟩
        · exact Or.inl ⟨l, hl, e⟩
        · subst hl; exact Or.inr e.symm
      · rintro (⟨l, hl, e⟩ | e)
        · exact ⟨l, Or.inl hl, e⟩
        · exact ⟨_, Or.inr rfl, e.symm⟩
    rw [e_X10_gradesIn_4, e]
    simp (disch := omega) only [z0, z1, z2, z3, z4, z5, z6, z12, z18, z48, z54, z60, z66, z174, z175, z_neg, z_add, z_sub, z_mul, z_tn, g_in, g_b0, g_b1, Int.toNat_natCast, z_le, z_lt, z_eq, z_mx, z_mn, if_pos, if_neg, if_true, if_false, m_many hM hb, m_l0 hM hb hi, Int.natCast_add, Int.natCast_one]
  have z : bm 6 (fun g => decide (0 < lG ((sB s b).take 0) g)) = 0 := bm_no (fun i _ => rfl)
  have h1 := lp (n := (sB s b).length) (fun i => j_X10_gradesIn_4 (nZ b) (bm 6 (fun g => decide (0 < lG ((sB s b).take i) g))) (nZ i) σ) st
  try dsimp only at h1
  rw [z] at h1
  refine h1.trans ?_
  rw [e_X10_gradesIn_4, List.take_length]
  simp (disch := omega) only [z0, z1, z2, z3, z4, z5, z6, z12, z18, z48, z54, z60, z66, z174, z175, z_neg, z_add, z_sub, z_mul, z_tn, g_in, g_b0, g_b1, Int.toNat_natCast, z_le, z_lt, z_eq, z_mx, z_mn, if_pos, if_neg, if_true, if_false, m_many hM hb]
end M1
