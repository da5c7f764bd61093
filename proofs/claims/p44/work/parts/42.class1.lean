/-! CLASS 1: what a store of the class answers -/
def gb_SC (σ : gb_M) (j : Nat) (s : gb_St) : Prop := gb_RS σ j s ∧ gb_RR σ 0 s ∧ gb_IV s
def onT (L : List gb_Ly) (g : Nat) (d : Int) : Prop := 0 < L.length ∧ (lz L (L.length - 1)).1 = g ∧ (lz L (L.length - 1)).2.2 = d
def lM (s : gb_St) (L : List gb_Ly) (g h : Nat) : Int := max 0 (sO s g h) * min (lG L g) (lG L h)
def lX (s : gb_St) (L : List gb_Ly) : Int := sm 6 (fun g => sm 6 (fun h => if g < h then lM s L g h else 0))
theorem lG_nn {L : List gb_Ly} {g : Nat} (h : ∀ l ∈ L, okL l) : 0 ≤ lG L g := by
  unfold lG
  refine sL_nn (fun l hl => ?_)
  have := (h l hl).2.1
  split <;> omega
theorem lG_le {L : List gb_Ly} {g : Nat} (h : ∀ l ∈ L, okL l) : lG L g ≤ lT L := by
  unfold lG lT
  refine sL_le (fun l hl => ?_)
  have := (h l hl).2.1
  split <;> omega
theorem lG_r {s : gb_St} {b : Nat} (il : iL s) (hb : b < 6) (g : Nat) : 0 ≤ lG (sB s b) g ∧ lG (sB s b) g ≤ lT (sB s b) ∧ lT (sB s b) ≤ 99 := ⟨lG_nn (il b hb).2.2, lG_le (il b hb).2.2, (il b hb).2.1⟩
theorem sL_bd {f : gb_Ly → Int} {c : Int} {L : List gb_Ly} (h : ∀ l ∈ L, 0 ≤ f l ∧ f l ≤ l.2.1 * c) (hc : 0 ≤ c) : 0 ≤ sL f L ∧ sL f L ≤ lT L * c := by
  induction L with
  | nil => simp [sL, lT]
  | cons l t ih =>
    obtain ⟨h1, h2⟩ := ih (fun x hx => h x (List.mem_cons_of_mem _ hx))
    obtain ⟨h3, h4⟩ := h l List.mem_cons_self
    have e : lT (l :: t) * c = l.2.1 * c + lT t * c := by
      show (l.2.1 + lT t) * c = _
      rw [Int.add_mul]
    have e2 : sL f (l :: t) = f l + sL f t := rfl
    omega
theorem lT_take {s : gb_St} {b : Nat} (il : iL s) (hb : b < 6) (n : Nat) : 0 ≤ lT ((sB s b).take n) ∧ lT ((sB s b).take n) ≤ lT (sB s b) := by
  have h : lT (sB s b) = lT ((sB s b).take n) + lT ((sB s b).drop n) := by
    unfold lT
    rw [← sL_app, List.take_append_drop]
  have h1 : 0 ≤ lT ((sB s b).take n) := sL_nn (fun l hl => by have := ((il b hb).2.2 l (List.mem_of_mem_take hl)).2.1; omega)
  have h2 : 0 ≤ lT ((sB s b).drop n) := sL_nn (fun l hl => by have := ((il b hb).2.2 l (List.mem_of_mem_drop hl)).2.1; omega)
  omega
theorem lR_r {s : gb_St} {on : Int} {L : List gb_Ly} (hw : iW s) (h : ∀ l ∈ L, okL l) (hT : lT L ≤ 99) : 0 ≤ lR s on L ∧ lR s on L ≤ 98901 := by
  obtain ⟨h1, h2⟩ := sL_bd (L := L) (f := fun l => l.2.1 * sU s on l) (c := 999) (fun l hl => by
    obtain ⟨u1, u2⟩ := sU_r (on := on) hw (h l hl)
    have ht := (h l hl).2.1
    exact ⟨Int.mul_nonneg (by omega) u1, Int.mul_le_mul_of_nonneg_left u2 (by omega)⟩) (by omega)
  unfold lR
  omega
theorem lM_r {s : gb_St} {b g h : Nat} (hI : gb_IV s) (hb : b < 6) (hg : g < 6) (hh : h < 6) : 0 ≤ lM s (sB s b) g h ∧ lM s (sB s b) g h ≤ 9801 := by
  obtain ⟨iw, ik, io, ic, ip, il, id⟩ := hI
  have h1 := io g h hg hh
  have h2 := lG_r il hb g
  have h3 := lG_r il hb h
  have h4 : max 0 (sO s g h) * min (lG (sB s b) g) (lG (sB s b) h) ≤ 99 * 99 := Int.mul_le_mul (by omega) (by omega) (by omega) (by omega)
  have h5 : 0 ≤ max 0 (sO s g h) * min (lG (sB s b) g) (lG (sB s b) h) := Int.mul_nonneg (by omega) (by omega)
  unfold lM
  omega
section C1
variable {σ : gb_M} {j : Nat} {s : gb_St} {b : Nat}
theorem p_closed_t (hC : gb_SC σ j s) (hb : b < 6) (h : sY s < sP s b) : f_X7_closed [gR 10 j, gI (nZ b)] σ = some (some (gI 1), σ) := by
  obtain ⟨⟨cW, cP, cN, cT, cL, cH, cY, cQ⟩, ⟨rK, rC, rO, rA⟩, iw, ik, io, ic, ip, il, id⟩ := id hC
  obtain ⟨y1, y2, q1, q2⟩ := id
  have := ip b hb
  rw [e_X7_closed]
  simp (disch := omega) only [z0, z1, z2, z3, z4, z5, z6, z12, z18, z48, z54, z60, z66, z174, z175, z_neg, z_add, z_sub, z_mul, z_tn, g_in, g_b0, g_b1, Int.toNat_natCast, z_le, z_lt, z_eq, z_mx, z_mn, if_pos, if_neg, if_true, if_false, cP, cY]
theorem p_closed_f (hC : gb_SC σ j s) (hb : b < 6) (h : ¬ sY s < sP s b) : f_X7_closed [gR 10 j, gI (nZ b)] σ = some (some (gI 0), σ) := by
  obtain ⟨⟨cW, cP, cN, cT, cL, cH, cY, cQ⟩, ⟨rK, rC, rO, rA⟩, iw, ik, io, ic, ip, il, id⟩ := id hC
  obtain ⟨y1, y2, q1, q2⟩ := id
  have := ip b hb
  rw [e_X7_closed]
  simp (disch := omega) only [z0, z1, z2, z3, z4, z5, z6, z12, z18, z48, z54, z60, z66, z174, z175, z_neg, z_add, z_sub, z_mul, z_tn, g_in, g_b0, g_b1, Int.toNat_natCast, z_le, z_lt, z_eq, z_mx, z_mn, if_pos, if_neg, if_true, if_false, cP, cY]
theorem p_raw (hC : gb_SC σ j s) (hb : b < 6) {on : Int} (ho : 0 ≤ on ∧ on ≤ 11000) : f_X7_raw [gR 10 j, gI (nZ b), gI (nZ on)] σ = some (some (gI (nZ (lR s on (sB s b)))), σ) := by
  obtain ⟨⟨cW, cP, cN, cT, cL, cH, cY, cQ⟩, ⟨rK, rC, rO, rA⟩, iw, ik, io, ic, ip, il, id⟩ := id hC
  obtain ⟨y1, y2, q1, q2⟩ := id
  have st : ∀ i, i < (sB s b).length → j_X7_raw_5 j (nZ b) (nZ on) (nZ (sL (fun l => l.2.1 * sU s on l) ((sB s b).take i))) (nZ i) σ = j_X7_raw_5 j (nZ b) (nZ on) (nZ (sL (fun l => l.2.1 * sU s on l) ((sB s b).take (i + 1)))) (nZ (i + 1 : Nat)) σ := by
    intro i hi
    have hlen := (il b hb).1
    obtain ⟨g1, g2, g3⟩ := cL b i hb hi
    obtain ⟨l1, l2, l3, l4, l5⟩ := lz_ok il hb hi
    rw [e_X7_raw_5]
    simp (disch := omega) only [z0, z1, z2, z3, z4, z5, z6, z12, z18, z48, z54, z60, z66, z174, z175, z_neg, z_add, z_sub, z_mul, z_tn, g_in, g_b0, g_b1, Int.toNat_natCast, z_le, z_lt, z_eq, z_mx, z_mn, if_pos, if_neg, if_true, if_false, cN, g1, g2, g3, p_place, p_unit hC.1 hC.2.1 hC.2.2 hb hi ho, sL_take hi, Int.natCast_add, Int.natCast_one]
  rw [e_X7_raw]
  refine (lp (n := (sB s b).length) (fun i => j_X7_raw_5 j (nZ b) (nZ on) (nZ (sL (fun l => l.2.1 * sU s on l) ((sB s b).take i))) (nZ i) σ) st).trans ?_
  have hlen := (il b hb).1
  show j_X7_raw_5 _ _ _ _ _ _ = _
  rw [e_X7_raw_5, sL_all]
  simp (disch := omega) only [z0, z1, z2, z3, z4, z5, z6, z12, z18, z48, z54, z60, z66, z174, z175, z_neg, z_add, z_sub, z_mul, z_tn, g_in, g_b0, g_b1, Int.toNat_natCast, z_le, z_lt, z_eq, z_mx, z_mn, if_pos, if_neg, if_true, if_false, cN]
  rfl
theorem p_lossOf (hC : gb_SC σ j s) {g h : Nat} (hg : g < 6) (hh : h < 6) : f_X5_lossOf [gR 3 0, gI (nZ g), gI (nZ h)] σ = some (some (gI (nZ (max 0 (sO s g h)))), σ) := by
  obtain ⟨⟨cW, cP, cN, cT, cL, cH, cY, cQ⟩, ⟨rK, rC, rO, rA⟩, iw, ik, io, ic, ip, il, id⟩ := id hC
  obtain ⟨y1, y2, q1, q2⟩ := id
  rw [e_X5_lossOf]
  simp (disch := omega) only [z0, z1, z2, z3, z4, z5, z6, z12, z18, z48, z54, z60, z66, z174, z175, z_neg, z_add, z_sub, z_mul, z_tn, g_in, g_b0, g_b1, Int.toNat_natCast, z_le, z_lt, z_eq, z_mx, z_mn, if_pos, if_neg, if_true, if_false, rO g h hg hh]
theorem p_mixedOf (hC : gb_SC σ j s) (hb : b < 6) {g h : Nat} (hg : g < 6) (hh : h < 6) : f_X7_mixedOf [gR 10 j, gI (nZ b), gI (nZ g), gI (nZ h)] σ = some (some (gI (nZ (lM s (sB s b) g h))), σ) := by
  obtain ⟨⟨cW, cP, cN, cT, cL, cH, cY, cQ⟩, ⟨rK, rC, rO, rA⟩, iw, ik, io, ic, ip, il, id⟩ := id hC
  obtain ⟨y1, y2, q1, q2⟩ := id
  have h1 := lG_r il hb g
  have h2 := lG_r il hb h
  rw [e_X7_mixedOf]
  simp (disch := omega) only [z0, z1, z2, z3, z4, z5, z6, z12, z18, z48, z54, z60, z66, z174, z175, z_neg, z_add, z_sub, z_mul, z_tn, g_in, g_b0, g_b1, Int.toNat_natCast, z_le, z_lt, z_eq, z_mx, z_mn, if_pos, if_neg, if_true, if_false, p_lossOf hC hg hh, cH b g hb hg, cH b h hb hh]
  rfl
theorem p_mixedIn (hC : gb_SC σ j s) (hb : b < 6) : f_X7_mixedIn [gR 10 j, gI (nZ b)] σ = some (some (gI (nZ (lX s (sB s b)))), σ) := by
  obtain ⟨⟨cW, cP, cN, cT, cL, cH, cY, cQ⟩, ⟨rK, rC, rO, rA⟩, iw, ik, io, ic, ip, il, id⟩ := id hC
  obtain ⟨y1, y2, q1, q2⟩ := id
  have inner : ∀ (g : Nat) (c : Int), g < 6 → j_X7_mixedIn_15 j (nZ b) (nZ c) (nZ g) (nZ (g + 1 : Nat)) σ = j_X7_mixedIn_4 j (nZ b) (nZ (c + sm 6 (fun h => if g < h then lM s (sB s b) g h else 0))) (nZ (g + 1 : Nat)) σ := by
    intro g c hg
    have st : ∀ i, i < 6 - (g + 1) → j_X7_mixedIn_15 j (nZ b) (nZ (c + sm (g + 1 + i) (fun h => if g < h then lM s (sB s b) g h else 0))) (nZ g) (nZ (g + 1 + i : Nat)) σ = j_X7_mixedIn_15 j (nZ b) (nZ (c + sm (g + 1 + (i + 1)) (fun h => if g < h then lM s (sB s b) g h else 0))) (nZ g) (nZ (g + 1 + (i + 1) : Nat)) σ := by
      intro i hi
      have hm := p_mixedOf hC hb hg (h := g + 1 + i) (by omega)
      rw [e_X7_mixedIn_15, show g + 1 + (i + 1) = (g + 1 + i) + 1 by omega, sm_s, if_pos (show g < g + 1 + i by omega)]
      have hk : g + 1 + i < 6 := by omega
      generalize g + 1 + i = k at hm hk ⊢
      simp (disch := omega) only [z0, z1, z2, z3, z4, z5, z6, z12, z18, z48, z54, z60, z66, z174, z175, z_neg, z_add, z_sub, z_mul, z_tn, g_in, g_b0, g_b1, Int.toNat_natCast, z_le, z_lt, z_eq, z_mx, z_mn, if_pos, if_neg, if_true, if_false, hm, Int.natCast_add, Int.natCast_one, Int.add_assoc]
    have z : sm (g + 1) (fun h => if g < h then lM s (sB s b) g h else 0) = 0 := by
      have : sm (g + 1) (fun h => if g < h then lM s (sB s b) g h else 0) = sm (g + 1) (fun _ => 0) := sm_c (fun i hi => if_neg (by omega))
      rw [this]
      clear this st
      induction g + 1 with
      | zero => rfl
      | succ n ih => rw [sm_s, ih]; rfl
    have h1 := lp (n := 6 - (g + 1)) (fun i => j_X7_mixedIn_15 j (nZ b) (nZ (c + sm (g + 1 + i) (fun h => if g < h then lM s (sB s b) g h else 0))) (nZ g) (nZ (g + 1 + i : Nat)) σ) st
    simp only [Nat.add_zero, z, Int.add_zero, show g + 1 + (6 - (g + 1)) = 6 by omega] at h1
    rw [h1, e_X7_mixedIn_15]
    simp (disch := omega) only [z0, z1, z2, z3, z4, z5, z6, z12, z18, z48, z54, z60, z66, z174, z175, z_neg, z_add, z_sub, z_mul, z_tn, g_in, g_b0, g_b1, Int.toNat_natCast, z_le, z_lt, z_eq, z_mx, z_mn, if_pos, if_neg, if_true, if_false, Int.natCast_add, Int.natCast_one, show ((6 : Nat) : Int) = 6 from rfl]
  have st : ∀ g, g < 6 → j_X7_mixedIn_4 j (nZ b) (nZ (sm g (fun g => sm 6 (fun h => if g < h then lM s (sB s b) g h else 0)))) (nZ g) σ = j_X7_mixedIn_4 j (nZ b) (nZ (sm (g + 1) (fun g => sm 6 (fun h => if g < h then lM s (sB s b) g h else 0)))) (nZ (g + 1 : Nat)) σ := by
    intro g hg
    rw [e_X7_mixedIn_4, sm_s, ← inner g _ hg]
    simp (disch := omega) only [z0, z1, z2, z3, z4, z5, z6, z12, z18, z48, z54, z60, z66, z174, z175, z_neg, z_add, z_sub, z_mul, z_tn, g_in, g_b0, g_b1, Int.toNat_natCast, z_le, z_lt, z_eq, z_mx, z_mn, if_pos, if_neg, if_true, if_false, Int.natCast_add, Int.natCast_one]
  rw [e_X7_mixedIn]
  refine (lp (n := 6) (fun g => j_X7_mixedIn_4 j (nZ b) (nZ (sm g (fun g => sm 6 (fun h => if g < h then lM s (sB s b) g h else 0)))) (nZ g) σ) st).trans ?_
  show j_X7_mixedIn_4 _ _ _ _ _ = _
  rw [e_X7_mixedIn_4]
  simp (disch := omega) only [z0, z1, z2, z3, z4, z5, z6, z12, z18, z48, z54, z60, z66, z174, z175, z_neg, z_add, z_sub, z_mul, z_tn, g_in, g_b0, g_b1, Int.toNat_natCast, z_le, z_lt, z_eq, z_mx, z_mn, if_pos, if_neg, if_true, if_false, show ((6 : Nat) : Int) = 6 from rfl]
  rfl
theorem lX_r {s : gb_St} {b : Nat} (hI : gb_IV s) (hb : b < 6) : 0 ≤ lX s (sB s b) ∧ lX s (sB s b) ≤ 352836 := by
  have h1 : ∀ g, g < 6 → 0 ≤ sm 6 (fun h => if g < h then lM s (sB s b) g h else 0) ∧ sm 6 (fun h => if g < h then lM s (sB s b) g h else 0) ≤ ((6 : Nat) : Int) * 9801 := by
    intro g hg
    refine ⟨sm_nn (fun h hh => ?_), sm_ub (fun h hh => ?_)⟩
    · have := lM_r hI hb hg hh
      split <;> omega
    · have := lM_r hI hb hg hh
      split <;> omega
  have h2 := sm_nn (n := 6) (fun g hg => (h1 g hg).1)
  have h3 := sm_ub (n := 6) (fun g hg => (h1 g hg).2)
  unfold lX
  omega
def lV (s : gb_St) (on : Int) (L : List gb_Ly) : Int := lR s on L - lX s L
theorem lV_r {s : gb_St} {b : Nat} {on : Int} (hI : gb_IV s) (hb : b < 6) : -352836 ≤ lV s on (sB s b) ∧ lV s on (sB s b) ≤ 98901 := by
  have h1 := lX_r hI hb
  have h2 := lR_r (on := on) (L := sB s b) hI.1 (hI.2.2.2.2.2.1 b hb).2.2 (hI.2.2.2.2.2.1 b hb).2.1
  unfold lV
  omega
theorem p_valueThen (hC : gb_SC σ j s) (hb : b < 6) {on : Int} (ho : 0 ≤ on ∧ on ≤ 11000) : f_X7_valueThen [gR 10 j, gI (nZ b), gI (nZ on)] σ = some (some (gI (nZ (lV s on (sB s b)))), σ) := by
  rw [e_X7_valueThen]
  simp (disch := omega) only [z0, z1, z2, z3, z4, z5, z6, z12, z18, z48, z54, z60, z66, z174, z175, z_neg, z_add, z_sub, z_mul, z_tn, g_in, g_b0, g_b1, Int.toNat_natCast, z_le, z_lt, z_eq, z_mx, z_mn, if_pos, if_neg, if_true, if_false, p_raw hC hb ho, p_mixedIn hC hb]
  rfl
theorem p_valueOf (hC : gb_SC σ j s) (hb : b < 6) : f_X7_valueOf [gR 10 j, gI (nZ b)] σ = some (some (gI (nZ (lV s (sY s) (sB s b)))), σ) := by
  obtain ⟨⟨cW, cP, cN, cT, cL, cH, cY, cQ⟩, ⟨rK, rC, rO, rA⟩, iw, ik, io, ic, ip, il, id⟩ := id hC
  obtain ⟨y1, y2, q1, q2⟩ := id
  rw [e_X7_valueOf]
  simp (disch := omega) only [z0, z1, z2, z3, z4, z5, z6, z12, z18, z48, z54, z60, z66, z174, z175, z_neg, z_add, z_sub, z_mul, z_tn, g_in, g_b0, g_b1, Int.toNat_natCast, z_le, z_lt, z_eq, z_mx, z_mn, if_pos, if_neg, if_true, if_false, cY, p_valueThen hC hb (on := sY s) (by omega)]
def lA (s : gb_St) (on : Int) : Int := sm 6 (fun b => lV s on (sB s b))
theorem lA_r {s : gb_St} {on : Int} (hI : gb_IV s) : -2117016 ≤ lA s on ∧ lA s on ≤ 593406 := by
  have h1 := sm_ub (n := 6) (f := fun b => lV s on (sB s b)) (fun b hb => (lV_r hI hb).2)
  have h2 := sm_ub (n := 6) (f := fun b => - lV s on (sB s b)) (c := 352836) (fun b hb => by have := (lV_r (on := on) hI hb).1; omega)
  have h3 : sm 6 (fun b => - lV s on (sB s b)) = - sm 6 (fun b => lV s on (sB s b)) := by
    simp only [sm]; omega
  unfold lA
  omega
theorem p_valueOfAll (hC : gb_SC σ j s) {on : Int} (ho : 0 ≤ on ∧ on ≤ 11000) : f_X7_valueOfAll [gR 10 j, gI (nZ on)] σ = some (some (gI (nZ (lA s on))), σ) := by
  rw [e_X7_valueOfAll]
  have st : ∀ i, i < 6 → j_X7_valueOfAll_4 j (nZ on) (nZ (sm i (fun b => lV s on (sB s b)))) (nZ i) σ = j_X7_valueOfAll_4 j (nZ on) (nZ (sm (i + 1) (fun b => lV s on (sB s b)))) (nZ (i + 1 : Nat)) σ := by
    intro i hi
    rw [e_X7_valueOfAll_4]
    simp (disch := omega) only [z0, z1, z2, z3, z4, z5, z6, z12, z18, z48, z54, z60, z66, z174, z175, z_neg, z_add, z_sub, z_mul, z_tn, g_in, g_b0, g_b1, Int.toNat_natCast, z_le, z_lt, z_eq, z_mx, z_mn, if_pos, if_neg, if_true, if_false, p_valueThen hC hi ho, sm_s, Int.natCast_add, Int.natCast_one]
  refine (lp (n := 6) (fun i => j_X7_valueOfAll_4 j (nZ on) (nZ (sm i (fun b => lV s on (sB s b)))) (nZ i) σ) st).trans ?_
  try dsimp only
  rw [e_X7_valueOfAll_4]
  simp (disch := omega) only [z0, z1, z2, z3, z4, z5, z6, z12, z18, z48, z54, z60, z66, z174, z175, z_neg, z_add, z_sub, z_mul, z_tn, g_in, g_b0, g_b1, Int.toNat_natCast, z_le, z_lt, z_eq, z_mx, z_mn, if_pos, if_neg, if_true, if_false, show ((6 : Nat) : Int) = 6 from rfl]
  rfl
def lF (s : gb_St) (L : List gb_Ly) : Int := sL (fun l => l.2.1 * sW s l.1) L
theorem p_rawUnspoilt0 (hC : gb_SC σ j s) (hb : b < 6) : f_X7_rawUnspoilt [gR 10 j, gI (nZ b)] σ = some (some (gI (nZ (sm 6 (fun g => lG (sB s b) g * sW s g)))), σ) := by
  obtain ⟨⟨cW, cP, cN, cT, cL, cH, cY, cQ⟩, ⟨rK, rC, rO, rA⟩, iw, ik, io, ic, ip, il, id⟩ := id hC
  obtain ⟨y1, y2, q1, q2⟩ := id
  rw [e_X7_rawUnspoilt]
  have st : ∀ i, i < 6 → j_X7_rawUnspoilt_4 j (nZ b) (nZ (sm i (fun g => lG (sB s b) g * sW s g))) (nZ i) σ = j_X7_rawUnspoilt_4 j (nZ b) (nZ (sm (i + 1) (fun g => lG (sB s b) g * sW s g))) (nZ (i + 1 : Nat)) σ := by
    intro i hi
    rw [e_X7_rawUnspoilt_4]
    simp (disch := omega) only [z0, z1, z2, z3, z4, z5, z6, z12, z18, z48, z54, z60, z66, z174, z175, z_neg, z_add, z_sub, z_mul, z_tn, g_in, g_b0, g_b1, Int.toNat_natCast, z_le, z_lt, z_eq, z_mx, z_mn, if_pos, if_neg, if_true, if_false, cH b i hb hi, cW i hi, sm_s, Int.natCast_add, Int.natCast_one]
  refine (lp (n := 6) (fun i => j_X7_rawUnspoilt_4 j (nZ b) (nZ (sm i (fun g => lG (sB s b) g * sW s g))) (nZ i) σ) st).trans ?_
  try dsimp only
  rw [e_X7_rawUnspoilt_4]
  simp (disch := omega) only [z0, z1, z2, z3, z4, z5, z6, z12, z18, z48, z54, z60, z66, z174, z175, z_neg, z_add, z_sub, z_mul, z_tn, g_in, g_b0, g_b1, Int.toNat_natCast, z_le, z_lt, z_eq, z_mx, z_mn, if_pos, if_neg, if_true, if_false, show ((6 : Nat) : Int) = 6 from rfl]
theorem sm_one {n k : Nat} (c : Int) (hk : k < n) : sm n (fun g => if k = g then c else 0) = c := by
  have h0 : ∀ n, n ≤ k → sm n (fun g => if k = g then c else 0) = 0 := by
    intro n
    induction n with
    | zero => intro _; rfl
    | succ n ih => intro hn; rw [sm_s, ih (by omega), if_neg (by omega)]; rfl
  induction n with
  | zero => omega
  | succ n ih =>
    rw [sm_s]
    by_cases h : k = n
    · subst h
      rw [h0 k (Nat.le_refl k), if_pos rfl]; omega
    · rw [ih (by omega), if_neg h]; omega
theorem lF_sm {s : gb_St} : ∀ {L : List gb_Ly}, (∀ l ∈ L, okL l) → sm 6 (fun g => lG L g * sW s g) = lF s L
  | [], _ => by
    have : sm 6 (fun g => lG [] g * sW s g) = sm 6 (fun _ => 0) := sm_c (fun g hg => by show (0 : Int) * _ = 0; omega)
    rw [this]
    rfl
  | l :: t, h => by
    have h1 := lF_sm (s := s) (L := t) (fun x hx => h x (List.mem_cons_of_mem _ hx))
    have h2 := (h l List.mem_cons_self).1
    have h3 : sm 6 (fun g => lG (l :: t) g * sW s g) = sm 6 (fun g => (if l.1 = g then l.2.1 * sW s l.1 else 0) + lG t g * sW s g) := sm_c (fun g hg => by
      show ((if l.1 = g then l.2.1 else 0) + lG t g) * sW s g = _
      rw [Int.add_mul]
      by_cases e : l.1 = g
      · subst e; rw [if_pos rfl, if_pos rfl]
      · rw [if_neg e, if_neg e]; omega)
    rw [h3, sm_add, sm_one _ h2, h1]
    rfl
theorem p_rawUnspoilt (hC : gb_SC σ j s) (hb : b < 6) : f_X7_rawUnspoilt [gR 10 j, gI (nZ b)] σ = some (some (gI (nZ (lF s (sB s b)))), σ) := by
  rw [p_rawUnspoilt0 hC hb, lF_sm (hC.2.2.2.2.2.2.2.1 b hb).2.2]
theorem p_tonsOf (hC : gb_SC σ j s) {g : Nat} (hg : g < 6) : f_X7_tonsOf [gR 10 j, gI (nZ g)] σ = some (some (gI (nZ (sm 6 (fun b => lG (sB s b) g)))), σ) := by
  obtain ⟨⟨cW, cP, cN, cT, cL, cH, cY, cQ⟩, ⟨rK, rC, rO, rA⟩, iw, ik, io, ic, ip, il, id⟩ := id hC
  obtain ⟨y1, y2, q1, q2⟩ := id
  rw [e_X7_tonsOf]
  have st : ∀ i, i < 6 → j_X7_tonsOf_4 j (nZ g) (nZ (sm i (fun b => lG (sB s b) g))) (nZ i) σ = j_X7_tonsOf_4 j (nZ g) (nZ (sm (i + 1) (fun b => lG (sB s b) g))) (nZ (i + 1 : Nat)) σ := by
    intro i hi
    rw [e_X7_tonsOf_4]
    simp (disch := omega) only [z0, z1, z2, z3, z4, z5, z6, z12, z18, z48, z54, z60, z66, z174, z175, z_neg, z_add, z_sub, z_mul, z_tn, g_in, g_b0, g_b1, Int.toNat_natCast, z_le, z_lt, z_eq, z_mx, z_mn, if_pos, if_neg, if_true, if_false, cH i g hi hg, sm_s, Int.natCast_add, Int.natCast_one]
  refine (lp (n := 6) (fun i => j_X7_tonsOf_4 j (nZ g) (nZ (sm i (fun b => lG (sB s b) g))) (nZ i) σ) st).trans ?_
  try dsimp only
  rw [e_X7_tonsOf_4]
  simp (disch := omega) only [z0, z1, z2, z3, z4, z5, z6, z12, z18, z48, z54, z60, z66, z174, z175, z_neg, z_add, z_sub, z_mul, z_tn, g_in, g_b0, g_b1, Int.toNat_natCast, z_le, z_lt, z_eq, z_mx, z_mn, if_pos, if_neg, if_true, if_false, show ((6 : Nat) : Int) = 6 from rfl]
theorem p_tonsInAll (hC : gb_SC σ j s) : f_X7_tonsInAll [gR 10 j] σ = some (some (gI (nZ (sm 6 (fun b => lT (sB s b))))), σ) := by
  obtain ⟨⟨cW, cP, cN, cT, cL, cH, cY, cQ⟩, ⟨rK, rC, rO, rA⟩, iw, ik, io, ic, ip, il, id⟩ := id hC
  obtain ⟨y1, y2, q1, q2⟩ := id
  rw [e_X7_tonsInAll]
  have st : ∀ i, i < 6 → j_X7_tonsInAll_4 j (nZ (sm i (fun b => lT (sB s b)))) (nZ i) σ = j_X7_tonsInAll_4 j (nZ (sm (i + 1) (fun b => lT (sB s b)))) (nZ (i + 1 : Nat)) σ := by
    intro i hi
    rw [e_X7_tonsInAll_4]
    simp (disch := omega) only [z0, z1, z2, z3, z4, z5, z6, z12, z18, z48, z54, z60, z66, z174, z175, z_neg, z_add, z_sub, z_mul, z_tn, g_in, g_b0, g_b1, Int.toNat_natCast, z_le, z_lt, z_eq, z_mx, z_mn, if_pos, if_neg, if_true, if_false, cT i hi, sm_s, Int.natCast_add, Int.natCast_one]
  refine (lp (n := 6) (fun i => j_X7_tonsInAll_4 j (nZ (sm i (fun b => lT (sB s b)))) (nZ i) σ) st).trans ?_
  try dsimp only
  rw [e_X7_tonsInAll_4]
  simp (disch := omega) only [z0, z1, z2, z3, z4, z5, z6, z12, z18, z48, z54, z60, z66, z174, z175, z_neg, z_add, z_sub, z_mul, z_tn, g_in, g_b0, g_b1, Int.toNat_natCast, z_le, z_lt, z_eq, z_mx, z_mn, if_pos, if_neg, if_true, if_false, show ((6 : Nat) : Int) = 6 from rfl]
theorem p_layersInAll (hC : gb_SC σ j s) : f_X7_layersInAll [gR 10 j] σ = some (some (gI (nZ (sm 6 (fun b => ((sB s b).length : Int))))), σ) := by
  obtain ⟨⟨cW, cP, cN, cT, cL, cH, cY, cQ⟩, ⟨rK, rC, rO, rA⟩, iw, ik, io, ic, ip, il, id⟩ := id hC
  obtain ⟨y1, y2, q1, q2⟩ := id
  rw [e_X7_layersInAll]
  have st : ∀ i, i < 6 → j_X7_layersInAll_4 j (nZ (sm i (fun b => ((sB s b).length : Int)))) (nZ i) σ = j_X7_layersInAll_4 j (nZ (sm (i + 1) (fun b => ((sB s b).length : Int)))) (nZ (i + 1 : Nat)) σ := by
    intro i hi
    rw [e_X7_layersInAll_4]
    simp (disch := omega) only [z0, z1, z2, z3, z4, z5, z6, z12, z18, z48, z54, z60, z66, z174, z175, z_neg, z_add, z_sub, z_mul, z_tn, g_in, g_b0, g_b1, Int.toNat_natCast, z_le, z_lt, z_eq, z_mx, z_mn, if_pos, if_neg, if_true, if_false, cN i hi, sm_s, Int.natCast_add, Int.natCast_one]
  refine (lp (n := 6) (fun i => j_X7_layersInAll_4 j (nZ (sm i (fun b => ((sB s b).length : Int)))) (nZ i) σ) st).trans ?_
  try dsimp only
  rw [e_X7_layersInAll_4]
  simp (disch := omega) only [z0, z1, z2, z3, z4, z5, z6, z12, z18, z48, z54, z60, z66, z174, z175, z_neg, z_add, z_sub, z_mul, z_tn, g_in, g_b0, g_b1, Int.toNat_natCast, z_le, z_lt, z_eq, z_mx, z_mn, if_pos, if_neg, if_true, if_false, show ((6 : Nat) : Int) = 6 from rfl]
theorem bm_t {n : Nat} {P : Nat → Bool} (h : P n = true) : bm (n + 1) P = bm n P ||| ((1 : Int32) <<< (nZ n &&& 31)) := by
  show (match P n with | true => _ | false => _) = _
  rw [h]
theorem bm_f {n : Nat} {P : Nat → Bool} (h : P n = false) : bm (n + 1) P = bm n P := by
  show (match P n with | true => _ | false => _) = _
  rw [h]
theorem bm_0 (P : Nat → Bool) : bm 0 P = 0 := rfl
theorem p_closedBins (hC : gb_SC σ j s) : f_X7_closedBins [gR 10 j] σ = some (some (gI (bm 6 (fun b => decide (sY s < sP s b)))), σ) := by
  rw [e_X7_closedBins]
  have st : ∀ i, i < 6 → j_X7_closedBins_4 j (bm i (fun b => decide (sY s < sP s b))) (nZ i) σ = j_X7_closedBins_4 j (bm (i + 1) (fun b => decide (sY s < sP s b))) (nZ (i + 1 : Nat)) σ := by
    intro i hi
    rw [e_X7_closedBins_4]
    by_cases h : sY s < sP s i
    · rw [bm_t (decide_eq_true h)]
      have h10 : ¬ ((1 : Int32) = 0) := by decide
      simp (disch := omega) only [z6, z_le, if_neg, p_closed_t hC hi h, g_b1, h10, if_false]
      simp only [z1, z_add, Int.natCast_add, Int.natCast_one]
    · rw [bm_f (decide_eq_false h)]
      simp (disch := omega) only [z6, z_le, if_neg, p_closed_f hC hi h, g_b1, if_true]
      simp only [z1, z_add, Int.natCast_add, Int.natCast_one]
  refine (lp (n := 6) (fun i => j_X7_closedBins_4 j (bm i (fun b => decide (sY s < sP s b))) (nZ i) σ) st).trans ?_
  try dsimp only
  rw [e_X7_closedBins_4]
  simp (disch := omega) only [z0, z1, z2, z3, z4, z5, z6, z12, z18, z48, z54, z60, z66, z174, z175, z_neg, z_add, z_sub, z_mul, z_tn, g_in, g_b0, g_b1, Int.toNat_natCast, z_le, z_lt, z_eq, z_mx, z_mn, if_pos, if_neg, if_true, if_false, show ((6 : Nat) : Int) = 6 from rfl]
end C1
