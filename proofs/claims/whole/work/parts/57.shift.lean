/-! SHIFT: the class; COMES, TURN, FUMES: the reference -/
theorem lays_app {A P Q : List gb_Ly} : lays A (P ++ Q) = lays (lays A P) Q := by
  unfold lays
  rw [List.foldl_append]
theorem lays_le {A P : List gb_Ly} {k : Nat} : (lays A (P.take k)).length ≤ (lays A P).length := by
  have h := lays_app (A := A) (P := P.take k) (Q := P.drop k)
  rw [List.take_append_drop] at h
  rw [h]
  exact lays_mono
theorem lays_room {A P : List gb_Ly} {k : Nat} (hk : k < P.length) (h6 : (lays A P).length ≤ 6) : onB (lays A (P.take k)) (lz P k).1 (lz P k).2.2 = true ∨ (lays A (P.take k)).length < 6 := by
  have h := lays_le (A := A) (P := P) (k := k + 1)
  rw [lays_take hk, lay1_len] at h
  by_cases ho : onB (lays A (P.take k)) (lz P k).1 (lz P k).2.2 = true
  · exact Or.inl ho
  · rw [if_neg ho] at h; exact Or.inr (by omega)
theorem lT_tk_le {P : List gb_Ly} {k : Nat} (h : ∀ l ∈ P, okL l) : lT (P.take k) ≤ lT P := by
  have e : lT P = lT (P.take k) + lT (P.drop k) := by unfold lT; rw [← sL_app, List.take_append_drop]
  have := lT_nn (fun x hx => h x (List.mem_of_mem_drop (i := k) hx))
  omega
theorem IV_lays {s : gb_St} {t : Nat} {P : List gb_Ly} (hI : gb_IV s) (ht : t < 6) (hP : ∀ l ∈ P, okL l) (hT : lT (sB s t) + lT P ≤ 99) (h6 : (lays (sB s t) P).length ≤ 6) : gb_IV (setB s t (lays (sB s t) P)) :=
  IV_set hI h6 (by rw [lays_T]; exact hT) (lays_ok (hI.2.2.2.2.2.1 t ht).2.2 hP hT)
section SHIFT
variable {σ : gb_M} {j : Nat} {s : gb_St} {f t : Nat}
theorem p_shift (hC : gb_SC σ j s) (hf : f < 6) (ht : t < 6) (hft : f ≠ t) {n : Int} (hn : 1 ≤ n ∧ n ≤ 99) (hT : lT (sB s t) + n ≤ 99) (h6 : (lays (sB s t) (pk (sB s f) n)).length ≤ 6) : ∃ σ', f_X7_shift [gR 10 j, gI (nZ f), gI (nZ t), gI (nZ n)] σ = some (none, σ') ∧ gb_SC σ' j (setB (setB s t (lays (sB s t) (pk (sB s f) n))) f (tk (sB s f) n)) ∧ gb_fS j σ σ' := by
  obtain ⟨⟨cW, cP, cN, cT, cL, cH, cY, cQ⟩, ⟨rK, rC, rO, rA⟩, iw, ik, io, ic, ip, il, id⟩ := id hC
  obtain ⟨y1, y2, q1, q2⟩ := id
  have hlf := (il f hf).1
  have hokf := (il f hf).2.2
  have hpok := pk_ok (t := n) hokf
  have hpl := pk_len (L := sB s f) (t := n)
  have hpT := pk_T hokf (t := n) (by omega)
  rw [e_X7_shift]
  obtain ⟨τ, hJ, hSC, ff⟩ := lph (n := (sB s f).length) (σ := σ) (fun i τ => j_X7_shift_3 j (nZ f) (nZ t) (nZ n) (nZ i) τ)
    (fun i τ => gb_SC τ j (setB s t (lays (sB s t) ((pk (sB s f) n).take i))) ∧ gb_fS j σ τ)
    ⟨by show gb_SC σ j (setB s t (sB s t)); rw [setB_id]; exact hC, fS_rf⟩ (by
    intro i hi τ ⟨hS, ff⟩
    obtain ⟨pa, pb⟩ := pk_at (t := n) hokf hi
    have hi' : i < (sB (setB s t (lays (sB s t) ((pk (sB s f) n).take i))) f).length := by rw [sB_n hft]; exact hi
    have hpB := p_partBelow hS hf hi' (t := n) (by omega)
    rw [sB_n hft] at hpB
    have c13 := hS.1.2.2.1 f hf
    rw [sB_n hft] at c13
    obtain ⟨g1, g2, g3⟩ := hS.1.2.2.2.2.1 f i hf hi'
    rw [sB_n hft] at g1 g2 g3
    obtain ⟨l1, l2, l3, l4, l5⟩ := lz_ok il hf hi
    have hpr := pB_r (t := n) il hf hi
    by_cases hp : 0 < pB (sB s f) i n
    · have hlt := pa.mp hp
      have hz := pb hlt
      have hroom := lays_room (A := sB s t) hlt h6
      rw [hz] at hroom
      have hTk := lT_tk_le (k := i + 1) hpok
      have hTs : lT ((pk (sB s f) n).take (i + 1)) = lT ((pk (sB s f) n).take i) + (lz (pk (sB s f) n) i).2.1 := sL_take hlt
      rw [hz] at hTs
      simp only [] at hTs hroom
      obtain ⟨τ', a1, a2, a3, a4⟩ := p_lay hS ht (g := (lz (sB s f) i).1) (t := pB (sB s f) i n) (d := (lz (sB s f) i).2.2) l1 (by omega) (by rw [sB_s, lays_T]; omega) ⟨l4, l5⟩ (by rw [sB_s]; exact hroom)
      rw [sB_s, setB2] at a2
      have hlt' := lays_take (A := sB s t) hlt
      rw [hz] at hlt'
      refine ⟨τ', ?_, by rw [hlt']; exact a2, fS_tr ff a3⟩
      show j_X7_shift_3 _ _ _ _ _ _ = _
      rw [e_X7_shift_3]
      simp (disch := omega) only [z0, z1, z2, z3, z4, z5, z6, z12, z18, z48, z54, z60, z66, z174, z175, z_neg, z_add, z_sub, z_mul, z_tn, g_in, g_b0, g_b1, Int.toNat_natCast, z_le, z_lt, z_eq, z_mx, z_mn, if_pos, if_neg, if_true, if_false, c13, hpB, p_place, g1, g3, a1, Int.natCast_add, Int.natCast_one]
    · have hge : (pk (sB s f) n).length ≤ i := Nat.not_lt.mp (fun z => hp (pa.mpr z))
      refine ⟨τ, ?_, by rw [List.take_of_length_le (show (pk (sB s f) n).length ≤ i + 1 by omega)]; rw [List.take_of_length_le hge] at hS; exact hS, ff⟩
      show j_X7_shift_3 _ _ _ _ _ _ = _
      rw [e_X7_shift_3]
      simp (disch := omega) only [z0, z1, z2, z3, z4, z5, z6, z12, z18, z48, z54, z60, z66, z174, z175, z_neg, z_add, z_sub, z_mul, z_tn, g_in, g_b0, g_b1, Int.toNat_natCast, z_le, z_lt, z_eq, z_mx, z_mn, if_pos, if_neg, if_true, if_false, c13, hpB, Int.natCast_add, Int.natCast_one])
  rw [List.take_of_length_le hpl] at hSC
  obtain ⟨σ', a1, a2, a3⟩ := p_take hSC hf (t := n) (by omega)
  rw [sB_n hft] at a2
  have c13 := hSC.1.2.2.1 f hf
  rw [sB_n hft] at c13
  refine ⟨σ', ?_, a2, fS_tr ff a3⟩
  rw [show (0 : Int32) = nZ ((0 : Nat) : Int) from rfl, hJ, e_X7_shift_3]
  simp (disch := omega) only [z0, z1, z2, z3, z4, z5, z6, z12, z18, z48, z54, z60, z66, z174, z175, z_neg, z_add, z_sub, z_mul, z_tn, g_in, g_b0, g_b1, Int.toNat_natCast, z_le, z_lt, z_eq, z_mx, z_mn, if_pos, if_neg, if_true, if_false, c13, a1]
def gGone (σ : gb_M) (P : List gb_Ly) : Prop := σ.1 36 0 14 = nZ P.length ∧ P.length ≤ 6 ∧ ∀ i, i < P.length → σ.1 43 0 i = nZ (lz P i).1 ∧ σ.1 44 0 i = nZ (lz P i).2.1 ∧ σ.1 45 0 i = nZ (lz P i).2.2
theorem gGone_f {P : Nat → Prop} {σ σ' : gb_M} {L : List gb_Ly} (h : gb_fP P σ σ') (h36 : ¬ P 36) (h43 : ¬ P 43) (h44 : ¬ P 44) (h45 : ¬ P 45) (hG : gGone σ L) : gGone σ' L := by
  obtain ⟨a, b, c⟩ := hG
  refine ⟨by rw [h.1 36 0 _ h36]; exact a, b, fun i hi => ?_⟩
  rw [h.1 43 0 _ h43, h.1 44 0 _ h44, h.1 45 0 _ h45]
  exact c i hi
theorem m_comes (hM : gb_MM σ s) (ht : t < 6) {P : List gb_Ly} (hG : gGone σ P) (hP : ∀ l ∈ P, okL l) (hT : lT (sB s t) + lT P ≤ 99) : ∃ σ', f_X10_comes [gR 36 0, gI (nZ t)] σ = some (some (gI (nZ (if apP s (sB s t) P = true then -5 else if 6 < (lays (sB s t) P).length then -6 else 0))), σ') ∧ gb_fP (fun k => k = 37) σ σ' ∧ (apP s (sB s t) P = false → (lays (sB s t) P).length ≤ 6 → gb_MM σ' (setB s t (lays (sB s t) P))) := by
  obtain ⟨⟨mW, mK, mO, mC, mP, mN, mL, mY, mQ⟩, iw, ik, io, ic, ip, il, id⟩ := id hM
  obtain ⟨y1, y2, q1, q2⟩ := id
  simp only [Nat.zero_add] at mW mK mO mC mP mN mL mY mQ
  have hlt := (il t ht).1
  obtain ⟨h14, h6, hg⟩ := id hG
  rw [e_X10_comes]
  obtain ⟨k, hk, hno, hJ, he⟩ := lp_ex (n := P.length) (fun i => j_X10_comes_4 (nZ t) (nZ 0) (nZ i) σ) (fun i => ap s (sB s t) (lz P i).1 = true) (by
    intro i hi hp
    have hl := hP _ (lz_mem hi)
    obtain ⟨g1, g2, g3⟩ := hg i hi
    have hz : ap s (sB s t) (lz P i).1 = false := by
      cases h : ap s (sB s t) (lz P i).1 with
      | false => rfl
      | true => exact absurd h hp
    show j_X10_comes_4 _ _ _ _ = j_X10_comes_4 _ _ _ _
    rw [e_X10_comes_4]
    simp (disch := omega) only [z0, z1, z2, z3, z4, z5, z6, z12, z18, z48, z54, z60, z66, z174, z175, z_neg, z_add, z_sub, z_mul, z_tn, g_in, g_b0, g_b1, Int.toNat_natCast, z_le, z_lt, z_eq, z_mx, z_mn, if_pos, if_neg, if_true, if_false, h14, g1, m_mayMix_f hM ht hl.1 hz, Int.natCast_add, Int.natCast_one])
  have hJ0 : j_X10_comes_4 (nZ t) 0 0 σ = j_X10_comes_4 (nZ t) (nZ 0) (nZ k) σ := hJ
  rw [hJ0]
  by_cases hkP : k < P.length ∧ ap s (sB s t) (lz P k).1 = true
  · have hl := hP _ (lz_mem hkP.1)
    obtain ⟨g1, g2, g3⟩ := hg k hkP.1
    have hap : apP s (sB s t) P = true := apP_i.mpr ⟨k, hkP.1, hkP.2⟩
    have e45 : ∀ i : Nat, j_X10_comes_45 (nZ t) (nZ (-5)) (nZ i) σ = some (some (gI (nZ (-5))), σ) := by
      intro i
      rw [e_X10_comes_45]
      have hx : ¬ (nZ (-5) = 0) := by decide
      rw [if_neg hx]
      split <;> rfl
    refine ⟨σ, ?_, fP_rf, fun h => by rw [hap] at h; cases h⟩
    rw [if_pos hap, e_X10_comes_4]
    simp (disch := omega) only [h14, z_le, if_neg, show (nZ 0 = (0 : Int32)) = True from eq_true rfl, if_true, g_in, z_tn, Int.toNat_natCast, g1, m_mayMix_t hM ht hl.1 hkP.2, g_b1, z1, z_add]
    rw [show (-5 : Int32) = nZ (-5) from rfl, show ((k : Int) + 1) = ((k + 1 : Nat) : Int) from rfl, e_X10_comes_4]
    have hx : ¬ (nZ (-5) = 0) := by decide
    rw [if_neg hx, show (0 : Int32) = nZ ((0 : Nat) : Int) from rfl, e45]
    split <;> rfl
  · have hkl : k = P.length := by
      rcases he with e | e
      · exact e
      · exact absurd e hkP
    subst hkl
    have hap : apP s (sB s t) P = false := by
      cases h : apP s (sB s t) P with
      | false => rfl
      | true =>
        obtain ⟨i, hi, hz⟩ := apP_i.mp h
        exact absurd hz (hno i hi)
    rw [if_neg (by rw [hap]; simp)]
    have e4 : j_X10_comes_4 (nZ t) (nZ 0) (nZ P.length) σ = j_X10_comes_45 (nZ t) (nZ 0) (nZ (0 : Nat)) σ := by
      rw [e_X10_comes_4]
      simp (disch := omega) only [z0, z1, z2, z3, z4, z5, z6, z12, z18, z48, z54, z60, z66, z174, z175, z_neg, z_add, z_sub, z_mul, z_tn, g_in, g_b0, g_b1, Int.toNat_natCast, z_le, z_lt, z_eq, z_mx, z_mn, if_pos, if_neg, if_true, if_false, h14]
      rfl
    rw [e4]
    -- as long as it fits
    have step : ∀ i, i < P.length → (lays (sB s t) (P.take i)).length ≤ 6 → ∀ τ, gb_MM τ (setB s t (lays (sB s t) (P.take i))) → gb_fP (fun k => k = 37) σ τ →
        (6 < (lays (sB s t) (P.take (i + 1))).length → j_X10_comes_45 (nZ t) (nZ 0) (nZ i) τ = some (some (gI (nZ (-6))), τ)) ∧ ((lays (sB s t) (P.take (i + 1))).length ≤ 6 → ∃ τ', j_X10_comes_45 (nZ t) (nZ 0) (nZ i) τ = j_X10_comes_45 (nZ t) (nZ 0) (nZ (i + 1 : Nat)) τ' ∧ gb_MM τ' (setB s t (lays (sB s t) (P.take (i + 1)))) ∧ gb_fP (fun k => k = 37) σ τ') := by
      intro i hi hle τ hMt hft
      obtain ⟨t14, -, tg⟩ := gGone_f hft (by omega) (by omega) (by omega) (by omega) hG
      have hl := hP _ (lz_mem hi)
      obtain ⟨g1, g2, g3⟩ := tg i hi
      have hm := m_many hMt ht
      rw [sB_s] at hm
      obtain ⟨l1, l2, l3, l4, l5⟩ := hl
      have hTk := lT_tk_le (k := i + 1) hP
      have hTs : lT (P.take (i + 1)) = lT (P.take i) + (lz P i).2.1 := sL_take hi
      have hlen := lay1_len (L := lays (sB s t) (P.take i)) (g := (lz P i).1) (t := (lz P i).2.1) (d := (lz P i).2.2)
      rw [← lays_take hi] at hlen
      refine ⟨fun hgt => ?_, fun hfit => ?_⟩
      · have ho : onB (lays (sB s t) (P.take i)) (lz P i).1 (lz P i).2.2 = false := by
          cases h : onB (lays (sB s t) (P.take i)) (lz P i).1 (lz P i).2.2 with
          | false => rfl
          | true => rw [if_pos h] at hlen; omega
        rw [ho, if_neg (by simp)] at hlen
        have hf := m_onTop_f hMt ht (g := (lz P i).1) (d := (lz P i).2.2) l1 ⟨by omega, by omega⟩ (by rw [sB_s]; exact ho)
        have e45 : ∀ i : Nat, j_X10_comes_45 (nZ t) (nZ (-6)) (nZ i) τ = some (some (gI (nZ (-6))), τ) := by
          intro i
          rw [e_X10_comes_45]
          have hx : ¬ (nZ (-6) = 0) := by decide
          rw [if_neg hx]
          split <;> rfl
        rw [e_X10_comes_45]
        simp (disch := omega) only [t14, z_le, if_neg, show (nZ 0 = (0 : Int32)) = True from eq_true rfl, if_true, hm, g_b1, z6, z_eq, if_pos, g_in, z_tn, Int.toNat_natCast, g1, g3, hf, z1, z_add]
        rw [show (-nZ 6) = nZ (-6) from rfl, show ((i : Int) + 1) = ((i + 1 : Nat) : Int) from rfl]
        exact e45 (i + 1)
      · obtain ⟨τ', a1, a2, a3, a4⟩ := m_lies hMt ht (g := (lz P i).1) (t := (lz P i).2.1) (d := (lz P i).2.2) l1 l2 (by rw [sB_s, lays_T]; omega) ⟨l4, l5⟩ (by
          rw [sB_s]
          by_cases ho : onB (lays (sB s t) (P.take i)) (lz P i).1 (lz P i).2.2 = true
          · exact Or.inl ho
          · rw [if_neg ho] at hlen; exact Or.inr (by omega))
        rw [sB_s, setB2, ← lays_take hi] at a2
        refine ⟨τ', ?_, a2, fP_tr hft a3⟩
        rw [e_X10_comes_45]
        by_cases hlen6 : (lays (sB s t) (P.take i)).length = 6
        · have ho : onB (lays (sB s t) (P.take i)) (lz P i).1 (lz P i).2.2 = true := by
            cases h : onB (lays (sB s t) (P.take i)) (lz P i).1 (lz P i).2.2 with
            | true => rfl
            | false => rw [h, if_neg (by simp)] at hlen; omega
          have hf := m_onTop_t hMt ht (g := (lz P i).1) (d := (lz P i).2.2) (by rw [sB_s]; exact ho)
          simp (disch := omega) only [z0, z1, z2, z3, z4, z5, z6, z12, z18, z48, z54, z60, z66, z174, z175, z_neg, z_add, z_sub, z_mul, z_tn, g_in, g_b0, g_b1, Int.toNat_natCast, z_le, z_lt, z_eq, z_mx, z_mn, if_pos, if_neg, if_true, if_false, t14, hm, g1, g2, g3, hf, a1, Int.natCast_add, Int.natCast_one]
        · simp (disch := omega) only [z0, z1, z2, z3, z4, z5, z6, z12, z18, z48, z54, z60, z66, z174, z175, z_neg, z_add, z_sub, z_mul, z_tn, g_in, g_b0, g_b1, Int.toNat_natCast, z_le, z_lt, z_eq, z_mx, z_mn, if_pos, if_neg, if_true, if_false, t14, hm, g1, g2, g3, a1, Int.natCast_add, Int.natCast_one]
    have hM0 : gb_MM σ (setB s t (lays (sB s t) (P.take 0))) := by show gb_MM σ (setB s t (sB s t)); rw [setB_id]; exact hM
    have run : ∀ n, n ≤ P.length → (∃ τ, j_X10_comes_45 (nZ t) (nZ 0) (nZ (0 : Nat)) σ = j_X10_comes_45 (nZ t) (nZ 0) (nZ n) τ ∧ gb_MM τ (setB s t (lays (sB s t) (P.take n))) ∧ gb_fP (fun k => k = 37) σ τ ∧ (lays (sB s t) (P.take n)).length ≤ 6) ∨ (6 < (lays (sB s t) (P.take n)).length ∧ ∃ τ, j_X10_comes_45 (nZ t) (nZ 0) (nZ (0 : Nat)) σ = some (some (gI (nZ (-6))), τ) ∧ gb_fP (fun k => k = 37) σ τ) := by
      intro n
      induction n with
      | zero => intro _; exact Or.inl ⟨σ, rfl, hM0, fP_rf, hlt⟩
      | succ n ih =>
        intro hn
        rcases ih (by omega) with ⟨τ, b1, b2, b3, b4⟩ | ⟨b1, τ, b2, b3⟩
        · obtain ⟨c1, c2⟩ := step n (by omega) b4 τ b2 b3
          by_cases hfit : (lays (sB s t) (P.take (n + 1))).length ≤ 6
          · obtain ⟨τ', d1, d2, d3⟩ := c2 hfit
            exact Or.inl ⟨τ', b1.trans d1, d2, d3, hfit⟩
          · exact Or.inr ⟨by omega, τ, b1.trans (c1 (by omega)), b3⟩
        · refine Or.inr ⟨?_, τ, b2, b3⟩
          have : (lays (sB s t) (P.take n)).length ≤ (lays (sB s t) (P.take (n + 1))).length := by
            rw [lays_take (by omega), lay1_len]
            split <;> omega
          omega
    rcases run P.length (Nat.le_refl _) with ⟨τ, b1, b2, b3, b4⟩ | ⟨b1, τ, b2, b3⟩
    · rw [List.take_length] at b2 b4
      rw [if_neg (by omega)]
      refine ⟨τ, ?_, b3, fun _ _ => b2⟩
      obtain ⟨t14, -, -⟩ := gGone_f b3 (by omega) (by omega) (by omega) (by omega) hG
      rw [b1, e_X10_comes_45]
      simp (disch := omega) only [z0, z1, z2, z3, z4, z5, z6, z12, z18, z48, z54, z60, z66, z174, z175, z_neg, z_add, z_sub, z_mul, z_tn, g_in, g_b0, g_b1, Int.toNat_natCast, z_le, z_lt, z_eq, z_mx, z_mn, if_pos, if_neg, if_true, if_false, t14]
    · rw [List.take_length] at b1
      rw [if_pos b1]
      exact ⟨τ, b2, b3, fun _ h => by omega⟩
end SHIFT
