/-! SHIFT: the class; COMES, TURN, FUMES: the reference -/
theorem lays_app {A P Q : List gb_Ly} : lays A (P ++ Q) = lays (lays A P) Q := by
  unfold lays
  rw [List.foldl_append]
theorem lays_le {A P : List gb_Ly} {k : Nat} : (lays A (P.take k)).length ≤ (lays A P).length := by
  have h := lays_app (A := A) (P := P.take k) (Q := P.drop k)
  rw [List.take_append_drop] at h
  rw [h]
  exact lays_mono
theorem lays_room {A P : List gb_Ly} {k : Nat} (hk : k < P.length) (h6 : (lays A P).length ≤ 6) : onB (lays A (P.take k)) (lz P k).1 (lz P k).2.2 = true ∨ (lays A (P.take k)).length < 6 := by
  have h := lays_le (A := A) (P := P) (k := k + 1)
  rw [lays_take hk, lay1_len] at h
  by_cases ho : onB (lays A (P.take k)) (lz P k).1 (lz P k).2.2 = true
  · exact Or.inl ho
  · rw [if_neg ho] at h; exact Or.inr (by omega)
theorem lT_tk_le {P : List gb_Ly} {k : Nat} (h : ∀ l ∈ P, okL l) : lT (P.take k) ≤ lT P := by
  have e : lT P = lT (P.take k) + lT (P.drop k) := by unfold lT; rw [← sL_app, List.take_append_drop]
  have := lT_nn (fun x hx => h x (List.mem_of_mem_drop (i := k) hx))
  omega
theorem IV_lays {s : gb_St} {t : Nat} {P : List gb_Ly} (hI : gb_IV s) (ht : t < 6) (hP : ∀ l ∈ P, okL l) (hT : lT (sB s t) + lT P ≤ 99) (h6 : (lays (sB s t) P).length ≤ 6) : gb_IV (setB s t (lays (sB s t) P)) :=
  IV_set hI h6 (by rw [lays_T]; exact hT) (lays_ok (hI.2.2.2.2.2.1 t ht).2.2 hP hT)
section SHIFT
variable {σ : gb_M} {j : Nat} {s : gb_St} {f t : Nat}
theorem p_shift (hC : gb_SC σ j s) (hf : f < 6) (ht : t < 6) (hft : f ≠ t) {n : Int} (hn : 1 ≤ n ∧ n ≤ 99) (hT : lT (sB s t) + n ≤ 99) (h6 : (lays (sB s t) (pk (sB s f) n)).length ≤ 6) : ∃ σ', f_X7_shift [gR 10 j, gI (nZ f), gI (nZ t), gI (nZ n)] σ = some (none, σ') ∧ gb_SC σ' j (setB (setB s t (lays (sB s t) (pk (sB s f) n))) f (tk (sB s f) n)) ∧ gb_fS j σ σ' := by
  obtain ⟨⟨cW, cP, cN, cT, cL, cH, cY, cQ⟩, ⟨rK, rC, rO, rA⟩, iw, ik, io, ic, ip, il, id⟩ := id hC
  obtain ⟨y1, y2, q1, q2⟩ := id
  have hlf := (il f hf).1
  have hokf := (il f hf).2.2
  have hpok := pk_ok (t := n) hokf
  have hpl := pk_len (L := sB s f) (t := n)
  have hpT := pk_T hokf (t := n) (by omega)
  rw [e_X7_shift]
  obtain ⟨τ, hJ, hSC, ff⟩ := lph (n := (sB s f).length) (σ := σ) (fun i τ => j_X7_shift_3 j (nZ f) (nZ t) (nZ n) (nZ i) τ)
    (fun i τ => gb_SC τ j (setB s t (lays (sB s t) ((pk (sB s f) n).take i))) ∧ gb_fS j σ τ)
    ⟨by show gb_SC σ j (setB s t (sB s t)); rw [setB_id]; exact hC, fS_rf⟩ (by
    intro i hi τ ⟨hS, ff⟩
    obtain ⟨pa, pb⟩ := pk_at (t := n) hokf hi
    have hi' : i < (sB (setB s t (lays (sB s t) ((pk (sB s f) n).take i))) f).length := by rw [sB_n hft]; exact hi
    have hpB := p_partBelow hS hf hi' (t := n) (by omega)
    rw [sB_n hft] at hpB
    have c13 := hS.1.2.2.1 f hf
    rw [sB_n hft] at c13
    obtain ⟨g1, g2, g3⟩ := hS.1.2.2.2.2.1 f i hf hi'
    rw [sB_n hft] at g1 g2 g3
    obtain ⟨l1, l2, l3, l4, l5⟩ := lz_ok il hf hi
    have hpr := pB_r (t := n) il hf hi
    by_cases hp : 0 < pB (sB s f) i n
    · have hlt := pa.mp hp
      have hz := pb hlt
      have hroom := lays_room (A := sB s t) hlt h6
      rw [hz] at hroom
      have hTk := lT_tk_le (k := i + 1) hpok
      have hTs : lT ((pk (sB s f) n).take (i + 1)) = lT ((pk (sB s f) n).take i) + (lz (pk (sB s f) n) i).2.1 := sL_take hlt
      rw [hz] at hTs
      simp only [] at hTs hroom
      obtain ⟨τ', a1, a2, a3, a4⟩ := p_lay hS ht (g := (lz (sB s f) i).1) (t := pB (sB s f) i n) (d := (lz (sB s f) i).2.2) l1 (by omega) (by rw [sB_s, lays_T]; omega) ⟨l4, l5⟩ (by rw [sB_s]; exact hroom)
      rw [sB_s, setB2] at a2
      have hlt' := lays_take (A := sB s t) hlt
      rw [hz] at hlt'
      refine ⟨τ', ?_, by rw [hlt']; exact a2, fS_tr ff a3⟩
      show j_X7_shift_3 _ _ _ _ _ _ = _
      rw [e_X7_shift_3]
      simp (disch := omega) only [z0, z1, z2, z3, z4, z5, z6, z12, z18, z48, z54, z60, z66, z174, z175, z_neg, z_add, z_sub, z_mul, z_tn, g_in, g_b0, g_b1, Int.toNat_natCast, z_le, z_lt, z_eq, z_mx, z_mn, if_pos, if_neg, if_true, if_false, c13, hpB, p_place, g1, g3, a1, Int.natCast_add, Int.natCast_one]
    · have hge : (pk (sB s f) n).length ≤ i := Nat.not_lt.mp (fun z => hp (pa.mpr z))
      refine ⟨τ, ?_, by rw [List.take_of_length_le (show (pk (sB s f) n).length ≤ i + 1 by omega)]; rw [List.take_of_length_le hge] at hS; exact hS, ff⟩
      show j_X7_shift_3 _ _ _ _ _ _ = _
      rw [e_X7_shift_3]
      simp (disch := omega) only [z0, z1, z2, z3, z4, z5, z6, z12, z18, z48, z54, z60, z66, z174, z175, z_neg, z_add, z_sub, z_mul, z_tn, g_in, g_b0, g_b1, Int.toNat_natCast, z_le, z_lt, z_eq, z_mx, z_mn, if_pos, if_neg, if_true, if_false, c13, hpB, Int.natCast_add, Int.natCast_one])
  rw [List.take_of_length_le hpl] at hSC
  obtain ⟨σ', a1, a2, a3⟩ := p_take hSC hf (t := n) (by omega)
  rw [sB_n hft] at a2
  have c13 := hSC.1.2.2.1 f hf
  rw [sB_n hft] at c13
  refine ⟨σ', ?_, a2, fS_tr ff a3⟩
  rw [show (0 : Int32) = nZ ((0 : Nat) : Int) from rfl, hJ, e_X7_shift_3]
  simp (disch := omega) only [z0, z1, z2, z3, z4, z5, z6, z12, z18, z48, z54, z60, z66, z174, z175, z_neg, z_add, z_sub, z_mul, z_tn, g_in, g_b0, g_b1, Int.toNat_natCast, z_le, z_lt, z_eq, z_mx, z_mn, if_pos, if_neg, if_true, if_false, c13, a1]
def gGone (σ : gb_M) (P : List gb_Ly) : Prop := σ.1 36 0 14 = nZ P.length ∧ P.length ≤ 6 ∧ ∀ i, i < P.length → σ.1 43 0 i = nZ (lz P i).1 ∧ σ.1 44 0 i = nZ (lz P i).2.1 ∧ σ.1 45 0 i = nZ (lz P i).2.2
theorem gGone_f {P : Nat → Prop} {σ σ' : gb_M} {L : List gb_Ly} (h : gb_fP P σ σ') (h36 : ¬ P 36) (h43 : ¬ P 43) (h44 : ¬ P 44) (h45 : ¬ P 45) (hG : gGone σ L) : gGone σ' L := by
  obtain ⟨a, b, c⟩ := hG
  refine ⟨by rw [h.1 36 0 _ h36]; exact a, b, fun i hi => ?_⟩
  rw [h.1 43 0 _ h43, h.1 44 0 _ h44, h.1 45 0 _ h45]
  exact c i hi
end SHIFT
