/-! LAY: the class -/
def gb_fL (j b n : Nat) (σ σ' : gb_M) : Prop := ∀ k x, (15 ≤ k ∧ k ≤ 17) → (x + 1 < b * 6 + n ∨ b * 6 + n < x) → σ'.1 k j x = σ.1 k j x
section LAY
variable {σ : gb_M} {j : Nat} {s : gb_St} {b : Nat}
theorem p_lay (hC : gb_SC σ j s) (hb : b < 6) {g : Nat} {t d : Int} (hg : g < 6) (ht : 1 ≤ t) (hT : lT (sB s b) + t ≤ 99) (hd : 0 ≤ d ∧ d ≤ 10019) (hn : onB (sB s b) g d = true ∨ (sB s b).length < 6) : ∃ σ', f_X7_lay [gR 10 j, gI (nZ b), gI (nZ g), gI (nZ t), gI (nZ d)] σ = some (none, σ') ∧ gb_SC σ' j (setB s b (lay1 (sB s b) g t d)) ∧ gb_fS j σ σ' ∧ gb_fL j b (sB s b).length σ σ' := by
  obtain ⟨⟨cW, cP, cN, cT, cL, cH, cY, cQ⟩, ⟨rK, rC, rO, rA⟩, iw, ik, io, ic, ip, il, id⟩ := id hC
  obtain ⟨y1, y2, q1, q2⟩ := id
  have hlen := (il b hb).1
  have hIV : gb_IV (setB s b (lay1 (sB s b) g t d)) := IV_set hC.2.2 (by rw [lay1_len]; rcases hn with h | h; rw [if_pos h]; exact hlen; split <;> omega) (by rw [lT_lay]; exact hT) (ok_lay (il b hb).2.2 hT hg ht hd)
  have fin : ∀ σ', gb_fS j σ σ' → gb_RS σ' j (setB s b (lay1 (sB s b) g t d)) → gb_SC σ' j (setB s b (lay1 (sB s b) g t d)) := fun σ' hf hr => ⟨hr, fS_RR (s := s) hf hC.2.1, hIV⟩
  cases h : onB (sB s b) g d with
  | false =>
    have hn : (sB s b).length < 6 := by rcases hn with e | e; rw [h] at e; cases e; exact e
    have hl : lay1 (sB s b) g t d = sB s b ++ [(g, t, d)] := by unfold lay1; rw [h]; exact if_neg (by simp)
    rw [e_X7_lay]
    simp (disch := omega) only [p_onTop_f hC hb hg ⟨by omega, by omega⟩ h, g_b1, g_b0, if_true, g_in, z_tn, Int.toNat_natCast, cN, z6, z_le, if_neg, p_place, z_mul, z_add, z1, si_k, si_s, si_i, sj_i, cT, cH b g hb hg]
    refine ⟨_, rfl, ?_, ?_, ?_⟩
    · refine fin _ (fS_si (fS_si (fS_si (fS_si (fS_si (fS_si fS_rf (by omega)) (by omega)) (by omega)) (by omega)) (by omega)) (by omega)) ?_
      refine RS_set hC.1 (fun x => ?_) (fun x => ?_) (fun x => ?_) il ?_ (fun k hk hne => ?_) ?_ (fun k hk hne => ?_) (fun i hi => ?_) (fun k i hk hne hi => ?_) (fun k hk => ?_) (fun k m hk hne hm => ?_)
      · simp (disch := omega) only [si_k, si_s, si_i, sj_i]
      · simp (disch := omega) only [si_k, si_s, si_i, sj_i]
      · simp (disch := omega) only [si_k, si_s, si_i, sj_i]
      · simp (disch := omega) only [si_k, si_s, si_i, sj_i]
        rw [hl, List.length_append]
        rfl
      · simp (disch := omega) only [si_k, si_s, si_i, sj_i]
      · simp (disch := omega) only [si_k, si_s, si_i, sj_i]
        rw [lT_lay]
      · simp (disch := omega) only [si_k, si_s, si_i, sj_i]
      · rw [hl] at hi ⊢
        rw [List.length_append] at hi
        have hi : i < (sB s b).length + 1 := hi
        by_cases e : i = (sB s b).length
        · subst e
          simp (disch := omega) only [si_k, si_s, si_i, sj_i]
          rw [lz_app2]
          exact ⟨rfl, rfl, rfl⟩
        · simp (disch := omega) only [si_k, si_s, si_i, sj_i]
          rw [lz_app1 (by omega)]
          exact cL b i hb (by omega)
      · simp (disch := omega) only [si_k, si_s, si_i, sj_i, and_self]
      · rw [lG_lay]
        by_cases e : g = k
        · subst e
          simp (disch := omega) only [si_k, si_s, si_i, sj_i, if_true]
        · simp (disch := omega) only [si_k, si_s, si_i, sj_i, if_neg, Int.add_zero]
          exact cH b k hb hk
      · simp (disch := omega) only [si_k, si_s, si_i, sj_i]
    · exact fS_si (fS_si (fS_si (fS_si (fS_si (fS_si fS_rf (by omega)) (by omega)) (by omega)) (by omega)) (by omega)) (by omega)
    · intro k x hk hx
      have : k = 15 ∨ k = 16 ∨ k = 17 := by omega
      rcases this with rfl | rfl | rfl
      · simp (disch := omega) only [si_k, si_s, si_i, sj_i]
      · simp (disch := omega) only [si_k, si_s, si_i, sj_i]
      · simp (disch := omega) only [si_k, si_s, si_i, sj_i]
  | true =>
    obtain ⟨h1, h2, h3⟩ := onB_t h
    have hl : lay1 (sB s b) g t d = (sB s b).dropLast ++ [(g, (lz (sB s b) ((sB s b).length - 1)).2.1 + t, d)] := by unfold lay1; rw [h]; exact if_pos rfl
    have e : ((sB s b).length : Int) - 1 = (((sB s b).length - 1 : Nat) : Int) := by omega
    obtain ⟨g1, g2, g3⟩ := cL b ((sB s b).length - 1) hb (by omega)
    have h10 : ¬ ((1 : Int32) = 0) := by decide
    rw [e_X7_lay]
    simp (disch := omega) only [p_onTop_t hC hb h, g_b1, g_b0, if_neg h10, g_in, z_tn, Int.toNat_natCast, cN, p_place, z6, z_sub, z_mul, z_add, z1, e, si_k, si_s, si_i, sj_i, cT, cH b g hb hg, g1, g2, g3]
    refine ⟨_, rfl, ?_, ?_, ?_⟩
    · refine fin _ (fS_si (fS_si (fS_si fS_rf (by omega)) (by omega)) (by omega)) ?_
      refine RS_set hC.1 (fun x => ?_) (fun x => ?_) (fun x => ?_) il ?_ (fun k hk hne => ?_) ?_ (fun k hk hne => ?_) (fun i hi => ?_) (fun k i hk hne hi => ?_) (fun k hk => ?_) (fun k m hk hne hm => ?_)
      · simp (disch := omega) only [si_k, si_s, si_i, sj_i]
      · simp (disch := omega) only [si_k, si_s, si_i, sj_i]
      · simp (disch := omega) only [si_k, si_s, si_i, sj_i]
      · simp (disch := omega) only [si_k, si_s, si_i, sj_i]
        rw [cN b hb, lay1_len, if_pos h]
      · simp (disch := omega) only [si_k, si_s, si_i, sj_i]
      · simp (disch := omega) only [si_k, si_s, si_i, sj_i]
        rw [lT_lay]
      · simp (disch := omega) only [si_k, si_s, si_i, sj_i]
      · rw [lay1_len, if_pos h] at hi
        rw [hl]
        by_cases ei : i = (sB s b).length - 1
        · subst ei
          have ez : lz ((sB s b).dropLast ++ [(g, (lz (sB s b) ((sB s b).length - 1)).2.1 + t, d)]) ((sB s b).length - 1) = (g, (lz (sB s b) ((sB s b).length - 1)).2.1 + t, d) := by
            have := lz_app2 (L := (sB s b).dropLast) (l := (g, (lz (sB s b) ((sB s b).length - 1)).2.1 + t, d))
            rwa [List.length_dropLast] at this
          rw [ez]
          simp (disch := omega) only [si_k, si_s, si_i, sj_i, g1, g3, h2, h3, and_self]
        · simp (disch := omega) only [si_k, si_s, si_i, sj_i]
          rw [lz_app1 (by rw [List.length_dropLast]; omega), lz_dl (by omega)]
          exact cL b i hb (by omega)
      · simp (disch := omega) only [si_k, si_s, si_i, sj_i, and_self]
      · rw [lG_lay]
        by_cases e : g = k
        · subst e
          simp (disch := omega) only [si_k, si_s, si_i, sj_i, if_true]
        · simp (disch := omega) only [si_k, si_s, si_i, sj_i, if_neg, Int.add_zero]
          exact cH b k hb hk
      · simp (disch := omega) only [si_k, si_s, si_i, sj_i]
    · exact fS_si (fS_si (fS_si fS_rf (by omega)) (by omega)) (by omega)
    · intro k x hk hx
      have : k = 15 ∨ k = 16 ∨ k = 17 := by omega
      rcases this with rfl | rfl | rfl
      · simp (disch := omega) only [si_k, si_s, si_i, sj_i]
      · simp (disch := omega) only [si_k, si_s, si_i, sj_i]
      · simp (disch := omega) only [si_k, si_s, si_i, sj_i]
end LAY
