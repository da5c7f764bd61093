/-! MOVE -/
theorem setB_comm {s : gb_St} {f t : Nat} {L M : List gb_Ly} (h : f ≠ t) : setB (setB s f L) t M = setB (setB s t M) f L := by
  unfold setB
  refine Prod.ext rfl (funext fun k => ?_)
  by_cases e : k = t
  · subst e
    show (if k = k then M else if k = f then L else s.2 k) = if k = f then L else if k = k then M else s.2 k
    rw [if_pos rfl, if_neg (fun z => h z.symm), if_pos rfl]
  · show (if k = t then M else if k = f then L else s.2 k) = if k = f then L else if k = t then M else s.2 k
    rw [if_neg e, if_neg e]
theorem mvW_0 {s : gb_St} {f t : Nat} {n : Int} (h : 0 ≤ mvW s f t n) : mvW s f t n = 0 ∧ ¬ sY s < sP s f ∧ ¬ sY s < sP s t ∧ n ≤ lT (sB s f) ∧ lT (sB s t) + n ≤ sC s t ∧ apP s (sB s t) (pk (sB s f) n) = false ∧ (lays (sB s t) (pk (sB s f) n)).length ≤ 6 := by
  unfold mvW at h ⊢
  by_cases h1 : sY s < sP s f
  · rw [if_pos h1] at h; omega
  rw [if_neg h1] at h ⊢
  by_cases h2 : sY s < sP s t
  · rw [if_pos h2] at h; omega
  rw [if_neg h2] at h ⊢
  by_cases h3 : lT (sB s f) < n
  · rw [if_pos h3] at h; omega
  rw [if_neg h3] at h ⊢
  by_cases h4 : sC s t < lT (sB s t) + n
  · rw [if_pos h4] at h; omega
  rw [if_neg h4] at h ⊢
  by_cases h5 : apP s (sB s t) (pk (sB s f) n) = true
  · rw [if_pos h5] at h; omega
  rw [if_neg h5] at h ⊢
  by_cases h6 : 6 < (lays (sB s t) (pk (sB s f) n)).length
  · rw [if_pos h6] at h; omega
  rw [if_neg h6]
  exact ⟨rfl, h1, h2, by omega, by omega, by simpa using h5, by omega⟩
theorem mvW_r {s : gb_St} {f t : Nat} {n : Int} : -6 ≤ mvW s f t n ∧ mvW s f t n ≤ 0 := by
  unfold mvW
  repeat' split
  all_goals omega
theorem th_move {A : gb_Ab} (hA : wfA A) (a c e : Int32) : gb_T2 f_X9_move f_X10_move [gR 0 0, gI a, gI c, gI e] [gR 36 0, gI a, gI c, gI e] A := by
  have hx := nZ_rz a
  have hy := nZ_rz c
  have hw := nZ_rz e
  rw [nZ_of a, nZ_of c, nZ_of e]
  generalize a.toInt = x at hx
  generalize c.toInt = y at hy
  generalize e.toInt = n at hw
  have hI := hA.1.1
  by_cases h1 : 0 ≤ x ∧ x < 6
  rotate_left
  · refine T2_same hA (some (gI (-1))) (fun σ hC => ?_) (fun σ hM => ?_)
    · rw [e_X9_move, cb_f hx h1, g_b1, e00]
    · rw [e_X10_move, mb_f hx h1, g_b1, e00]
  obtain ⟨f, rfl⟩ : ∃ b : Nat, x = b := ⟨x.toNat, by omega⟩
  have hf : f < 6 := by omega
  by_cases h2 : 0 ≤ y ∧ y < 6
  rotate_left
  · refine T2_same hA (some (gI (-1))) (fun σ hC => ?_) (fun σ hM => ?_)
    · rw [e_X9_move, cb_t hf, g_b1, e10, cb_f hy h2, g_b1, e00]
    · rw [e_X10_move, mb_t hf, g_b1, e10, mb_f hy h2, g_b1, e00]
  obtain ⟨t, rfl⟩ : ∃ b : Nat, y = b := ⟨y.toNat, by omega⟩
  have ht : t < 6 := by omega
  by_cases h3 : f = t
  · subst h3
    refine T2_same hA (some (gI (-1))) (fun σ hC => ?_) (fun σ hM => ?_)
    · rw [e_X9_move, cb_t hf, g_b1, e10, cb_t hf, g_b1, e10, if_pos rfl]
    · rw [e_X10_move, mb_t hf, g_b1, e10, mb_t hf, g_b1, e10, if_pos rfl]
  have hne : ¬ (nZ f = nZ t) := by rw [z_eq ⟨by omega, by omega⟩ ⟨by omega, by omega⟩]; omega
  by_cases h4 : 1 ≤ n ∧ n ≤ 99
  rotate_left
  · refine T2_same hA (some (gI (-1))) (fun σ hC => ?_) (fun σ hM => ?_)
    · rw [e_X9_move, cb_t hf, g_b1, e10, cb_t ht, g_b1, e10, if_neg hne, ct_f hw h4, g_b1, e00]
    · rw [e_X10_move, mb_t hf, g_b1, e10, mb_t ht, g_b1, e10, if_neg hne, ml_f hw h4, g_b1, e00]
  have hr := mvW_r (s := A.1) (f := f) (t := t) (n := n)
  have hWc : ∀ σ, CC σ A → f_X7_whyNotMove [gR 10 0, gI (nZ f), gI (nZ t), gI (nZ n)] σ = some (some (gI (nZ (mvW A.1 f t n))), σ) := fun σ hC => p_whyNotMove hC.1 hf ht h4 (hA.1.2 f hf)
  have hcc : ∀ σ, CC σ A → ∀ r, (0 ≤ mvW A.1 f t n → False) → r = mvW A.1 f t n → f_X9_move [gR 0 0, gI (nZ f), gI (nZ t), gI (nZ n)] σ = some (some (gI (nZ r)), σ) := by
    intro σ hC r h5 hr'
    subst hr'
    rw [e_X9_move, cb_t hf, g_b1, e10, cb_t ht, g_b1, e10, if_neg hne, ct_t h4, g_b1, e10, hWc σ hC, g_b1, if_neg (by rw [z0, z_le ⟨by omega, by omega⟩ ⟨by omega, by omega⟩]; exact h5)]
  have hokf := (hI.2.2.2.2.2.1 f hf).2.2
  have hct := hI.2.2.2.1 t ht
  have hTf := lG_r hI.2.2.2.2.2.1 hf 0
  have hTt := lG_r hI.2.2.2.2.2.1 ht 0
  by_cases c1 : sY A.1 < sP A.1 f
  · have hm : mvW A.1 f t n = -2 := by unfold mvW; rw [if_pos c1]
    refine T2_same hA (some (gI (nZ (-2)))) (fun σ hC => hcc σ hC (-2) (by omega) hm.symm) (fun σ hM => ?_)
    rw [e_X10_move, mb_t hf, g_b1, e10, mb_t ht, g_b1, e10, if_neg hne, ml_t h4, g_b1, e10, m_closed_t (MC_t hM).1.1 hf c1, g_b1, show nZ 1 = 1 from rfl, e10]
    rfl
  by_cases c2 : sY A.1 < sP A.1 t
  · have hm : mvW A.1 f t n = -2 := by unfold mvW; rw [if_neg c1, if_pos c2]
    refine T2_same hA (some (gI (nZ (-2)))) (fun σ hC => hcc σ hC (-2) (by omega) hm.symm) (fun σ hM => ?_)
    rw [e_X10_move, mb_t hf, g_b1, e10, mb_t ht, g_b1, e10, if_neg hne, ml_t h4, g_b1, e10, m_closed_f (MC_t hM).1.1 hf c1, g_b1, if_pos (show nZ 0 = 0 from rfl), m_closed_t (MC_t hM).1.1 ht c2, g_b1, show nZ 1 = 1 from rfl, e10]
    rfl
  by_cases c3 : lT (sB A.1 f) < n
  · have hm : mvW A.1 f t n = -3 := by unfold mvW; rw [if_neg c1, if_neg c2, if_pos c3]
    refine T2_same hA (some (gI (nZ (-3)))) (fun σ hC => hcc σ hC (-3) (by omega) hm.symm) (fun σ hM => ?_)
    have hM1 := (MC_t (v := 0) hM).1
    rw [e_X10_move, mb_t hf, g_b1, e10, mb_t ht, g_b1, e10, if_neg hne, ml_t h4, g_b1, e10, m_closed_f hM1.1 hf c1, g_b1, if_pos (show nZ 0 = 0 from rfl), m_closed_f hM1.1 ht c2, g_b1, if_pos (show nZ 0 = 0 from rfl), m_tonsIn hM1.1 hf, g_b1, if_neg (by rw [z_le ⟨by omega, by omega⟩ ⟨by omega, by omega⟩]; omega)]
    rfl
  by_cases c4 : sC A.1 t < lT (sB A.1 t) + n
  · have hm : mvW A.1 f t n = -4 := by unfold mvW; rw [if_neg c1, if_neg c2, if_neg c3, if_pos c4]
    refine T2_same hA (some (gI (nZ (-4)))) (fun σ hC => hcc σ hC (-4) (by omega) hm.symm) (fun σ hM => ?_)
    have hM1 := (MC_t (v := 0) hM).1
    have mC := hM1.1.1.2.2.2.1 t ht
    rw [Nat.zero_add] at mC
    rw [e_X10_move, mb_t hf, g_b1, e10, mb_t ht, g_b1, e10, if_neg hne, ml_t h4, g_b1, e10, m_closed_f hM1.1 hf c1, g_b1, if_pos (show nZ 0 = 0 from rfl), m_closed_f hM1.1 ht c2, g_b1, if_pos (show nZ 0 = 0 from rfl), m_tonsIn hM1.1 hf, g_b1, if_pos (by rw [z_le ⟨by omega, by omega⟩ ⟨by omega, by omega⟩]; omega), m_tonsIn hM1.1 ht, g_b1]
    simp (disch := omega) only [z48, z_add, g_in, z_tn, mC, z_le, if_neg]
    rfl
  have hpok := pk_ok (t := n) hokf
  have hpT := pk_T hokf (t := n) (by omega)
  have hpl := pk_len (L := sB A.1 f) (t := n)
  have hlf := (hI.2.2.2.2.2.1 f hf).1
  -- how the reference begins
  have mbeg : ∀ σ, MC σ A → ∃ τ3, f_X10_move [gR 36 0, gI (nZ f), gI (nZ t), gI (nZ n)] σ = (if nZ (if apP A.1 (sB A.1 t) (pk (sB A.1 f) n) = true then -5 else if 6 < (lays (sB A.1 t) (pk (sB A.1 f) n)).length then -6 else 0) = 0 then
      gb_b0 (f_X10_did [gR 36 0] τ3) (fun s23 => gb_b0 (f_X10_tell [gR 36 0, gL ((nZ (lV A.1 (sY A.1) (sB A.1 f)) + nZ (lV A.1 (sY A.1) (sB A.1 t))).toInt64)] (gb_si s23 36 0 9 0)) (fun s24 => gb_b1 (f_X10_valueOf [gR 36 0, gI (nZ f)] s24) (fun x26 s25 => gb_b1 (f_X10_valueOf [gR 36 0, gI (nZ t)] s25) (fun x28 s27 => gb_b0 (f_X10_tell [gR 36 0, gL ((x26 + x28).toInt64)] s27) (fun s29 => gb_b1 (f_X10_tonsIn [gR 36 0, gI (nZ t)] s29) (fun x31 s30 => some (some (gI x31), s30)))))))
      else gb_b0 (f_X10_putsBack [gR 36 0] τ3) (fun s32 => some (some (gI (nZ (if apP A.1 (sB A.1 t) (pk (sB A.1 f) n) = true then -5 else if 6 < (lays (sB A.1 t) (pk (sB A.1 f) n)).length then -6 else 0))), s32))) ∧
      gb_fX (fun k => k = 37 ∨ k = 38 ∨ (43 ≤ k ∧ k ≤ 45)) (fun x => x = 10 ∨ x = 14 ∨ x = 15) σ τ3 ∧ gb_RM (τ3.1 38 0) 0 A.1 ∧ (apP A.1 (sB A.1 t) (pk (sB A.1 f) n) = false → (lays (sB A.1 t) (pk (sB A.1 f) n)).length ≤ 6 → gb_MM τ3 (setB (setB A.1 t (lays (sB A.1 t) (pk (sB A.1 f) n))) f (tk (sB A.1 f) n))) := by
    intro σ hM
    obtain ⟨hM1, f1⟩ := MC_t (v := 0) hM
    obtain ⟨τ, a1, a2, a3⟩ := m_keepsAside hM1.1
    have hMτ : gb_MM τ A.1 := fP_MM a2 (by omega) hM1.1
    obtain ⟨τ2, b1, b2, b3, b4, b5, b6, b7⟩ := m_goes hMτ hf (t := n) (by omega) (by omega)
    have fb : gb_fX (fun k => k = 37 ∨ (43 ≤ k ∧ k ≤ 45)) (fun x => x = 14 ∨ x = 15) τ τ2 := fP_fX b3 (fun k h1 h2 => by omega) (fun x h => b4 x (fun e => h (Or.inl e)) (fun e => h (Or.inr e)))
    have hB : sB (setB A.1 f (tk (sB A.1 f) n)) t = sB A.1 t := sB_n (fun e => h3 e.symm)
    obtain ⟨τ3, c1', c2', c3'⟩ := m_comes b2 ht (P := pk (sB A.1 f) n) ⟨b5, by omega, b7⟩ hpok (by rw [hB]; omega)
    rw [hB] at c3'
    have hap : ∀ (Q : List gb_Ly), apP (setB A.1 f (tk (sB A.1 f) n)) (sB A.1 t) Q = apP A.1 (sB A.1 t) Q := fun Q => rfl
    refine ⟨τ3, ?_, ?_, ?_, fun q1 q2 => ?_⟩
    · have mC := hM1.1.1.2.2.2.1 t ht
      rw [Nat.zero_add] at mC
      rw [e_X10_move, mb_t hf, g_b1, e10, mb_t ht, g_b1, e10, if_neg hne, ml_t h4, g_b1, e10, m_closed_f hM1.1 hf c1, g_b1, if_pos (show nZ 0 = 0 from rfl), m_closed_f hM1.1 ht c2, g_b1, if_pos (show nZ 0 = 0 from rfl), m_tonsIn hM1.1 hf, g_b1, if_pos (by rw [z_le ⟨by omega, by omega⟩ ⟨by omega, by omega⟩]; omega), m_tonsIn hM1.1 ht, g_b1]
      simp (disch := omega) only [z48, z_add, g_in, z_tn, mC, z_le, if_pos]
      rw [a1, g_b0, m_valueOf hMτ hf, g_b1, m_valueOf hMτ ht, g_b1, b1, g_b0, c1', g_b1, hB]
      simp only [hap, z_add]
    · exact fX_tr (fX_w f1 (fun k z => z.elim) (fun x h => Or.inl h)) (fX_tr (fP_fX0 a2 (fun k _ z => by omega) (by omega)) (fX_tr (fX_w fb (fun k z => by omega) (fun x z => by omega)) (fP_fX0 c2' (fun k _ z => by omega) (by omega))))
    · refine RM_cg hM1.1.1 hI.2.2.2.2.2.1 (fun x hx => ?_)
      rw [Nat.zero_add, c2'.1 38 0 x (by omega), b3.1 38 0 x (by omega)]
      exact a3 x hx
    · have := c3' (by rw [hap]; exact q1) q2
      rwa [setB_comm h3] at this
  by_cases c5 : apP A.1 (sB A.1 t) (pk (sB A.1 f) n) = false ∧ (lays (sB A.1 t) (pk (sB A.1 f) n)).length ≤ 6
  rotate_left
  · -- it may not lie there: put back
    have hm : mvW A.1 f t n = (if apP A.1 (sB A.1 t) (pk (sB A.1 f) n) = true then -5 else if 6 < (lays (sB A.1 t) (pk (sB A.1 f) n)).length then -6 else 0) := by unfold mvW; rw [if_neg c1, if_neg c2, if_neg c3, if_neg c4]
    have hneg : mvW A.1 f t n < 0 := by
      rw [hm]
      cases hq : apP A.1 (sB A.1 t) (pk (sB A.1 f) n) with
      | true => rw [if_pos rfl]; omega
      | false =>
        rw [if_neg (by simp)]
        by_cases h6 : 6 < (lays (sB A.1 t) (pk (sB A.1 f) n)).length
        · rw [if_pos h6]; omega
        · exact absurd ⟨hq, by omega⟩ c5
    refine ⟨some (gI (nZ (mvW A.1 f t n))), A, hA, fun σ hC _ => ⟨σ, hcc σ hC _ (by omega) rfl, hC, fP_rf⟩, fun σ hM => ?_⟩
    obtain ⟨τ3, d1, d2, d3, d4⟩ := mbeg σ hM
    rw [← hm] at d1
    obtain ⟨τ4, e1, e2, e3⟩ := m_putsBack τ3
    have fe : gb_fX (fun k => k = 37) (fun _ => False) τ3 τ4 := fP_fX0 e2 (fun k _ z => z) (by omega)
    have hM4 : gb_MM τ4 A.1 := ⟨RM_cg d3 hI.2.2.2.2.2.1 (fun x hx => by rw [Nat.zero_add]; exact e3 x hx), hI⟩
    have fall := fX_tr d2 (fX_w fe (fun k z => Or.inl z) (fun x z => z.elim))
    refine ⟨τ4, ?_, MC_S hM fall ⟨by omega, by omega, by omega, by omega⟩ ⟨by omega, by omega, by omega, by omega⟩ hM4, fX_fP fall (fun k z => by omega)⟩
    rw [d1, if_neg (by rw [z0, z_eq ⟨by omega, by omega⟩ ⟨by omega, by omega⟩]; omega), e1, g_b0]
  · -- it comes to lie there
    obtain ⟨c5, c6⟩ := c5
    have hm : mvW A.1 f t n = 0 := by unfold mvW; rw [if_neg c1, if_neg c2, if_neg c3, if_neg c4, if_neg (by rw [c5]; simp), if_neg (by omega)]
    have hIV1 := IV_lays hI ht hpok (by omega) c6
    have hIV : gb_IV (setB (setB A.1 t (lays (sB A.1 t) (pk (sB A.1 f) n))) f (tk (sB A.1 f) n)) := IV_set hIV1 (Nat.le_trans tk_len hlf) (by rw [lT_tk hokf]; omega) (ok_tk hokf)
    generalize hs' : setB (setB A.1 t (lays (sB A.1 t) (pk (sB A.1 f) n))) f (tk (sB A.1 f) n) = s' at hIV
    have hsT : lT (sB s' t) = lT (sB A.1 t) + n := by
      rw [← hs', sB_n (fun e => h3 e.symm), sB_s, lays_T]; omega
    have hsY : sY s' = sY A.1 := by rw [← hs']; rfl
    refine ⟨some (gI (nZ (lT (sB s' t)))), setR (setS A s') [(nZ (lV A.1 (sY A.1) (sB A.1 f)) + nZ (lV A.1 (sY A.1) (sB A.1 t))).toInt64, (nZ (lV s' (sY s') (sB s' f)) + nZ (lV s' (sY s') (sB s' t))).toInt64], wf_setS hA ⟨hIV, by rw [← hs']; exact gd_setB (gd_setB hA.1.2 (adj_lays (hA.1.2 t ht))) (adj_tk (hA.1.2 f hf))⟩, fun σ hC _ => ?_, fun σ hM => ?_⟩
    · obtain ⟨τ, a1, a2, a3⟩ := CC_past hC
      obtain ⟨τ2, b1, b2, b3⟩ := p_shift a2.1 hf ht h3 h4 (show lT (sB (setS A A.1).1 t) + n ≤ 99 by show lT (sB A.1 t) + n ≤ 99; omega) c6
      have b2 : gb_SC τ2 0 s' := by rw [← hs']; exact b2
      obtain ⟨τ3, c1', c2', c3'⟩ := c_start τ2
      obtain ⟨τ4, d1, d2, d3⟩ := c_add c2' (by simp) ((nZ (lV A.1 (sY A.1) (sB A.1 f)) + nZ (lV A.1 (sY A.1) (sB A.1 t))).toInt64)
      obtain ⟨τ5, e1, e2, e3⟩ := c_add d2 (by simp) ((nZ (lV s' (sY s') (sB s' f)) + nZ (lV s' (sY s') (sB s' t))).toInt64)
      have hS4 : gb_SC τ4 0 s' := SC_fP (fP_tr c3' d3) (fun k _ _ => by omega) b2
      have hS5 : gb_SC τ5 0 s' := SC_fP e3 (fun k _ _ => by omega) hS4
      have cT := hS5.1.2.2.2.1 t ht
      refine ⟨τ5, ?_, CC_row (fP_tr (fP_tr c3' d3) e3) (fun k hk => by omega) (CC_S a2 b3 b2) e2, fP_tr a3 (fP_tr (fP_w (fS_fP b3) (fun k hk => by omega)) (fP_w (fP_tr (fP_tr c3' d3) e3) (fun k hk => by omega)))⟩
      rw [e_X9_move, cb_t hf, g_b1, e10, cb_t ht, g_b1, e10, if_neg hne, ct_t h4, g_b1, e10, hWc σ hC, g_b1, hm, if_pos (by decide), a1, g_b0, p_valueOf a2.1 hf, g_b1, p_valueOf a2.1 ht, g_b1, b1, g_b0, c1', g_b0]
      have d1' : f_X4_add [gR 21 0, gL (nZ (lV (setS A A.1).1 (sY (setS A A.1).1) (sB (setS A A.1).1 f)) + nZ (lV (setS A A.1).1 (sY (setS A A.1).1) (sB (setS A A.1).1 t))).toInt64] τ3 = some (none, τ4) := d1
      rw [d1', g_b0, p_valueOf hS4 hf, g_b1, p_valueOf hS4 ht, g_b1, e1, g_b0]
      simp (disch := omega) only [g_in, z_tn, Int.toNat_natCast, cT]
    · obtain ⟨τ3, d1, d2, d3, d4⟩ := mbeg σ hM
      have hM3 := d4 c5 c6
      rw [hs'] at hM3
      obtain ⟨τ4, e1, e2, e3, e4⟩ := m_did (PM_fX d2 (by omega) (by omega) hM.2.2.1) d3 hI
      have fe : gb_fX (fun k => k = 40) (fun x => x = 5) τ3 τ4 := fP_fX e2 (fun k h1 h2 => by omega) e4
      have hM4 : gb_MM τ4 s' := MM_fX fe (by omega) hM3
      have f5 : gb_fX (fun k => k = 42) (fun x => x = 9) τ4 (gb_si τ4 36 0 9 0) := fX_si fX_rf (Or.inr ⟨rfl, rfl⟩)
      obtain ⟨g1, g2⟩ := m_tell (m_start τ4) (by simp) ((nZ (lV A.1 (sY A.1) (sB A.1 f)) + nZ (lV A.1 (sY A.1) (sB A.1 t))).toInt64)
      generalize hτ5 : gb_si (gb_sl (gb_si τ4 36 0 9 0) 42 0 ([] : List Int64).length ((nZ (lV A.1 (sY A.1) (sB A.1 f)) + nZ (lV A.1 (sY A.1) (sB A.1 t))).toInt64)) 36 0 9 (nZ ((([] : List Int64).length + 1 : Nat) : Int)) = τ5 at g1 g2
      have f6 : gb_fX (fun k => k = 42) (fun x => x = 9) (gb_si τ4 36 0 9 0) τ5 := by rw [← hτ5]; exact tell_fX rfl rfl
      have hM5 : gb_MM τ5 s' := MM_fX (fX_tr f5 f6) (by omega) hM4
      obtain ⟨g3, g4⟩ := m_tell g2 (by simp) ((nZ (lV s' (sY s') (sB s' f)) + nZ (lV s' (sY s') (sB s' t))).toInt64)
      generalize hτ6 : gb_si (gb_sl τ5 42 0 (([] : List Int64) ++ [(nZ (lV A.1 (sY A.1) (sB A.1 f)) + nZ (lV A.1 (sY A.1) (sB A.1 t))).toInt64]).length ((nZ (lV s' (sY s') (sB s' f)) + nZ (lV s' (sY s') (sB s' t))).toInt64)) 36 0 9 (nZ ((([] : List Int64) ++ [(nZ (lV A.1 (sY A.1) (sB A.1 f)) + nZ (lV A.1 (sY A.1) (sB A.1 t))).toInt64]).length + 1 : Nat)) = τ6 at g3 g4
      have f7 : gb_fX (fun k => k = 42) (fun x => x = 9) τ5 τ6 := by rw [← hτ6]; exact tell_fX rfl rfl
      have hM6 : gb_MM τ6 s' := MM_fX f7 (by omega) hM5
      have fr := fX_tr (fX_tr f5 f6) f7
      have hMC4 : MC τ4 (setS A s') := ⟨hM4, keptM_fX fe (by omega) (by omega) (keptM_fX d2 (by omega) (by omega) hM.2.1), e3, textM_fX fe (by omega) (by omega) (textM_fX d2 (by omega) (by omega) hM.2.2.2.1), rowM_fX fe (by omega) (by omega) (rowM_fX d2 (by omega) (by omega) hM.2.2.2.2)⟩
      refine ⟨τ6, ?_, MC_row fr ⟨by omega, by omega, by omega, by omega⟩ ⟨by omega, by omega, by omega⟩ hMC4 g4, fP_tr (fX_fP d2 (fun k z => by omega)) (fP_tr (fX_fP fe (fun k z => by omega)) (fX_fP fr (fun k z => by omega)))⟩
      have ez : (if apP A.1 (sB A.1 t) (pk (sB A.1 f) n) = true then (-5 : Int) else if 6 < (lays (sB A.1 t) (pk (sB A.1 f) n)).length then -6 else 0) = 0 := by rw [if_neg (by rw [c5]; simp), if_neg (by omega)]
      rw [d1, ez, if_pos (show nZ 0 = 0 from rfl), e1, g_b0, g1, g_b0, m_valueOf hM5 hf, g_b1, m_valueOf hM5 ht, g_b1, g3, g_b0, m_tonsIn hM6 ht, g_b1]
