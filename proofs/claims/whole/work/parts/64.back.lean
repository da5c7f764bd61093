/-! UNDO, KEEPS, BACK -/
theorem gd_last {h : List gb_St} {i : Nat} (hi : i < h.length - 1) : h.dropLast.getD i s0 = h.getD i s0 := by
  simp [List.getD, List.getElem?_dropLast, hi]
  rw [List.getElem?_eq_getElem (by omega)]
  rfl
theorem th_keeps {A : gb_Ab} (hA : wfA A) : gb_T2 f_X9_keeps f_X10_keeps [gR 0 0] [gR 36 0] A := by
  have hI := hA.1.1
  refine ⟨some (gI (nZ (sY A.1))), (A.1, some A.1, A.2.2), ⟨hA.1, fun s hs => by cases hs; exact hA.1, hA.2.2.1, hA.2.2.2⟩, fun σ hC _ => ?_, fun σ hM => ?_⟩
  · obtain ⟨τ, a1, a2, a3⟩ := p_copy (σ := σ) (j := 1) (j1 := 0) hC.1 (by omega)
    have hS0 := SC_fS a3 (show 0 ≠ 1 by omega) hC.1
    have cY := hS0.1.2.2.2.2.2.2.1
    have f : gb_fP (fun k => k = 0) τ (gb_si τ 0 0 5 1) := fP_si fP_rf rfl
    refine ⟨gb_si τ 0 0 5 1, ?_, ⟨SC_fP f (fun k _ _ => by omega) hS0, ⟨si_s, fun s hs => by cases hs; exact SC_fP f (fun k _ _ => by omega) a2⟩, pastC_fP f (by omega) (fun k _ _ => by omega) (pastC_fS a3 (by omega) hC.2.2.1), textC_fP f (by omega) (by omega) (textC_fP (fS_fP a3) (by omega) (by omega) hC.2.2.2.1), rowC_fP f (by omega) (by omega) (rowC_fP (fS_fP a3) (by omega) (by omega) hC.2.2.2.2)⟩, fP_tr (fP_w (fS_fP a3) (fun k hk => by omega)) (fP_w f (fun k hk => by omega))⟩
    rw [e_X9_keeps, a1, g_b0, si_k (by omega), cY]
  · obtain ⟨hM1, f1⟩ := MC_t (v := 0) hM
    obtain ⟨τ, h1, h2, h3, h4⟩ := cpl (n := 176) (kd := 39) (ks := 37) (od := 0) (os := 0) (σ := gb_si σ 36 0 10 0) (fun i τ => j_X10_keeps_7 (nZ i) τ) (Or.inl (by omega)) (by
      intro i hi τ f
      show j_X10_keeps_7 _ _ = _
      rw [e_X10_keeps_7]
      simp (disch := omega) only [z0, z1, z2, z3, z4, z5, z6, z12, z18, z48, z54, z60, z66, z174, z175, z_neg, z_add, z_sub, z_mul, z_tn, g_in, g_b0, g_b1, Int.toNat_natCast, z_le, z_lt, z_eq, z_mx, z_mn, if_pos, if_neg, if_true, if_false, z176, Nat.zero_add, Int.natCast_add, Int.natCast_one])
    have fx : gb_fX (fun k => k = 39) (fun _ => False) (gb_si σ 36 0 10 0) τ := fP_fX0 h2 (fun k _ z => z) (by omega)
    have f2 : gb_fX (fun k => k = 39) (fun x => x = 3) (gb_si σ 36 0 10 0) (gb_si τ 36 0 3 1) := fX_si (fX_w fx (fun k z => z) (fun x z => z.elim)) (Or.inr ⟨rfl, rfl⟩)
    have mY := hM1.1.1.2.2.2.2.2.2.2.1
    rw [Nat.zero_add] at mY
    have mY' : τ.1 37 0 174 = nZ (sY A.1) := by rw [h2.1 37 0 _ (by omega)]; exact mY
    refine ⟨gb_si τ 36 0 3 1, ?_, ⟨MM_fX f2 (by omega) hM1.1, ⟨si_s, fun s hs => by
      cases hs
      refine ⟨RM_cg hM1.1.1 hI.2.2.2.2.2.1 (fun x hx => ?_), hI⟩
      rw [si_k (by omega)]
      have := h3 x hx
      rwa [Nat.zero_add] at this ⊢⟩, PM_fX f2 (by omega) (by omega) hM1.2.2.1, textM_fX f2 (by omega) (by omega) hM1.2.2.2.1, rowM_fX f2 (by omega) (by omega) hM1.2.2.2.2⟩, fP_tr (fX_fP f1 (fun k z => z.elim)) (fX_fP f2 (fun k z => by omega))⟩
    have h1' : j_X10_keeps_7 0 (gb_si σ 36 0 10 0) = j_X10_keeps_7 (nZ (176 : Nat)) τ := h1
    rw [e_X10_keeps, h1', e_X10_keeps_7, if_pos (by decide)]
    have e174 : (174 : Int32).toNatClampNeg = 174 := by decide
    rw [e174, si_k (by omega), mY']
    simp (disch := omega) only [z174, g_in]
theorem kI0 {k : Option gb_St} : (kI k = 0) ↔ k = none := by
  cases k with
  | none => exact ⟨fun _ => rfl, fun _ => rfl⟩
  | some s => exact ⟨fun h => by have : (1 : Int32) = 0 := h; exact absurd this (by decide), fun h => by cases h⟩
theorem th_back {A : gb_Ab} (hA : wfA A) : gb_T2 f_X9_back f_X10_back [gR 0 0] [gR 36 0] A := by
  cases hk : A.2.1 with
  | none =>
    refine T2_same hA (some (gI (-2))) (fun σ hC => ?_) (fun σ hM => ?_)
    · rw [e_X9_back, if_pos (by rw [hC.2.1.1, hk]; rfl)]
    · rw [e_X10_back, if_pos (by rw [si_i (by omega), hM.2.1.1, hk]; rfl)]
  | some s =>
    have hs := hA.2.1 s hk
    refine ⟨some (gI (nZ (sY s))), setS A s, wf_setS hA hs, fun σ hC _ => ?_, fun σ hM => ?_⟩
    · obtain ⟨τ, a1, a2, a3⟩ := CC_past hC
      have hK : gb_SC τ 1 s := a2.2.1.2 s hk
      obtain ⟨τ', b1, b2, b3⟩ := p_copy (σ := τ) (j := 0) (j1 := 1) hK (by omega)
      refine ⟨τ', ?_, CC_S a2 b3 b2, fP_tr a3 (fP_w (fS_fP b3) (fun k hk => by omega))⟩
      rw [e_X9_back, if_neg (by rw [hC.2.1.1, hk, kI0]; simp), a1, g_b0, b1, g_b0, b2.1.2.2.2.2.2.2.1]
    · obtain ⟨hM1, f1⟩ := MC_t (v := 0) hM
      obtain ⟨τ, a1, a2, a3⟩ := MC_does hM1
      obtain ⟨hK1, hK2⟩ := a2.2.1.2 s hk
      obtain ⟨τ', h1, h2, h3, h4⟩ := cpl (n := 176) (kd := 37) (ks := 39) (od := 0) (os := 0) (σ := τ) (fun i τ => j_X10_back_21 (nZ i) τ) (Or.inl (by omega)) (by
        intro i hi τ f
        show j_X10_back_21 _ _ = _
        rw [e_X10_back_21]
        simp (disch := omega) only [z0, z1, z2, z3, z4, z5, z6, z12, z18, z48, z54, z60, z66, z174, z175, z_neg, z_add, z_sub, z_mul, z_tn, g_in, g_b0, g_b1, Int.toNat_natCast, z_le, z_lt, z_eq, z_mx, z_mn, if_pos, if_neg, if_true, if_false, z176, Nat.zero_add, Int.natCast_add, Int.natCast_one])
      have f2 : gb_fX (fun k => k = 37) (fun _ => False) τ τ' := fP_fX0 h2 (fun k _ z => z) (by omega)
      have hM2 : gb_MM τ' s := ⟨RM_cg hK1 hK2.2.2.2.2.2.1 (fun x hx => by have := h3 x hx; rwa [Nat.zero_add] at this ⊢), hK2⟩
      have mY := hM2.1.2.2.2.2.2.2.2.1
      rw [Nat.zero_add] at mY
      refine ⟨τ', ?_, MC_S a2 f2 ⟨by omega, by omega, by omega, by omega⟩ ⟨fun z => z, fun z => z, fun z => z, fun z => z⟩ hM2, fP_tr (fX_fP f1 (fun k z => z.elim)) (fP_tr (fX_fP a3 (fun k z => by omega)) (fX_fP f2 (fun k z => by omega)))⟩
      have h1' : j_X10_back_21 0 τ = j_X10_back_21 (nZ (176 : Nat)) τ' := h1
      have e174 : (174 : Int32).toNatClampNeg = 174 := by decide
      rw [e_X10_back, if_neg (by rw [si_i (by omega), hM.2.1.1, hk, kI0]; simp), a1, g_b0, h1', e_X10_back_21, if_pos (by decide), e174, mY]
      simp (disch := omega) only [z174, g_in]
theorem th_undo {A : gb_Ab} (hA : wfA A) : gb_T2 f_X9_undo f_X10_undo [gR 0 0] [gR 36 0] A := by
  have h8 := hA.2.2.2
  by_cases h0 : A.2.2.1.length = 0
  · refine T2_same hA (some (gI (-2))) (fun σ hC => ?_) (fun σ hM => ?_)
    · obtain ⟨n, _, _, h2, _, _⟩ := hC.2.2.1
      rw [e_X9_undo, e_X3_takeBack, h2, h0, if_pos (by decide), g_b1, e00]
    · rw [e_X10_undo, if_pos (by rw [si_i (by omega), hM.2.2.1.1, h0]; rfl)]
  · generalize hs : A.2.2.1.getD (A.2.2.1.length - 1) s0 = s
    have hgs : gdS s := by rw [← hs]; exact hA.2.2.1 _ (by omega)
    have hdl : A.2.2.1.dropLast.length = A.2.2.1.length - 1 := List.length_dropLast
    refine ⟨some (gI (nZ (A.2.2.1.length - 1 : Nat))), (s, A.2.1, A.2.2.1.dropLast, A.2.2.2), ⟨hgs, hA.2.1, fun i hi => ?_, by rw [hdl]; omega⟩, fun σ hC _ => ?_, fun σ hM => ?_⟩
    · have hi : i < A.2.2.1.dropLast.length := hi
      show gdS (A.2.2.1.dropLast.getD i s0)
      rw [gd_last (by omega)]; exact hA.2.2.1 i (by omega)
    · obtain ⟨n, hn, h1, h2, hl, hh⟩ := hC.2.2.1
      have hm := md8 (n := n + 8 - 1) (by omega)
      have f : gb_fP (fun k => k = 19) σ (gb_si σ 19 0 1 (nZ ((n + 8 - 1) % 8 : Nat))) := fP_si fP_rf rfl
      have hsl := hh (A.2.2.1.length - 1) (by omega)
      rw [hs, show 2 + (n + 8 - A.2.2.1.length + (A.2.2.1.length - 1)) % 8 = 2 + (n + 8 - 1) % 8 by omega] at hsl
      obtain ⟨τ, a1, a2, a3⟩ := p_copy (σ := gb_si σ 19 0 1 (nZ ((n + 8 - 1) % 8 : Nat))) (j := 0) (j1 := 2 + (n + 8 - 1) % 8) (SC_fP f (fun k _ _ => by omega) hsl) (by omega)
      have t2 : τ.1 19 0 2 = nZ A.2.2.1.length := by rw [a3.1 19 0 2 (by omega), si_i (by omega)]; exact h2
      have t1 : τ.1 19 0 1 = nZ ((n + 8 - 1) % 8 : Nat) := by rw [a3.1 19 0 1 (by omega), si_s]
      have f2 : gb_fP (fun k => k = 19) τ (gb_si τ 19 0 2 (nZ (A.2.2.1.length - 1 : Nat))) := fP_si fP_rf rfl
      refine ⟨gb_si τ 19 0 2 (nZ (A.2.2.1.length - 1 : Nat)), ?_, ⟨SC_fP f2 (fun k _ _ => by omega) a2, keptC_fP f2 (by omega) (fun k _ _ => by omega) (keptC_fS a3 (by omega) (keptC_fP f (by omega) (fun k _ _ => by omega) hC.2.1)), ⟨(n + 8 - 1) % 8, by omega, by rw [si_i (by omega)]; exact t1, by rw [si_s, hdl], by rw [hdl]; omega, fun i hi => ?_⟩, textC_fP f2 (by omega) (by omega) (textC_fP (fS_fP a3) (by omega) (by omega) (textC_fP f (by omega) (by omega) hC.2.2.2.1)), rowC_fP f2 (by omega) (by omega) (rowC_fP (fS_fP a3) (by omega) (by omega) (rowC_fP f (by omega) (by omega) hC.2.2.2.2))⟩, fP_tr (fP_w f (fun k hk => by omega)) (fP_tr (fP_w (fS_fP a3) (fun k hk => by omega)) (fP_w f2 (fun k hk => by omega)))⟩
      · rw [e_X9_undo, e_X3_takeBack, h2, if_neg (by rw [z0, z_eq ⟨by omega, by omega⟩ ⟨by omega, by omega⟩]; omega), h1]
        have ee : (nZ n + 8) - 1 = nZ (n + 8 - 1 : Nat) := by
          rw [z8, z1, z_add, z_sub]; exact congrArg nZ (by omega)
        rw [ee, hm, si_s]
        simp (disch := omega) only [g_in, z_tn, Int.toNat_natCast, a1, g_b0, t2]
        have e1 : nZ A.2.2.1.length - 1 = nZ (A.2.2.1.length - 1 : Nat) := by rw [z1, z_sub]; exact congrArg nZ (by omega)
        rw [e1, g_b1, e10, si_s]
      · rw [hdl] at hi ⊢
        rw [gd_last (by omega)]
        have := hh i (by omega)
        rw [show 2 + (n + 8 - A.2.2.1.length + i) % 8 = 2 + ((n + 8 - 1) % 8 + 8 - (A.2.2.1.length - 1) + i) % 8 by omega] at this
        exact SC_fP f2 (fun k _ _ => by omega) (SC_fS a3 (by omega) (SC_fP f (fun k _ _ => by omega) this))
    · obtain ⟨hM1, f1⟩ := MC_t (v := 0) hM
      obtain ⟨h5, _, hh⟩ := hM1.2.2.1
      obtain ⟨q1, q2⟩ := hh (A.2.2.1.length - 1) (by omega)
      rw [hs] at q1 q2
      have f2 : gb_fX (fun k => k = 37) (fun x => x = 5) (gb_si σ 36 0 10 0) (gb_si (gb_si σ 36 0 10 0) 36 0 5 (nZ (A.2.2.1.length - 1 : Nat))) := fX_si fX_rf (Or.inr ⟨rfl, rfl⟩)
      obtain ⟨τ, g1, g2, g3, g4⟩ := cpl (n := 176) (kd := 37) (ks := 40) (od := 0) (os := 176 * (A.2.2.1.length - 1)) (σ := gb_si (gb_si σ 36 0 10 0) 36 0 5 (nZ (A.2.2.1.length - 1 : Nat))) (fun i τ => j_X10_undo_27 (nZ i) τ) (Or.inl (by omega)) (by
        intro i hi τ f
        have e5 : τ.1 36 0 5 = nZ (A.2.2.1.length - 1 : Nat) := by rw [f.1 36 0 5 (by omega), si_s]
        show j_X10_undo_27 _ _ = _
        rw [e_X10_undo_27]
        simp (disch := omega) only [z0, z1, z2, z3, z4, z5, z6, z12, z18, z48, z54, z60, z66, z174, z175, z_neg, z_add, z_sub, z_mul, z_tn, g_in, g_b0, g_b1, Int.toNat_natCast, z_le, z_lt, z_eq, z_mx, z_mn, if_pos, if_neg, if_true, if_false, z176, e5, z176i, Nat.zero_add, Int.natCast_add, Int.natCast_one])
      have f3 := fX_tr f2 (fP_fX0 (I := fun x => x = 5) g2 (fun k _ z => z) (by omega))
      have e5 : τ.1 36 0 5 = nZ (A.2.2.1.length - 1 : Nat) := by rw [g2.1 36 0 5 (by omega), si_s]
      have hM2 : gb_MM τ s := ⟨RM_cg q1 q2.2.2.2.2.2.1 (fun x hx => by have := g3 x hx; rw [Nat.zero_add] at this; rw [Nat.zero_add, this, si_k (by omega)]), q2⟩
      refine ⟨τ, ?_, ⟨hM2, keptM_fX f3 (by omega) (by omega) hM1.2.1, ⟨by rw [e5, hdl], by rw [hdl]; omega, fun i hi => ?_⟩, textM_fX f3 (by omega) (by omega) hM1.2.2.2.1, rowM_fX f3 (by omega) (by omega) hM1.2.2.2.2⟩, fP_tr (fX_fP f1 (fun k z => z.elim)) (fX_fP f3 (fun k z => by omega))⟩
      · have h5' : (gb_si σ 36 0 10 0).1 36 0 5 = nZ A.2.2.1.length := h5
        have g1' : j_X10_undo_27 0 (gb_si (gb_si σ 36 0 10 0) 36 0 5 (nZ (A.2.2.1.length - 1 : Nat))) = j_X10_undo_27 (nZ (176 : Nat)) τ := g1
        have e1 : nZ A.2.2.1.length - 1 = nZ (A.2.2.1.length - 1 : Nat) := by rw [z1, z_sub]; exact congrArg nZ (by omega)
        rw [e_X10_undo, h5', if_neg (by rw [z0, z_eq ⟨by omega, by omega⟩ ⟨by omega, by omega⟩]; omega), e1, g1', e_X10_undo_27, if_pos (by decide), e5]
      · have hi' : i < A.2.2.1.dropLast.length := hi
        show gb_RM (τ.1 40 0) (176 * i) (A.2.2.1.dropLast.getD i s0) ∧ gb_IV (A.2.2.1.dropLast.getD i s0)
        rw [gd_last (by omega)]
        obtain ⟨r1, r2⟩ := hh i (by omega)
        exact ⟨RM_cg r1 r2.2.2.2.2.2.1 (fun x _ => (f3.1 40 0 _ (by omega) (by omega)).1), r2⟩
