/-! LAND -/
def ldA (A : gb_Ab) (x : Option (gb_Ru × Nat) × Nat) : gb_Ab := match x.1 with
  | none => setT A []
  | some y => (sN y.1, none, [], [], A.2.2.2.2)
theorem SC_fU {σ σ' : gb_M} {j : Nat} {s : gb_St} (h : fU σ σ') (hS : gb_SC σ j s) : gb_SC σ' j s := by
  obtain ⟨⟨h1, h2, h3, h4, h5, h6, h7, h8⟩, ⟨r1, r2, r3, r4⟩, hI⟩ := hS
  have e : ∀ k i x, 10 ≤ k → σ'.1 k i x = σ.1 k i x := fun k i x a => (h k i x (by omega)).1
  have e0 : ∀ k x, 3 ≤ k → σ'.1 k 0 x = σ.1 k 0 x := fun k x a => (h k 0 x (by omega)).1
  refine ⟨⟨fun g hg => ?_, fun g hg => ?_, fun g hg => ?_, fun g hg => ?_, fun b i hb hi => ?_, fun b g hb hg => ?_, ?_, ?_⟩, ⟨fun g hg => ?_, fun g hg => ?_, fun g k hg hk => ?_, fun g hg => ?_⟩, hI⟩
  · rw [e _ _ _ (by omega)]; exact h1 g hg
  · rw [e _ _ _ (by omega)]; exact h2 g hg
  · rw [e _ _ _ (by omega)]; exact h3 g hg
  · rw [e _ _ _ (by omega)]; exact h4 g hg
  · rw [e _ _ _ (by omega), e _ _ _ (by omega), e _ _ _ (by omega)]; exact h5 b i hb hi
  · rw [e _ _ _ (by omega)]; exact h6 b g hb hg
  · rw [e _ _ _ (by omega)]; exact h7
  · rw [e _ _ _ (by omega)]; exact h8
  · rw [e0 _ _ (by omega)]; exact r1 g hg
  · rw [e0 _ _ (by omega)]; exact r2 g hg
  · rw [e0 _ _ (by omega)]; exact r3 g k hg hk
  · rw [e0 _ _ (by omega)]; exact r4 g hg
theorem CC_fU {σ σ' : gb_M} {A : gb_Ab} {T : List Int} (h : fU σ σ') (hC : CC σ A) (hT : textC σ' T) : CC σ' (setT A T) := by
  obtain ⟨c1, ⟨c2, c2'⟩, ⟨n, p1, p2, p3, p4, p5⟩, -, c5⟩ := hC
  exact ⟨SC_fU h c1, ⟨by rw [(h 0 0 5 (by omega)).1]; exact c2, fun s hs => SC_fU h (c2' s hs)⟩, ⟨n, p1, by rw [(h 19 0 1 (by omega)).1]; exact p2, by rw [(h 19 0 2 (by omega)).1]; exact p3, p4, fun i hi => SC_fU h (p5 i hi)⟩, hT, rowC_fP (fU_fP h) (by omega) (by omega) c5⟩
theorem fU_t {σ σ' : gb_M} {i : Nat} {v : Int32} (h : fU σ σ') : fU σ (gb_si σ' 1 0 i v) := fU_tr h (fU_1 (fP_si fP_rf rfl))
theorem wf_ld {A : gb_Ab} (hA : wfA A) (hu : ∀ u N, (ldT A.2.2.2.1).1 = some (u, N) → uI u) : wfA (ldA A (ldT A.2.2.2.1)) := by
  unfold ldA
  cases hl : (ldT A.2.2.2.1).1 with
  | none => exact hA
  | some y =>
    show wfA (sN y.1, none, [], [], A.2.2.2.2)
    refine ⟨sN_gd (hu y.1 y.2 hl), ?_, ?_, ?_⟩
    · intro s hs; cases hs
    · intro i hi; cases hi
    · show (0 : Nat) ≤ 8; omega
theorem c_land {σ0 σ : gb_M} {A : gb_Ab} (h : KC σ0 σ A) : (∃ σ', f_X9_land [gR 0 0] σ = some (some (gI (nZ (rlE (ldT A.2.2.2.1)))), σ') ∧ KC σ0 σ' (ldA A (ldT A.2.2.2.1))) := by
  obtain ⟨a, b, c, d⟩ := h.1.2.2.2.1
  generalize hT : A.2.2.2.1 = T at a b c d
  have c1 : cR (gb_si σ 1 0 2 0) T 0 := ⟨⟨by rw [si_i (by omega)]; exact a, b, fun i hi => by rw [si_k (by omega)]; exact c i hi, d⟩, by rw [si_s]; rfl, by omega⟩
  obtain ⟨τ, q, a1, a2, a3, a4, a5⟩ := p_rread c1
  have f1 : fU σ (gb_si τ 1 0 1 0) := fU_t (fU_tr (fU_1 (fP_si fP_rf rfl)) a3)
  have hT0 : textC (gb_si τ 1 0 1 0) [] := ⟨by rw [si_s]; rfl, by simp, fun i hi => (by cases hi), fun i hi => (by cases hi)⟩
  have hC1 := CC_fU f1 h.1 hT0
  rw [e_X9_land, e_X8_start, g_b0, a1, g_b1, e_X8_clear, g_b0]
  unfold ldA
  cases hl : (ldT T).1 with
  | none =>
    have er : rlE (ldT T) = -21 - ((ldT T).2 : Int) := by unfold rlE; rw [hl]
    rw [er, if_neg (by rw [z0, z_le ⟨by omega, by omega⟩ ⟨by omega, by omega⟩]; omega)]
    exact ⟨_, rfl, hC1, fP_tr h.2 (fP_w (fU_fP f1) (fun k hk => by omega))⟩
  | some y =>
    obtain ⟨u, N⟩ := y
    obtain ⟨hU, hI, hN⟩ := a4 u N hl
    have er : rlE (ldT T) = (N : Int) := by unfold rlE; rw [hl]
    rw [er, if_pos (by rw [z0, z_le ⟨by omega, by omega⟩ ⟨by omega, by omega⟩]; omega)]
    obtain ⟨u1, u2, u3, u4, u5, -, -, -⟩ := cU_fP (P := fun k => k = 1) (σ' := gb_si τ 1 0 1 0) (fP_si fP_rf rfl) (fun k _ _ => by omega) hU
    generalize gb_si τ 1 0 1 0 = s4 at f1 hT0 hC1 u1 u2 u3 u4 u5
    obtain ⟨s5, b1, b2, b3, b4⟩ := p_rcopy s4
    obtain ⟨s6, d1, d2, d3, d4, d5, d6⟩ := p_sclear s5
    have d7 := fS_fP d6
    rw [b1, g_b0, d1, g_b0, e_X3_clear, g_b0]
    refine ⟨_, rfl, ⟨⟨sN_RS (fun g hg => ?_) (fun g hg => ?_) (fun x hx => ?_) ?_ ?_, ⟨fun g hg => ?_, fun g hg => ?_, fun g k hg hk => ?_, fun g hg => ?_⟩, (sN_gd hI).1⟩, ⟨by rw [si_s]; rfl, fun s hs => by cases hs⟩, ?_, ?_, ?_⟩, ?_⟩
    · rw [si_k (by omega), si_k (by omega), (d2 g hg).1, (b2 g hg).1]; exact u1 g hg
    · obtain ⟨-, z2, z3, z4⟩ := d2 g hg
      simp (disch := omega) only [si_k]
      exact ⟨z2, z3, z4⟩
    · rw [si_k (by omega), si_k (by omega)]; exact d3 x hx
    · rw [si_k (by omega), si_k (by omega)]; exact d4
    · rw [si_k (by omega), si_k (by omega)]; exact d5
    · rw [si_k (by omega), si_k (by omega), d6.1 5 0 g (by omega), (b2 g hg).2.1, u2 g hg]
      exact congrArg nZ (sN_1 (by omega)).symm
    · rw [si_k (by omega), si_k (by omega), d6.1 6 0 g (by omega), (b2 g hg).2.2.2, u3 g hg]
      exact congrArg nZ (sN_1 (by omega)).symm
    · rw [si_k (by omega), si_k (by omega), d6.1 7 0 _ (by omega), b3 _ (by omega), u4 g k hg hk, sN_O hg hk]
    · rw [si_k (by omega), si_k (by omega), d6.1 8 0 g (by omega), (b2 g hg).2.2.1, u5 g hg]
      exact bm_cg (fun k hk => by rw [sN_O hg hk])
    · obtain ⟨n, p1, p2, -, -, -⟩ := hC1.2.2.1
      refine ⟨n, p1, ?_, ?_, by show (0 : Nat) ≤ 8; omega, fun i hi => by cases hi⟩
      · rw [si_k (by omega), si_i (by omega), d6.1 19 0 1 (by omega), (b4 19 0 1 (by omega)).1]; exact p2
      · rw [si_k (by omega), si_s]; rfl
    · exact textC_fP (P := fun k => k = 19 ∨ k = 0) (fP_si (fP_si fP_rf (Or.inl rfl)) (Or.inr rfl)) (by omega) (by omega) (textC_fP d7 (by omega) (by omega) (textC_fP (fI_fP b4) (by omega) (by omega) hT0))
    · exact rowC_fP (P := fun k => k = 19 ∨ k = 0) (fP_si (fP_si fP_rf (Or.inl rfl)) (Or.inr rfl)) (by omega) (by omega) (rowC_fP d7 (by omega) (by omega) (rowC_fP (fI_fP b4) (by omega) (by omega) hC1.2.2.2.2))
    · exact fP_tr h.2 (fP_tr (fP_w (fU_fP f1) (fun k hk => by omega)) (fP_tr (fP_w (fI_fP b4) (fun k hk => by omega)) (fP_tr (fP_w d7 (fun k hk => by omega)) (fP_si (fP_si fP_rf (by omega)) (by omega)))))
theorem ldT_I {T : List Int} (hr : ∀ i, i < T.length → 0 ≤ T.getD i 0 ∧ T.getD i 0 ≤ 255) : ∀ u N, (ldT T).1 = some (u, N) → uI u := by
  have key : ∀ m u n p, uI u → ∀ u' N, (rlS T m u n p).1 = some (u', N) → uI u' := by
    intro m
    induction m with
    | zero => intro u n p _ u' N z; cases z
    | succ m ih =>
      intro u n p hI u' N z
      unfold rlS at z
      cases hl : (rlL T u p).1 with
      | none => rw [hl] at z; cases z
      | some v =>
        rw [hl] at z
        dsimp only at z
        obtain ⟨hv, -⟩ := rlL_q hI hl
        by_cases c2 : (rlL T u p).2 < T.length
        · rw [if_pos c2] at z
          by_cases c4 : tA T (rlL T u p).2 = 59
          · rw [if_pos c4] at z; exact ih _ _ _ hv _ _ z
          · rw [if_neg c4] at z; cases z
        · rw [if_neg c2] at z; cases z; exact hv
  intro u N z
  unfold ldT at z
  split at z
  · cases z; exact uI_0
  · exact key _ _ _ _ uI_0 _ _ z
theorem m_land {σ0 σ : gb_M} {A : gb_Ab} (hA : ∀ u N, (ldT A.2.2.2.1).1 = some (u, N) → uI u) (h : KM σ0 (gb_si σ 36 0 10 0) A) : ∃ σ', f_X10_land [gR 36 0] σ = some (some (gI (nZ (rlE (ldT A.2.2.2.1)))), σ') ∧ KM σ0 σ' (ldA A (ldT A.2.2.2.1)) := by
  rw [e_X10_land]
  generalize gb_si σ 36 0 10 0 = σ at h
  obtain ⟨a, b, c, d⟩ := h.1.2.2.2.1
  generalize hT : A.2.2.2.1 = T at a b c d hA
  rw [e_X10_begin, g_b0, a]
  generalize hs1 : gb_si (gb_si (gb_si (gb_si σ 36 0 16 (nZ T.length)) 36 0 7 0) 36 0 17 0) 36 0 18 (-1) = s1
  obtain ⟨τ, t1, t2, t3⟩ := m_11 s1
  rw [t1, e_X10_land_11, if_pos (by decide)]
  have e36 : ∀ x, τ.1 36 0 x = s1.1 36 0 x := fun x => t2.1 36 0 x (by omega)
  have f1 : gb_fX (fun k => k = 46) (fun x => x = 7 ∨ x = 16 ∨ (17 ≤ x ∧ x ≤ 20)) σ s1 := by
    rw [← hs1]
    exact fX_si (fX_si (fX_si (fX_si fX_rf (Or.inr ⟨rfl, by omega⟩)) (Or.inr ⟨rfl, by omega⟩)) (Or.inr ⟨rfl, by omega⟩)) (Or.inr ⟨rfl, by omega⟩)
  have f2 : gb_fX (fun k => k = 46) (fun x => x = 7 ∨ x = 16 ∨ (17 ≤ x ∧ x ≤ 20)) s1 τ := fP_fX0 t2 (fun k _ z => z) (by omega)
  generalize hs2 : gb_sl (gb_si (gb_si τ 36 0 19 0) 36 0 20 0) 36 0 21 0 = s2
  have f3 : gb_fX (fun k => k = 46) (fun x => x = 7 ∨ x = 16 ∨ (17 ≤ x ∧ x ≤ 20)) τ s2 := by
    rw [← hs2]
    exact fX_sl (fX_si (fX_si fX_rf (Or.inr ⟨rfl, by omega⟩)) (Or.inr ⟨rfl, by omega⟩)) (Or.inl rfl)
  have fa := fX_tr f1 (fX_tr f2 f3)
  have e7 : s2.1 36 0 7 = 0 := by
    rw [← hs2, sl_1]; simp (disch := omega) only [si_i]; rw [e36, ← hs1]; simp (disch := omega) only [si_i, si_s]
  have e16 : s2.1 36 0 16 = nZ T.length := by
    rw [← hs2, sl_1]; simp (disch := omega) only [si_i]; rw [e36, ← hs1]; simp (disch := omega) only [si_i, si_s]
  have e17 : s2.1 36 0 17 = nZ (0 : Nat) := by
    rw [← hs2, sl_1]; simp (disch := omega) only [si_i]; rw [e36, ← hs1]; simp (disch := omega) only [si_i, si_s]; rfl
  have e18 : s2.1 36 0 18 = -1 := by
    rw [← hs2, sl_1]; simp (disch := omega) only [si_i]; rw [e36, ← hs1]; simp (disch := omega) only [si_s]
  have hR : mR s2 T 0 := ⟨e16, e17, e18, by omega, b, fun i hi => by rw [(fa.1 41 0 i (by omega) (by omega)).1]; exact c i hi, d⟩
  have hU : mU s2 ru0 := by
    refine ⟨fun k hk => ?_, ?_, ?_, fun x y _ _ _ => ?_⟩
    · rw [← hs2, sl_1, si_k (by omega), si_k (by omega)]; exact t3 k hk
    · rw [← hs2, sl_1, si_i (by omega), si_s]; exact (bm_no (fun k hk => rfl)).symm
    · rw [← hs2, sl_1, si_s]; exact (bm_no (fun k hk => rfl)).symm
    · rw [← hs2, sl_s]; show pt 0 _ = false; simp [pt]
  have hS : mS (if s2.1 36 0 16 ≤ 0 then j_X10_land_77 0 0 s2 else j_X10_land_77 0 1 s2) s2 (ldT T) := by
    unfold ldT
    rw [e16]
    by_cases c0 : T.length = 0
    · rw [if_pos c0, if_pos (show nZ T.length ≤ 0 by rw [c0]; decide), st_R hR c0.symm]
      exact ⟨s2, fX_rf, fun z => (by cases z), fun u N z => (by cases z; exact ⟨rfl, hU⟩)⟩
    · rw [if_neg c0, if_neg (show ¬ nZ T.length ≤ 0 by rw [z0, z_le ⟨by omega, by omega⟩ ⟨by omega, by omega⟩]; omega)]
      exact m_rlS (T := T) (T.length + 1) ru0 0 0 s2 (by omega) uI_0 hR hU
  obtain ⟨σ', g1, g2, g3⟩ := hS
  have g1' : gb_fX (fun k => k = 46) (fun x => x = 7 ∨ x = 16 ∨ (17 ≤ x ∧ x ≤ 20)) s2 σ' := fX_w g1 (fun k z => z) (fun x z => by omega)
  have fb := fX_tr fa g1'
  have hT0 : textM σ' [] := ⟨by rw [g1.2 7 (by omega), e7]; rfl, by simp, fun i hi => (by cases hi), fun i hi => (by cases hi)⟩
  have hM1 := MC_text fb ⟨by omega, by omega, by omega, by omega⟩ ⟨by omega, by omega, by omega⟩ h.1 hT0
  unfold ldA
  cases hl : (ldT T).1 with
  | none =>
    have er : rlE (ldT T) = -21 - ((ldT T).2 : Int) := by unfold rlE; rw [hl]
    rw [er]
    exact ⟨σ', g2 hl, hM1, fP_tr h.2 (fX_fP fb (fun k hk => by omega))⟩
  | some y =>
    obtain ⟨u, N⟩ := y
    obtain ⟨k1, k2⟩ := g3 u N hl
    have er : rlE (ldT T) = (N : Int) := by unfold rlE; rw [hl]
    obtain ⟨τ1, b1, b2, b3⟩ := m_begins σ'
    obtain ⟨τ2, d1, d2, d3⟩ := m_185 (N := N) (u := u) (σ := τ1) (fun k hk => by rw [b2.1 46 0 k (by omega)]; exact k2.1 k hk) b3
    have f5 : gb_fX (fun k => k = 37) (fun x => x = 3 ∨ x = 5) σ' τ2 := fP_fX0 (fP_tr b2 d2) (fun k _ z => z) (by omega)
    have f6 : gb_fX (fun k => k = 37) (fun x => x = 3 ∨ x = 5) σ' (gb_si (gb_si τ2 36 0 5 0) 36 0 3 0) := fX_si (fX_si f5 (Or.inr ⟨rfl, Or.inr rfl⟩)) (Or.inr ⟨rfl, Or.inl rfl⟩)
    refine ⟨_, by rw [er, k1, b1, g_b0, d1], ⟨⟨RM_cg d3 (sN_gd (hA u N hl)).1.2.2.2.2.2.1 (fun x _ => by rw [si_k (by omega), si_k (by omega)]), (sN_gd (hA u N hl)).1⟩, ⟨by rw [si_s]; rfl, fun s hs => by cases hs⟩, ⟨by rw [si_i (by omega), si_s]; rfl, by show (0 : Nat) ≤ 8; omega, fun i hi => by cases hi⟩, textM_fX f6 (by omega) (by omega) hT0, rowM_fX f6 (by omega) (by omega) hM1.2.2.2.2⟩, fP_tr h.2 (fP_tr (fX_fP fb (fun k hk => by omega)) (fX_fP f6 (fun k hk => by omega)))⟩
theorem th_land {A : gb_Ab} (hA : wfA A) (hT : ∀ i, i < A.2.2.2.1.length → 0 ≤ A.2.2.2.1.getD i 0 ∧ A.2.2.2.1.getD i 0 ≤ 255) : gb_T2 f_X9_land f_X10_land [gR 0 0] [gR 36 0] A :=
  T2_K (some (gI (nZ (rlE (ldT A.2.2.2.1))))) (ldA A (ldT A.2.2.2.1)) (wf_ld hA (ldT_I hT)) (fun σ h => c_land h) (fun σ h => m_land (ldT_I hT) h)
