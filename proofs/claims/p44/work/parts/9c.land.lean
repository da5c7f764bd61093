/-! LAND -/
def ldA (A : gb_Ab) (x : Option (gb_Ru × Nat) × Nat) : gb_Ab := match x.1 with
  | none => setT A []
  | some y => (sN y.1, none, [], [], A.2.2.2.2)
theorem SC_fU {σ σ' : gb_M} {j : Nat} {s : gb_St} (h : fU σ σ') (hS : gb_SC σ j s) : gb_SC σ' j s := by
  obtain ⟨⟨h1, h2, h3, h4, h5, h6, h7, h8⟩, ⟨r1, r2, r3, r4⟩, hI⟩ := hS
  have e : ∀ k i x, 10 ≤ k → σ'.1 k i x = σ.1 k i x := fun k i x a => (h k i x (by omega)).1
  have e0 : ∀ k x, 3 ≤ k → σ'.1 k 0 x = σ.1 k 0 x := fun k x a => (h k 0 x (by omega)).1
  refine ⟨⟨fun g hg => ?_, fun g hg => ?_, fun g hg => ?_, fun g hg => ?_, fun b i hb hi => ?_, fun b g hb hg => ?_, ?_, ?_⟩, ⟨fun g hg => ?_, fun g hg => ?_, fun g k hg hk => ?_, fun g hg => ?_⟩, hI⟩
  · rw [e _ _ _ (by omega)]; exact h1 g hg
  · rw [e _ _ _ (by omega)]; exact h2 g hg
  · rw [e _ _ _ (by omega)]; exact h3 g hg
  · rw [e _ _ _ (by omega)]; exact h4 g hg
  · rw [e _ _ _ (by omega), e _ _ _ (by omega), e _ _ _ (by omega)]; exact h5 b i hb hi
  · rw [e _ _ _ (by omega)]; exact h6 b g hb hg
  · rw [e _ _ _ (by omega)]; exact h7
  · rw [e _ _ _ (by omega)]; exact h8
  · rw [e0 _ _ (by omega)]; exact r1 g hg
  · rw [e0 _ _ (by omega)]; exact r2 g hg
  · rw [e0 _ _ (by omega)]; exact r3 g k hg hk
  · rw [e0 _ _ (by omega)]; exact r4 g hg
theorem CC_fU {σ σ' : gb_M} {A : gb_Ab} {T : List Int} (h : fU σ σ') (hC : CC σ A) (hT : textC σ' T) : CC σ' (setT A T) := by
  obtain ⟨c1, ⟨c2, c2'⟩, ⟨n, p1, p2, p3, p4, p5⟩, -, c5⟩ := hC
  exact ⟨SC_fU h c1, ⟨by rw [(h 0 0 5 (by omega)).1]; exact c2, fun s hs => SC_fU h (c2' s hs)⟩, ⟨n, p1, by rw [(h 19 0 1 (by omega)).1]; exact p2, by rw [(h 19 0 2 (by omega)).1]; exact p3, p4, fun i hi => SC_fU h (p5 i hi)⟩, hT, rowC_fP (fU_fP h) (by omega) (by omega) c5⟩
theorem fU_t {σ σ' : gb_M} {i : Nat} {v : Int32} (h : fU σ σ') : fU σ (gb_si σ' 1 0 i v) := fU_tr h (fU_1 (fP_si fP_rf rfl))
theorem wf_ld {A : gb_Ab} (hA : wfA A) (hu : ∀ u N, (ldT A.2.2.2.1).1 = some (u, N) → uI u) : wfA (ldA A (ldT A.2.2.2.1)) := by
  unfold ldA
  cases hl : (ldT A.2.2.2.1).1 with
  | none => exact hA
  | some y =>
    show wfA (sN y.1, none, [], [], A.2.2.2.2)
    refine ⟨sN_gd (hu y.1 y.2 hl), ?_, ?_, ?_⟩
    · intro s hs; cases hs
    · intro i hi; cases hi
    · show (0 : Nat) ≤ 8; omega
theorem c_land {σ0 σ : gb_M} {A : gb_Ab} (h : KC σ0 σ A) : (∃ σ', f_X9_land [gR 0 0] σ = some (some (gI (nZ (rlE (ldT A.2.2.2.1)))), σ') ∧ KC σ0 σ' (ldA A (ldT A.2.2.2.1))) := by
  obtain ⟨a, b, c, d⟩ := h.1.2.2.2.1
  generalize hT : A.2.2.2.1 = T at a b c d
  have c1 : cR (gb_si σ 1 0 2 0) T 0 := ⟨⟨by rw [si_i (by omega)]; exact a, b, fun i hi => by rw [si_k (by omega)]; exact c i hi, d⟩, by rw [si_s]; rfl, by omega⟩
  obtain ⟨τ, q, a1, a2, a3, a4, a5⟩ := p_rread c1
  have f1 : fU σ (gb_si τ 1 0 1 0) := fU_t (fU_tr (fU_1 (fP_si fP_rf rfl)) a3)
  have hT0 : textC (gb_si τ 1 0 1 0) [] := ⟨by rw [si_s]; rfl, by simp, fun i hi => (by cases hi), fun i hi => (by cases hi)⟩
  have hC1 := CC_fU f1 h.1 hT0
  rw [e_X9_land, e_X8_start, g_b0, a1, g_b1, e_X8_clear, g_b0]
  unfold ldA
  cases hl : (ldT T).1 with
  | none =>
    have er : rlE (ldT T) = -21 - ((ldT T).2 : Int) := by unfold rlE; rw [hl]
    rw [er, if_neg (by rw [z0, z_le ⟨by omega, by omega⟩ ⟨by omega, by omega⟩]; omega)]
    exact ⟨_, rfl, hC1, fP_tr h.2 (fP_w (fU_fP f1) (fun k hk => by omega))⟩
  | some y =>
    obtain ⟨u, N⟩ := y
    obtain ⟨hU, hI, hN⟩ := a4 u N hl
    have er : rlE (ldT T) = (N : Int) := by unfold rlE; rw [hl]
    rw [er, if_pos (by rw [z0, z_le ⟨by omega, by omega⟩ ⟨by omega, by omega⟩]; omega)]
    obtain ⟨u1, u2, u3, u4, u5, -, -, -⟩ := cU_fP (P := fun k => k = 1) (σ' := gb_si τ 1 0 1 0) (fP_si fP_rf rfl) (fun k _ _ => by omega) hU
    generalize gb_si τ 1 0 1 0 = s4 at f1 hT0 hC1 u1 u2 u3 u4 u5
    obtain ⟨s5, b1, b2, b3, b4⟩ := p_rcopy s4
    obtain ⟨s6, d1, d2, d3, d4, d5, d6⟩ := p_sclear s5
    have d7 := fS_fP d6
    rw [b1, g_b0, d1, g_b0, e_X3_clear, g_b0]
    refine ⟨_, rfl, ⟨⟨sN_RS (fun g hg => ?_) (fun g hg => ?_) (fun x hx => ?_) ?_ ?_, ⟨fun g hg => ?_, fun g hg => ?_, fun g k hg hk => ?_, fun g hg => ?_⟩, (sN_gd hI).1⟩, ⟨by rw [si_s]; rfl, fun s hs => by cases hs⟩, ?_, ?_, ?_⟩, ?_⟩
    · rw [si_k (by omega), si_k (by omega), (d2 g hg).1, (b2 g hg).1]; exact u1 g hg
    · obtain ⟨-, z2, z3, z4⟩ := d2 g hg
      simp (disch := omega) only [si_k]
      exact ⟨z2, z3, z4⟩
    · rw [si_k (by omega), si_k (by omega)]; exact d3 x hx
    · rw [si_k (by omega), si_k (by omega)]; exact d4
    · rw [si_k (by omega), si_k (by omega)]; exact d5
    · rw [si_k (by omega), si_k (by omega), d6.1 5 0 g (by omega), (b2 g hg).2.1, u2 g hg]
      exact congrArg nZ (sN_1 (by omega)).symm
    · rw [si_k (by omega), si_k (by omega), d6.1 6 0 g (by omega), (b2 g hg).2.2.2, u3 g hg]
      exact congrArg nZ (sN_1 (by omega)).symm
    · rw [si_k (by omega), si_k (by omega), d6.1 7 0 _ (by omega), b3 _ (by omega), u4 g k hg hk, sN_O hg hk]
    · rw [si_k (by omega), si_k (by omega), d6.1 8 0 g (by omega), (b2 g hg).2.2.1, u5 g hg]
      exact bm_cg (fun k hk => by rw [sN_O hg hk])
    · obtain ⟨n, p1, p2, -, -, -⟩ := hC1.2.2.1
      refine ⟨n, p1, ?_, ?_, by show (0 : Nat) ≤ 8; omega, fun i hi => by cases hi⟩
      · rw [si_k (by omega), si_i (by omega), d6.1 19 0 1 (by omega), (b4 19 0 1 (by omega)).1]; exact p2
      · rw [si_k (by omega), si_s]; rfl
    · exact textC_fP (P := fun k => k = 19 ∨ k = 0) (fP_si (fP_si fP_rf (Or.inl rfl)) (Or.inr rfl)) (by omega) (by omega) (textC_fP d7 (by omega) (by omega) (textC_fP (fI_fP b4) (by omega) (by omega) hT0))
    · exact rowC_fP (P := fun k => k = 19 ∨ k = 0) (fP_si (fP_si fP_rf (Or.inl rfl)) (Or.inr rfl)) (by omega) (by omega) (rowC_fP d7 (by omega) (by omega) (rowC_fP (fI_fP b4) (by omega) (by omega) hC1.2.2.2.2))
    · exact fP_tr h.2 (fP_tr (fP_w (fU_fP f1) (fun k hk => by omega)) (fP_tr (fP_w (fI_fP b4) (fun k hk => by omega)) (fP_tr (fP_w d7 (fun k hk => by omega)) (fP_si (fP_si fP_rf (by omega)) (by omega)))))
theorem ldT_I {T : List Int} (hr : ∀ i, i < T.length → 0 ≤ T.getD i 0 ∧ T.getD i 0 ≤ 255) : ∀ u N, (ldT T).1 = some (u, N) → uI u := by
  have key : ∀ m u n p, uI u → ∀ u' N, (rlS T m u n p).1 = some (u', N) → uI u' := by
    intro m
    induction m with
    | zero => intro u n p _ u' N z; cases z
    | succ m ih =>
      intro u n p hI u' N z
      unfold rlS at z
      cases hl : (rlL T u p).1 with
      | none => rw [hl] at z; cases z
      | some v =>
        rw [hl] at z
        dsimp only at z
        obtain ⟨hv, -⟩ := rlL_q hI hl
        by_cases c2 : (rlL T u p).2 < T.length
        · rw [if_pos c2] at z
          by_cases c4 : tA T (rlL T u p).2 = 59
          · rw [if_pos c4] at z; exact ih _ _ _ hv _ _ z
          · rw [if_neg c4] at z; cases z
        · rw [if_neg c2] at z; cases z; exact hv
  intro u N z
  unfold ldT at z
  split at z
  · cases z; exact uI_0
  · exact key _ _ _ _ uI_0 _ _ z