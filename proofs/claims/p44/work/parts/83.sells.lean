/-! SERVES, PICKS, SELLS -/
theorem MM_ext {σ : gb_M} {s s' : gb_St} (h1 : s'.1 = s.1) (h2 : ∀ b, b < 6 → s'.2 b = s.2 b) (h : gb_MM σ s) : gb_MM σ s' := by
  obtain ⟨⟨mW, mK, mO, mC, mP, mN, mL, mY, mQ⟩, iw, ik, io, ic, ip, il, id⟩ := h
  have e : ∀ b, b < 6 → sB s' b = sB s b := h2
  refine ⟨⟨fun g hg => ?_, fun g hg => ?_, fun g k hg hk => ?_, fun b hb => ?_, fun b hb => ?_, fun b hb => ?_, fun b i hb hi => ?_, ?_, ?_⟩, fun g hg => ?_, fun g hg => ?_, fun g k hg hk => ?_, fun b hb => ?_, fun b hb => ?_, fun b hb => ?_, ?_⟩
  · unfold sW; rw [h1]; exact mW g hg
  · unfold sK; rw [h1]; exact mK g hg
  · unfold sO; rw [h1]; exact mO g k hg hk
  · unfold sC; rw [h1]; exact mC b hb
  · unfold sP; rw [h1]; exact mP b hb
  · rw [e b hb]; exact mN b hb
  · rw [e b hb] at hi ⊢; exact mL b i hb hi
  · unfold sY; rw [h1]; exact mY
  · unfold sQ; rw [h1]; exact mQ
  · unfold sW; rw [h1]; exact iw g hg
  · unfold sK; rw [h1]; exact ik g hg
  · unfold sO; rw [h1]; exact io g k hg hk
  · unfold sC; rw [h1]; exact ic b hb
  · unfold sP; rw [h1]; exact ip b hb
  · rw [e b hb]; exact il b hb
  · unfold iD sY sQ; rw [h1]; exact id
theorem kc_addx {σ0 σ : gb_M} {A : gb_Ab} {R : List Int64} (h : KC σ0 σ (setR A R)) (hl : R.length < 8) (x : Int64) : ∃ σ', f_X4_add [gR 21 0, gL x] σ = some (none, σ') ∧ KC σ0 σ' (setR A (R ++ [x])) ∧ gb_fP (fun k => k = 21 ∨ k = 22) σ σ' := by
  obtain ⟨σ', a1, a2, a3⟩ := c_add h.1.2.2.2.2 hl x
  exact ⟨σ', a1, ⟨CC_row (A := setR A R) a3 (fun k hk => by omega) h.1 a2, fP_tr h.2 (fP_w a3 (fun k hk => by omega))⟩, a3⟩
theorem kc_startx {σ0 σ : gb_M} {A : gb_Ab} (h : KC σ0 σ A) : ∃ σ', f_X4_start [gR 21 0] σ = some (none, σ') ∧ KC σ0 σ' (setR A []) ∧ gb_fP (fun k => k = 21 ∨ k = 22) σ σ' := by
  obtain ⟨σ', a1, a2, a3⟩ := c_start σ
  exact ⟨σ', a1, ⟨CC_row a3 (fun k hk => by omega) h.1 a2, fP_tr h.2 (fP_w a3 (fun k hk => by omega))⟩, a3⟩
theorem goneC_K {σ0 σ : gb_M} {A : gb_Ab} (h : KC σ0 σ A) (hg : goneC σ0) : goneC σ := fun b hb => by rw [h.2.1 31 0 b (by omega)]; exact hg b hb
/-- a row of bins is told -/
theorem kc_bins {σ0 σ : gb_M} {A : gb_Ab} (h : KC σ0 σ (setR A [])) {n : Nat} (hn : n ≤ 6) {w : List Nat} {kd : Nat} (hk : kd ≠ 21 ∧ kd ≠ 22) (J : Nat → gb_M → gb_R) (hw : ∀ i, i < n → σ.1 kd 0 i = nZ (wz w i)) (hs : ∀ i, i < n → ∀ τ τ', gb_fP (fun k => k = 21 ∨ k = 22) σ τ → τ.1 kd 0 i = nZ (wz w i) → f_X4_add [gR 21 0, gL (nZ (wz w i)).toInt64] τ = some (none, τ') → J i τ = J (i + 1) τ') : ∃ τ, J 0 σ = J n τ ∧ KC σ0 τ (setR A (rowOf n (fun i => (nZ (wz w i)).toInt64))) ∧ gb_fP (fun k => k = 21 ∨ k = 22) σ τ := by
  refine lph J (fun i τ => KC σ0 τ (setR A (rowOf i (fun i => (nZ (wz w i)).toInt64))) ∧ gb_fP (fun k => k = 21 ∨ k = 22) σ τ) ⟨h, fP_rf⟩ (fun i hi τ ⟨hK, f⟩ => ?_)
  obtain ⟨τ', a1, a2, a3⟩ := kc_addx hK (by rw [rowOf_len]; omega) (nZ (wz w i)).toInt64
  exact ⟨τ', hs i hi τ τ' f (by rw [f.1 kd 0 i (by omega)]; exact hw i hi) a1, a2, fP_tr f a3⟩