/-! ASKS 2: the ROW told anew; layer, value, all, mixed -/
def KC (σ0 σ : gb_M) (A : gb_Ab) : Prop := CC σ A ∧ gb_fP (fun k => k < 36 ∧ k ≠ 31) σ0 σ
def KM (σ0 σ : gb_M) (A : gb_Ab) : Prop := MC σ A ∧ gb_fP (fun k => 36 ≤ k) σ0 σ
theorem T2_K {fc fm : gb_F} {ac am : List gb_V} {A : gb_Ab} (r : Option gb_V) (A' : gb_Ab) (hA' : wfA A') (hc : ∀ σ, KC σ σ A → ∃ σ', fc ac σ = some (r, σ') ∧ KC σ σ' A') (hm : ∀ σ, KM σ (gb_si σ 36 0 10 0) A → ∃ σ', fm am σ = some (r, σ') ∧ KM σ σ' A') : gb_T2 fc fm ac am A :=
  ⟨r, A', hA', fun σ hC _ => hc σ ⟨hC, fP_rf⟩, fun σ hM => hm σ ⟨(MC_t hM).1, fX_fP (MC_t hM).2 (fun k z => z.elim)⟩⟩
theorem wf_setR {A : gb_Ab} {R : List Int64} (hA : wfA A) : wfA (setR A R) := hA
theorem T2_G {fc fm : gb_F} {ac am : List gb_V} {A : gb_Ab} (r : Option gb_V) (A' : gb_Ab) (hA' : wfA A') (hc : ∀ σ, KC σ σ A → goneC σ → ∃ σ', fc ac σ = some (r, σ') ∧ KC σ σ' A') (hm : ∀ σ, KM σ (gb_si σ 36 0 10 0) A → ∃ σ', fm am σ = some (r, σ') ∧ KM σ σ' A') : gb_T2 fc fm ac am A :=
  ⟨r, A', hA', fun σ hC hg => hc σ ⟨hC, fP_rf⟩ hg, fun σ hM => hm σ ⟨(MC_t hM).1, fX_fP (MC_t hM).2 (fun k z => z.elim)⟩⟩
section KK
variable {σ0 σ : gb_M} {A : gb_Ab} {R : List Int64}
theorem KC_fP {P : Nat → Prop} {σ' : gb_M} (h : KC σ0 σ A) (f : gb_fP P σ σ') (hP : ∀ k, k ≤ 22 → ¬ P k) (hP' : ∀ k, P k → k < 36 ∧ k ≠ 31) : KC σ0 σ' A := ⟨CC_fP f hP h.1, fP_tr h.2 (fP_w f hP')⟩
theorem KM_fX {Q I : Nat → Prop} {σ' : gb_M} (h : KM σ0 σ A) (f : gb_fX Q I σ σ') (hq : ¬ Q 37 ∧ ¬ Q 39 ∧ ¬ Q 40 ∧ ¬ Q 41 ∧ ¬ Q 42) (hi : ¬ I 3 ∧ ¬ I 5 ∧ ¬ I 7 ∧ ¬ I 9) (hQ : ∀ k, Q k → 36 ≤ k) : KM σ0 σ' A := ⟨MC_fX f hq hi h.1, fP_tr h.2 (fX_fP f hQ)⟩
theorem kc_start (h : KC σ0 σ A) : ∃ σ', f_X4_start [gR 21 0] σ = some (none, σ') ∧ KC σ0 σ' (setR A []) := by
  obtain ⟨σ', a1, a2, a3⟩ := c_start σ
  exact ⟨σ', a1, CC_row a3 (fun k hk => by omega) h.1 a2, fP_tr h.2 (fP_w a3 (fun k hk => by omega))⟩
theorem kc_add (h : KC σ0 σ (setR A R)) (hl : R.length < 8) (x : Int64) : ∃ σ', f_X4_add [gR 21 0, gL x] σ = some (none, σ') ∧ KC σ0 σ' (setR A (R ++ [x])) := by
  obtain ⟨σ', a1, a2, a3⟩ := c_add h.1.2.2.2.2 hl x
  exact ⟨σ', a1, CC_row (A := setR A R) a3 (fun k hk => by omega) h.1 a2, fP_tr h.2 (fP_w a3 (fun k hk => by omega))⟩
theorem km_start (h : KM σ0 σ A) : KM σ0 (gb_si σ 36 0 9 0) (setR A []) := by
  have f : gb_fX (fun k => k = 42) (fun x => x = 9) σ (gb_si σ 36 0 9 0) := fX_si fX_rf (Or.inr ⟨rfl, rfl⟩)
  exact ⟨MC_row f ⟨by omega, by omega, by omega, by omega⟩ ⟨by omega, by omega, by omega⟩ h.1 (m_start σ), fP_tr h.2 (fX_fP f (fun k hk => by omega))⟩
theorem kc_loop {n : Nat} (hn : n ≤ 8) (J : Nat → gb_M → gb_R) (f : Nat → Int64) (h : KC σ0 σ (setR A [])) (hs : ∀ i, i < n → ∀ τ τ', KC σ0 τ (setR A (rowOf i f)) → f_X4_add [gR 21 0, gL (f i)] τ = some (none, τ') → KC σ0 τ' (setR A (rowOf (i + 1) f)) → J i τ = J (i + 1) τ') : ∃ τ, J 0 σ = J n τ ∧ KC σ0 τ (setR A (rowOf n f)) := by
  refine lph J (fun i τ => KC σ0 τ (setR A (rowOf i f))) h (fun i hi τ hK => ?_)
  obtain ⟨τ', a1, a2⟩ := kc_add hK (by rw [rowOf_len]; omega) (f i)
  exact ⟨τ', hs i hi τ τ' hK a1 a2, a2⟩
/-- the ROW of six, and what follows when it is told -/
theorem m_DAY (h : KM σ0 σ A) : σ.1 37 0 174 = nZ (sY A.1) := by
  have := h.1.1.1.2.2.2.2.2.2.2.1
  rwa [Nat.zero_add] at this
end KK
theorem e174 : (174 : Int32).toNatClampNeg = 174 := by decide
theorem g174 {f : gb_R} : gb_gd (gb_in 174 176) f = f := g_gd (by decide)
def mxH (s : gb_St) (g h : Nat) : Int := sm 6 (fun b => lM s (sB s b) g h)