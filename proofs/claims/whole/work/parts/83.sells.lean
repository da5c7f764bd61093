/-! SERVES, PICKS, SELLS -/
theorem MM_ext {σ : gb_M} {s s' : gb_St} (h1 : s'.1 = s.1) (h2 : ∀ b, b < 6 → s'.2 b = s.2 b) (h : gb_MM σ s) : gb_MM σ s' := by
  obtain ⟨⟨mW, mK, mO, mC, mP, mN, mL, mY, mQ⟩, iw, ik, io, ic, ip, il, id⟩ := h
  have e : ∀ b, b < 6 → sB s' b = sB s b := h2
  refine ⟨⟨fun g hg => ?_, fun g hg => ?_, fun g k hg hk => ?_, fun b hb => ?_, fun b hb => ?_, fun b hb => ?_, fun b i hb hi => ?_, ?_, ?_⟩, fun g hg => ?_, fun g hg => ?_, fun g k hg hk => ?_, fun b hb => ?_, fun b hb => ?_, fun b hb => ?_, ?_⟩
  · unfold sW; rw [h1]; exact mW g hg
  · unfold sK; rw [h1]; exact mK g hg
  · unfold sO; rw [h1]; exact mO g k hg hk
  · unfold sC; rw [h1]; exact mC b hb
  · unfold sP; rw [h1]; exact mP b hb
  · rw [e b hb]; exact mN b hb
  · rw [e b hb] at hi ⊢; exact mL b i hb hi
  · unfold sY; rw [h1]; exact mY
  · unfold sQ; rw [h1]; exact mQ
  · unfold sW; rw [h1]; exact iw g hg
  · unfold sK; rw [h1]; exact ik g hg
  · unfold sO; rw [h1]; exact io g k hg hk
  · unfold sC; rw [h1]; exact ic b hb
  · unfold sP; rw [h1]; exact ip b hb
  · rw [e b hb]; exact il b hb
  · unfold iD sY sQ; rw [h1]; exact id
theorem kc_addx {σ0 σ : gb_M} {A : gb_Ab} {R : List Int64} (h : KC σ0 σ (setR A R)) (hl : R.length < 8) (x : Int64) : ∃ σ', f_X4_add [gR 21 0, gL x] σ = some (none, σ') ∧ KC σ0 σ' (setR A (R ++ [x])) ∧ gb_fP (fun k => k = 21 ∨ k = 22) σ σ' := by
  obtain ⟨σ', a1, a2, a3⟩ := c_add h.1.2.2.2.2 hl x
  exact ⟨σ', a1, ⟨CC_row (A := setR A R) a3 (fun k hk => by omega) h.1 a2, fP_tr h.2 (fP_w a3 (fun k hk => by omega))⟩, a3⟩
theorem kc_startx {σ0 σ : gb_M} {A : gb_Ab} (h : KC σ0 σ A) : ∃ σ', f_X4_start [gR 21 0] σ = some (none, σ') ∧ KC σ0 σ' (setR A []) ∧ gb_fP (fun k => k = 21 ∨ k = 22) σ σ' := by
  obtain ⟨σ', a1, a2, a3⟩ := c_start σ
  exact ⟨σ', a1, ⟨CC_row a3 (fun k hk => by omega) h.1 a2, fP_tr h.2 (fP_w a3 (fun k hk => by omega))⟩, a3⟩
theorem goneC_K {σ0 σ : gb_M} {A : gb_Ab} (h : KC σ0 σ A) (hg : goneC σ0) : goneC σ := fun b hb => by rw [h.2.1 31 0 b (by omega)]; exact hg b hb
/-- a row of bins is told -/
theorem kc_bins {σ0 σ : gb_M} {A : gb_Ab} (h : KC σ0 σ (setR A [])) {n : Nat} (hn : n ≤ 6) {w : List Nat} {kd : Nat} (hk : kd ≠ 21 ∧ kd ≠ 22) (J : Nat → gb_M → gb_R) (hw : ∀ i, i < n → σ.1 kd 0 i = nZ (wz w i)) (hs : ∀ i, i < n → ∀ τ τ', gb_fP (fun k => k = 21 ∨ k = 22) σ τ → τ.1 kd 0 i = nZ (wz w i) → f_X4_add [gR 21 0, gL (nZ (wz w i)).toInt64] τ = some (none, τ') → J i τ = J (i + 1) τ') : ∃ τ, J 0 σ = J n τ ∧ KC σ0 τ (setR A (rowOf n (fun i => (nZ (wz w i)).toInt64))) ∧ gb_fP (fun k => k = 21 ∨ k = 22) σ τ := by
  refine lph J (fun i τ => KC σ0 τ (setR A (rowOf i (fun i => (nZ (wz w i)).toInt64))) ∧ gb_fP (fun k => k = 21 ∨ k = 22) σ τ) ⟨h, fP_rf⟩ (fun i hi τ ⟨hK, f⟩ => ?_)
  obtain ⟨τ', a1, a2, a3⟩ := kc_addx hK (by rw [rowOf_len]; omega) (nZ (wz w i)).toInt64
  exact ⟨τ', hs i hi τ τ' f (by rw [f.1 kd 0 i (by omega)]; exact hw i hi) a1, a2, fP_tr f a3⟩
theorem km_bins {σ0 σ : gb_M} {A : gb_Ab} (h : KM σ0 σ (setR A [])) {n : Nat} (hn : n ≤ 6) {w : List Nat} (J : Nat → gb_M → gb_R) (hw : ∀ i, i < n → σ.1 50 0 i = nZ (wz w i)) (hs : ∀ i, i < n → ∀ τ τ', gb_fX (fun k => k = 42) (fun x => x = 9) σ τ → τ.1 50 0 i = nZ (wz w i) → f_X10_tell [gR 36 0, gL (nZ (wz w i)).toInt64] τ = some (none, τ') → J i τ = J (i + 1) τ') : ∃ τ, J 0 σ = J n τ ∧ KM σ0 τ (setR A (rowOf n (fun i => (nZ (wz w i)).toInt64))) ∧ gb_fX (fun k => k = 42) (fun x => x = 9) σ τ := by
  refine lph J (fun i τ => KM σ0 τ (setR A (rowOf i (fun i => (nZ (wz w i)).toInt64))) ∧ gb_fX (fun k => k = 42) (fun x => x = 9) σ τ) ⟨h, fX_rf⟩ (fun i hi τ ⟨hK, f⟩ => ?_)
  obtain ⟨τ', a1, a2, a3⟩ := km_tellx hK (by rw [rowOf_len]; omega) (nZ (wz w i)).toInt64
  exact ⟨τ', hs i hi τ τ' f (by rw [(f.1 50 0 i (by omega) (by omega)).1]; exact hw i hi) a1, a2, fX_tr f a3⟩
/-- THE TEXT can't be read -/
theorem rd_bad {fc fm : gb_F} {A : gb_Ab} (hA : wfA A) (hr : (rdT A.2.2.2.1).1 = none) (hc : ∀ σ τ (x : Int32), f_X9_readOrders [gR 0 0] σ = some (some (gI x), τ) → ¬ (0 : Int32) ≤ x → fc [gR 0 0] σ = some (some (gI x), τ)) (hm : ∀ σ τ, f_X10_readsList [gR 36 0] (gb_si σ 36 0 10 0) = some (none, τ) → ¬ τ.1 36 0 18 = -1 → fm [gR 36 0] σ = some (some (gI ((-21) - (τ.1 36 0 18))), τ)) : gb_T2 fc fm [gR 0 0] [gR 36 0] A := by
  refine T2_K (some (gI (nZ (-21 - ((rdT A.2.2.2.1).2 : Int))))) (setT A []) hA (fun σ hC => ?_) (fun σ hM => ?_)
  · obtain ⟨τ, a1, a2, a3, a4⟩ := p_readOrders hC
    have e : rdE (rdT A.2.2.2.1) = -21 - ((rdT A.2.2.2.1).2 : Int) := by unfold rdE; rw [hr]
    rw [e] at a1
    exact ⟨τ, hc σ τ _ a1 (by rw [z0, z_le ⟨by omega, by omega⟩ ⟨by omega, by omega⟩]; omega), a2⟩
  · obtain ⟨τ, a1, a2, a3, a4⟩ := m_readsList hM
    unfold rdM at a3
    rw [hr] at a3
    refine ⟨τ, ?_, a2⟩
    rw [hm σ τ a1 (mF_ne a3), a3.1, show (-21 : Int32) = nZ (-21) from rfl, z_sub]
theorem m_findsServed {σ0 τ : gb_M} {A : gb_Ab} {O : List (Nat × Int)} (hA : wfA A) (h : KM σ0 τ A) (hok : okO O) (hO : ordM τ O) : ∃ τ', f_X10_findsServed [gR 36 0] τ = some (none, τ') ∧ KM σ0 τ' A ∧ ordM τ' O ∧ τ'.1 36 0 29 = nZ (svA A.1 O).length ∧ ∀ i, i < (svA A.1 O).length → τ'.1 50 0 i = nZ (wz (svA A.1 O) i) := by
  have il := hA.1.1.2.2.2.2.2.1
  have f0 : gb_fX (fun _ => False) (fun x => x = 29) τ (gb_si τ 36 0 29 0) := fX_si fX_rf (Or.inr ⟨rfl, rfl⟩)
  have hM0 : gb_MM (gb_si τ 36 0 29 0) A.1 := MM_fX f0 (fun z => z) h.1.1
  obtain ⟨σ', a, b, c, d, e⟩ := m_sv hok il O.length 8 (by have := hok.1; omega) (fun _ => 0) [] [] (gb_si τ 36 0 29 0) (by simp) (by simp) (G0_r il) (ordM_fX f0 ⟨fun z => z, fun z => z⟩ (by omega) hO) (MM_ext (s := A.1) rfl (fun b hb => gJ_0 il (fun _ => rfl) b hb) hM0) ⟨by rw [si_s]; rfl, fun i hi => (by cases hi), fun i hi => (by cases hi)⟩
  have a' : f_X10_servesFrom [gR 36 0, gI 0] (gb_si τ 36 0 29 0) = some (none, σ') := (gb_hide_at _ _ _).trans a
  have fa : mX τ σ' := fX_tr (fX_w f0 (fun k z => z.elim) (fun x hx => by omega)) e
  refine ⟨σ', by rw [e_X10_findsServed, a', g_b0], KM_back h fa ⟨by omega, by omega, by omega, by omega⟩ ⟨by omega, by omega, by omega, by omega⟩ (fun k hk => by omega) ⟨RM_cg hM0.1 il (fun x hx => by rw [Nat.zero_add]; exact c x hx), hM0.2⟩, ordM_fX fa ⟨by omega, by omega⟩ (by omega) hO, b.1, b.2.2⟩
theorem th_serves {A : gb_Ab} (hA : wfA A) : gb_T2 f_X9_serves f_X10_serves [gR 0 0] [gR 36 0] A := by
  cases hr : (rdT A.2.2.2.1).1 with
  | none =>
    refine rd_bad hA hr (fun σ τ x h1 h2 => ?_) (fun σ τ h1 h2 => ?_)
    · rw [e_X9_serves, h1, g_b1, if_neg h2]
    · rw [e_X10_serves, h1, g_b0, if_neg h2]
  | some O =>
    have hok := rdT_ok hr
    have hO6 := hok.1
    have hle := sv_len (s := A.1) (O := O) O.length (fun _ => 0) [] [] (by simp) (by simp)
    have hle : (svA A.1 O).length ≤ O.length := hle
    refine T2_G (some (gI (nZ (svA A.1 O).length))) (setR (setT A []) (rowOf (svA A.1 O).length (fun i => (nZ (wz (svA A.1 O) i)).toInt64))) hA (fun σ hC hg => ?_) (fun σ hM => ?_)
    · obtain ⟨τ1, a1, a2, a3, a4⟩ := p_readOrders hC
      have e : rdE (rdT A.2.2.2.1) = O.length := by unfold rdE; rw [hr]
      rw [e] at a1
      obtain ⟨τ2, b1, b2, b3, b4⟩ := p_serve (s := A.1) ⟨a2.1.1, a3 O hr, hok⟩ (goneC_K a2 hg)
      have c2 : KC σ τ2 (setT A []) := KC_fP a2 b4 (fun k hk z => by omega) (fun k z => by omega)
      obtain ⟨τ3, d1, d2, d3⟩ := kc_startx c2
      obtain ⟨τ4, e1, e2, e3⟩ := kc_bins d2 (n := (svA A.1 O).length) (by omega) (w := svA A.1 O) (kd := 33) (by omega) (fun i τ => j_X9_serves_28 (nZ (svA A.1 O).length) (nZ i) τ) (fun i hi => by rw [d3.1 33 0 i (by omega)]; exact b2 i hi) (fun i hi τ τ' f h33 hadd => by
        show j_X9_serves_28 _ _ _ = j_X9_serves_28 _ _ _
        rw [e_X9_serves_28, if_neg (by rw [z_le ⟨by omega, by omega⟩ ⟨by omega, by omega⟩]; omega), z_tn (by omega), Int.toNat_natCast, g_in (by omega), h33, hadd, g_b0, zs])
      refine ⟨τ4, ?_, e2⟩
      have e1' : j_X9_serves_28 (nZ (svA A.1 O).length) 0 τ3 = j_X9_serves_28 (nZ (svA A.1 O).length) (nZ (svA A.1 O).length) τ4 := e1
      rw [e_X9_serves, a1, g_b1, if_pos (by rw [z0, z_le ⟨by omega, by omega⟩ ⟨by omega, by omega⟩]; omega), b1, g_b1, d1, g_b0, e1', e_X9_serves_28, if_pos (Int32.le_refl _)]
    · obtain ⟨τ1, a1, a2, a3, a4⟩ := m_readsList hM
      unfold rdM at a3
      rw [hr] at a3
      obtain ⟨τ2, b1, b2, b3, b4, b5⟩ := m_findsServed (A := setT A []) hA a2 hok a3.2
      have b4 : τ2.1 36 0 29 = nZ (svA A.1 O).length := b4
      have d2 := km_start b2
      obtain ⟨τ4, e1, e2, e3⟩ := km_bins d2 (n := (svA A.1 O).length) (by omega) (w := svA A.1 O) (fun i τ => j_X10_serves_36 (nZ i) τ) (fun i hi => by rw [si_k (by omega)]; exact b5 i hi) (fun i hi τ τ' f h50 hadd => by
        have e29 : τ.1 36 0 29 = nZ (svA A.1 O).length := by rw [f.2 29 (by omega), si_i (by omega)]; exact b4
        show j_X10_serves_36 _ _ = j_X10_serves_36 _ _
        rw [e_X10_serves_36, e29, if_neg (by rw [z_le ⟨by omega, by omega⟩ ⟨by omega, by omega⟩]; omega), z_tn (by omega), Int.toNat_natCast, g_in (by omega), h50, hadd, g_b0, zs])
      refine ⟨τ4, ?_, e2⟩
      have e29 : τ4.1 36 0 29 = nZ (svA A.1 O).length := by rw [e3.2 29 (by omega), si_i (by omega)]; exact b4
      have e1' : j_X10_serves_36 0 (gb_si τ2 36 0 9 0) = j_X10_serves_36 (nZ (svA A.1 O).length) τ4 := e1
      rw [e_X10_serves, a1, g_b0, if_pos a3.1, b1, g_b0, e1', e_X10_serves_36, e29, if_pos (Int32.le_refl _)]
theorem th_picks {A : gb_Ab} (hA : wfA A) : gb_T2 f_X9_picks f_X10_picks [gR 0 0] [gR 36 0] A := by
  cases hr : (rdT A.2.2.2.1).1 with
  | none =>
    refine rd_bad hA hr (fun σ τ x h1 h2 => ?_) (fun σ τ h1 h2 => ?_)
    · rw [e_X9_picks, h1, g_b1, if_neg h2]
    · rw [e_X10_picks, h1, g_b0, if_neg h2]
  | some O =>
    have hok := rdT_ok hr
    have hO6 := hok.1
    have il := hA.1.1.2.2.2.2.2.1
    obtain ⟨r1, r2, r3⟩ := pvA_r (s := A.1) (O := O)
    refine T2_G (some (gI (nZ (pvA A.1 O).1))) (setR (setT A []) (rowOf O.length (fun i => (nZ (wz (pvA A.1 O).2 i)).toInt64))) hA (fun σ hC hg => ?_) (fun σ hM => ?_)
    · obtain ⟨τ1, a1, a2, a3, a4⟩ := p_readOrders hC
      have e : rdE (rdT A.2.2.2.1) = O.length := by unfold rdE; rw [hr]
      rw [e] at a1
      obtain ⟨τ2, b1, b2, b4⟩ := p_pick (s := A.1) ⟨a2.1.1, a3 O hr, hok⟩ (goneC_K a2 hg)
      have c2 : KC σ τ2 (setT A []) := KC_fP a2 b4 (fun k hk z => by omega) (fun k z => by omega)
      obtain ⟨τ3, d1, d2, d3⟩ := kc_startx c2
      obtain ⟨τ4, e1, e2, e3⟩ := kc_bins d2 (n := O.length) (by omega) (w := (pvA A.1 O).2) (kd := 33) (by omega) (fun i τ => j_X9_picks_28 (nZ O.length) (nZ (pvA A.1 O).1) (nZ i) τ) (fun i hi => by rw [d3.1 33 0 i (by omega)]; exact b2 i hi) (fun i hi τ τ' f h33 hadd => by
        show j_X9_picks_28 _ _ _ _ = j_X9_picks_28 _ _ _ _
        rw [e_X9_picks_28, if_neg (by rw [z_le ⟨by omega, by omega⟩ ⟨by omega, by omega⟩]; omega), z_tn (by omega), Int.toNat_natCast, g_in (by omega), h33, hadd, g_b0, zs])
      refine ⟨τ4, ?_, e2⟩
      have e1' : j_X9_picks_28 (nZ O.length) (nZ (pvA A.1 O).1) 0 τ3 = j_X9_picks_28 (nZ O.length) (nZ (pvA A.1 O).1) (nZ O.length) τ4 := e1
      rw [e_X9_picks, a1, g_b1, if_pos (by rw [z0, z_le ⟨by omega, by omega⟩ ⟨by omega, by omega⟩]; omega), b1, g_b1, d1, g_b0, e1', e_X9_picks_28, if_pos (Int32.le_refl _)]
    · obtain ⟨τ1, a1, a2, a3, a4⟩ := m_readsList hM
      unfold rdM at a3
      rw [hr] at a3
      have f0 : gb_fX (fun _ => False) (fun x => x = 29) τ1 (gb_si τ1 36 0 29 (-1)) := fX_si fX_rf (Or.inr ⟨rfl, rfl⟩)
      have hM0 : gb_MM (gb_si τ1 36 0 29 (-1)) A.1 := MM_fX f0 (fun z => z) a2.1.1
      obtain ⟨τ2, b1, b2, b3, b4, b5⟩ := m_pv hok il O.length 8 (by omega) (fun _ => 0) [] 0 (-1, []) (gb_si τ1 36 0 29 (-1)) (by simp) (by simp) ⟨by dsimp only; omega, by dsimp only; omega, Or.inl rfl, by simp⟩ (G0_r il) (ordM_fX f0 ⟨fun z => z, fun z => z⟩ (by omega) a3.2) (MM_ext (s := A.1) rfl (fun b hb => gJ_0 il (fun _ => rfl) b hb) hM0) ⟨by rw [si_s]; rfl, fun i hi => (by cases hi), fun i hi => (by cases hi)⟩
      have b1' : f_X10_picksFrom [gR 36 0, gI 0, gI 0] (gb_si τ1 36 0 29 (-1)) = some (none, τ2) := (gb_hide_at _ _ _).trans b1
      have fa : mX τ1 τ2 := fX_tr (fX_w f0 (fun k z => z.elim) (fun x hx => by omega)) b5
      have c2 : KM σ τ2 (setT A []) := KM_back a2 fa ⟨by omega, by omega, by omega, by omega⟩ ⟨by omega, by omega, by omega, by omega⟩ (fun k hk => by omega) ⟨RM_cg hM0.1 il (fun x hx => by rw [Nat.zero_add]; exact b3 x hx), hM0.2⟩
      have c3 := ordM_fX fa ⟨by omega, by omega⟩ (by omega) a3.2
      have b29 : τ2.1 36 0 29 = nZ (pvA A.1 O).1 := b2.1
      have b50 : ∀ i, i < (pvA A.1 O).2.length → τ2.1 50 0 i = nZ (wz (pvA A.1 O).2 i) := b2.2.2
      have d2 := km_start c2
      obtain ⟨τ4, e1, e2, e3⟩ := km_bins d2 (n := O.length) (by omega) (w := (pvA A.1 O).2) (fun i τ => j_X10_picks_43 (nZ i) τ) (fun i hi => by rw [si_k (by omega)]; exact b50 i (by omega)) (fun i hi τ τ' f h50 hadd => by
        have e25 : τ.1 36 0 25 = nZ O.length := by rw [f.2 25 (by omega), si_i (by omega)]; exact c3.1
        show j_X10_picks_43 _ _ = j_X10_picks_43 _ _
        rw [e_X10_picks_43, e25, if_neg (by rw [z_le ⟨by omega, by omega⟩ ⟨by omega, by omega⟩]; omega), z_tn (by omega), Int.toNat_natCast, g_in (by omega), h50, hadd, g_b0, zs])
      refine ⟨τ4, ?_, e2⟩
      have e25 : τ4.1 36 0 25 = nZ O.length := by rw [e3.2 25 (by omega), si_i (by omega)]; exact c3.1
      have e29 : τ4.1 36 0 29 = nZ (pvA A.1 O).1 := by rw [e3.2 29 (by omega), si_i (by omega)]; exact b29
      have e1' : j_X10_picks_43 0 (gb_si τ2 36 0 9 0) = j_X10_picks_43 (nZ O.length) τ4 := e1
      rw [e_X10_picks, a1, g_b0, if_pos a3.1, b1', g_b0, e1', e_X10_picks_43, e25, if_pos (Int32.le_refl _), e29]
