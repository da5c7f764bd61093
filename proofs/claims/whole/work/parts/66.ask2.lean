/-! ASKS 2: the ROW told anew; layer, value, all, mixed -/
def KC (σ0 σ : gb_M) (A : gb_Ab) : Prop := CC σ A ∧ gb_fP (fun k => k < 36 ∧ k ≠ 31) σ0 σ
def KM (σ0 σ : gb_M) (A : gb_Ab) : Prop := MC σ A ∧ gb_fP (fun k => 36 ≤ k) σ0 σ
theorem T2_K {fc fm : gb_F} {ac am : List gb_V} {A : gb_Ab} (r : Option gb_V) (A' : gb_Ab) (hA' : wfA A') (hc : ∀ σ, KC σ σ A → ∃ σ', fc ac σ = some (r, σ') ∧ KC σ σ' A') (hm : ∀ σ, KM σ (gb_si σ 36 0 10 0) A → ∃ σ', fm am σ = some (r, σ') ∧ KM σ σ' A') : gb_T2 fc fm ac am A :=
  ⟨r, A', hA', fun σ hC _ => hc σ ⟨hC, fP_rf⟩, fun σ hM => hm σ ⟨(MC_t hM).1, fX_fP (MC_t hM).2 (fun k z => z.elim)⟩⟩
theorem wf_setR {A : gb_Ab} {R : List Int64} (hA : wfA A) : wfA (setR A R) := hA
theorem T2_G {fc fm : gb_F} {ac am : List gb_V} {A : gb_Ab} (r : Option gb_V) (A' : gb_Ab) (hA' : wfA A') (hc : ∀ σ, KC σ σ A → goneC σ → ∃ σ', fc ac σ = some (r, σ') ∧ KC σ σ' A') (hm : ∀ σ, KM σ (gb_si σ 36 0 10 0) A → ∃ σ', fm am σ = some (r, σ') ∧ KM σ σ' A') : gb_T2 fc fm ac am A :=
  ⟨r, A', hA', fun σ hC hg => hc σ ⟨hC, fP_rf⟩ hg, fun σ hM => hm σ ⟨(MC_t hM).1, fX_fP (MC_t hM).2 (fun k z => z.elim)⟩⟩
section KK
variable {σ0 σ : gb_M} {A : gb_Ab} {R : List Int64}
theorem KC_fP {P : Nat → Prop} {σ' : gb_M} (h : KC σ0 σ A) (f : gb_fP P σ σ') (hP : ∀ k, k ≤ 22 → ¬ P k) (hP' : ∀ k, P k → k < 36 ∧ k ≠ 31) : KC σ0 σ' A := ⟨CC_fP f hP h.1, fP_tr h.2 (fP_w f hP')⟩
theorem KM_fX {Q I : Nat → Prop} {σ' : gb_M} (h : KM σ0 σ A) (f : gb_fX Q I σ σ') (hq : ¬ Q 37 ∧ ¬ Q 39 ∧ ¬ Q 40 ∧ ¬ Q 41 ∧ ¬ Q 42) (hi : ¬ I 3 ∧ ¬ I 5 ∧ ¬ I 7 ∧ ¬ I 9) (hQ : ∀ k, Q k → 36 ≤ k) : KM σ0 σ' A := ⟨MC_fX f hq hi h.1, fP_tr h.2 (fX_fP f hQ)⟩
theorem kc_start (h : KC σ0 σ A) : ∃ σ', f_X4_start [gR 21 0] σ = some (none, σ') ∧ KC σ0 σ' (setR A []) := by
  obtain ⟨σ', a1, a2, a3⟩ := c_start σ
  exact ⟨σ', a1, CC_row a3 (fun k hk => by omega) h.1 a2, fP_tr h.2 (fP_w a3 (fun k hk => by omega))⟩
theorem kc_add (h : KC σ0 σ (setR A R)) (hl : R.length < 8) (x : Int64) : ∃ σ', f_X4_add [gR 21 0, gL x] σ = some (none, σ') ∧ KC σ0 σ' (setR A (R ++ [x])) := by
  obtain ⟨σ', a1, a2, a3⟩ := c_add h.1.2.2.2.2 hl x
  exact ⟨σ', a1, CC_row (A := setR A R) a3 (fun k hk => by omega) h.1 a2, fP_tr h.2 (fP_w a3 (fun k hk => by omega))⟩
theorem km_start (h : KM σ0 σ A) : KM σ0 (gb_si σ 36 0 9 0) (setR A []) := by
  have f : gb_fX (fun k => k = 42) (fun x => x = 9) σ (gb_si σ 36 0 9 0) := fX_si fX_rf (Or.inr ⟨rfl, rfl⟩)
  exact ⟨MC_row f ⟨by omega, by omega, by omega, by omega⟩ ⟨by omega, by omega, by omega⟩ h.1 (m_start σ), fP_tr h.2 (fX_fP f (fun k hk => by omega))⟩
theorem km_tellx (h : KM σ0 σ (setR A R)) (hl : R.length < 8) (x : Int64) : ∃ σ', f_X10_tell [gR 36 0, gL x] σ = some (none, σ') ∧ KM σ0 σ' (setR A (R ++ [x])) ∧ gb_fX (fun k => k = 42) (fun x => x = 9) σ σ' := by
  obtain ⟨a1, a2⟩ := m_tell h.1.2.2.2.2 hl x
  have f := tell_fX (Q := fun k => k = 42) (I := fun x => x = 9) (σ := σ) (n := R.length) (x := x) (v := nZ (R.length + 1 : Nat)) rfl rfl
  exact ⟨_, a1, ⟨MC_row (A := setR A R) f ⟨by omega, by omega, by omega, by omega⟩ ⟨by omega, by omega, by omega⟩ h.1 a2, fP_tr h.2 (fX_fP f (fun k hk => by omega))⟩, f⟩
theorem km_tell (h : KM σ0 σ (setR A R)) (hl : R.length < 8) (x : Int64) : ∃ σ', f_X10_tell [gR 36 0, gL x] σ = some (none, σ') ∧ KM σ0 σ' (setR A (R ++ [x])) := by
  obtain ⟨σ', a1, a2, -⟩ := km_tellx h hl x
  exact ⟨σ', a1, a2⟩
theorem kc_loop {n : Nat} (hn : n ≤ 8) (J : Nat → gb_M → gb_R) (f : Nat → Int64) (h : KC σ0 σ (setR A [])) (hs : ∀ i, i < n → ∀ τ τ', KC σ0 τ (setR A (rowOf i f)) → f_X4_add [gR 21 0, gL (f i)] τ = some (none, τ') → KC σ0 τ' (setR A (rowOf (i + 1) f)) → J i τ = J (i + 1) τ') : ∃ τ, J 0 σ = J n τ ∧ KC σ0 τ (setR A (rowOf n f)) := by
  refine lph J (fun i τ => KC σ0 τ (setR A (rowOf i f))) h (fun i hi τ hK => ?_)
  obtain ⟨τ', a1, a2⟩ := kc_add hK (by rw [rowOf_len]; omega) (f i)
  exact ⟨τ', hs i hi τ τ' hK a1 a2, a2⟩
theorem km_loop {n : Nat} (hn : n ≤ 8) (J : Nat → gb_M → gb_R) (f : Nat → Int64) (h : KM σ0 σ (setR A [])) (hs : ∀ i, i < n → ∀ τ τ', KM σ0 τ (setR A (rowOf i f)) → f_X10_tell [gR 36 0, gL (f i)] τ = some (none, τ') → KM σ0 τ' (setR A (rowOf (i + 1) f)) → J i τ = J (i + 1) τ') : ∃ τ, J 0 σ = J n τ ∧ KM σ0 τ (setR A (rowOf n f)) := by
  refine lph J (fun i τ => KM σ0 τ (setR A (rowOf i f))) h (fun i hi τ hK => ?_)
  obtain ⟨τ', a1, a2⟩ := km_tell hK (by rw [rowOf_len]; omega) (f i)
  exact ⟨τ', hs i hi τ τ' hK a1 a2, a2⟩
/-- the ROW of six, and what follows when it is told -/
theorem m_DAY (h : KM σ0 σ A) : σ.1 37 0 174 = nZ (sY A.1) := by
  have := h.1.1.1.2.2.2.2.2.2.2.1
  rwa [Nat.zero_add] at this
end KK
theorem e174 : (174 : Int32).toNatClampNeg = 174 := by decide
theorem g174 {f : gb_R} : gb_gd (gb_in 174 176) f = f := g_gd (by decide)
theorem th_layer {A : gb_Ab} (hA : wfA A) (a c e : Int32) : gb_T2 f_X9_layer f_X10_layer [gR 0 0, gI a, gI c, gI e] [gR 36 0, gI a, gI c, gI e] A := by
  have hx := nZ_rz a
  have hy := nZ_rz c
  have hw := nZ_rz e
  rw [nZ_of a, nZ_of c, nZ_of e]
  generalize a.toInt = x at hx
  generalize c.toInt = y at hy
  generalize e.toInt = w at hw
  have hI := hA.1.1
  obtain ⟨y1, y2, q1, q2⟩ := hI.2.2.2.2.2.2
  by_cases h1 : 0 ≤ x ∧ x < 6
  rotate_left
  · refine T2_same hA (some (gI (-1))) (fun σ hC => ?_) (fun σ hM => ?_)
    · rw [e_X9_layer, cb_f hx h1, g_b1, e00]
    · rw [e_X10_layer, mb_f hx h1, g_b1, e00]
  obtain ⟨b, rfl⟩ : ∃ b : Nat, x = b := ⟨x.toNat, by omega⟩
  have hb : b < 6 := by omega
  have hlen := (hI.2.2.2.2.2.1 b hb).1
  have i0 : (0 : Int64).toInt = 0 := by decide
  have i3 : (3 : Int64).toInt = 3 := by decide
  have el : (nZ (sB A.1 b).length - 1).toInt64.toInt = ((sB A.1 b).length : Int) - 1 := by rw [z1, z_sub, nz64 ⟨by omega, by omega⟩]
  by_cases h2 : 0 ≤ y ∧ y < (sB A.1 b).length
  rotate_left
  · refine T2_same hA (some (gI (-1))) (fun σ hC => ?_) (fun σ hM => ?_)
    · have cN := hC.1.1.2.2.1 b hb
      rw [e_X9_layer, cb_t hb, g_b1, e10]
      by_cases h3 : y < 0
      · rw [if_pos (by rw [z0, z_lt hy ⟨by omega, by omega⟩]; exact h3)]
      · rw [if_neg (by rw [z0, z_lt hy ⟨by omega, by omega⟩]; exact h3)]
        simp (disch := omega) only [g_in, z_tn, Int.toNat_natCast, cN]
        rw [if_neg (by rw [z_lt hy ⟨by omega, by omega⟩]; omega)]
    · rw [e_X10_layer, mb_t hb, g_b1, e10, m_many (MC_t hM).1.1 hb, g_b1, m_in_f hy (by rw [i0, el]; omega), g_b1, e00]
  obtain ⟨i, rfl⟩ : ∃ i : Nat, y = i := ⟨y.toNat, by omega⟩
  have hi : i < (sB A.1 b).length := by omega
  have cbeg : ∀ σ, CC σ A → f_X9_layer [gR 0 0, gI (nZ b), gI (nZ i), gI (nZ w)] σ = gb_tsel (nZ w) 0 3 [k_X9_layer_64 gb_n, k_X9_layer_75 gb_n, k_X9_layer_86 gb_n, k_X9_layer_97 gb_n] (k_X9_layer_114 gb_n) [(4, gI (nZ ((b : Int) * 6 + (i : Int)))), (0, gR 0 0), (1, gI (nZ b)), (2, gI (nZ i)), (3, gI (nZ w))] [] σ := by
    intro σ hC
    have cN := hC.1.1.2.2.1 b hb
    rw [e_X9_layer, cb_t hb, g_b1, e10, if_neg (by rw [z0, z_lt hy ⟨by omega, by omega⟩]; omega)]
    simp (disch := omega) only [g_in, z_tn, Int.toNat_natCast, cN]
    rw [if_pos (by rw [z_lt hy ⟨by omega, by omega⟩]; omega), p_place, g_b1]
  have mbeg : ∀ σ, MC σ A → f_X10_layer [gR 36 0, gI (nZ b), gI (nZ i), gI (nZ w)] σ = gb_b1 (f_X10_in [gL (nZ w).toInt64, gL 0, gL 3] (gb_si σ 36 0 10 0)) (fun x8 s7 => if x8 = 0 then
        some (some (gI (-1)), s7)
      else
        if nZ w = 3 then
          gb_b1 (f_X10_unit [gR 36 0, gI (nZ b), gI (nZ i)] s7) (fun x10 s9 => some (some (gI x10), s9))
        else
          gb_b1 (f_X10_layerOf [gR 36 0, gI (nZ b), gI (nZ i), gI (nZ w)] s7) (fun x12 s11 => some (some (gI x12), s11))) := by
    intro σ hM
    rw [e_X10_layer, mb_t hb, g_b1, e10, m_many (MC_t hM).1.1 hb, g_b1, m_in_t hy (by rw [i0, el]; omega), g_b1, e10]
  by_cases h3 : 0 ≤ w ∧ w ≤ 3
  rotate_left
  · refine T2_same hA (some (gI (-1))) (fun σ hC => ?_) (fun σ hM => ?_)
    · rw [cbeg σ hC, ts_out hw h3, e_X9_layer_114]
    · rw [mbeg σ hM, m_in_f hw (by rw [i0, i3]; omega), g_b1, e00]
  have hc3 : w = 0 ∨ w = 1 ∨ w = 2 ∨ w = 3 := by omega
  have cL : ∀ σ, CC σ A → _ := fun σ hC => hC.1.1.2.2.2.2.1 b i hb hi
  have nz3 : ¬ nZ 0 = 3 := by decide
  have nz31 : ¬ nZ 1 = 3 := by decide
  have nz32 : ¬ nZ 2 = 3 := by decide
  rcases hc3 with rfl | rfl | rfl | rfl
  · refine T2_same hA (some (gI (nZ (lz (sB A.1 b) i).1))) (fun σ hC => ?_) (fun σ hM => ?_)
    · obtain ⟨g1, g2, g3⟩ := cL σ hC
      rw [cbeg σ hC, ts_in hw h3 rfl, e_X9_layer_64]
      simp (disch := omega) only [g_in, z_tn, g1]
    · rw [mbeg σ hM, m_in_t hw (by rw [i0, i3]; omega), g_b1, e10, if_neg nz3, m_l0 (MC_t hM).1.1 hb hi, g_b1]
  · refine T2_same hA (some (gI (nZ (lz (sB A.1 b) i).2.1))) (fun σ hC => ?_) (fun σ hM => ?_)
    · obtain ⟨g1, g2, g3⟩ := cL σ hC
      rw [cbeg σ hC, ts_in hw h3 rfl, e_X9_layer_75]
      simp (disch := omega) only [g_in, z_tn, g2]
    · rw [mbeg σ hM, m_in_t hw (by rw [i0, i3]; omega), g_b1, e10, if_neg nz31, m_l1 (MC_t hM).1.1 hb hi, g_b1]
  · refine T2_same hA (some (gI (nZ (lz (sB A.1 b) i).2.2))) (fun σ hC => ?_) (fun σ hM => ?_)
    · obtain ⟨g1, g2, g3⟩ := cL σ hC
      rw [cbeg σ hC, ts_in hw h3 rfl, e_X9_layer_86]
      simp (disch := omega) only [g_in, z_tn, g3]
    · rw [mbeg σ hM, m_in_t hw (by rw [i0, i3]; omega), g_b1, e10, if_neg nz32, m_l2 (MC_t hM).1.1 hb hi, g_b1]
  · refine T2_same hA (some (gI (nZ (sU A.1 (sY A.1) (lz (sB A.1 b) i))))) (fun σ hC => ?_) (fun σ hM => ?_)
    · have cY := hC.1.1.2.2.2.2.2.2.1
      rw [cbeg σ hC, ts_in hw h3 rfl, e_X9_layer_97, cY, p_unit hC.1.1 hC.1.2.1 hC.1.2.2 hb hi (by omega), g_b1]
    · rw [mbeg σ hM, m_in_t hw (by rw [i0, i3]; omega), g_b1, e10, if_pos (show nZ 3 = 3 from rfl), m_unit (MC_t hM).1.1 hb hi, g_b1]
theorem th_value {A : gb_Ab} (hA : wfA A) (a : Int32) : gb_T2 f_X9_value f_X10_value [gR 0 0, gI a] [gR 36 0, gI a] A := by
  have hx := nZ_rz a
  rw [nZ_of a]
  generalize a.toInt = x at hx
  have hI := hA.1.1
  obtain ⟨y1, y2, q1, q2⟩ := hI.2.2.2.2.2.2
  by_cases h1 : 0 ≤ x ∧ x < 6
  rotate_left
  · refine T2_same hA (some (gI (-1))) (fun σ hC => ?_) (fun σ hM => ?_)
    · rw [e_X9_value, cb_f hx h1, g_b1, e00]
    · rw [e_X10_value, mb_f hx h1, g_b1, e00]
  obtain ⟨b, rfl⟩ : ∃ b : Nat, x = b := ⟨x.toNat, by omega⟩
  have hb : b < 6 := by omega
  refine T2_K (some (gI (nZ (lV A.1 (sY A.1) (sB A.1 b))))) (setR A ([] ++ [(nZ (lR A.1 (sY A.1) (sB A.1 b))).toInt64] ++ [(nZ (lX A.1 (sB A.1 b))).toInt64] ++ [(nZ (lF A.1 (sB A.1 b))).toInt64])) (wf_setR hA) (fun σ hC => ?_) (fun σ hM => ?_)
  · obtain ⟨τ1, a1, c1⟩ := kc_start hC
    obtain ⟨τ2, a2, c2⟩ := kc_add c1 (by simp) (nZ (lR A.1 (sY A.1) (sB A.1 b))).toInt64
    obtain ⟨τ3, a3, c3⟩ := kc_add c2 (by simp) (nZ (lX A.1 (sB A.1 b))).toInt64
    obtain ⟨τ4, a4, c4⟩ := kc_add c3 (by simp) (nZ (lF A.1 (sB A.1 b))).toInt64
    refine ⟨τ4, ?_, c4⟩
    have cY : τ1.1 10 0 9 = nZ (sY A.1) := c1.1.1.1.2.2.2.2.2.2.1
    have p1 : f_X7_raw [gR 10 0, gI (nZ b), gI (nZ (sY A.1))] τ1 = some (some (gI (nZ (lR A.1 (sY A.1) (sB A.1 b)))), τ1) := p_raw c1.1.1 hb (on := sY A.1) (by omega)
    have p2 : f_X7_mixedIn [gR 10 0, gI (nZ b)] τ2 = some (some (gI (nZ (lX A.1 (sB A.1 b)))), τ2) := p_mixedIn c2.1.1 hb
    have p3 : f_X7_rawUnspoilt [gR 10 0, gI (nZ b)] τ3 = some (some (gI (nZ (lF A.1 (sB A.1 b)))), τ3) := p_rawUnspoilt c3.1.1 hb
    have p4 : f_X7_valueOf [gR 10 0, gI (nZ b)] τ4 = some (some (gI (nZ (lV A.1 (sY A.1) (sB A.1 b)))), τ4) := p_valueOf c4.1.1 hb
    rw [e_X9_value, cb_t hb, g_b1, e10, a1, g_b0, cY, p1, g_b1, a2, g_b0, p2, g_b1, a3, g_b0, p3, g_b1, a4, g_b0, p4, g_b1]
  · obtain ⟨mW, mK, mO, mC, mP, mN, mL, mY, mQ⟩ := id hM.1.1.1
    simp only [Nat.zero_add] at mW mY
    have c1 := km_start hM
    obtain ⟨τ2, a2, c2⟩ := km_tell c1 (by simp) (nZ (lR A.1 (sY A.1) (sB A.1 b))).toInt64
    obtain ⟨τ3, a3, c3⟩ := km_tell c2 (by simp) (nZ (lX A.1 (sB A.1 b))).toInt64
    obtain ⟨τ4, a4, c4⟩ := km_tell c3 (by simp) (nZ (lF A.1 (sB A.1 b))).toInt64
    refine ⟨τ4, ?_, c4⟩
    have hlen := (hI.2.2.2.2.2.1 b hb).1
    rw [e_X10_value, mb_t hb, g_b1, e10]
    generalize gb_si σ 36 0 10 0 = τ at *
    have st : ∀ i, i < (sB A.1 b).length → j_X10_value_18 (nZ b) (nZ (sL (fun l => l.2.1 * sW A.1 l.1) ((sB A.1 b).take i))) (nZ i) τ = j_X10_value_18 (nZ b) (nZ (sL (fun l => l.2.1 * sW A.1 l.1) ((sB A.1 b).take (i + 1)))) (nZ (i + 1 : Nat)) τ := by
      intro i hi
      obtain ⟨l1, l2, l3, l4, l5⟩ := lz_ok hI.2.2.2.2.2.1 hb hi
      have k0 : ((0 : Int) + ((lz (sB A.1 b) i).1 : Int)).toNat = (lz (sB A.1 b) i).1 := by omega
      rw [e_X10_value_18, sL_take hi]
      simp (disch := omega) only [z0, z1, z2, z3, z4, z5, z6, z12, z18, z48, z54, z60, z66, z174, z175, z_neg, z_add, z_sub, z_mul, z_tn, g_in, g_b0, g_b1, Int.toNat_natCast, z_le, z_lt, z_eq, z_mx, z_mn, if_pos, if_neg, if_true, if_false, m_many hM.1.1 hb, m_l0 hM.1.1 hb hi, m_l1 hM.1.1 hb hi, k0, mW _ l1, Int.natCast_add, Int.natCast_one]
    refine (lp (n := (sB A.1 b).length) (fun i => j_X10_value_18 (nZ b) (nZ (sL (fun l => l.2.1 * sW A.1 l.1) ((sB A.1 b).take i))) (nZ i) τ) st).trans ?_
    try dsimp only
    have mY' : (gb_si τ 36 0 9 0).1 37 0 174 = nZ (sY A.1) := m_DAY (A := setR A []) c1
    have p1 : f_X10_rawOn [gR 36 0, gI (nZ (sY A.1)), gI (nZ b)] (gb_si τ 36 0 9 0) = some (some (gI (nZ (lR A.1 (sY A.1) (sB A.1 b)))), gb_si τ 36 0 9 0) := m_rawOn c1.1.1 hb (on := sY A.1) (by omega)
    have p2 : f_X10_mixedIn [gR 36 0, gI (nZ b)] τ2 = some (some (gI (nZ (lX A.1 (sB A.1 b)))), τ2) := m_mixedIn c2.1.1 hb
    have p4 : f_X10_valueOf [gR 36 0, gI (nZ b)] τ4 = some (some (gI (nZ (lV A.1 (sY A.1) (sB A.1 b)))), τ4) := m_valueOf c4.1.1 hb
    have a4' : f_X10_tell [gR 36 0, gL (nZ (sL (fun l => l.2.1 * sW A.1 l.1) (sB A.1 b))).toInt64] τ3 = some (none, τ4) := a4
    rw [e_X10_value_18, List.take_length, m_many hM.1.1 hb, g_b1, if_pos (Int32.le_refl _), g174, e174, mY', p1, g_b1, a2, g_b0, p2, g_b1, a3, g_b0, a4', g_b0, p4, g_b1]
theorem th_all {A : gb_Ab} (hA : wfA A) : gb_T2 f_X9_all f_X10_all [gR 0 0] [gR 36 0] A := by
  obtain ⟨y1, y2, q1, q2⟩ := hA.1.1.2.2.2.2.2.2
  refine T2_K (some (gI (nZ (lA A.1 (sY A.1))))) (setR A (rowOf 6 (fun b => (nZ (lV A.1 (sY A.1) (sB A.1 b))).toInt64))) (wf_setR hA) (fun σ hC => ?_) (fun σ hM => ?_)
  · obtain ⟨τ1, a1, c1⟩ := kc_start hC
    obtain ⟨τ2, a2, c2⟩ := kc_loop (n := 6) (by omega) (fun i τ => j_X9_all_9 (nZ i) τ) (fun b => (nZ (lV A.1 (sY A.1) (sB A.1 b))).toInt64) c1 (by
      intro i hi τ τ' hK hadd _
      show j_X9_all_9 _ _ = j_X9_all_9 _ _
      have pv : f_X7_valueOf [gR 10 0, gI (nZ i)] τ = some (some (gI (nZ (lV A.1 (sY A.1) (sB A.1 i)))), τ) := p_valueOf hK.1.1 hi
      rw [e_X9_all_9, if_neg (by rw [z6, z_le ⟨by omega, by omega⟩ ⟨by omega, by omega⟩]; omega), pv, g_b1, hadd, g_b0, z1, z_add]
      rfl)
    refine ⟨τ2, ?_, c2⟩
    have cY : τ2.1 10 0 9 = nZ (sY A.1) := c2.1.1.1.2.2.2.2.2.2.1
    have pA : f_X7_valueOfAll [gR 10 0, gI (nZ (sY A.1))] τ2 = some (some (gI (nZ (lA A.1 (sY A.1)))), τ2) := p_valueOfAll c2.1.1 (on := sY A.1) (by omega)
    have a2' : j_X9_all_9 0 τ1 = j_X9_all_9 (nZ (6 : Nat)) τ2 := a2
    rw [e_X9_all, a1, g_b0, a2', e_X9_all_9, if_pos (by decide), cY, pA, g_b1]
  · have c1 := km_start hM
    obtain ⟨τ2, a2, c2⟩ := km_loop (n := 6) (by omega) (fun i τ => j_X10_all_12 (nZ i) τ) (fun b => (nZ (lV A.1 (sY A.1) (sB A.1 b))).toInt64) c1 (by
      intro i hi τ τ' hK hadd _
      show j_X10_all_12 _ _ = j_X10_all_12 _ _
      have pv : f_X10_valueOf [gR 36 0, gI (nZ i)] τ = some (some (gI (nZ (lV A.1 (sY A.1) (sB A.1 i)))), τ) := m_valueOf hK.1.1 hi
      rw [e_X10_all_12, if_neg (by rw [z6, z_le ⟨by omega, by omega⟩ ⟨by omega, by omega⟩]; omega), pv, g_b1, hadd, g_b0, z1, z_add]
      rfl)
    refine ⟨τ2, ?_, c2⟩
    have pA : f_X10_allNow [gR 36 0] τ2 = some (some (gI (nZ (lA A.1 (sY A.1)))), τ2) := m_allNow c2.1.1
    have a2' : j_X10_all_12 0 (gb_si (gb_si σ 36 0 10 0) 36 0 9 0) = j_X10_all_12 (nZ (6 : Nat)) τ2 := a2
    rw [e_X10_all, a2', e_X10_all_12, if_pos (by decide), pA, g_b1]
def mxH (s : gb_St) (g h : Nat) : Int := sm 6 (fun b => lM s (sB s b) g h)
theorem th_mixed {A : gb_Ab} (hA : wfA A) (a : Int32) : gb_T2 f_X9_mixed f_X10_mixed [gR 0 0, gI a] [gR 36 0, gI a] A := by
  have hx := nZ_rz a
  rw [nZ_of a]
  generalize a.toInt = x at hx
  have hI := hA.1.1
  by_cases h1 : 0 ≤ x ∧ x < 6
  rotate_left
  · refine T2_same hA (some (gI (-1))) (fun σ hC => ?_) (fun σ hM => ?_)
    · rw [e_X9_mixed, cg_f hx h1, g_b1, e00]
    · rw [e_X10_mixed, mg_f hx h1, g_b1, e00]
  obtain ⟨g, rfl⟩ : ∃ b : Nat, x = b := ⟨x.toNat, by omega⟩
  have hg : g < 6 := by omega
  refine T2_K (some (gI (nZ (sm 6 (mxH A.1 g))))) (setR A (rowOf 6 (fun h => (nZ (mxH A.1 g h)).toInt64))) (wf_setR hA) (fun σ hC => ?_) (fun σ hM => ?_)
  · obtain ⟨τ1, a1, c1⟩ := kc_start hC
    obtain ⟨τ2, a2, c2⟩ := kc_loop (n := 6) (by omega) (fun i τ => j_X9_mixed_20 (nZ g) (nZ (sm i (mxH A.1 g))) (nZ i) τ) (fun h => (nZ (mxH A.1 g h)).toInt64) c1 (by
      intro h hh τ τ' hK hadd _
      show j_X9_mixed_20 _ _ _ _ = j_X9_mixed_20 _ _ _ _
      have st : ∀ i, i < 6 → j_X9_mixed_32 (nZ g) (nZ (sm h (mxH A.1 g))) (nZ h) (nZ (sm i (fun b => lM A.1 (sB A.1 b) g h))) (nZ i) τ = j_X9_mixed_32 (nZ g) (nZ (sm h (mxH A.1 g))) (nZ h) (nZ (sm (i + 1) (fun b => lM A.1 (sB A.1 b) g h))) (nZ (i + 1 : Nat)) τ := by
        intro i hi
        have pm : f_X7_mixedOf [gR 10 0, gI (nZ i), gI (nZ g), gI (nZ h)] τ = some (some (gI (nZ (lM A.1 (sB A.1 i) g h))), τ) := p_mixedOf hK.1.1 hi hg hh
        rw [e_X9_mixed_32, if_neg (by rw [z6, z_le ⟨by omega, by omega⟩ ⟨by omega, by omega⟩]; omega), pm, g_b1, z_add, z1, z_add]
        rfl
      have hJ := lp (n := 6) (fun i => j_X9_mixed_32 (nZ g) (nZ (sm h (mxH A.1 g))) (nZ h) (nZ (sm i (fun b => lM A.1 (sB A.1 b) g h))) (nZ i) τ) st
      have hJ0 : j_X9_mixed_32 (nZ g) (nZ (sm h (mxH A.1 g))) (nZ h) 0 0 τ = j_X9_mixed_32 (nZ g) (nZ (sm h (mxH A.1 g))) (nZ h) (nZ (mxH A.1 g h)) (nZ (6 : Nat)) τ := hJ
      rw [e_X9_mixed_20, if_neg (by rw [z6, z_le ⟨by omega, by omega⟩ ⟨by omega, by omega⟩]; omega), hJ0, e_X9_mixed_32, if_pos (by decide), hadd, g_b0, z_add, z1, z_add]
      rfl)
    refine ⟨τ2, ?_, c2⟩
    have a2' : j_X9_mixed_20 (nZ g) 0 0 τ1 = j_X9_mixed_20 (nZ g) (nZ (sm 6 (mxH A.1 g))) (nZ (6 : Nat)) τ2 := a2
    rw [e_X9_mixed, cg_t hg, g_b1, e10, a1, g_b0, a2', e_X9_mixed_20, if_pos (by decide)]
  · have c1 := km_start hM
    obtain ⟨τ2, a2, c2⟩ := km_loop (n := 6) (by omega) (fun i τ => j_X10_mixed_23 (nZ g) (nZ (sm i (mxH A.1 g))) (nZ i) τ) (fun h => (nZ (mxH A.1 g h)).toInt64) c1 (by
      intro h hh τ τ' hK hadd _
      show j_X10_mixed_23 _ _ _ _ = j_X10_mixed_23 _ _ _ _
      have st : ∀ i, i < 6 → j_X10_mixed_35 (nZ g) (nZ (sm h (mxH A.1 g))) (nZ h) (nZ (sm i (fun b => lM A.1 (sB A.1 b) g h))) (nZ i) τ = j_X10_mixed_35 (nZ g) (nZ (sm h (mxH A.1 g))) (nZ h) (nZ (sm (i + 1) (fun b => lM A.1 (sB A.1 b) g h))) (nZ (i + 1 : Nat)) τ := by
        intro i hi
        have pm : f_X10_mixedOf [gR 36 0, gI (nZ i), gI (nZ g), gI (nZ h)] τ = some (some (gI (nZ (lM A.1 (sB A.1 i) g h))), τ) := m_mixedOf hK.1.1 hi hg hh
        rw [e_X10_mixed_35, if_neg (by rw [z6, z_le ⟨by omega, by omega⟩ ⟨by omega, by omega⟩]; omega), pm, g_b1, z_add, z1, z_add]
        rfl
      have hJ := lp (n := 6) (fun i => j_X10_mixed_35 (nZ g) (nZ (sm h (mxH A.1 g))) (nZ h) (nZ (sm i (fun b => lM A.1 (sB A.1 b) g h))) (nZ i) τ) st
      have hJ0 : j_X10_mixed_35 (nZ g) (nZ (sm h (mxH A.1 g))) (nZ h) 0 0 τ = j_X10_mixed_35 (nZ g) (nZ (sm h (mxH A.1 g))) (nZ h) (nZ (mxH A.1 g h)) (nZ (6 : Nat)) τ := hJ
      rw [e_X10_mixed_23, if_neg (by rw [z6, z_le ⟨by omega, by omega⟩ ⟨by omega, by omega⟩]; omega), hJ0, e_X10_mixed_35, if_pos (by decide), hadd, g_b0, z_add, z1, z_add]
      rfl)
    refine ⟨τ2, ?_, c2⟩
    have a2' : j_X10_mixed_23 (nZ g) 0 0 (gb_si (gb_si σ 36 0 10 0) 36 0 9 0) = j_X10_mixed_23 (nZ g) (nZ (sm 6 (mxH A.1 g))) (nZ (6 : Nat)) τ2 := a2
    rw [e_X10_mixed, mg_t hg, g_b1, e10, a2', e_X10_mixed_23, if_pos (by decide)]
