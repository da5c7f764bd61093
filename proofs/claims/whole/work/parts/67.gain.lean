/-! GAIN: would, best -/
def gT (s : gb_St) (L : List gb_Ly) (g : Nat) (t : Int) (k : Nat) : Int := max 0 (sO s g k) * (min (lG L g + t) (lG L k) - min (lG L g) (lG L k))
def gW (s : gb_St) (L : List gb_Ly) (g : Nat) (t : Int) : Int := sm 6 (gT s L g t)
theorem lM_lay {s : gb_St} (io : iO s) {L : List gb_Ly} {g p q : Nat} {t d : Int} (hp : p < 6) (hq : q < 6) (hne : p ≠ q) : lM s (lay1 L g t d) p q = lM s L p q + (if g = p then gT s L g t q else if g = q then gT s L g t p else 0) := by
  unfold lM gT
  rw [lG_lay, lG_lay]
  by_cases h1 : g = p
  · subst h1
    rw [if_pos rfl, if_neg hne, if_pos rfl, Int.mul_sub, Int.add_zero]
    omega
  · by_cases h2 : g = q
    · subst h2
      rw [if_neg h1, if_pos rfl, if_neg h1, if_pos rfl, Int.mul_sub, Int.add_zero, (io p g hp hq).2.2.1, Int.min_comm (lG L p) (lG L g + t), Int.min_comm (lG L p) (lG L g)]
      omega
    · rw [if_neg h1, if_neg h2, if_neg h1, if_neg h2]
      simp only [Int.add_zero]
theorem gT_s {s : gb_St} (io : iO s) {L : List gb_Ly} {g : Nat} {t : Int} (hg : g < 6) : gT s L g t g = 0 := by
  unfold gT
  rw [(io g g hg hg).2.2.2]
  simp
theorem sm_pair {T : Nat → Int} {g : Nat} (hg : g < 6) (h0 : T g = 0) : sm 6 (fun p => sm 6 (fun q => if p < q then (if g = p then T q else if g = q then T p else 0) else 0)) = sm 6 T := by
  have e : g = 0 ∨ g = 1 ∨ g = 2 ∨ g = 3 ∨ g = 4 ∨ g = 5 := by omega
  rcases e with rfl | rfl | rfl | rfl | rfl | rfl <;> simp [sm] <;> omega
theorem lX_lay {s : gb_St} (io : iO s) {L : List gb_Ly} {g : Nat} {t d : Int} (hg : g < 6) : lX s (lay1 L g t d) = lX s L + gW s L g t := by
  unfold lX gW
  rw [← sm_pair (T := gT s L g t) hg (gT_s io hg), ← sm_add]
  refine sm_c (fun p hp => ?_)
  rw [← sm_add]
  refine sm_c (fun q hq => ?_)
  by_cases h : p < q
  · rw [if_pos h, if_pos h, if_pos h, lM_lay io hp hq (by omega)]
  · rw [if_neg h, if_neg h, if_neg h]; rfl
theorem gT_r {s : gb_St} {b g k : Nat} {t : Int} (hI : gb_IV s) (hb : b < 6) (hg : g < 6) (hk : k < 6) (ht : 0 ≤ t) : 0 ≤ gT s (sB s b) g t k ∧ gT s (sB s b) g t k ≤ 9801 := by
  obtain ⟨iw, ik, io, ic, ip, il, id⟩ := hI
  have h1 := io g k hg hk
  have h2 := lG_r il hb g
  have h3 := lG_r il hb k
  have h4 : max 0 (sO s g k) * (min (lG (sB s b) g + t) (lG (sB s b) k) - min (lG (sB s b) g) (lG (sB s b) k)) ≤ 99 * 99 := Int.mul_le_mul (by omega) (by omega) (by omega) (by omega)
  have h5 : 0 ≤ max 0 (sO s g k) * (min (lG (sB s b) g + t) (lG (sB s b) k) - min (lG (sB s b) g) (lG (sB s b) k)) := Int.mul_nonneg (by omega) (by omega)
  unfold gT
  omega
theorem gW_r {s : gb_St} {b g : Nat} {t : Int} (hI : gb_IV s) (hb : b < 6) (hg : g < 6) (ht : 0 ≤ t) : 0 ≤ gW s (sB s b) g t ∧ gW s (sB s b) g t ≤ 58806 := by
  have h1 := sm_nn (n := 6) (f := gT s (sB s b) g t) (fun k hk => (gT_r hI hb hg hk ht).1)
  have h2 := sm_ub (n := 6) (f := gT s (sB s b) g t) (fun k hk => (gT_r hI hb hg hk ht).2)
  unfold gW
  omega
theorem sU_now {s : gb_St} {g : Nat} {t d : Int} (iw : iW s) (ik : iK s) (hg : g < 6) : sU s d (g, t, d) = sW s g := by
  have h1 := iw g hg
  have h2 := ik g hg
  unfold sU
  show max 0 (sW s g - max 0 (d - d - sK s g)) = sW s g
  omega
theorem lR_lay {s : gb_St} (iw : iW s) (ik : iK s) {L : List gb_Ly} {g : Nat} {t d : Int} (hg : g < 6) : lR s d (lay1 L g t d) = lR s d L + t * sW s g := by
  unfold lR
  rw [sL_lay (f := fun l => l.2.1 * sU s d l) (fun t1 t2 => by
    show (t1 + t2) * sU s d (g, t1 + t2, d) = t1 * sU s d (g, t1, d) + t2 * sU s d (g, t2, d)
    rw [sU_now iw ik hg, sU_now iw ik hg, sU_now iw ik hg, Int.add_mul])]
  show _ + t * sU s d (g, t, d) = _
  rw [sU_now iw ik hg]
def gA (s : gb_St) (b g : Nat) (t : Int) : Int := t * sW s g - gW s (sB s b) g t
theorem gA_r {s : gb_St} {b g : Nat} {t : Int} (hI : gb_IV s) (hb : b < 6) (hg : g < 6) (ht : 1 ≤ t ∧ t ≤ 99) : -58806 ≤ gA s b g t ∧ gA s b g t ≤ 98901 := by
  have h1 := gW_r hI hb hg (t := t) (by omega)
  have h2 := hI.1 g hg
  have h3 : 0 ≤ t * sW s g := Int.mul_nonneg (by omega) (by omega)
  have h4 : t * sW s g ≤ 99 * 999 := Int.mul_le_mul ht.2 h2.2 h2.1 (by omega)
  unfold gA
  omega
theorem lV_lay {s : gb_St} (hI : gb_IV s) {b g : Nat} {t : Int} (hg : g < 6) : lV s (sY s) (lay1 (sB s b) g t (sY s)) = lV s (sY s) (sB s b) + gA s b g t := by
  unfold lV gA
  rw [lX_lay hI.2.2.1 hg, lR_lay hI.1 hI.2.1 hg]
  omega
section GA
variable {σ : gb_M} {j : Nat} {s : gb_St} {b : Nat}
theorem p_growth (hC : gb_SC σ j s) (hb : b < 6) {g : Nat} {t : Int} (hg : g < 6) (ht : 1 ≤ t ∧ t ≤ 99) : f_X7_growth [gR 10 j, gI (nZ b), gI (nZ g), gI (nZ t)] σ = some (some (gI (nZ (gW s (sB s b) g t))), σ) := by
  obtain ⟨⟨cW, cP, cN, cT, cL, cH, cY, cQ⟩, ⟨rK, rC, rO, rA⟩, iw, ik, io, ic, ip, il, id⟩ := id hC
  obtain ⟨y1, y2, q1, q2⟩ := id
  have h1 := lG_r il hb g
  rw [e_X7_growth]
  have st : ∀ i, i < 6 → j_X7_growth_19 j (nZ b) (nZ g) (nZ t) (nZ (lG (sB s b) g)) (nZ (sm i (gT s (sB s b) g t))) (nZ i) σ = j_X7_growth_19 j (nZ b) (nZ g) (nZ t) (nZ (lG (sB s b) g)) (nZ (sm (i + 1) (gT s (sB s b) g t))) (nZ (i + 1 : Nat)) σ := by
    intro i hi
    have h2 := lG_r il hb i
    rw [e_X7_growth_19, sm_s]
    simp (disch := omega) only [z0, z1, z2, z3, z4, z5, z6, z12, z18, z48, z54, z60, z66, z174, z175, z_neg, z_add, z_sub, z_mul, z_tn, g_in, g_b0, g_b1, Int.toNat_natCast, z_le, z_lt, z_eq, z_mx, z_mn, if_pos, if_neg, if_true, if_false, cH b i hb hi, p_lossOf hC hg hi, Int.natCast_add, Int.natCast_one]
    rfl
  have hJ := lp (n := 6) (fun i => j_X7_growth_19 j (nZ b) (nZ g) (nZ t) (nZ (lG (sB s b) g)) (nZ (sm i (gT s (sB s b) g t))) (nZ i) σ) st
  have hJ0 : j_X7_growth_19 j (nZ b) (nZ g) (nZ t) (nZ (lG (sB s b) g)) 0 0 σ = j_X7_growth_19 j (nZ b) (nZ g) (nZ t) (nZ (lG (sB s b) g)) (nZ (gW s (sB s b) g t)) (nZ (6 : Nat)) σ := hJ
  have e : (nZ b * 6 + nZ g) = nZ ((b : Int) * 6 + (g : Int)) := by rw [z6, z_mul, z_add]
  rw [e, z_tn (by omega), cH b g hb hg, hJ0, g_in (by omega), e_X7_growth_19, if_pos (by decide)]
theorem p_gain (hC : gb_SC σ j s) (hb : b < 6) {g : Nat} {t : Int} (hg : g < 6) (ht : 1 ≤ t ∧ t ≤ 99) : f_X7_gain [gR 10 j, gI (nZ b), gI (nZ g), gI (nZ t)] σ = some (some (gI (nZ (gA s b g t))), σ) := by
  obtain ⟨⟨cW, cP, cN, cT, cL, cH, cY, cQ⟩, ⟨rK, rC, rO, rA⟩, iw, ik, io, ic, ip, il, id⟩ := id hC
  obtain ⟨y1, y2, q1, q2⟩ := id
  rw [e_X7_gain, p_growth hC hb hg ht, g_b1, z_tn (by omega), Int.toNat_natCast, cW g hg, g_in (by omega), z_mul, z_sub]
  rfl
/-- where it may lie -/
theorem sWhyZ {g : Nat} {t d : Int} (h : sWhy s b g t d = 0) : ¬ sY s < sP s b ∧ lT (sB s b) + t ≤ sC s b ∧ ap s (sB s b) g = false ∧ (onB (sB s b) g d = true ∨ (sB s b).length ≠ 6) := by
  unfold sWhy at h
  by_cases h1 : sY s < sP s b
  · rw [if_pos h1] at h; omega
  rw [if_neg h1] at h
  by_cases h2 : sC s b < lT (sB s b) + t
  · rw [if_pos h2] at h; omega
  rw [if_neg h2] at h
  by_cases h3 : ap s (sB s b) g = true
  · rw [if_pos h3] at h; omega
  rw [if_neg h3] at h
  refine ⟨h1, by omega, by simpa using h3, ?_⟩
  by_cases h4 : (sB s b).length = 6 ∧ onB (sB s b) g d = false
  · rw [if_pos h4] at h; omega
  · cases ho : onB (sB s b) g d with
    | true => exact Or.inl rfl
    | false => exact Or.inr (fun e => h4 ⟨e, ho⟩)
theorem IV_lay (hI : gb_IV s) (hb : b < 6) {g : Nat} {t d : Int} (hg : g < 6) (ht : 1 ≤ t) (hd : 0 ≤ d ∧ d ≤ 10019) (h : sWhy s b g t d = 0) : gb_IV (setB s b (lay1 (sB s b) g t d)) ∧ lT (sB s b) + t ≤ 99 ∧ (onB (sB s b) g d = true ∨ (sB s b).length < 6) := by
  obtain ⟨h1, h2, h3, h4⟩ := sWhyZ h
  have hc := hI.2.2.2.1 b hb
  have hlen := (hI.2.2.2.2.2.1 b hb).1
  have hroom : onB (sB s b) g d = true ∨ (sB s b).length < 6 := by
    rcases h4 with h4 | h4
    · exact Or.inl h4
    · exact Or.inr (by omega)
  refine ⟨IV_set hI ?_ (by rw [lT_lay]; omega) (ok_lay (hI.2.2.2.2.2.1 b hb).2.2 (by omega) hg ht hd), by omega, hroom⟩
  rw [lay1_len]
  rcases hroom with h5 | h5
  · rw [if_pos h5]; exact hlen
  · split <;> omega
theorem m_more (hM : gb_MM σ s) (hb : b < 6) {g : Nat} {t : Int} (hg : g < 6) (ht : 1 ≤ t ∧ t ≤ 99) (hw : sWhy s b g t (sY s) = 0) : ∃ σ', f_X10_more [gR 36 0, gI (nZ g), gI (nZ t), gI (nZ b)] σ = some (some (gI (nZ (gA s b g t))), σ') ∧ gb_MM σ' s ∧ gb_fX (fun k => k = 37 ∨ k = 51) (fun x => x = 30 ∨ x = 31) σ σ' ∧ σ'.1 36 0 30 = nZ (lV s (sY s) (sB s b) + gA s b g t) ∧ σ'.1 36 0 31 = nZ (lX s (sB s b) + gW s (sB s b) g t) := by
  obtain ⟨⟨mW, mK, mO, mC, mP, mN, mL, mY, mQ⟩, iw, ik, io, ic, ip, il, id⟩ := id hM
  obtain ⟨y1, y2, q1, q2⟩ := id
  simp only [Nat.zero_add] at mW mK mO mC mP mN mL mY mQ
  obtain ⟨hI', hT, hroom⟩ := IV_lay hM.2 hb hg ht.1 (d := sY s) (by omega) hw
  obtain ⟨τ1, a1, a2, a3, -⟩ := m_laysDown σ (k := 6) (by omega)
  have hM1 : gb_MM τ1 s := fP_MM a2 (by omega) hM
  have mY1 : τ1.1 37 0 174 = nZ (sY s) := by rw [a2.1 37 0 174 (by omega)]; exact mY
  obtain ⟨τ2, b1, b2, b3, -⟩ := m_lies hM1 hb (g := g) (t := t) (d := sY s) hg ht.1 hT (by omega) hroom
  have v1 := m_valueOf hM hb
  have v2 := m_valueOf b2 hb
  rw [sB_s] at v2
  have eV : lV (setB s b (lay1 (sB s b) g t (sY s))) (sY (setB s b (lay1 (sB s b) g t (sY s)))) (lay1 (sB s b) g t (sY s)) = lV s (sY s) (sB s b) + gA s b g t := lV_lay hM.2 hg
  rw [eV] at v2
  have hM3 : gb_MM (gb_si τ2 36 0 30 (nZ (lV s (sY s) (sB s b) + gA s b g t))) (setB s b (lay1 (sB s b) g t (sY s))) := fP_MM (fP_si (P := fun k => k = 36) fP_rf rfl) (by omega) b2
  have v3 := m_mixedIn hM3 hb
  rw [sB_s] at v3
  have eX : lX (setB s b (lay1 (sB s b) g t (sY s))) (lay1 (sB s b) g t (sY s)) = lX s (sB s b) + gW s (sB s b) g t := lX_lay hM.2.2.2.1 hg
  rw [eX] at v3
  obtain ⟨τ4, c1, c2, c3⟩ := m_takesUp (gb_si (gb_si τ2 36 0 30 (nZ (lV s (sY s) (sB s b) + gA s b g t))) 36 0 31 (nZ (lX s (sB s b) + gW s (sB s b) g t))) (k := 6) (by omega)
  have e30 : τ4.1 36 0 30 = nZ (lV s (sY s) (sB s b) + gA s b g t) := by rw [c2.1 36 0 30 (by omega), si_i (by omega), si_s]
  have e31 : τ4.1 36 0 31 = nZ (lX s (sB s b) + gW s (sB s b) g t) := by rw [c2.1 36 0 31 (by omega), si_s]
  refine ⟨τ4, ?_, ⟨RM_cg hM.1 il (fun x hx => ?_), hM.2⟩, ?_, e30, e31⟩
  · have a1' : f_X10_laysDown [gR 36 0, gI 6] σ = some (none, τ1) := a1
    have c1' : f_X10_takesUp [gR 36 0, gI 6] (gb_si (gb_si τ2 36 0 30 (nZ (lV s (sY s) (sB s b) + gA s b g t))) 36 0 31 (nZ (lX s (sB s b) + gW s (sB s b) g t))) = some (none, τ4) := c1
    rw [e_X10_more, v1, g_b1, a1', g_b0, g174, e174, mY1, b1, g_b0, v2, g_b1, v3, g_b1, c1', g_b0, e30, z_sub, show lV s (sY s) (sB s b) + gA s b g t - lV s (sY s) (sB s b) = gA s b g t by omega]
  · rw [Nat.zero_add, c3 x hx, si_k (by omega), si_k (by omega), b3.1 51 0 _ (by omega)]
    exact a3 x hx
  · refine fX_tr (fP_fX0 a2 (fun k _ h => Or.inr h) (by omega)) (fX_tr (fP_fX0 b3 (fun k _ h => Or.inl h) (by omega)) (fX_tr (fX_si (fX_si fX_rf (Or.inr ⟨rfl, Or.inl rfl⟩)) (Or.inr ⟨rfl, Or.inr rfl⟩)) (fP_fX0 c2 (fun k _ h => Or.inl h) (by omega))))
theorem KM_back {Q I : Nat → Prop} {σ0 σ' : gb_M} {A : gb_Ab} (h : KM σ0 σ A) (f : gb_fX Q I σ σ') (hq : ¬ Q 39 ∧ ¬ Q 40 ∧ ¬ Q 41 ∧ ¬ Q 42) (hi : ¬ I 3 ∧ ¬ I 5 ∧ ¬ I 7 ∧ ¬ I 9) (hQ : ∀ k, Q k → 36 ≤ k) (hM : gb_MM σ' A.1) : KM σ0 σ' A := ⟨MC_S h.1 f hq hi hM, fP_tr h.2 (fX_fP f hQ)⟩
end GA
theorem th_would {A : gb_Ab} (hA : wfA A) (a c e : Int32) : gb_T2 f_X9_would f_X10_would [gR 0 0, gI a, gI c, gI e] [gR 36 0, gI a, gI c, gI e] A := by
  have hx := nZ_rz a
  have hy := nZ_rz c
  have hw := nZ_rz e
  rw [nZ_of a, nZ_of c, nZ_of e]
  generalize a.toInt = x at hx
  generalize c.toInt = t at hy
  generalize e.toInt = y at hw
  have hI := hA.1.1
  obtain ⟨y1, y2, q1, q2⟩ := hI.2.2.2.2.2.2
  by_cases h1 : 0 ≤ x ∧ x < 6
  rotate_left
  · refine T2_same hA (some (gI (-1))) (fun σ hC => ?_) (fun σ hM => ?_)
    · rw [e_X9_would, cg_f hx h1, g_b1, e00]
    · rw [e_X10_would, mg_f hx h1, g_b1, e00]
  obtain ⟨g, rfl⟩ : ∃ b : Nat, x = b := ⟨x.toNat, by omega⟩
  have hg : g < 6 := by omega
  by_cases h2 : 1 ≤ t ∧ t ≤ 99
  rotate_left
  · refine T2_same hA (some (gI (-1))) (fun σ hC => ?_) (fun σ hM => ?_)
    · rw [e_X9_would, cg_t hg, g_b1, e10, ct_f hy h2, g_b1, e00]
    · rw [e_X10_would, mg_t hg, g_b1, e10, ml_f hy h2, g_b1, e00]
  by_cases h3 : 0 ≤ y ∧ y < 6
  rotate_left
  · refine T2_same hA (some (gI (-1))) (fun σ hC => ?_) (fun σ hM => ?_)
    · rw [e_X9_would, cg_t hg, g_b1, e10, ct_t h2, g_b1, e10, cb_f hw h3, g_b1, e00]
    · rw [e_X10_would, mg_t hg, g_b1, e10, ml_t h2, g_b1, e10, mb_f hw h3, g_b1, e00]
  obtain ⟨b, rfl⟩ : ∃ b : Nat, y = b := ⟨y.toNat, by omega⟩
  have hb : b < 6 := by omega
  have hr := sWhy_r (s := A.1) (b := b) (g := g) (t := t) (d := sY A.1)
  by_cases h4 : sWhy A.1 b g t (sY A.1) = 0
  rotate_left
  · refine T2_same hA (some (gI (nZ (-1000000 + sWhy A.1 b g t (sY A.1))))) (fun σ hC => ?_) (fun σ hM => ?_)
    · have cY := hC.1.1.2.2.2.2.2.2.1
      rw [e_X9_would, cg_t hg, g_b1, e10, ct_t h2, g_b1, e10, cb_t hb, g_b1, e10, cY, p_why hC.1 hb hg (by omega) (by omega), g_b1, if_neg (by rw [z0, z_le ⟨by omega, by omega⟩ ⟨by omega, by omega⟩]; omega), show (-1000000 : Int32) = nZ (-1000000) from rfl, z_add]
    · have hM1 := (MC_t (v := 0) hM).1
      have mY := m_DAY (σ0 := σ) ⟨hM1, fX_fP (MC_t hM).2 (fun k z => z.elim)⟩
      rw [e_X10_would, mg_t hg, g_b1, e10, ml_t h2, g_b1, e10, mb_t hb, g_b1, e10, g174, e174, mY, m_why hM1.1 hb hg (by omega) (by omega), g_b1, if_neg (by rw [z0, z_eq ⟨by omega, by omega⟩ ⟨by omega, by omega⟩]; omega), show (1000000 : Int32) = nZ 1000000 from rfl, z_sub, show sWhy A.1 b g t (sY A.1) - 1000000 = -1000000 + sWhy A.1 b g t (sY A.1) by omega]
  refine T2_K (some (gI (nZ (gA A.1 b g t)))) (setR A ([] ++ [(nZ (lV A.1 (sY A.1) (sB A.1 b) + gA A.1 b g t)).toInt64] ++ [(nZ (lX A.1 (sB A.1 b) + gW A.1 (sB A.1 b) g t)).toInt64])) (wf_setR hA) (fun σ hC => ?_) (fun σ hM => ?_)
  · obtain ⟨τ1, a1, c1⟩ := kc_start hC
    obtain ⟨τ2, a2, c2⟩ := kc_add c1 (by simp) (nZ (lV A.1 (sY A.1) (sB A.1 b) + gA A.1 b g t)).toInt64
    obtain ⟨τ3, a3, c3⟩ := kc_add c2 (by simp) (nZ (lX A.1 (sB A.1 b) + gW A.1 (sB A.1 b) g t)).toInt64
    refine ⟨τ3, ?_, c3⟩
    have cY := hC.1.1.1.2.2.2.2.2.2.1
    have p1 : f_X7_valueOf [gR 10 0, gI (nZ b)] τ1 = some (some (gI (nZ (lV A.1 (sY A.1) (sB A.1 b)))), τ1) := p_valueOf c1.1.1 hb
    have p2 : f_X7_mixedIn [gR 10 0, gI (nZ b)] τ2 = some (some (gI (nZ (lX A.1 (sB A.1 b)))), τ2) := p_mixedIn c2.1.1 hb
    have p3 : f_X7_growth [gR 10 0, gI (nZ b), gI (nZ g), gI (nZ t)] τ2 = some (some (gI (nZ (gW A.1 (sB A.1 b) g t))), τ2) := p_growth c2.1.1 hb hg h2
    have h00 : (0 : Int32) ≤ nZ 0 := by decide
    rw [e_X9_would, cg_t hg, g_b1, e10, ct_t h2, g_b1, e10, cb_t hb, g_b1, e10, cY, p_why hC.1.1 hb hg (by omega) (by omega), g_b1, h4, if_pos h00, p_gain hC.1.1 hb hg h2, g_b1, a1, g_b0, p1, g_b1, z_add, a2, g_b0, p2, g_b1, p3, g_b1, z_add, a3, g_b0]
  · have mY := m_DAY hM
    obtain ⟨τ1, a1, a2, a3, a4, a5⟩ := m_more hM.1.1 hb hg h2 h4
    have c1 : KM σ τ1 A := KM_back hM a3 ⟨by omega, by omega, by omega, by omega⟩ ⟨by omega, by omega, by omega, by omega⟩ (fun k hk => by omega) a2
    have c2 := km_start c1
    obtain ⟨τ3, b1, c3, f3⟩ := km_tellx c2 (by simp) (nZ (lV A.1 (sY A.1) (sB A.1 b) + gA A.1 b g t)).toInt64
    obtain ⟨τ4, b2, c4⟩ := km_tell c3 (by simp) (nZ (lX A.1 (sB A.1 b) + gW A.1 (sB A.1 b) g t)).toInt64
    refine ⟨τ4, ?_, c4⟩
    have e30 : (gb_si τ1 36 0 9 0).1 36 0 30 = nZ (lV A.1 (sY A.1) (sB A.1 b) + gA A.1 b g t) := by rw [si_i (by omega)]; exact a4
    have e31 : τ3.1 36 0 31 = nZ (lX A.1 (sB A.1 b) + gW A.1 (sB A.1 b) g t) := by rw [f3.2 31 (by omega), si_i (by omega)]; exact a5
    rw [e_X10_would, mg_t hg, g_b1, e10, ml_t h2, g_b1, e10, mb_t hb, g_b1, e10, g174, e174, mY, m_why hM.1.1 hb hg (by omega) (by omega), g_b1, h4, if_pos (show nZ 0 = 0 from rfl), a1, g_b1, e30, b1, g_b0, e31, b2, g_b0]
theorem lpi {n : Nat} {α : Type} (J : Nat → α → gb_R) (f : Nat → α → α) (P : α → Prop) {a : α} (h0 : P a) (hs : ∀ i, i < n → ∀ a, P a → J i a = J (i + 1) (f i a) ∧ P (f i a)) : J 0 a = J n (it n a f) ∧ P (it n a f) := by
  have : ∀ k, k ≤ n → J 0 a = J k (it k a f) ∧ P (it k a f) := by
    intro k
    induction k with
    | zero => intro _; exact ⟨rfl, h0⟩
    | succ k ih =>
      intro hk
      obtain ⟨h1, h2⟩ := ih (by omega)
      obtain ⟨h3, h4⟩ := hs k (by omega) _ h2
      exact ⟨h1.trans h3, h4⟩
  exact this n (Nat.le_refl n)
theorem it_inv {n : Nat} {α : Type} (f : Nat → α → α) (P : α → Prop) {a : α} (h0 : P a) (hs : ∀ i, i < n → ∀ a, P a → P (f i a)) : P (it n a f) := by
  have : ∀ k, k ≤ n → P (it k a f) := by
    intro k
    induction k with
    | zero => intro _; exact h0
    | succ k ih => intro hk; exact hs k (by omega) _ (ih (by omega))
  exact this n (Nat.le_refl n)
def bsF (s : gb_St) (g : Nat) (t : Int) (b : Nat) (a : Int × Int) : Int × Int := if sWhy s b g t (sY s) = 0 ∧ (a.1 < 0 ∨ a.2 < gA s b g t) then ((b : Int), gA s b g t) else a
def bsP (a : Int × Int) : Prop := (a.1 = -2 ∨ (0 ≤ a.1 ∧ a.1 < 6)) ∧ -58806 ≤ a.2 ∧ a.2 ≤ 98901
theorem bsF_P {s : gb_St} {g b : Nat} {t : Int} (hI : gb_IV s) (hb : b < 6) (hg : g < 6) (ht : 1 ≤ t ∧ t ≤ 99) {a : Int × Int} (h : bsP a) : bsP (bsF s g t b a) := by
  unfold bsF
  have := gA_r hI hb hg ht
  split
  · exact ⟨Or.inr ⟨by show (0 : Int) ≤ b; omega, by show (b : Int) < 6; omega⟩, this⟩
  · exact h
theorem th_best {A : gb_Ab} (hA : wfA A) (a c : Int32) : gb_T2 f_X9_best f_X10_best [gR 0 0, gI a, gI c] [gR 36 0, gI a, gI c] A := by
  have hx := nZ_rz a
  have hy := nZ_rz c
  rw [nZ_of a, nZ_of c]
  generalize a.toInt = x at hx
  generalize c.toInt = t at hy
  have hI := hA.1.1
  obtain ⟨y1, y2, q1, q2⟩ := hI.2.2.2.2.2.2
  by_cases h1 : 0 ≤ x ∧ x < 6
  rotate_left
  · refine T2_same hA (some (gI (-1))) (fun σ hC => ?_) (fun σ hM => ?_)
    · rw [e_X9_best, cg_f hx h1, g_b1, e00]
    · rw [e_X10_best, mg_f hx h1, g_b1, e00]
  obtain ⟨g, rfl⟩ : ∃ b : Nat, x = b := ⟨x.toNat, by omega⟩
  have hg : g < 6 := by omega
  by_cases h2 : 1 ≤ t ∧ t ≤ 99
  rotate_left
  · refine T2_same hA (some (gI (-1))) (fun σ hC => ?_) (fun σ hM => ?_)
    · rw [e_X9_best, cg_t hg, g_b1, e10, ct_f hy h2, g_b1, e00]
    · rw [e_X10_best, mg_t hg, g_b1, e10, ml_f hy h2, g_b1, e00]
  have h0 : bsP ((-2, 0) : Int × Int) := ⟨Or.inl rfl, by show (-58806 : Int) ≤ 0; omega, by show (0 : Int) ≤ 98901; omega⟩
  have hfin := it_inv (n := 6) (bsF A.1 g t) bsP h0 (fun i hi a ha => bsF_P hI hi hg h2 ha)
  generalize hz : it 6 ((-2, 0) : Int × Int) (bsF A.1 g t) = z at hfin
  obtain ⟨z1', z2', z3'⟩ := id hfin
  have cJ : ∀ σ, CC σ A → f_X9_best [gR 0 0, gI (nZ g), gI (nZ t)] σ = j_X9_best_25 (nZ g) (nZ t) (nZ z.1) (nZ z.2) (nZ (6 : Nat)) σ := by
    intro σ hC
    have cY := hC.1.1.2.2.2.2.2.2.1
    obtain ⟨hJ, -⟩ := lpi (n := 6) (fun i a => j_X9_best_25 (nZ g) (nZ t) (nZ a.1) (nZ a.2) (nZ i) σ) (bsF A.1 g t) bsP h0 (fun i hi a ha => ⟨by
      show j_X9_best_25 _ _ _ _ _ _ = j_X9_best_25 _ _ _ _ _ _
      have hr := sWhy_r (s := A.1) (b := i) (g := g) (t := t) (d := sY A.1)
      have hgr := gA_r hI hi hg h2
      obtain ⟨p1, p2, p3⟩ := ha
      have e1 : nZ i + 1 = nZ (i + 1 : Nat) := by rw [z1, z_add]; rfl
      rw [e_X9_best_25, if_neg (by rw [z6, z_le ⟨by omega, by omega⟩ ⟨by omega, by omega⟩]; omega), cY, p_why hC.1 hi hg (by omega) (by omega), g_b1, e1]
      unfold bsF
      by_cases w0 : sWhy A.1 i g t (sY A.1) = 0
      · rw [w0, if_pos (show nZ 0 = 0 from rfl), p_gain hC.1 hi hg h2, g_b1]
        by_cases w1 : a.1 < 0
        · rw [if_pos (by rw [z0, z_lt ⟨by omega, by omega⟩ ⟨by omega, by omega⟩]; exact w1), if_pos ⟨rfl, Or.inl w1⟩]
        · rw [if_neg (by rw [z0, z_lt ⟨by omega, by omega⟩ ⟨by omega, by omega⟩]; exact w1)]
          by_cases w2 : a.2 < gA A.1 i g t
          · rw [if_neg (by rw [z_le ⟨by omega, by omega⟩ ⟨by omega, by omega⟩]; omega), if_pos ⟨rfl, Or.inr w2⟩]
          · rw [if_pos (by rw [z_le ⟨by omega, by omega⟩ ⟨by omega, by omega⟩]; omega), if_neg (by omega)]
      · rw [if_neg (by rw [z0, z_eq ⟨by omega, by omega⟩ ⟨by omega, by omega⟩]; exact w0), if_neg (by omega)], bsF_P hI hi hg h2 ha⟩)
    rw [hz] at hJ
    rw [e_X9_best, cg_t hg, g_b1, e10, ct_t h2, g_b1, e10]
    exact hJ
  have mJ : ∀ σ, KM σ (gb_si σ 36 0 10 0) A → ∃ τ, f_X10_best [gR 36 0, gI (nZ g), gI (nZ t)] σ = j_X10_best_30 (nZ g) (nZ t) (nZ z.1) (nZ z.2) (nZ (6 : Nat)) τ ∧ KM σ τ A := by
    intro σ hM
    obtain ⟨τ, hJ, hK, -⟩ := lph (n := 6) (σ := gb_si σ 36 0 10 0) (fun i τ => j_X10_best_30 (nZ g) (nZ t) (nZ (it i ((-2, 0) : Int × Int) (bsF A.1 g t)).1) (nZ (it i ((-2, 0) : Int × Int) (bsF A.1 g t)).2) (nZ i) τ) (fun i τ => KM σ τ A ∧ bsP (it i ((-2, 0) : Int × Int) (bsF A.1 g t))) ⟨hM, h0⟩ (by
      intro i hi τ ⟨hK, ha⟩
      have mY := m_DAY hK
      have hr := sWhy_r (s := A.1) (b := i) (g := g) (t := t) (d := sY A.1)
      have hgr := gA_r hI hi hg h2
      have hP' := bsF_P hI hi hg h2 ha
      show ∃ τ', j_X10_best_30 _ _ _ _ _ _ = j_X10_best_30 _ _ (nZ (bsF A.1 g t i (it i ((-2, 0) : Int × Int) (bsF A.1 g t))).1) (nZ (bsF A.1 g t i (it i ((-2, 0) : Int × Int) (bsF A.1 g t))).2) _ _ ∧ KM σ τ' A ∧ bsP (bsF A.1 g t i (it i ((-2, 0) : Int × Int) (bsF A.1 g t)))
      generalize it i ((-2, 0) : Int × Int) (bsF A.1 g t) = a at ha hP' ⊢
      obtain ⟨p1, p2, p3⟩ := ha
      have e1 : nZ i + 1 = nZ (i + 1 : Nat) := by rw [z1, z_add]; rfl
      by_cases w0 : sWhy A.1 i g t (sY A.1) = 0
      · obtain ⟨τ1, a1, a2, a3, -, -⟩ := m_more hK.1.1 hi hg h2 w0
        refine ⟨τ1, ?_, KM_back hK a3 ⟨by omega, by omega, by omega, by omega⟩ ⟨by omega, by omega, by omega, by omega⟩ (fun k hk => by omega) a2, hP'⟩
        rw [e_X10_best_30, if_neg (by rw [z6, z_le ⟨by omega, by omega⟩ ⟨by omega, by omega⟩]; omega), g174, e174, mY, m_why hK.1.1 hi hg (by omega) (by omega), g_b1, e1, w0, if_pos (show nZ 0 = 0 from rfl), a1, g_b1]
        unfold bsF
        by_cases w1 : a.1 = -2
        · rw [if_pos (by rw [zm2, z_eq ⟨by omega, by omega⟩ ⟨by omega, by omega⟩]; exact w1), if_pos ⟨w0, Or.inl (by omega)⟩]
        · rw [if_neg (by rw [zm2, z_eq ⟨by omega, by omega⟩ ⟨by omega, by omega⟩]; exact w1)]
          by_cases w2 : a.2 < gA A.1 i g t
          · rw [if_pos (by rw [z_lt ⟨by omega, by omega⟩ ⟨by omega, by omega⟩]; exact w2), if_pos ⟨w0, Or.inr w2⟩]
          · rw [if_neg (by rw [z_lt ⟨by omega, by omega⟩ ⟨by omega, by omega⟩]; exact w2), if_neg (by omega)]
      · refine ⟨τ, ?_, hK, hP'⟩
        rw [e_X10_best_30, if_neg (by rw [z6, z_le ⟨by omega, by omega⟩ ⟨by omega, by omega⟩]; omega), g174, e174, mY, m_why hK.1.1 hi hg (by omega) (by omega), g_b1, e1, if_neg (by rw [z0, z_eq ⟨by omega, by omega⟩ ⟨by omega, by omega⟩]; exact w0)]
        unfold bsF
        rw [if_neg (by omega)])
    rw [hz] at hJ
    refine ⟨τ, ?_, hK⟩
    rw [e_X10_best, mg_t hg, g_b1, e10, ml_t h2, g_b1, e10]
    exact hJ
  by_cases w : z.1 < 0
  · refine T2_K (some (gI (nZ (-2)))) A hA (fun σ hC => ⟨σ, ?_, hC⟩) (fun σ hM => ?_)
    · rw [cJ σ hC.1, e_X9_best_25, if_pos (by decide), if_pos (by rw [z0, z_lt ⟨by omega, by omega⟩ ⟨by omega, by omega⟩]; exact w), show z.1 = -2 by omega]
    · obtain ⟨τ, hJ, hK⟩ := mJ σ hM
      refine ⟨τ, ?_, hK⟩
      rw [hJ, e_X10_best_30, if_pos (by decide), if_pos (by rw [show z.1 = -2 by omega]; rfl)]
      rfl
  · refine T2_K (some (gI (nZ z.1))) (setR A ([] ++ [(nZ z.2).toInt64])) (wf_setR hA) (fun σ hC => ?_) (fun σ hM => ?_)
    · obtain ⟨τ1, a1, c1⟩ := kc_start hC
      obtain ⟨τ2, a2, c2⟩ := kc_add c1 (by simp) (nZ z.2).toInt64
      refine ⟨τ2, ?_, c2⟩
      rw [cJ σ hC.1, e_X9_best_25, if_pos (by decide), if_neg (by rw [z0, z_lt ⟨by omega, by omega⟩ ⟨by omega, by omega⟩]; exact w), a1, g_b0, a2, g_b0]
    · obtain ⟨τ, hJ, hK⟩ := mJ σ hM
      obtain ⟨τ2, a2, c2⟩ := km_tell (km_start hK) (by simp) (nZ z.2).toInt64
      refine ⟨τ2, ?_, c2⟩
      rw [hJ, e_X10_best_30, if_pos (by decide), if_neg (by rw [zm2, z_eq ⟨by omega, by omega⟩ ⟨by omega, by omega⟩]; omega), a2, g_b0]
