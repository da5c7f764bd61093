/-! FUMES, TURN -/
theorem setB_P {s : gb_St} {b : Nat} {v : Int} : sB (setP s b v) b = sB s b := rfl
section FUM
variable {σ : gb_M} {s : gb_St} {b : Nat}
/-- one after the other comes to lie in an emptied bin -/
theorem m_pile {L : List gb_Ly} {s : gb_St} (hI : gb_IV s) (hb : b < 6) (hl6 : L.length ≤ 6) (hT : lT L ≤ 99) (hok : ∀ l ∈ L, okL l) {σ : gb_M} (J : Nat → gb_M → gb_R) (Keep : gb_M → Prop) (h0 : gb_MM σ (setB s b [])) (hk0 : Keep σ) (raw : Nat → Nat → Int32)
    (hs : ∀ i, i < L.length → ∀ τ, Keep τ → gb_fP (fun k => k = 37) σ τ → (∀ x, 66 + 18 * b + 3 * i ≤ x → τ.1 37 0 x = σ.1 37 0 x) → ∀ τ', f_X10_lies [gR 36 0, gI (nZ b), gI (nZ (lz L i).1), gI (nZ (lz L i).2.1), gI (nZ (lz L i).2.2)] τ = some (none, τ') → J i τ = J (i + 1) τ') (hkeep : ∀ τ τ', Keep τ → gb_fP (fun k => k = 37) τ τ' → Keep τ') :
    ∃ τ, J 0 σ = J L.length τ ∧ gb_MM τ (setB s b (jn L)) ∧ gb_fP (fun k => k = 37) σ τ := by
  obtain ⟨τ, h1, h2, h3, -⟩ := lph (n := L.length) (σ := σ) J (fun i τ => gb_MM τ (setB s b (jn (L.take i))) ∧ gb_fP (fun k => k = 37) σ τ ∧ Keep τ ∧ ∀ x, 66 + 18 * b + 3 * i ≤ x → τ.1 37 0 x = σ.1 37 0 x) ⟨h0, fP_rf, hk0, fun _ _ => rfl⟩ (by
    intro i hi τ ⟨hM, f, hk, hx⟩
    have hl := hok _ (lz_mem hi)
    obtain ⟨l1, l2, l3, l4, l5⟩ := hl
    have hTk := lT_tk_le (k := i + 1) hok
    have hTs : lT (L.take (i + 1)) = lT (L.take i) + (lz L i).2.1 := sL_take hi
    have hjT := jn_T (L := L) i (by omega)
    have hjl := jn_len (L := L) i (by omega)
    obtain ⟨τ', a1, a2, a3, a4⟩ := m_lies hM hb (g := (lz L i).1) (t := (lz L i).2.1) (d := (lz L i).2.2) l1 l2 (by rw [sB_s]; omega) ⟨l4, l5⟩ (Or.inr (by rw [sB_s]; omega))
    rw [sB_s] at a2 a4
    rw [setB2, ← jn_take hi] at a2
    refine ⟨τ', hs i hi τ hk f hx τ' a1, a2, fP_tr f a3, hkeep _ _ hk a3, fun x hxx => ?_⟩
    rw [a4 x (by omega)]
    exact hx x (by omega))
  rw [List.take_length] at h2
  exact ⟨τ, h1, h2, h3⟩
theorem m_fumigates (hM : gb_MM σ s) (hb : b < 6) {n : Int} (hn : 1 ≤ n ∧ n ≤ 20) : ∃ σ', f_X10_fumigates [gR 36 0, gI (nZ b), gI (nZ n)] σ = some (none, σ') ∧ gb_MM σ' (setB (setP s b (sY s + n)) b (jn (fum (sB s b) (sY s + n)))) ∧ gb_fP (fun k => k = 37) σ σ' := by
  obtain ⟨⟨mW, mK, mO, mC, mP, mN, mL, mY, mQ⟩, iw, ik, io, ic, ip, il, id⟩ := id hM
  obtain ⟨y1, y2, q1, q2⟩ := id
  simp only [Nat.zero_add] at mW mK mO mC mP mN mL mY mQ
  have hlen := (il b hb).1
  generalize hd : sY s + n = d
  have hd' : 0 ≤ d ∧ d ≤ 10019 := by omega
  have hIP := IV_P hM.2 hb hd'
  have hMP : gb_MM (gb_si σ 37 0 (54 + b) (nZ d)) (setP s b d) := MM_si hM (by omega) hIP
  have hfl : (fum (sB s b) d).length = (sB s b).length := by unfold fum; rw [List.length_map]
  have hI0 : gb_IV (setB (setP s b d) b []) := IV_set hIP (by simp) (by show (0 : Int) ≤ 99; omega) (fun l hl => by cases hl)
  have h0 : gb_MM (gb_si (gb_si σ 37 0 (54 + b) (nZ d)) 37 0 (60 + b) (nZ (0 : Nat))) (setB (setP s b d) b []) := by
    refine ⟨RM_set hMP.1 hIP.2.2.2.2.2.1 hb (by simp) (fun x hx h1 h2 => by rw [Nat.zero_add, si_i h1]) (by rw [Nat.zero_add, show (60 + (b : Int)).toNat = 60 + b by omega, si_s]; rfl) (fun i hi => by cases hi), hI0⟩
  obtain ⟨τ, h1, h2, h3⟩ := m_pile (L := fum (sB s b) d) hIP hb (by omega) (by rw [show lT (fum (sB s b) d) = lT (sB s b) from fum_sL (fun _ _ _ => rfl)]; exact (il b hb).2.1) (fum_ok (il b hb).2.2 hd') (fun i τ => j_X10_fumigates_41 (nZ b) (nZ d) (nZ (sB s b).length) (nZ i) τ) (fun _ => True) h0 trivial (fun _ _ => 0) (by
    intro i hi τ _ f hx τ' hlies
    rw [hfl] at hi
    rw [fum_lz hi] at hlies
    obtain ⟨g1, g2, g3⟩ := mL b i hb hi
    have k0 := m_lr τ hb (i := i) (by omega) (c := 0) (by omega)
    have k1 := m_lr τ hb (i := i) (by omega) (c := 1) (by omega)
    rw [show ((0 : Nat) : Int) = 0 from rfl, hx _ (by omega), si_i (by omega), si_i (by omega), g1] at k0
    rw [show ((1 : Nat) : Int) = 1 from rfl, hx _ (by omega), si_i (by omega), si_i (by omega), g2] at k1
    show j_X10_fumigates_41 _ _ _ _ _ = j_X10_fumigates_41 _ _ _ _ _
    rw [e_X10_fumigates_41]
    simp (disch := omega) only [z0, z1, z2, z3, z4, z5, z6, z12, z18, z48, z54, z60, z66, z174, z175, z_neg, z_add, z_sub, z_mul, z_tn, g_in, g_b0, g_b1, Int.toNat_natCast, z_le, z_lt, z_eq, z_mx, z_mn, if_pos, if_neg, if_true, if_false, k0, k1, hlies, Int.natCast_add, Int.natCast_one]) (fun _ _ _ _ => trivial)
  refine ⟨τ, ?_, h2, fP_tr (fP_si (fP_si fP_rf rfl) rfl) h3⟩
  rw [e_X10_fumigates]
  have em := m_many hMP hb
  have e1 : sB (setP s b d) b = sB s b := rfl
  rw [e1] at em
  have e54 : (54 + (b : Int)).toNat = 54 + b := by omega
  have e60 : (60 + (b : Int)).toNat = 60 + b := by omega
  simp (disch := omega) only [z54, z60, z174, z_add, g_in, z_tn, show (174 : Int).toNat = 174 from rfl, mY, hd, e54, e60, em, g_b1]
  rw [hfl] at h1
  have h1' : j_X10_fumigates_41 (nZ b) (nZ d) (nZ (sB s b).length) 0 (gb_si (gb_si σ 37 0 (54 + b) (nZ d)) 37 0 (60 + b) 0) = j_X10_fumigates_41 (nZ b) (nZ d) (nZ (sB s b).length) (nZ (sB s b).length) τ := h1
  rw [h1', e_X10_fumigates_41, if_pos (Int32.le_refl _)]
end FUM
theorem th_fumes {A : gb_Ab} (hA : wfA A) (a c : Int32) : gb_T2 f_X9_fumes f_X10_fumes [gR 0 0, gI a, gI c] [gR 36 0, gI a, gI c] A := by
  have hx := nZ_rz a
  have hy := nZ_rz c
  rw [nZ_of a, nZ_of c]
  generalize a.toInt = x at hx
  generalize c.toInt = n at hy
  have hI := hA.1.1
  obtain ⟨y1, y2, q1, q2⟩ := hI.2.2.2.2.2.2
  have e1 : (1 : Int64).toInt = 1 := by decide
  have e20 : (20 : Int64).toInt = 20 := by decide
  by_cases h1 : 0 ≤ x ∧ x < 6
  · obtain ⟨b, rfl⟩ : ∃ b : Nat, x = b := ⟨x.toNat, by omega⟩
    have hb : b < 6 := by omega
    by_cases h2 : 1 ≤ n ∧ n ≤ 20
    · have hcn : ∀ τ : gb_M, (if (nZ n) < 1 then some (some (gI (-1)), τ) else if nZ n ≤ 20 then gb_b1 (f_X7_closed [gR 10 0, gI (nZ b)] τ) (fun x4 s3 => if x4 = 0 then gb_b0 (f_X3_add [gR 19 0, gR 10 0] s3) (fun s5 => gb_b0 (f_X7_fumigate [gR 10 0, gI (nZ b), gI (nZ n)] s5) (fun s6 => gb_gd (gb_in (nZ b) 6) (some (some (gI (s6.1 12 0 (nZ b).toNatClampNeg)), s6)))) else some (some (gI (-2)), s3)) else some (some (gI (-1)), τ)) = gb_b1 (f_X7_closed [gR 10 0, gI (nZ b)] τ) (fun x4 s3 => if x4 = 0 then gb_b0 (f_X3_add [gR 19 0, gR 10 0] s3) (fun s5 => gb_b0 (f_X7_fumigate [gR 10 0, gI (nZ b), gI (nZ n)] s5) (fun s6 => gb_gd (gb_in (nZ b) 6) (some (some (gI (s6.1 12 0 (nZ b).toNatClampNeg)), s6)))) else some (some (gI (-2)), s3)) := by
        intro τ
        rw [if_neg (by rw [z1, z_lt ⟨by omega, by omega⟩ ⟨by omega, by omega⟩]; omega), if_pos (by rw [z20, z_le ⟨by omega, by omega⟩ ⟨by omega, by omega⟩]; omega)]
      by_cases h3 : sY A.1 < sP A.1 b
      · refine T2_same hA (some (gI (-2))) (fun σ hC => ?_) (fun σ hM => ?_)
        · rw [e_X9_fumes, cb_t hb, g_b1, e10, hcn, p_closed_t hC.1 hb h3, g_b1, e10]
        · rw [e_X10_fumes, mb_t hb, g_b1, e10, m_in_t hy (by omega), g_b1, e10, m_closed_t (MC_t hM).1.1 hb h3, g_b1, show nZ 1 = 1 from rfl, e10]
      · have hd' : 0 ≤ sY A.1 + n ∧ sY A.1 + n ≤ 10019 := by omega
        have hIP := IV_P hI hb hd'
        have hIF : gb_IV (setB (setP A.1 b (sY A.1 + n)) b (fum (sB A.1 b) (sY A.1 + n))) := IV_set hIP (by unfold fum; rw [List.length_map]; exact (hI.2.2.2.2.2.1 b hb).1) (by rw [show lT (fum (sB A.1 b) (sY A.1 + n)) = lT (sB A.1 b) from fum_sL (fun _ _ _ => rfl)]; exact (hI.2.2.2.2.2.1 b hb).2.1) (fum_ok (hI.2.2.2.2.2.1 b hb).2.2 hd')
        have hIJ := IV_jn hIF hb
        rw [sB_s, setB2] at hIJ
        refine ⟨some (gI (nZ (sY A.1 + n))), setS A (setB (setP A.1 b (sY A.1 + n)) b (jn (fum (sB A.1 b) (sY A.1 + n)))), wf_setS hA ⟨hIJ, gd_setB (s := setP A.1 b (sY A.1 + n)) hA.1.2 adj_jn⟩, fun σ hC _ => ?_, fun σ hM => ?_⟩
        · obtain ⟨τ, a1, a2, a3⟩ := CC_past hC
          obtain ⟨τ', b1, b2, b3⟩ := p_fumigate a2.1 hb h2
          have c12 := b2.1.2.1 b hb
          have c12' : τ'.1 12 0 b = nZ (sY A.1 + n) := by
            rw [c12]
            exact congrArg nZ (if_pos rfl)
          refine ⟨τ', ?_, CC_S a2 b3 b2, fP_tr a3 (fP_w (fS_fP b3) (fun k hk => by omega))⟩
          rw [e_X9_fumes, cb_t hb, g_b1, e10, hcn, p_closed_f hC.1 hb h3, g_b1, e00, a1, g_b0, b1, g_b0]
          simp (disch := omega) only [g_in, z_tn, Int.toNat_natCast, c12']
        · obtain ⟨hM1, f1⟩ := MC_t (v := 0) hM
          obtain ⟨τ, a1, a2, a3⟩ := MC_does hM1
          obtain ⟨τ', b1, b2, b3⟩ := m_fumigates a2.1 hb h2
          have f2 : gb_fX (fun k => k = 37) (fun _ => False) τ τ' := fP_fX0 b3 (fun k _ z => z) (by omega)
          have m12 := b2.1.2.2.2.2.1 b hb
          rw [Nat.zero_add] at m12
          have m12' : τ'.1 37 0 (54 + (b : Int)).toNat = nZ (sY A.1 + n) := by
            rw [m12]
            exact congrArg nZ (if_pos rfl)
          refine ⟨τ', ?_, MC_S a2 f2 ⟨by omega, by omega, by omega, by omega⟩ ⟨fun z => z, fun z => z, fun z => z, fun z => z⟩ b2, fP_tr (fX_fP f1 (fun k z => z.elim)) (fP_tr (fX_fP a3 (fun k z => by omega)) (fX_fP f2 (fun k z => by omega)))⟩
          rw [e_X10_fumes, mb_t hb, g_b1, e10, m_in_t hy (by omega), g_b1, e10, m_closed_f hM1.1 hb h3, g_b1, if_pos (show nZ 0 = 0 from rfl), a1, g_b0, b1, g_b0]
          simp (disch := omega) only [z54, z_add, g_in, z_tn, m12']
    · refine T2_same hA (some (gI (-1))) (fun σ hC => ?_) (fun σ hM => ?_)
      · rw [e_X9_fumes, cb_t hb, g_b1, e10]
        by_cases h3 : n < 1
        · rw [if_pos (by rw [z1, z_lt hy ⟨by omega, by omega⟩]; omega)]
        · rw [if_neg (by rw [z1, z_lt hy ⟨by omega, by omega⟩]; omega), if_neg (by rw [z20, z_le hy ⟨by omega, by omega⟩]; omega)]
      · rw [e_X10_fumes, mb_t hb, g_b1, e10, m_in_f hy (by omega), g_b1, e00]
  · refine T2_same hA (some (gI (-1))) (fun σ hC => ?_) (fun σ hM => ?_)
    · rw [e_X9_fumes, cb_f hx h1, g_b1, e00]
    · rw [e_X10_fumes, mb_f hx h1, g_b1, e00]
theorem th_turn {A : gb_Ab} (hA : wfA A) (a : Int32) : gb_T2 f_X9_turn f_X10_turn [gR 0 0, gI a] [gR 36 0, gI a] A := by
  have hx := nZ_rz a
  rw [nZ_of a]
  generalize a.toInt = x at hx
  have hI := hA.1.1
  by_cases h1 : 0 ≤ x ∧ x < 6
  · obtain ⟨b, rfl⟩ : ∃ b : Nat, x = b := ⟨x.toNat, by omega⟩
    have hb : b < 6 := by omega
    by_cases h3 : sY A.1 < sP A.1 b
    · refine T2_same hA (some (gI (-2))) (fun σ hC => ?_) (fun σ hM => ?_)
      · rw [e_X9_turn, cb_t hb, g_b1, e10, p_closed_t hC.1 hb h3, g_b1, e10]
      · rw [e_X10_turn, mb_t hb, g_b1, e10, m_closed_t (MC_t hM).1.1 hb h3, g_b1, show nZ 1 = 1 from rfl, e10]
    · have hlb := (hI.2.2.2.2.2.1 b hb).1
      have hIR : gb_IV (setB A.1 b (sB A.1 b).reverse) := IV_set hI (by rw [List.length_reverse]; exact hlb) (by rw [show lT (sB A.1 b).reverse = lT (sB A.1 b) from sL_rev]; exact (hI.2.2.2.2.2.1 b hb).2.1) (fun l hl => (hI.2.2.2.2.2.1 b hb).2.2 l (List.mem_reverse.mp hl))
      have hIJ := IV_jn hIR hb
      rw [sB_s, setB2] at hIJ
      generalize hN : jn (sB A.1 b).reverse = N at hIJ
      have hNl : N.length ≤ 6 := by have := (hIJ.2.2.2.2.2.1 b hb).1; rwa [sB_s] at this
      refine ⟨some (gI (nZ N.length)), setR (setS A (setB A.1 b N)) (rowOf N.length (fun i => (nZ (lz N i).1).toInt64)), wf_setS hA ⟨hIJ, gd_setB hA.1.2 (by rw [← hN]; exact adj_jn)⟩, fun σ hC _ => ?_, fun σ hM => ?_⟩
      · obtain ⟨τ, a1, a2, a3⟩ := CC_past hC
        obtain ⟨τ', b1, b2, b3⟩ := p_turnOver a2.1 hb
        have hN' : jn (sB (setS A A.1).1 b).reverse = N := hN
        rw [hN'] at b2
        have hCC := CC_S a2 b3 b2
        obtain ⟨τ2, c1, c2, c3⟩ := c_start τ'
        obtain ⟨τ3, d1, d2, d3⟩ := c_loop (n := N.length) (by omega) (σ := τ2) (fun i τ => j_X9_turn_51 (nZ b) (nZ i) τ) (fun i => (nZ (lz N i).1).toInt64) c2 (by
          intro i hi υ f υ' hadd
          have hS : gb_SC υ 0 (setB A.1 b N) := SC_fP f (fun k _ _ => by omega) (SC_fP c3 (fun k _ _ => by omega) b2)
          have c13 := hS.1.2.2.1 b hb
          rw [sB_s] at c13
          obtain ⟨g1, g2, g3⟩ := hS.1.2.2.2.2.1 b i hb (by rw [sB_s]; exact hi)
          rw [sB_s] at g1
          show j_X9_turn_51 _ _ _ = j_X9_turn_51 _ _ _
          rw [e_X9_turn_51]
          simp (disch := omega) only [z0, z1, z2, z3, z4, z5, z6, z12, z18, z48, z54, z60, z66, z174, z175, z_neg, z_add, z_sub, z_mul, z_tn, g_in, g_b0, g_b1, Int.toNat_natCast, z_le, z_lt, z_eq, z_mx, z_mn, if_pos, if_neg, if_true, if_false, c13, p_place, g1, hadd, Int.natCast_add, Int.natCast_one])
        have hS3 : gb_SC τ3 0 (setB A.1 b N) := SC_fP (fP_tr c3 d2) (fun k _ _ => by omega) b2
        have c13 := hS3.1.2.2.1 b hb
        rw [sB_s] at c13
        refine ⟨τ3, ?_, CC_row (fP_tr c3 d2) (fun k hk => by omega) hCC d3, fP_tr a3 (fP_tr (fP_w (fS_fP b3) (fun k hk => by omega)) (fP_w (fP_tr c3 d2) (fun k hk => by omega)))⟩
        have d1' : j_X9_turn_51 (nZ b) 0 τ2 = j_X9_turn_51 (nZ b) (nZ N.length) τ3 := d1
        rw [e_X9_turn, cb_t hb, g_b1, e10, p_closed_f hC.1 hb h3, g_b1, e00, a1, g_b0, b1, g_b0, c1, g_b0, d1', e_X9_turn_51]
        simp (disch := omega) only [g_in, z_tn, Int.toNat_natCast, c13]
        rw [if_pos (Int32.le_refl _)]
      · obtain ⟨hM1, f1⟩ := MC_t (v := 0) hM
        obtain ⟨τ, a1, a2, a3⟩ := MC_does hM1
        have mL := a2.1.1.2.2.2.2.2.2.1
        simp only [Nat.zero_add] at mL
        have mL : ∀ (b i : Nat), b < 6 → i < (sB A.1 b).length → τ.1 37 0 (66 + 18 * (b : Int) + 3 * (i : Int) + 0).toNat = nZ (lz (sB A.1 b) i).1 ∧ τ.1 37 0 (66 + 18 * (b : Int) + 3 * (i : Int) + 1).toNat = nZ (lz (sB A.1 b) i).2.1 ∧ τ.1 37 0 (66 + 18 * (b : Int) + 3 * (i : Int) + 2).toNat = nZ (lz (sB A.1 b) i).2.2 := mL
        -- what lies is told from the top
        obtain ⟨τ2, b1, b2, b3⟩ := lph (n := (sB A.1 b).length) (σ := τ) (fun i τ => j_X10_turn_37 (nZ b) (nZ (sB A.1 b).length) (nZ i) τ) (fun i υ => gb_fP (fun k => 43 ≤ k ∧ k ≤ 45) τ υ ∧ ∀ k, k < i → υ.1 43 0 k = nZ (lz (sB A.1 b).reverse k).1 ∧ υ.1 44 0 k = nZ (lz (sB A.1 b).reverse k).2.1 ∧ υ.1 45 0 k = nZ (lz (sB A.1 b).reverse k).2.2) ⟨fP_rf, fun k hk => by omega⟩ (by
          intro i hi υ ⟨f, hg⟩
          obtain ⟨g1, g2, g3⟩ := mL b ((sB A.1 b).length - 1 - i) hb (by omega)
          have k0 : ∀ υ : gb_M, gb_fP (fun k => 43 ≤ k ∧ k ≤ 45) τ υ → f_X10_layerOf [gR 36 0, gI (nZ b), gI (nZ (((sB A.1 b).length - 1 - i : Nat) : Int)), gI (nZ 0)] υ = some (some (gI (nZ (lz (sB A.1 b).reverse i).1)), υ) := fun υ f => by
            have := m_lr υ hb (i := (sB A.1 b).length - 1 - i) (by omega) (c := 0) (by omega)
            rw [show ((0 : Nat) : Int) = 0 from rfl, f.1 37 0 _ (by omega), g1] at this
            rw [lz_rev hi]; exact this
          have k1 : ∀ υ : gb_M, gb_fP (fun k => 43 ≤ k ∧ k ≤ 45) τ υ → f_X10_layerOf [gR 36 0, gI (nZ b), gI (nZ (((sB A.1 b).length - 1 - i : Nat) : Int)), gI (nZ 1)] υ = some (some (gI (nZ (lz (sB A.1 b).reverse i).2.1)), υ) := fun υ f => by
            have := m_lr υ hb (i := (sB A.1 b).length - 1 - i) (by omega) (c := 1) (by omega)
            rw [show ((1 : Nat) : Int) = 1 from rfl, f.1 37 0 _ (by omega), g2] at this
            rw [lz_rev hi]; exact this
          have k2 : ∀ υ : gb_M, gb_fP (fun k => 43 ≤ k ∧ k ≤ 45) τ υ → f_X10_layerOf [gR 36 0, gI (nZ b), gI (nZ (((sB A.1 b).length - 1 - i : Nat) : Int)), gI (nZ 2)] υ = some (some (gI (nZ (lz (sB A.1 b).reverse i).2.2)), υ) := fun υ f => by
            have := m_lr υ hb (i := (sB A.1 b).length - 1 - i) (by omega) (c := 2) (by omega)
            rw [show ((2 : Nat) : Int) = 2 from rfl, f.1 37 0 _ (by omega), g3] at this
            rw [lz_rev hi]; exact this
          obtain ⟨l, hl⟩ : ∃ l, lz (sB A.1 b).reverse i = l := ⟨_, rfl⟩
          rw [hl] at k0 k1 k2
          have f43 : gb_fP (fun k => 43 ≤ k ∧ k ≤ 45) τ (gb_si υ 43 0 i (nZ l.1)) := fP_si f (by omega)
          have f44 : gb_fP (fun k => 43 ≤ k ∧ k ≤ 45) τ (gb_si (gb_si υ 43 0 i (nZ l.1)) 44 0 i (nZ l.2.1)) := fP_si f43 (by omega)
          have f45 : gb_fP (fun k => 43 ≤ k ∧ k ≤ 45) τ (gb_si (gb_si (gb_si υ 43 0 i (nZ l.1)) 44 0 i (nZ l.2.1)) 45 0 i (nZ l.2.2)) := fP_si f44 (by omega)
          have e2 : (((sB A.1 b).length : Int) - 1 - (i : Int)) = (((sB A.1 b).length - 1 - i : Nat) : Int) := by omega
          refine ⟨gb_si (gb_si (gb_si υ 43 0 i (nZ l.1)) 44 0 i (nZ l.2.1)) 45 0 i (nZ l.2.2), ?_, f45, fun k hk => ?_⟩
          · show j_X10_turn_37 _ _ _ _ = _
            rw [e_X10_turn_37]
            simp (disch := omega) only [z_le, if_neg, z1, z_sub, e2, z0, z2, k0 υ f, g_b1, g_in, z_tn, Int.toNat_natCast, k1 _ f43, k2 _ f44, z_add, Int.natCast_add, Int.natCast_one]
          · by_cases e : k = i
            · subst e
              rw [hl]
              simp (disch := omega) only [si_k, si_s, and_self]
            · simp (disch := omega) only [si_k, si_i]
              exact hg k (by omega))
        have hLr : (sB A.1 b).reverse.length = (sB A.1 b).length := List.length_reverse
        have hM2 : gb_MM τ2 A.1 := fP_MM b2 (by omega) a2.1
        have h0 : gb_MM (gb_si τ2 37 0 (60 + b) 0) (setB A.1 b []) := ⟨RM_set hM2.1 hI.2.2.2.2.2.1 hb (by simp) (fun x hx h1 h2 => by rw [Nat.zero_add, si_i h1]) (by rw [Nat.zero_add, show (60 + (b : Int)).toNat = 60 + b by omega, si_s]; rfl) (fun i hi => by cases hi), IV_set hI (by simp) (by show (0 : Int) ≤ 99; omega) (fun l hl => by cases hl)⟩
        obtain ⟨τ3, c1, c2, c3⟩ := m_pile (L := (sB A.1 b).reverse) hI hb (by rw [hLr]; exact hlb) (by rw [show lT (sB A.1 b).reverse = lT (sB A.1 b) from sL_rev]; exact (hI.2.2.2.2.2.1 b hb).2.1) (fun l hl => (hI.2.2.2.2.2.1 b hb).2.2 l (List.mem_reverse.mp hl)) (fun i τ => j_X10_turn_111 (nZ b) (nZ (sB A.1 b).length) (nZ i) τ) (fun υ => ∀ k, k < (sB A.1 b).length → υ.1 43 0 k = nZ (lz (sB A.1 b).reverse k).1 ∧ υ.1 44 0 k = nZ (lz (sB A.1 b).reverse k).2.1 ∧ υ.1 45 0 k = nZ (lz (sB A.1 b).reverse k).2.2) h0 (fun k hk => by simp (disch := omega) only [si_k]; exact b3 k hk) (fun _ _ => 0) (by
          intro i hi υ hk f hx υ' hlies
          rw [hLr] at hi
          obtain ⟨g1, g2, g3⟩ := hk i hi
          show j_X10_turn_111 _ _ _ _ = j_X10_turn_111 _ _ _ _
          rw [e_X10_turn_111]
          simp (disch := omega) only [z_le, if_neg, g_in, z_tn, Int.toNat_natCast, g1, g2, g3, hlies, g_b0, z1, z_add, Int.natCast_add, Int.natCast_one]) (fun υ υ' hk f k hk' => by rw [f.1 43 0 _ (by omega), f.1 44 0 _ (by omega), f.1 45 0 _ (by omega)]; exact hk k hk')
        rw [hN] at c2
        rw [hLr] at c1
        have f3 : gb_fX (fun k => k = 42) (fun x => x = 9) τ3 (gb_si τ3 36 0 9 0) := fX_si fX_rf (Or.inr ⟨rfl, rfl⟩)
        have fa : gb_fX (fun k => k = 37 ∨ (43 ≤ k ∧ k ≤ 45)) (fun _ => False) τ τ3 := fX_tr (fP_fX0 b2 (fun k _ z => Or.inr z) (by omega)) (fX_tr (fX_si fX_rf (Or.inl ⟨by omega, Or.inl rfl⟩)) (fP_fX0 c3 (fun k _ z => Or.inl z) (by omega)))
        obtain ⟨τ4, d1, d2, d3⟩ := m_loop (n := N.length) (by omega) (σ := gb_si τ3 36 0 9 0) (fun i τ => j_X10_turn_152 (nZ b) (nZ i) τ) (fun i => (nZ (lz N i).1).toInt64) (m_start τ3) (by
          intro i hi υ f υ' hadd
          have hMu : gb_MM υ (setB A.1 b N) := MM_fX (fX_tr f3 f) (by omega) c2
          have k0 := m_l0 hMu hb (i := i) (by rw [sB_s]; exact hi)
          have km := m_many hMu hb
          rw [sB_s] at k0 km
          show j_X10_turn_152 _ _ _ = j_X10_turn_152 _ _ _
          rw [e_X10_turn_152]
          simp (disch := omega) only [km, g_b1, z_le, if_neg, z0, k0, hadd, g_b0, z1, z_add, Int.natCast_add, Int.natCast_one])
        have hM4 : gb_MM τ4 (setB A.1 b N) := MM_fX (fX_tr f3 d2) (by omega) c2
        have km := m_many hM4 hb
        rw [sB_s] at km
        refine ⟨τ4, ?_, MC_row (fX_tr f3 d2) ⟨by omega, by omega, by omega, by omega⟩ ⟨by omega, by omega, by omega⟩ (MC_S a2 fa ⟨by omega, by omega, by omega, by omega⟩ ⟨fun z => z, fun z => z, fun z => z, fun z => z⟩ c2) d3, fP_tr (fX_fP f1 (fun k z => z.elim)) (fP_tr (fX_fP a3 (fun k z => by omega)) (fP_tr (fX_fP fa (fun k z => by omega)) (fX_fP (fX_tr f3 d2) (fun k z => by omega))))⟩
        have em := m_many a2.1 hb
        have em' : f_X10_many [gR 36 0, gI (nZ b)] τ = some (some (gI (nZ (sB A.1 b).length)), τ) := em
        have b1' : j_X10_turn_37 (nZ b) (nZ (sB A.1 b).length) 0 τ = j_X10_turn_37 (nZ b) (nZ (sB A.1 b).length) (nZ (sB A.1 b).length) τ2 := b1
        have c1' : j_X10_turn_111 (nZ b) (nZ (sB A.1 b).length) 0 (gb_si τ2 37 0 (60 + b) 0) = j_X10_turn_111 (nZ b) (nZ (sB A.1 b).length) (nZ (sB A.1 b).length) τ3 := c1
        have d1' : j_X10_turn_152 (nZ b) 0 (gb_si τ3 36 0 9 0) = j_X10_turn_152 (nZ b) (nZ N.length) τ4 := d1
        have e37 : j_X10_turn_37 (nZ b) (nZ (sB A.1 b).length) (nZ (sB A.1 b).length) τ2 = j_X10_turn_111 (nZ b) (nZ (sB A.1 b).length) 0 (gb_si τ2 37 0 (60 + b) 0) := by
          rw [e_X10_turn_37, if_pos (Int32.le_refl _)]
          have e60 : (60 + (b : Int)).toNat = 60 + b := by omega
          simp (disch := omega) only [z60, z_add, g_in, z_tn, e60]
        rw [e_X10_turn, mb_t hb, g_b1, e10, m_closed_f hM1.1 hb h3, g_b1, if_pos (show nZ 0 = 0 from rfl), a1, g_b0, em', g_b1, b1', e37, c1', e_X10_turn_111, if_pos (Int32.le_refl _), d1', e_X10_turn_152, km, g_b1, if_pos (Int32.le_refl _), km, g_b1]
  · refine T2_same hA (some (gI (-1))) (fun σ hC => ?_) (fun σ hM => ?_)
    · rw [e_X9_turn, cb_f hx h1, g_b1, e00]
    · rw [e_X10_turn, mb_f hx h1, g_b1, e00]
