/-! DRAW -/
def rowOf (n : Nat) (f : Nat → Int64) : List Int64 := match n with
  | 0 => []
  | n + 1 => rowOf n f ++ [f n]
theorem rowOf_len {f : Nat → Int64} : ∀ n, (rowOf n f).length = n
  | 0 => rfl
  | n + 1 => by
    show (rowOf n f ++ [f n]).length = _
    rw [List.length_append, rowOf_len n]; rfl
theorem m_counts {σ : gb_M} {s : gb_St} (hM : gb_MM σ s) {x : Int} (hx : 0 ≤ x ∧ x ≤ 1000000) : f_X10_counts [gR 36 0, gI (nZ x)] σ = some (none, gb_si σ 37 0 175 (nZ (min 2000000000 (sQ s + x)))) := by
  obtain ⟨⟨mW, mK, mO, mC, mP, mN, mL, mY, mQ⟩, iw, ik, io, ic, ip, il, id⟩ := id hM
  obtain ⟨y1, y2, q1, q2⟩ := id
  simp only [Nat.zero_add] at mW mK mO mC mP mN mL mY mQ
  rw [e_X10_counts]
  have e175 : (175 : Int32).toNatClampNeg = 175 := by decide
  simp only [e175, mQ]
  have hs : ((nZ (sQ s)).toInt64 + (nZ x).toInt64).toInt = sQ s + x := by
    rw [Int64.toInt_add, nz64 ⟨by omega, by omega⟩, nz64 ⟨by omega, by omega⟩, Int.bmod_def]
    omega
  have hb : (2000000000 : Int64).toInt = 2000000000 := by decide
  have key : (if (nZ (sQ s)).toInt64 + (nZ x).toInt64 < 2000000000 then (nZ (sQ s)).toInt64 + (nZ x).toInt64 else 2000000000).toInt32 = nZ (min 2000000000 (sQ s + x)) := by
    rw [← Int32.toInt_inj, nZ_ti ⟨by omega, by omega⟩, Int64.toInt_toInt32]
    by_cases h : sQ s + x < 2000000000
    · rw [if_pos (by rw [Int64.lt_iff_toInt_lt, hs, hb]; exact h), hs, Int.bmod_def]; omega
    · rw [if_neg (by rw [Int64.lt_iff_toInt_lt, hs, hb]; exact h), hb, Int.bmod_def]; omega
  rw [key]
  simp (disch := omega) only [show (175 : Int32) = nZ 175 from rfl, g_in]
/-- the class's ROW, entry by entry -/
theorem c_loop {n : Nat} (hn : n ≤ 8) {σ : gb_M} (J : Nat → gb_M → gb_R) (f : Nat → Int64) (h0 : rowC σ []) (hs : ∀ i, i < n → ∀ τ, gb_fP (fun k => k = 21 ∨ k = 22) σ τ → ∀ τ', f_X4_add [gR 21 0, gL (f i)] τ = some (none, τ') → J i τ = J (i + 1) τ') : ∃ τ, J 0 σ = J n τ ∧ gb_fP (fun k => k = 21 ∨ k = 22) σ τ ∧ rowC τ (rowOf n f) := by
  refine lph J (fun i τ => gb_fP (fun k => k = 21 ∨ k = 22) σ τ ∧ rowC τ (rowOf i f)) ⟨fP_rf, h0⟩ (fun i hi τ ⟨f1, hr⟩ => ?_)
  obtain ⟨τ', a1, a2, a3⟩ := c_add hr (by rw [rowOf_len]; omega) (f i)
  exact ⟨τ', hs i hi τ f1 τ' a1, fP_tr f1 a3, a2⟩
theorem m_loop {n : Nat} (hn : n ≤ 8) {σ : gb_M} (J : Nat → gb_M → gb_R) (f : Nat → Int64) (h0 : rowM σ []) (hs : ∀ i, i < n → ∀ τ, gb_fX (fun k => k = 42) (fun x => x = 9) σ τ → ∀ τ', f_X10_tell [gR 36 0, gL (f i)] τ = some (none, τ') → J i τ = J (i + 1) τ') : ∃ τ, J 0 σ = J n τ ∧ gb_fX (fun k => k = 42) (fun x => x = 9) σ τ ∧ rowM τ (rowOf n f) := by
  refine lph J (fun i τ => gb_fX (fun k => k = 42) (fun x => x = 9) σ τ ∧ rowM τ (rowOf i f)) ⟨fX_rf, h0⟩ (fun i hi τ ⟨f1, hr⟩ => ?_)
  obtain ⟨a1, a2⟩ := m_tell hr (by rw [rowOf_len]; omega) (f i)
  exact ⟨_, hs i hi τ f1 _ a1, fX_tr f1 (tell_fX rfl rfl), a2⟩
theorem th_draw {A : gb_Ab} (hA : wfA A) (a c : Int32) : gb_T2 f_X9_draw f_X10_draw [gR 0 0, gI a, gI c] [gR 36 0, gI a, gI c] A := by
  have hx := nZ_rz a
  have hy := nZ_rz c
  rw [nZ_of a, nZ_of c]
  generalize a.toInt = x at hx
  generalize c.toInt = t at hy
  have hI := hA.1.1
  obtain ⟨y1, y2, q1, q2⟩ := hI.2.2.2.2.2.2
  by_cases h1 : 0 ≤ x ∧ x < 6
  · obtain ⟨b, rfl⟩ : ∃ b : Nat, x = b := ⟨x.toNat, by omega⟩
    have hb : b < 6 := by omega
    by_cases h2 : 1 ≤ t ∧ t ≤ 99
    · by_cases h3 : sY A.1 < sP A.1 b
      · refine T2_same hA (some (gI (-2))) (fun σ hC => ?_) (fun σ hM => ?_)
        · rw [e_X9_draw, cb_t hb, g_b1, e10, ct_t h2, g_b1, e10, p_closed_t hC.1 hb h3, g_b1, e10]
        · rw [e_X10_draw, mb_t hb, g_b1, e10, ml_t h2, g_b1, e10, m_closed_t (MC_t hM).1.1 hb h3, g_b1, show nZ 1 = 1 from rfl, e10]
      · have hTr := lG_r hI.2.2.2.2.2.1 hb 0
        by_cases h4 : t ≤ lT (sB A.1 b)
        · have hokb := (hI.2.2.2.2.2.1 b hb).2.2
          have hm := mnU_r (on := sY A.1) (t := t) hI.1 hokb
          have hb1 : 0 ≤ t * mnU A.1 (sY A.1) (sB A.1 b) t := Int.mul_nonneg (by omega) hm.1
          have hb2 : t * mnU A.1 (sY A.1) (sB A.1 b) t ≤ 99 * 999 := Int.mul_le_mul h2.2 hm.2 hm.1 (by omega)
          have hIV1 : gb_IV (setB A.1 b (tk (sB A.1 b) t)) := IV_set hI (Nat.le_trans tk_len (hI.2.2.2.2.2.1 b hb).1) (by rw [lT_tk hokb]; omega) (ok_tk hokb)
          have hIV : gb_IV (setQ (setB A.1 b (tk (sB A.1 b) t)) (min 2000000000 (sQ A.1 + t * mnU A.1 (sY A.1) (sB A.1 b) t))) := IV_Q hIV1 (by omega)
          refine ⟨some (gI (nZ (t * mnU A.1 (sY A.1) (sB A.1 b) t))), setR (setS A (setQ (setB A.1 b (tk (sB A.1 b) t)) (min 2000000000 (sQ A.1 + t * mnU A.1 (sY A.1) (sB A.1 b) t)))) (rowOf 6 (fun g => (nZ (lG (pk (sB A.1 b) t) g)).toInt64)), wf_setS hA ⟨hIV, gd_setB hA.1.2 (adj_tk (hA.1.2 b hb))⟩, fun σ hC _ => ?_, fun σ hM => ?_⟩
          · obtain ⟨τ, a1, a2, a3⟩ := CC_past hC
            obtain ⟨τ2, b1, b2, b3⟩ := c_start τ
            obtain ⟨τ3, c1, c2, c3⟩ := c_loop (n := 6) (by omega) (σ := τ2) (fun i τ => j_X9_draw_66 (nZ b) (nZ t) (nZ i) τ) (fun g => (nZ (lG (pk (sB A.1 b) t) g)).toInt64) b2 (by
              intro i hi τ' f τ'' hadd
              have hS : gb_SC τ' 0 A.1 := SC_fP f (fun k _ _ => by omega) (SC_fP b3 (fun k _ _ => by omega) a2.1)
              show j_X9_draw_66 _ _ _ _ = j_X9_draw_66 _ _ _ _
              have htb := p_tonsBelow hS hb hi (t := t) (by omega)
              rw [pk_sum hokb (by omega)] at htb
              rw [e_X9_draw_66, if_neg (by rw [z6, z_le ⟨by omega, by omega⟩ ⟨by omega, by omega⟩]; omega), htb, g_b1, hadd, g_b0, z1, z_add]
              rfl)
            have hCC3 : CC τ3 (setR (setS A A.1) (rowOf 6 (fun g => (nZ (lG (pk (sB A.1 b) t) g)).toInt64))) := CC_row (fP_tr b3 c2) (fun k hk => by omega) a2 c3
            obtain ⟨τ4, d1, d2, d3⟩ := p_drawOut hCC3.1 hb (t := t) (by omega)
            refine ⟨τ4, ?_, CC_S hCC3 d3 d2, fP_tr a3 (fP_tr (fP_w (fP_tr b3 c2) (fun k hk => by omega)) (fP_w (fS_fP d3) (fun k hk => by omega)))⟩
            have cT := hC.1.1.2.2.2.1 b hb
            rw [e_X9_draw, cb_t hb, g_b1, e10, ct_t h2, g_b1, e10, p_closed_f hC.1 hb h3, g_b1, e00]
            simp (disch := omega) only [g_in, z_tn, Int.toNat_natCast, cT, z_le, if_pos]
            rw [a1, g_b0, b1, g_b0, show (0 : Int32) = nZ ((0 : Nat) : Int) from rfl, c1, e_X9_draw_66, if_pos (by decide), d1, g_b1]
            rfl
          · obtain ⟨hM1, f1⟩ := MC_t (v := 0) hM
            obtain ⟨τ, a1, a2, a3⟩ := MC_does hM1
            obtain ⟨τ2, b1, b2, b3, b4, b5, b6, b7⟩ := m_goes a2.1 hb (t := t) (by omega) h4
            have fb : gb_fX (fun k => k = 37 ∨ (43 ≤ k ∧ k ≤ 45)) (fun x => x = 14 ∨ x = 15) τ τ2 := fP_fX b3 (fun k h1 h2 => by omega) (fun x h => b4 x (fun e => h (Or.inl e)) (fun e => h (Or.inr e)))
            have f3 : gb_fX (fun k => k = 42) (fun x => x = 9) τ2 (gb_si τ2 36 0 9 0) := fX_si fX_rf (Or.inr ⟨rfl, rfl⟩)
            obtain ⟨τ3, c1, c2, c3⟩ := m_loop (n := 6) (by omega) (σ := gb_si τ2 36 0 9 0) (fun i τ => j_X10_draw_61 (nZ t) (nZ i) τ) (fun g => (nZ (lG (pk (sB A.1 b) t) g)).toInt64) (m_start τ2) (by
              intro i hi τ' f τ'' hadd
              have f' := fX_tr f3 f
              have e14 : τ'.1 36 0 14 = nZ (pk (sB A.1 b) t).length := by rw [f'.2 14 (by omega)]; exact b5
              have hpl := pk_len (L := sB A.1 b) (t := t)
              have hlb := (hI.2.2.2.2.2.1 b hb).1
              have hpok := pk_ok (t := t) hokb
              show j_X10_draw_61 _ _ _ = j_X10_draw_61 _ _ _
              rw [e_X10_draw_61, if_neg (by rw [z6, z_le ⟨by omega, by omega⟩ ⟨by omega, by omega⟩]; omega)]
              have st : ∀ k, k < (pk (sB A.1 b) t).length → j_X10_draw_73 (nZ t) (nZ i) (nZ (sL (fun l => if l.1 = i then l.2.1 else 0) ((pk (sB A.1 b) t).take k))) (nZ k) τ' = j_X10_draw_73 (nZ t) (nZ i) (nZ (sL (fun l => if l.1 = i then l.2.1 else 0) ((pk (sB A.1 b) t).take (k + 1)))) (nZ (k + 1 : Nat)) τ' := by
                intro k hk
                obtain ⟨g1, g2, g3⟩ := b7 k hk
                have g1' : τ'.1 43 0 k = nZ (lz (pk (sB A.1 b) t) k).1 := by rw [(f'.1 43 0 k (by omega) (by omega)).1]; exact g1
                have g2' : τ'.1 44 0 k = nZ (lz (pk (sB A.1 b) t) k).2.1 := by rw [(f'.1 44 0 k (by omega) (by omega)).1]; exact g2
                have hl6 := (hpok _ (lz_mem hk)).1
                rw [e_X10_draw_73, sL_take hk]
                by_cases e : (lz (pk (sB A.1 b) t) k).1 = i
                · rw [if_pos e]
                  simp (disch := omega) only [z0, z1, z2, z3, z4, z5, z6, z12, z18, z48, z54, z60, z66, z174, z175, z_neg, z_add, z_sub, z_mul, z_tn, g_in, g_b0, g_b1, Int.toNat_natCast, z_le, z_lt, z_eq, z_mx, z_mn, if_pos, if_neg, if_true, if_false, e14, g1', g2', Int.natCast_add, Int.natCast_one]
                · rw [if_neg e]
                  simp (disch := omega) only [z0, z1, z2, z3, z4, z5, z6, z12, z18, z48, z54, z60, z66, z174, z175, z_neg, z_add, z_sub, z_mul, z_tn, g_in, g_b0, g_b1, Int.toNat_natCast, z_le, z_lt, z_eq, z_mx, z_mn, if_pos, if_neg, if_true, if_false, e14, g1', g2', Int.natCast_add, Int.natCast_one]
              have hJ := lp (n := (pk (sB A.1 b) t).length) (fun k => j_X10_draw_73 (nZ t) (nZ i) (nZ (sL (fun l => if l.1 = i then l.2.1 else 0) ((pk (sB A.1 b) t).take k))) (nZ k) τ') st
              have hJ0 : j_X10_draw_73 (nZ t) (nZ i) 0 0 τ' = j_X10_draw_73 (nZ t) (nZ i) (nZ (lG (pk (sB A.1 b) t) i)) (nZ (pk (sB A.1 b) t).length) τ' := by
                rw [List.take_length] at hJ
                exact hJ
              rw [hJ0, e_X10_draw_73, e14, if_pos (Int32.le_refl _), hadd, g_b0, z1, z_add]
              rfl)
            have e15 : τ3.1 36 0 15 = nZ (mnU A.1 (sY A.1) (sB A.1 b) t) := by rw [(fX_tr f3 c2).2 15 (by omega)]; exact b6 (by omega)
            have hM3 : gb_MM τ3 (setB A.1 b (tk (sB A.1 b) t)) := MM_fX (fX_tr f3 c2) (by omega) b2
            have hMC3 : MC τ3 (setR (setB A.1 b (tk (sB A.1 b) t), (setS A A.1).2) (rowOf 6 (fun g => (nZ (lG (pk (sB A.1 b) t) g)).toInt64))) := MC_row (fX_tr f3 c2) ⟨by omega, by omega, by omega, by omega⟩ ⟨by omega, by omega, by omega⟩ (MC_S a2 fb ⟨by omega, by omega, by omega, by omega⟩ ⟨by omega, by omega, by omega, by omega⟩ b2) c3
            have hcnt := m_counts hM3 (x := t * mnU A.1 (sY A.1) (sB A.1 b) t) (by omega)
            have f4 : gb_fX (fun k => k = 37) (fun _ => False) τ3 (gb_si τ3 37 0 175 (nZ (min 2000000000 (sQ A.1 + t * mnU A.1 (sY A.1) (sB A.1 b) t)))) := fX_si fX_rf (Or.inl ⟨by omega, rfl⟩)
            refine ⟨gb_si τ3 37 0 175 (nZ (min 2000000000 (sQ A.1 + t * mnU A.1 (sY A.1) (sB A.1 b) t))), ?_, MC_S hMC3 f4 ⟨by omega, by omega, by omega, by omega⟩ ⟨fun z => z, fun z => z, fun z => z, fun z => z⟩ (MM_si hM3 (by omega) hIV), fP_tr (fX_fP f1 (fun k z => z.elim)) (fP_tr (fX_fP a3 (fun k z => by omega)) (fP_tr (fX_fP fb (fun k z => by omega)) (fP_tr (fX_fP (fX_tr f3 c2) (fun k z => by omega)) (fX_fP f4 (fun k z => by omega)))))⟩
            have mT := m_tonsIn hM1.1 hb
            rw [e_X10_draw, mb_t hb, g_b1, e10, ml_t h2, g_b1, e10, m_closed_f hM1.1 hb h3, g_b1, if_pos (show nZ 0 = 0 from rfl), mT, g_b1, if_pos (by rw [z_le ⟨by omega, by omega⟩ ⟨by omega, by omega⟩]; exact h4), a1, g_b0]
            have b1' : f_X10_goes [gR 36 0, gI (nZ b), gI (nZ t)] τ = some (none, τ2) := b1
            have c1' : j_X10_draw_61 (nZ t) 0 (gb_si τ2 36 0 9 0) = j_X10_draw_61 (nZ t) (nZ (6 : Nat)) τ3 := c1
            rw [b1', g_b0, c1', e_X10_draw_61, if_pos (by decide), e15, z_mul]
            have hcnt' : f_X10_counts [gR 36 0, gI (nZ (t * mnU A.1 (sY A.1) (sB A.1 b) t))] τ3 = some (none, gb_si τ3 37 0 175 (nZ (min 2000000000 (sQ A.1 + t * mnU A.1 (sY A.1) (sB A.1 b) t)))) := hcnt
            rw [hcnt', g_b0, si_k (by omega), e15, z_mul]
        · refine T2_same hA (some (gI (-3))) (fun σ hC => ?_) (fun σ hM => ?_)
          · have cT := hC.1.1.2.2.2.1 b hb
            rw [e_X9_draw, cb_t hb, g_b1, e10, ct_t h2, g_b1, e10, p_closed_f hC.1 hb h3, g_b1, e00]
            simp (disch := omega) only [g_in, z_tn, Int.toNat_natCast, cT, z_le, if_neg]
          · have hM1 := (MC_t (v := 0) hM).1
            rw [e_X10_draw, mb_t hb, g_b1, e10, ml_t h2, g_b1, e10, m_closed_f hM1.1 hb h3, g_b1, if_pos (show nZ 0 = 0 from rfl), m_tonsIn hM1.1 hb, g_b1, if_neg (by rw [z_le ⟨by omega, by omega⟩ ⟨by omega, by omega⟩]; exact h4)]
    · refine T2_same hA (some (gI (-1))) (fun σ hC => ?_) (fun σ hM => ?_)
      · rw [e_X9_draw, cb_t hb, g_b1, e10, ct_f hy h2, g_b1, e00]
      · rw [e_X10_draw, mb_t hb, g_b1, e10, ml_f hy h2, g_b1, e00]
  · refine T2_same hA (some (gI (-1))) (fun σ hC => ?_) (fun σ hM => ?_)
    · rw [e_X9_draw, cb_f hx h1, g_b1, e00]
    · rw [e_X10_draw, mb_f hx h1, g_b1, e00]
