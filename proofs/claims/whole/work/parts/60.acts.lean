/-! ACTS -/
theorem adj_lay {L : List gb_Ly} {g : Nat} {t d : Int} (h : adj L) : adj (lay1 L g t d) := by
  unfold lay1
  cases ho : onB L g d with
  | true =>
    obtain ⟨h1, h2, h3⟩ := onB_t ho
    rw [if_pos rfl]
    intro i hi
    have el : (L.dropLast ++ [(g, (lz L (L.length - 1)).2.1 + t, d)]).length = L.length := by simp; omega
    rw [el] at hi
    have e1 : lz (L.dropLast ++ [(g, (lz L (L.length - 1)).2.1 + t, d)]) i = lz L i := by rw [lz_app1 (by rw [List.length_dropLast]; omega), lz_dl (by omega)]
    rw [e1]
    by_cases e : i + 1 = L.length - 1
    · have e2 : lz (L.dropLast ++ [(g, (lz L (L.length - 1)).2.1 + t, d)]) (i + 1) = (g, (lz L (L.length - 1)).2.1 + t, d) := by
        have := lz_app2 (L := L.dropLast) (l := (g, (lz L (L.length - 1)).2.1 + t, d))
        rw [List.length_dropLast] at this
        rw [e]; exact this
      rw [e2]
      have := h i hi
      rw [e, h2, h3] at this
      exact this
    · rw [lz_app1 (by rw [List.length_dropLast]; omega), lz_dl (by omega)]
      exact h i hi
  | false =>
    rw [if_neg (by simp)]
    intro i hi
    have el : (L ++ [(g, t, d)]).length = L.length + 1 := by simp
    rw [el] at hi
    rw [lz_app1 (by omega)]
    by_cases e : i + 1 = L.length
    · rw [e, lz_app2]
      intro hc
      exact onB_f ho ⟨by omega, by rw [← e, Nat.add_sub_cancel]; exact hc.1, by rw [← e, Nat.add_sub_cancel]; exact hc.2⟩
    · rw [lz_app1 (by omega)]
      exact h i (by omega)
theorem adj_lays {P : List gb_Ly} : ∀ {A : List gb_Ly}, adj A → adj (lays A P) := by
  induction P with
  | nil => intro A h; exact h
  | cons p P ih => intro A h; exact ih (A := lay1 A p.1 p.2.1 p.2.2) (adj_lay h)
theorem adj_nil : adj [] := fun i hi => by cases hi
theorem adj_jn {L : List gb_Ly} : adj (jn L) := adj_lays (P := L) adj_nil
theorem adj_tk {L : List gb_Ly} : ∀ {t : Int}, adj L → adj (tk L t) := by
  induction L with
  | nil => intro t h; exact h
  | cons l L ih =>
    intro t h
    unfold tk
    split
    · intro i hi
      cases i with
      | zero => exact h 0 hi
      | succ i => exact h (i + 1) hi
    · exact ih (adj_t h)
theorem gd_setB {s : gb_St} {b : Nat} {L : List gb_Ly} (h : ∀ k, k < 6 → adj (sB s k)) (hL : adj L) : ∀ k, k < 6 → adj (sB (setB s b L) k) := by
  intro k hk
  by_cases e : k = b
  · subst e; rw [sB_s]; exact hL
  · rw [sB_n e]; exact h k hk
theorem th_price {A : gb_Ab} (hA : wfA A) (a c : Int32) : gb_T2 f_X9_price f_X10_price [gR 0 0, gI a, gI c] [gR 36 0, gI a, gI c] A := by
  have hx := nZ_rz a
  have hy := nZ_rz c
  rw [nZ_of a, nZ_of c]
  generalize a.toInt = x at hx
  generalize c.toInt = y at hy
  have hI := hA.1.1
  have e0 : (0 : Int64).toInt = 0 := by decide
  have e9 : (999 : Int64).toInt = 999 := by decide
  by_cases h1 : 0 ≤ x ∧ x < 6
  · obtain ⟨g, rfl⟩ : ∃ g : Nat, x = g := ⟨x.toNat, by omega⟩
    have hg : g < 6 := by omega
    by_cases h2 : 0 ≤ y ∧ y ≤ 999
    · refine ⟨some (gI (nZ (sW A.1 g))), setS A (setW A.1 g y), wf_setS hA ⟨IV_W hI hg h2, hA.1.2⟩, fun σ hC _ => ?_, fun σ hM => ?_⟩
      · obtain ⟨τ, a1, a2, a3⟩ := CC_past hC
        have cW : τ.1 11 0 g = nZ (sW A.1 g) := a2.1.1.1 g hg
        have f : gb_fS 0 τ (gb_si τ 11 0 g (nZ y)) := fS_si fS_rf (by omega)
        refine ⟨gb_si τ 11 0 g (nZ y), ?_, CC_S a2 f ⟨RS_W hg a2.1.1, RR_eq (s := A.1) (fS_RR f a2.1.2.1) (fun k _ _ => if_neg (by omega)), IV_W hI hg h2⟩, fP_tr a3 (fP_w (fS_fP f) (fun k hk => by omega))⟩
        rw [e_X9_price, cg_t hg]
        simp (disch := omega) only [g_b1, e10, z0, z999, z_lt, z_le, if_neg, if_pos, a1, g_b0, g_in, z_tn, Int.toNat_natCast, cW, z1, z_eq]
      · obtain ⟨hM1, f1⟩ := MC_t (v := 0) hM
        obtain ⟨τ, a1, a2, a3⟩ := MC_does hM1
        have mW := a2.1.1.1 g hg
        rw [Nat.zero_add] at mW
        have mW : τ.1 37 0 g = nZ (sW A.1 g) := mW
        have f2 : gb_fX (fun k => k = 37) (fun _ => False) τ (gb_si τ 37 0 g (nZ y)) := fX_si fX_rf (Or.inl ⟨by omega, rfl⟩)
        refine ⟨gb_si τ 37 0 g (nZ y), ?_, MC_S a2 f2 ⟨by omega, by omega, by omega, by omega⟩ ⟨fun z => z, fun z => z, fun z => z, fun z => z⟩ (MM_si a2.1 (by omega) (IV_W hI hg h2)), fP_tr (fX_fP f1 (fun k z => z.elim)) (fP_tr (fX_fP a3 (fun k z => by omega)) (fX_fP f2 (fun k z => by omega)))⟩
        rw [e_X10_price, mg_t hg, g_b1, e10, m_in_t hy (by omega), g_b1, e10, a1, g_b0]
        simp (disch := omega) only [z0, z_add, Int.zero_add, g_in, z_tn, Int.toNat_natCast, mW]
    · refine T2_same hA (some (gI (-1))) (fun σ hC => ?_) (fun σ hM => ?_)
      · rw [e_X9_price, cg_t hg, g_b1, e10]
        by_cases h3 : y < 0
        · simp (disch := omega) only [z0, z_lt, if_pos]
        · simp (disch := omega) only [z0, z999, z_lt, z_le, if_neg]
      · rw [e_X10_price, mg_t hg, g_b1, e10, m_in_f hy (by omega), g_b1, e00]
  · refine T2_same hA (some (gI (-1))) (fun σ hC => ?_) (fun σ hM => ?_)
    · rw [e_X9_price, cg_f hx h1, g_b1, e00]
    · rw [e_X10_price, mg_f hx h1, g_b1, e00]
theorem sWhy_0 {s : gb_St} {b g : Nat} {t d : Int} (h : 0 ≤ sWhy s b g t d) : sWhy s b g t d = 0 ∧ ¬ sY s < sP s b ∧ lT (sB s b) + t ≤ sC s b ∧ ¬ ((sB s b).length = 6 ∧ onB (sB s b) g d = false) := by
  unfold sWhy at h ⊢
  by_cases h1 : sY s < sP s b
  · rw [if_pos h1] at h; omega
  rw [if_neg h1] at h ⊢
  by_cases h2 : sC s b < lT (sB s b) + t
  · rw [if_pos h2] at h; omega
  rw [if_neg h2] at h ⊢
  by_cases h3 : ap s (sB s b) g = true
  · rw [if_pos h3] at h; omega
  rw [if_neg h3] at h ⊢
  by_cases h4 : (sB s b).length = 6 ∧ onB (sB s b) g d = false
  · rw [if_pos h4] at h; omega
  rw [if_neg h4]
  exact ⟨rfl, h1, by omega, h4⟩
theorem sWhy_r {s : gb_St} {b g : Nat} {t d : Int} : -6 ≤ sWhy s b g t d ∧ sWhy s b g t d ≤ 0 := by
  unfold sWhy
  split
  · omega
  · split
    · omega
    · split
      · omega
      · split <;> omega
theorem sWhy_lay {s : gb_St} {b g : Nat} {t d : Int} (hI : gb_IV s) (hb : b < 6) (h : 0 ≤ sWhy s b g t d) : onB (sB s b) g d = true ∨ (sB s b).length < 6 := by
  have h4 := (sWhy_0 h).2.2.2
  have hl := (hI.2.2.2.2.2.1 b hb).1
  cases ho : onB (sB s b) g d with
  | true => exact Or.inl rfl
  | false => exact Or.inr (by have : ¬ (sB s b).length = 6 := fun e => h4 ⟨e, ho⟩; omega)
theorem th_load {A : gb_Ab} (hA : wfA A) (a c e : Int32) : gb_T2 f_X9_load f_X10_load [gR 0 0, gI a, gI c, gI e] [gR 36 0, gI a, gI c, gI e] A := by
  have hx := nZ_rz a
  have hy := nZ_rz c
  have hw := nZ_rz e
  rw [nZ_of a, nZ_of c, nZ_of e]
  generalize a.toInt = x at hx
  generalize c.toInt = y at hy
  generalize e.toInt = w at hw
  have hI := hA.1.1
  obtain ⟨y1, y2, q1, q2⟩ := hI.2.2.2.2.2.2
  by_cases h1 : 0 ≤ x ∧ x < 6
  · obtain ⟨g, rfl⟩ : ∃ g : Nat, x = g := ⟨x.toNat, by omega⟩
    have hg : g < 6 := by omega
    by_cases h2 : 1 ≤ y ∧ y ≤ 99
    · by_cases h3 : 0 ≤ w ∧ w < 6
      · obtain ⟨b, rfl⟩ : ∃ b : Nat, w = b := ⟨w.toNat, by omega⟩
        have hb : b < 6 := by omega
        have hr := sWhy_r (s := A.1) (b := b) (g := g) (t := y) (d := sY A.1)
        have hW : ∀ σ, CC σ A → f_X7_why [gR 10 0, gI (nZ b), gI (nZ g), gI (nZ y), gI (nZ (sY A.1))] σ = some (some (gI (nZ (sWhy A.1 b g y (sY A.1)))), σ) := fun σ hC => p_why hC.1 hb hg (by omega) (by omega)
        have hV : ∀ σ, MC σ A → f_X10_whyNot [gR 36 0, gI (nZ b), gI (nZ g), gI (nZ y), gI (nZ (sY A.1))] σ = some (some (gI (nZ (sWhy A.1 b g y (sY A.1)))), σ) := fun σ hM => m_why hM.1 hb hg (by omega) (by omega)
        by_cases h4 : 0 ≤ sWhy A.1 b g y (sY A.1)
        · obtain ⟨w0, w1, w2, w3⟩ := sWhy_0 h4
          have hroom := sWhy_lay hI hb h4
          have hc := hI.2.2.2.1 b hb
          have hT : lT (sB A.1 b) + y ≤ 99 := by omega
          have hlen := (hI.2.2.2.2.2.1 b hb).1
          have hIV : gb_IV (setB A.1 b (lay1 (sB A.1 b) g y (sY A.1))) := IV_set hI (by rw [lay1_len]; rcases hroom with h | h; rw [if_pos h]; exact hlen; split <;> omega) (by rw [lT_lay]; exact hT) (ok_lay (hI.2.2.2.2.2.1 b hb).2.2 hT hg (by omega) (by omega))
          refine ⟨some (gI (nZ (lT (sB A.1 b) + y))), setS A (setB A.1 b (lay1 (sB A.1 b) g y (sY A.1))), wf_setS hA ⟨hIV, gd_setB hA.1.2 (adj_lay (hA.1.2 b hb))⟩, fun σ hC _ => ?_, fun σ hM => ?_⟩
          · obtain ⟨τ, a1, a2, a3⟩ := CC_past hC
            obtain ⟨τ', b1, b2, b3, -⟩ := p_lay a2.1 hb (g := g) (t := y) (d := sY A.1) hg (by omega) hT (by omega) hroom
            have cY := hC.1.1.2.2.2.2.2.2.1
            have cY' : τ.1 10 0 9 = nZ (sY A.1) := a2.1.1.2.2.2.2.2.2.1
            have cT := b2.1.2.2.2.1 b hb
            rw [sB_s, lT_lay] at cT
            refine ⟨τ', ?_, CC_S a2 b3 b2, fP_tr a3 (fP_w (fS_fP b3) (fun k hk => by omega))⟩
            have cT' : τ'.1 14 0 b = nZ (lT (sB A.1 b) + y) := cT
            rw [e_X9_load, cg_t hg, g_b1, e10, ct_t h2, g_b1, e10, cb_t hb, g_b1, e10, cY, hW σ hC, g_b1, w0]
            have h00 : (0 : Int32) ≤ nZ 0 := by decide
            rw [if_pos h00, a1, g_b0, cY', b1, g_b0]
            simp (disch := omega) only [g_in, z_tn, Int.toNat_natCast, cT']
          · obtain ⟨hM1, f1⟩ := MC_t (v := 0) hM
            obtain ⟨τ, a1, a2, a3⟩ := MC_does hM1
            obtain ⟨τ', b1, b2, b3, -⟩ := m_lies a2.1 hb (g := g) (t := y) (d := sY A.1) hg (by omega) hT (by omega) hroom
            have mY := hM1.1.1.2.2.2.2.2.2.2.1
            have mY' := a2.1.1.2.2.2.2.2.2.2.1
            rw [Nat.zero_add] at mY mY'
            have mY' : τ.1 37 0 174 = nZ (sY A.1) := mY'
            have f2 : gb_fX (fun k => k = 37) (fun _ => False) τ τ' := fP_fX0 b3 (fun k _ z => z) (by omega)
            have mT := m_tonsIn b2 hb
            rw [sB_s, lT_lay] at mT
            refine ⟨τ', ?_, MC_S a2 f2 ⟨by omega, by omega, by omega, by omega⟩ ⟨fun z => z, fun z => z, fun z => z, fun z => z⟩ b2, fP_tr (fX_fP f1 (fun k z => z.elim)) (fP_tr (fX_fP a3 (fun k z => by omega)) (fX_fP f2 (fun k z => by omega)))⟩
            rw [e_X10_load, mg_t hg, g_b1, e10, ml_t h2, g_b1, e10, mb_t hb, g_b1, e10]
            simp (disch := omega) only [z174, g_in, z_tn, show (174 : Int).toNat = 174 from rfl, mY]
            rw [hV _ hM1, g_b1, w0, if_pos (show nZ 0 = 0 from rfl), a1, g_b0]
            simp (disch := omega) only [mY']
            have b1' : f_X10_lies [gR 36 0, gI (nZ b), gI (nZ g), gI (nZ y), gI (nZ (sY A.1))] τ = some (none, τ') := b1
            rw [b1', g_b0]
            have mT' : f_X10_tonsIn [gR 36 0, gI (nZ b)] τ' = some (some (gI (nZ (lT (sB A.1 b) + y))), τ') := mT
            rw [mT', g_b1]
        · refine T2_same hA (some (gI (nZ (sWhy A.1 b g y (sY A.1))))) (fun σ hC => ?_) (fun σ hM => ?_)
          · have cY := hC.1.1.2.2.2.2.2.2.1
            rw [e_X9_load, cg_t hg, g_b1, e10, ct_t h2, g_b1, e10, cb_t hb, g_b1, e10, cY, hW σ hC, g_b1, if_neg (by rw [z0, z_le ⟨by omega, by omega⟩ ⟨by omega, by omega⟩]; exact h4)]
          · have hM1 := (MC_t (v := 0) hM).1
            have mY := hM1.1.1.2.2.2.2.2.2.2.1
            rw [Nat.zero_add] at mY
            rw [e_X10_load, mg_t hg, g_b1, e10, ml_t h2, g_b1, e10, mb_t hb, g_b1, e10]
            simp (disch := omega) only [z174, g_in, z_tn, show (174 : Int).toNat = 174 from rfl, mY]
            rw [hV _ hM1, g_b1, if_neg (by rw [z0, z_eq ⟨by omega, by omega⟩ ⟨by omega, by omega⟩]; omega)]
      · refine T2_same hA (some (gI (-1))) (fun σ hC => ?_) (fun σ hM => ?_)
        · rw [e_X9_load, cg_t hg, g_b1, e10, ct_t h2, g_b1, e10, cb_f hw h3, g_b1, e00]
        · rw [e_X10_load, mg_t hg, g_b1, e10, ml_t h2, g_b1, e10, mb_f hw h3, g_b1, e00]
    · refine T2_same hA (some (gI (-1))) (fun σ hC => ?_) (fun σ hM => ?_)
      · rw [e_X9_load, cg_t hg, g_b1, e10, ct_f hy h2, g_b1, e00]
      · rw [e_X10_load, mg_t hg, g_b1, e10, ml_f hy h2, g_b1, e00]
  · refine T2_same hA (some (gI (-1))) (fun σ hC => ?_) (fun σ hM => ?_)
    · rw [e_X9_load, cg_f hx h1, g_b1, e00]
    · rw [e_X10_load, mg_f hx h1, g_b1, e00]
