/-! what the methods are asked; and the first of them -/
theorem nz64 {z : Int} (h : rZ z) : (nZ z).toInt64.toInt = z := by rw [Int32.toInt_toInt64, nZ_ti h]
theorem m_in_t {z : Int} {lo hi : Int64} {σ : gb_M} (hz : rZ z) (h : lo.toInt ≤ z ∧ z ≤ hi.toInt) : f_X10_in [gL (nZ z).toInt64, gL lo, gL hi] σ = some (some (gI 1), σ) := by
  rw [e_X10_in, if_neg (by rw [lg_cmp_lt, Int64.lt_iff_toInt_lt, nz64 hz]; omega), if_neg (by rw [lg_cmp_gt, Int64.lt_iff_toInt_lt, nz64 hz]; omega)]
theorem m_in_f {z : Int} {lo hi : Int64} {σ : gb_M} (hz : rZ z) (h : z < lo.toInt ∨ hi.toInt < z) : f_X10_in [gL (nZ z).toInt64, gL lo, gL hi] σ = some (some (gI 0), σ) := by
  rw [e_X10_in]
  by_cases h1 : z < lo.toInt
  · rw [if_pos (by rw [lg_cmp_lt, Int64.lt_iff_toInt_lt, nz64 hz]; omega)]
  · rw [if_neg (by rw [lg_cmp_lt, Int64.lt_iff_toInt_lt, nz64 hz]; omega), if_pos (by rw [lg_cmp_gt, Int64.lt_iff_toInt_lt, nz64 hz]; omega)]
theorem gd1 {r : gb_R} : gb_gd (decide ((1 : Int32) &&& 1 = 1)) r = r := g_gd (by decide)
theorem gd0 {r : gb_R} : gb_gd (decide ((0 : Int32) &&& 1 = 0)) r = r := g_gd (by decide)
section ARG
variable {σ : gb_M}
theorem cg_t {g : Nat} (h : g < 6) : f_X9_isGrade [gI (nZ g)] σ = some (some (gI 1), σ) := by
  rw [e_X9_isGrade]
  simp (disch := omega) only [z0, z6, z_lt, z_le, if_neg]
theorem cg_f {z : Int} (hz : rZ z) (h : ¬ (0 ≤ z ∧ z < 6)) : f_X9_isGrade [gI (nZ z)] σ = some (some (gI 0), σ) := by
  rw [e_X9_isGrade]
  by_cases h1 : z < 0
  · simp (disch := omega) only [z0, z6, z_lt, z_le, if_pos]
  · simp (disch := omega) only [z0, z6, z_lt, z_le, if_neg, if_pos]
theorem cb_t {g : Nat} (h : g < 6) : f_X9_isBin [gI (nZ g)] σ = some (some (gI 1), σ) := by
  rw [e_X9_isBin]
  simp (disch := omega) only [z0, z6, z_lt, z_le, if_neg]
theorem cb_f {z : Int} (hz : rZ z) (h : ¬ (0 ≤ z ∧ z < 6)) : f_X9_isBin [gI (nZ z)] σ = some (some (gI 0), σ) := by
  rw [e_X9_isBin]
  by_cases h1 : z < 0
  · simp (disch := omega) only [z0, z6, z_lt, z_le, if_pos]
  · simp (disch := omega) only [z0, z6, z_lt, z_le, if_neg, if_pos]
theorem ct_t {z : Int} (h : 1 ≤ z ∧ z ≤ 99) : f_X9_isTons [gI (nZ z)] σ = some (some (gI 1), σ) := by
  rw [e_X9_isTons]
  simp (disch := omega) only [z1, z99, z_lt, z_le, if_neg]
theorem ct_f {z : Int} (hz : rZ z) (h : ¬ (1 ≤ z ∧ z ≤ 99)) : f_X9_isTons [gI (nZ z)] σ = some (some (gI 0), σ) := by
  rw [e_X9_isTons]
  by_cases h1 : z < 1
  · simp (disch := omega) only [z0, z1, z99, z_lt, z_le, if_pos]
  · simp (disch := omega) only [z0, z1, z99, z_lt, z_le, if_neg, if_pos]
theorem mg_t {g : Nat} (h : g < 6) : f_X10_isGrade [gI (nZ g)] σ = some (some (gI 1), σ) := by
  rw [e_X10_isGrade, m_in_t ⟨by omega, by omega⟩ (by rw [show (0 : Int64).toInt = 0 by decide, show (5 : Int64).toInt = 5 by decide]; omega), g_b1, gd1]
theorem mg_f {z : Int} (hz : rZ z) (h : ¬ (0 ≤ z ∧ z < 6)) : f_X10_isGrade [gI (nZ z)] σ = some (some (gI 0), σ) := by
  rw [e_X10_isGrade, m_in_f hz (by rw [show (0 : Int64).toInt = 0 by decide, show (5 : Int64).toInt = 5 by decide]; omega), g_b1, gd0]
theorem mb_t {g : Nat} (h : g < 6) : f_X10_isBin [gI (nZ g)] σ = some (some (gI 1), σ) := by
  rw [e_X10_isBin, m_in_t ⟨by omega, by omega⟩ (by rw [show (0 : Int64).toInt = 0 by decide, show (5 : Int64).toInt = 5 by decide]; omega), g_b1, gd1]
theorem mb_f {z : Int} (hz : rZ z) (h : ¬ (0 ≤ z ∧ z < 6)) : f_X10_isBin [gI (nZ z)] σ = some (some (gI 0), σ) := by
  rw [e_X10_isBin, m_in_f hz (by rw [show (0 : Int64).toInt = 0 by decide, show (5 : Int64).toInt = 5 by decide]; omega), g_b1, gd0]
theorem ml_t {z : Int} (h : 1 ≤ z ∧ z ≤ 99) : f_X10_isLoad [gI (nZ z)] σ = some (some (gI 1), σ) := by
  rw [e_X10_isLoad, m_in_t ⟨by omega, by omega⟩ (by rw [show (1 : Int64).toInt = 1 by decide, show (99 : Int64).toInt = 99 by decide]; omega), g_b1, gd1]
theorem ml_f {z : Int} (hz : rZ z) (h : ¬ (1 ≤ z ∧ z ≤ 99)) : f_X10_isLoad [gI (nZ z)] σ = some (some (gI 0), σ) := by
  rw [e_X10_isLoad, m_in_f hz (by rw [show (1 : Int64).toInt = 1 by decide, show (99 : Int64).toInt = 99 by decide]; omega), g_b1, gd0]
end ARG
theorem e10 {α : Type} {a b : α} : (if (1 : Int32) = 0 then a else b) = b := if_neg (by decide)
theorem e00 {α : Type} {a b : α} : (if (0 : Int32) = 0 then a else b) = a := if_pos rfl
/-- refused, or asked only: nothing changes -/
theorem T2_same {fc fm : gb_F} {ac am : List gb_V} {A : gb_Ab} (hA : wfA A) (r : Option gb_V) (hc : ∀ σ, CC σ A → fc ac σ = some (r, σ)) (hm : ∀ σ, MC σ A → fm am σ = some (r, gb_si σ 36 0 10 0)) : gb_T2 fc fm ac am A :=
  ⟨r, A, hA, fun σ hC _ => ⟨σ, hc σ hC, hC, fP_rf⟩, fun σ hM => ⟨_, hm σ hM, (MC_t hM).1, fX_fP (MC_t hM).2 (fun k z => z.elim)⟩⟩
def setS (A : gb_Ab) (s : gb_St) : gb_Ab := (s, A.2.1, hAdd A.2.2.1 A.1, A.2.2.2.1, A.2.2.2.2)
theorem wf_hAdd {A : gb_Ab} (hA : wfA A) : ∀ i, i < (hAdd A.2.2.1 A.1).length → gdS ((hAdd A.2.2.1 A.1).getD i s0) := by
  intro i hi
  have hl := hA.2.2.2
  rw [hAdd_len hl] at hi
  unfold hAdd
  by_cases e : A.2.2.1.length = 8
  · rw [if_pos e]
    have etl : A.2.2.1.tail.length = 7 := by rw [List.length_tail]; omega
    by_cases e7 : i = 7
    · subst e7
      have := gd_app2 (h := A.2.2.1.tail) (s := A.1) (d := s0)
      rw [etl] at this
      rw [this]; exact hA.1
    · rw [gd_app1 (by omega), gd_tail]; exact hA.2.2.1 (i + 1) (by omega)
  · rw [if_neg e]
    by_cases e7 : i = A.2.2.1.length
    · subst e7; rw [gd_app2]; exact hA.1
    · rw [gd_app1 (by omega)]; exact hA.2.2.1 i (by omega)
theorem wf_setS {A : gb_Ab} {s : gb_St} (hA : wfA A) (hs : gdS s) : wfA (setS A s) := ⟨hs, hA.2.1, wf_hAdd hA, by show (hAdd _ _).length ≤ 8; rw [hAdd_len hA.2.2.2]; omega⟩
theorem CC_S {σ σ' : gb_M} {A : gb_Ab} {s : gb_St} (hC : CC σ A) (h : gb_fS 0 σ σ') (hS : gb_SC σ' 0 s) : CC σ' (s, A.2) := ⟨hS, keptC_fS h (by omega) hC.2.1, pastC_fS h (by omega) hC.2.2.1, textC_fP (fS_fP h) (by omega) (by omega) hC.2.2.2.1, rowC_fP (fS_fP h) (by omega) (by omega) hC.2.2.2.2⟩
theorem MC_S {Q I : Nat → Prop} {σ σ' : gb_M} {A : gb_Ab} {s : gb_St} (hM : MC σ A) (h : gb_fX Q I σ σ') (hq : ¬ Q 39 ∧ ¬ Q 40 ∧ ¬ Q 41 ∧ ¬ Q 42) (hi : ¬ I 3 ∧ ¬ I 5 ∧ ¬ I 7 ∧ ¬ I 9) (hS : gb_MM σ' s) : MC σ' (s, A.2) := ⟨hS, keptM_fX h hq.1 hi.1 hM.2.1, PM_fX h hq.2.1 hi.2.1 hM.2.2.1, textM_fX h hq.2.2.1 hi.2.2.1 hM.2.2.2.1, rowM_fX h hq.2.2.2 hi.2.2.2 hM.2.2.2.2⟩
/-- an act begins: all is put by -/
theorem CC_pastx {σ : gb_M} {A : gb_Ab} (hC : CC σ A) : ∃ σ', f_X3_add [gR 19 0, gR 10 0] σ = some (none, σ') ∧ CC σ' (setS A A.1) ∧ gb_fP (fun k => 10 ≤ k ∧ k ≤ 19) σ σ' := by
  obtain ⟨σ', a1, a2, a3, a4, a5, a6, a7⟩ := p_past hC.1 hC.2.2.1
  exact ⟨σ', a1, ⟨a3, a4 _ hC.2.1, a2, a5 _ hC.2.2.2.1, a6 _ hC.2.2.2.2⟩, a7⟩
theorem CC_past {σ : gb_M} {A : gb_Ab} (hC : CC σ A) : ∃ σ', f_X3_add [gR 19 0, gR 10 0] σ = some (none, σ') ∧ CC σ' (setS A A.1) ∧ gb_fP (fun k => k < 36 ∧ k ≠ 31) σ σ' := by
  obtain ⟨σ', a1, a2, a3⟩ := CC_pastx hC
  exact ⟨σ', a1, a2, fP_w a3 (fun k hk => by omega)⟩
theorem MC_does {σ : gb_M} {A : gb_Ab} (hM : MC σ A) : ∃ σ', f_X10_does [gR 36 0] σ = some (none, σ') ∧ MC σ' (setS A A.1) ∧ gb_fX (fun k => k = 38 ∨ k = 40) (fun x => x = 5) σ σ' := by
  obtain ⟨σ', a1, a2, a3, a4⟩ := m_does hM.1 hM.2.2.1
  have f : gb_fX (fun k => k = 38 ∨ k = 40) (fun x => x = 5) σ σ' := fP_fX a2 (fun k h1 h2 => by omega) a4
  exact ⟨σ', a1, ⟨MM_fX f (by omega) hM.1, keptM_fX f (by omega) (by omega) hM.2.1, a3, textM_fX f (by omega) (by omega) hM.2.2.2.1, rowM_fX f (by omega) (by omega) hM.2.2.2.2⟩, f⟩
theorem RM_1 {f f' : Nat → Int32} {o a : Nat} {s : gb_St} {v : Int} (h : gb_RM f o s) (il : iL s) (ha : a < 60 ∨ a = 174 ∨ a = 175) (h1 : f' (o + a) = nZ v) (h2 : ∀ x, x < 176 → x ≠ a → f' (o + x) = f (o + x)) : gb_RM f' o (fun k => if k = a then v else s.1 k, s.2) := by
  obtain ⟨mW, mK, mO, mC, mP, mN, mL, mY, mQ⟩ := h
  have key : ∀ x, x < 60 ∨ x = 174 ∨ x = 175 → f (o + x) = nZ (s.1 x) → f' (o + x) = nZ (if x = a then v else s.1 x) := by
    intro x hx e
    by_cases ex : x = a
    · subst ex; rw [if_pos rfl]; exact h1
    · rw [if_neg ex, h2 x (by omega) ex]; exact e
  refine ⟨fun g hg => key g (by omega) (mW g hg), fun g hg => ?_, fun g k hg hk => ?_, fun k hk => ?_, fun k hk => ?_, fun k hk => ?_, fun k i hk hi => ?_, key 174 (by omega) mY, key 175 (by omega) mQ⟩
  · have := mK g hg
    rw [show (6 + (g : Int)).toNat = 6 + g by omega] at this ⊢
    exact key _ (by omega) this
  · have := mO g k hg hk
    rw [show (12 + 6 * (g : Int) + (k : Int)).toNat = 12 + (6 * g + k) by omega] at this ⊢
    exact key _ (by omega) this
  · have := mC k hk
    rw [show (48 + (k : Int)).toNat = 48 + k by omega] at this ⊢
    exact key _ (by omega) this
  · have := mP k hk
    rw [show (54 + (k : Int)).toNat = 54 + k by omega] at this ⊢
    exact key _ (by omega) this
  · rw [h2 _ (by omega) (by omega)]; exact mN k hk
  · have hlen := (il k hk).1
    have hi' : i < (sB s k).length := hi
    rw [h2 _ (by omega) (by omega), h2 _ (by omega) (by omega), h2 _ (by omega) (by omega)]
    exact mL k i hk hi
theorem MM_si {σ : gb_M} {s : gb_St} {a : Nat} {v : Int} (hM : gb_MM σ s) (ha : a < 60 ∨ a = 174 ∨ a = 175) (hI : gb_IV (fun k => if k = a then v else s.1 k, s.2)) : gb_MM (gb_si σ 37 0 a (nZ v)) (fun k => if k = a then v else s.1 k, s.2) := ⟨RM_1 hM.1 hM.2.2.2.2.2.2.1 ha (by rw [Nat.zero_add, si_s]) (fun x _ hx => by rw [Nat.zero_add, si_i hx]), hI⟩
theorem th_days {A : gb_Ab} (hA : wfA A) (a : Int32) : gb_T2 f_X9_days f_X10_days [gR 0 0, gI a] [gR 36 0, gI a] A := by
  have hz := nZ_rz a
  rw [nZ_of a]
  generalize a.toInt = z at hz
  have hI := hA.1.1
  obtain ⟨y1, y2, q1, q2⟩ := hI.2.2.2.2.2.2
  by_cases h1 : 1 ≤ z ∧ z ≤ 99
  · by_cases h2 : sY A.1 + z ≤ 9999
    · refine ⟨some (gI (nZ (sY A.1 + z))), setS A (setY A.1 (sY A.1 + z)), wf_setS hA ⟨IV_Y hI (by omega), hA.1.2⟩, fun σ hC _ => ?_, fun σ hM => ?_⟩
      · obtain ⟨τ, a1, a2, a3⟩ := CC_past hC
        have cY := hC.1.1.2.2.2.2.2.2.1
        have cY' := a2.1.1.2.2.2.2.2.2.1
        have f : gb_fS 0 τ (gb_si τ 10 0 9 (nZ (sY A.1 + z))) := fS_si fS_rf (by omega)
        refine ⟨gb_si τ 10 0 9 (nZ (sY A.1 + z)), ?_, CC_S a2 f ⟨RS_Y a2.1.1, RR_eq (s := A.1) (fS_RR f a2.1.2.1) (fun k _ _ => if_neg (by omega)), IV_Y hI (by omega)⟩, fP_tr a3 (fP_w (fS_fP f) (fun k hk => by omega))⟩
        rw [e_X9_days]
        have cY'' : τ.1 10 0 9 = nZ (sY A.1) := cY'
        simp (disch := omega) only [z1, z99, show (9999 : Int32) = nZ 9999 from rfl, z_lt, z_le, if_neg, cY, z_add, if_pos, a1, g_b0, cY'', si_s]
      · obtain ⟨hM1, f1⟩ := MC_t (v := 0) hM
        obtain ⟨τ, a1, a2, a3⟩ := MC_does hM1
        have mY := hM1.1.1.2.2.2.2.2.2.2.1
        have mY' := a2.1.1.2.2.2.2.2.2.2.1
        rw [Nat.zero_add] at mY mY'
        have f2 : gb_fX (fun k => k = 37) (fun _ => False) τ (gb_si τ 37 0 174 (nZ (sY A.1 + z))) := fX_si fX_rf (Or.inl ⟨by omega, rfl⟩)
        refine ⟨gb_si τ 37 0 174 (nZ (sY A.1 + z)), ?_, MC_S a2 f2 ⟨by omega, by omega, by omega, by omega⟩ ⟨fun z => z, fun z => z, fun z => z, fun z => z⟩ (MM_si a2.1 (by omega) (IV_Y hI (by omega))), fP_tr (fX_fP f1 (fun k z => z.elim)) (fP_tr (fX_fP a3 (fun k z => by omega)) (fX_fP f2 (fun k z => by omega)))⟩
        rw [e_X10_days, m_in_t hz (by rw [show (1 : Int64).toInt = 1 by decide, show (99 : Int64).toInt = 99 by decide]; omega)]
        have mY'' : τ.1 37 0 174 = nZ (sY A.1) := mY'
        simp (disch := omega) only [g_b1, e10, z174, g_in, z_tn, show (174 : Int).toNat = 174 from rfl, mY, show (9999 : Int32) = nZ 9999 from rfl, z_le, z_add, if_pos, a1, g_b0, mY'', si_s]
    · refine T2_same hA (some (gI (-1))) (fun σ hC => ?_) (fun σ hM => ?_)
      · have cY := hC.1.1.2.2.2.2.2.2.1
        rw [e_X9_days]
        simp (disch := omega) only [z1, z99, show (9999 : Int32) = nZ 9999 from rfl, z_lt, z_le, if_neg, cY, z_add]
      · have mY := (MC_t (v := 0) hM).1.1.1.2.2.2.2.2.2.2.1
        rw [Nat.zero_add] at mY
        rw [e_X10_days, m_in_t hz (by rw [show (1 : Int64).toInt = 1 by decide, show (99 : Int64).toInt = 99 by decide]; omega)]
        simp (disch := omega) only [g_b1, e10, z174, g_in, z_tn, show (174 : Int).toNat = 174 from rfl, mY, show (9999 : Int32) = nZ 9999 from rfl, z_le, z_add, if_neg]
  · refine T2_same hA (some (gI (-1))) (fun σ hC => ?_) (fun σ hM => ?_)
    · rw [e_X9_days]
      by_cases h2 : z < 1
      · simp (disch := omega) only [z1, z_lt, if_pos]
      · simp (disch := omega) only [z1, z99, z_lt, if_neg, if_pos]
    · rw [e_X10_days, m_in_f hz (by rw [show (1 : Int64).toInt = 1 by decide, show (99 : Int64).toInt = 99 by decide]; omega)]
      simp only [g_b1, if_true]
