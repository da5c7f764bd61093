/-! READ: orders, by the reference -/
abbrev rlX : gb_M → gb_M → Prop := gb_fX (fun k => k = 47 ∨ k = 48) (fun x => x = 17 ∨ x = 18 ∨ x = 25)
def rdM (σ : gb_M) (T : List Int) (x : Option (List (Nat × Int)) × Nat) : Prop := match x.1 with
  | none => mF σ x.2
  | some O => σ.1 36 0 18 = -1 ∧ ordM σ O
theorem rl_w {σ σ' : gb_M} (h : rdX σ σ') : rlX σ σ' := fX_w h.1 (fun k hk => hk.elim) (fun x hx => by omega)
section RL
variable {T : List Int}
theorem rl_F {σ : gb_M} {w : Nat} (h : mF σ w) : j_X10_readsList_22 0 σ = some (none, σ) := by
  rw [e_X10_readsList_22, if_pos rfl, if_neg (mF_ne h)]
theorem rl_R {σ : gb_M} {q : Nat} (h : mR σ T q) (c : q = T.length) : j_X10_readsList_22 0 σ = some (none, σ) := by
  rw [e_X10_readsList_22, if_pos rfl, if_pos h.2.2.1, h.1, h.2.1, if_pos (by rw [c]; exact Int32.le_refl _)]
theorem rl_Q {σ : gb_M} {q : Nat} (h : mR σ T q) (c : ¬ q = T.length) : ∃ σ', j_X10_readsList_22 0 σ = some (none, σ') ∧ mF σ' q ∧ rdX σ σ' := by
  have h1 := h.2.2.2.1
  have h2 := h.2.2.2.2.1
  obtain ⟨σ', a, b, d⟩ := m_fault h (w := q) (by omega)
  refine ⟨σ', ?_, b, d⟩
  rw [e_X10_readsList_22, if_pos rfl, if_pos h.2.2.1, h.1, h.2.1, if_neg (by rw [z_le ⟨by omega, by omega⟩ ⟨by omega, by omega⟩]; omega), a, g_b0]
theorem rl_n {s5 : gb_M} {w i : Nat} (h : mF s5 w) (h25 : s5.1 36 0 25 = nZ i) (hi : i < 6) : gb_b1 (f_X10_number [gR 36 0, gI 1, gI 99, gI 2] s5) (fun x7 s6 => gb_gd (gb_in (s5.1 36 0 25) 6) (if (gb_si (gb_si s6 48 0 (s5.1 36 0 25).toNatClampNeg x7) 36 0 25 (((gb_si s6 48 0 (s5.1 36 0 25).toNatClampNeg x7).1 36 0 25) + 1)).1 36 0 18 = (-1) then
        gb_b1 (f_X10_sees [gR 36 0] (gb_si (gb_si s6 48 0 (s5.1 36 0 25).toNatClampNeg x7) 36 0 25 (((gb_si s6 48 0 (s5.1 36 0 25).toNatClampNeg x7).1 36 0 25) + 1))) (fun x9 s8 => if x9 = 44 then
          if 6 ≤ s8.1 36 0 25 then
            if 0 = 0 then j_X10_readsList_22 0 s8 else j_X10_readsList_22 0 (gb_si s8 36 0 17 ((s8.1 36 0 17) + 1))
          else
            if 1 = 0 then j_X10_readsList_22 1 s8 else j_X10_readsList_22 1 (gb_si s8 36 0 17 ((s8.1 36 0 17) + 1))
        else
          if 0 = 0 then j_X10_readsList_22 0 s8 else j_X10_readsList_22 0 (gb_si s8 36 0 17 ((s8.1 36 0 17) + 1)))
      else
        if 0 = 0 then
          j_X10_readsList_22 0 (gb_si (gb_si s6 48 0 (s5.1 36 0 25).toNatClampNeg x7) 36 0 25 (((gb_si s6 48 0 (s5.1 36 0 25).toNatClampNeg x7).1 36 0 25) + 1))
        else
          j_X10_readsList_22 0 (gb_si (gb_si (gb_si s6 48 0 (s5.1 36 0 25).toNatClampNeg x7) 36 0 25 (((gb_si s6 48 0 (s5.1 36 0 25).toNatClampNeg x7).1 36 0 25) + 1)) 36 0 17 (((gb_si (gb_si s6 48 0 (s5.1 36 0 25).toNatClampNeg x7) 36 0 25 (((gb_si s6 48 0 (s5.1 36 0 25).toNatClampNeg x7).1 36 0 25) + 1)).1 36 0 17) + 1)))) = some (none, gb_si (gb_si s5 48 0 i 1) 36 0 25 (nZ (i + 1 : Nat))) := by
  have f : mF (gb_si (gb_si s5 48 0 i 1) 36 0 25 (nZ (i + 1 : Nat))) w := ⟨by rw [si_i (by omega), si_k (by omega)]; exact h.1, h.2⟩
  have e1 : (gb_si s5 48 0 i 1).1 36 0 25 = nZ i := by rw [si_k (by omega)]; exact h25
  rw [m_number_n h, g_b1, h25, z_tn (by omega), Int.toNat_natCast, e1, zs, g_in (by omega), if_neg (mF_ne f)]
  exact (if_pos rfl).trans (rl_F f)
theorem rl_y {s5 : gb_M} {p i : Nat} (h : mR s5 T p) (h25 : s5.1 36 0 25 = nZ i) (hi : i < 6) : ∃ (s6 : gb_M) (x : Int), rdX s5 s6 ∧ mE s6 T (nm T 1 99 2 p) ∧ ((nm T 1 99 2 p).1 = none ∨ (nm T 1 99 2 p).1 = some x) ∧ gb_b1 (f_X10_number [gR 36 0, gI 1, gI 99, gI 2] s5) (fun x7 s6 => gb_gd (gb_in (s5.1 36 0 25) 6) (if (gb_si (gb_si s6 48 0 (s5.1 36 0 25).toNatClampNeg x7) 36 0 25 (((gb_si s6 48 0 (s5.1 36 0 25).toNatClampNeg x7).1 36 0 25) + 1)).1 36 0 18 = (-1) then
        gb_b1 (f_X10_sees [gR 36 0] (gb_si (gb_si s6 48 0 (s5.1 36 0 25).toNatClampNeg x7) 36 0 25 (((gb_si s6 48 0 (s5.1 36 0 25).toNatClampNeg x7).1 36 0 25) + 1))) (fun x9 s8 => if x9 = 44 then
          if 6 ≤ s8.1 36 0 25 then
            if 0 = 0 then j_X10_readsList_22 0 s8 else j_X10_readsList_22 0 (gb_si s8 36 0 17 ((s8.1 36 0 17) + 1))
          else
            if 1 = 0 then j_X10_readsList_22 1 s8 else j_X10_readsList_22 1 (gb_si s8 36 0 17 ((s8.1 36 0 17) + 1))
        else
          if 0 = 0 then j_X10_readsList_22 0 s8 else j_X10_readsList_22 0 (gb_si s8 36 0 17 ((s8.1 36 0 17) + 1)))
      else
        if 0 = 0 then
          j_X10_readsList_22 0 (gb_si (gb_si s6 48 0 (s5.1 36 0 25).toNatClampNeg x7) 36 0 25 (((gb_si s6 48 0 (s5.1 36 0 25).toNatClampNeg x7).1 36 0 25) + 1))
        else
          j_X10_readsList_22 0 (gb_si (gb_si (gb_si s6 48 0 (s5.1 36 0 25).toNatClampNeg x7) 36 0 25 (((gb_si s6 48 0 (s5.1 36 0 25).toNatClampNeg x7).1 36 0 25) + 1)) 36 0 17 (((gb_si (gb_si s6 48 0 (s5.1 36 0 25).toNatClampNeg x7) 36 0 25 (((gb_si s6 48 0 (s5.1 36 0 25).toNatClampNeg x7).1 36 0 25) + 1)).1 36 0 17) + 1)))) = (if (gb_si (gb_si s6 48 0 i (nZ x)) 36 0 25 (nZ (i + 1 : Nat))).1 36 0 18 = -1 then gb_b1 (f_X10_sees [gR 36 0] (gb_si (gb_si s6 48 0 i (nZ x)) 36 0 25 (nZ (i + 1 : Nat)))) (fun x9 s8 => if x9 = 44 then
          if 6 ≤ s8.1 36 0 25 then
            j_X10_readsList_22 0 s8
          else
            j_X10_readsList_22 1 (gb_si s8 36 0 17 ((s8.1 36 0 17) + 1))
        else
          j_X10_readsList_22 0 s8)
      else
        j_X10_readsList_22 0 (gb_si (gb_si s6 48 0 i (nZ x)) 36 0 25 (nZ (i + 1 : Nat)))) := by
  obtain ⟨s6, x, a, b, c, d⟩ := m_number h (lo := 1) (hi := 99) (by omega) (by omega) (k := 2) (by omega)
  have a' : f_X10_number [gR 36 0, gI 1, gI 99, gI 2] s5 = some (some (gI (nZ x)), s6) := a
  refine ⟨s6, x, d, b, c, ?_⟩
  have e25 : s6.1 36 0 25 = nZ i := by rw [d.1.2 25 (by omega)]; exact h25
  have e1 : (gb_si s6 48 0 i (nZ x)).1 36 0 25 = nZ i := by rw [si_k (by omega)]; exact e25
  rw [a', g_b1, h25, z_tn (by omega), Int.toNat_natCast, e1, zs, g_in (by omega)]
  rfl
theorem m_rd : ∀ n acc p (σ : gb_M), acc.length + n = 6 → 0 < n → mR σ T p → ordM σ acc → ∃ σ', j_X10_readsList_22 1 σ = some (none, σ') ∧ rdM σ' T (rdO T n acc p) ∧ rlX σ σ'
  | 0, _, _, _, _, h, _, _ => absurd h (by omega)
  | n + 1, acc, p, σ, hn, _, h, ha => by
    have e25 := ha.1
    have h11 : ¬ (1 : Int32) = 0 := by decide
    have h200 := h.2.2.2.2.1
    have hlp := h.2.2.2.1
    rw [e_X10_readsList_22, if_neg h11, if_pos h.2.2.1, e25, z_tn (by omega), Int.toNat_natCast]
    -- where it is at fault
    have bad : ∀ (s5 : gb_M) (w : Nat) (x4 : Int32) (s3 : gb_M), rdX σ s3 → f_X10_expect [gR 36 0, gI 58] (gb_si s3 47 0 acc.length x4) = some (none, s5) → rdX (gb_si s3 47 0 acc.length x4) s5 → mF s5 w → (rdO T (n + 1) acc p) = (none, w) → ∃ σ', gb_b0 (f_X10_expect [gR 36 0, gI 58] (gb_si s3 47 0 acc.length x4)) (fun s5 => gb_b1 (f_X10_number [gR 36 0, gI 1, gI 99, gI 2] s5) (fun x7 s6 => gb_gd (gb_in (s5.1 36 0 25) 6) (if (gb_si (gb_si s6 48 0 (s5.1 36 0 25).toNatClampNeg x7) 36 0 25 (((gb_si s6 48 0 (s5.1 36 0 25).toNatClampNeg x7).1 36 0 25) + 1)).1 36 0 18 = (-1) then
        gb_b1 (f_X10_sees [gR 36 0] (gb_si (gb_si s6 48 0 (s5.1 36 0 25).toNatClampNeg x7) 36 0 25 (((gb_si s6 48 0 (s5.1 36 0 25).toNatClampNeg x7).1 36 0 25) + 1))) (fun x9 s8 => if x9 = 44 then
          if 6 ≤ s8.1 36 0 25 then
            if 0 = 0 then j_X10_readsList_22 0 s8 else j_X10_readsList_22 0 (gb_si s8 36 0 17 ((s8.1 36 0 17) + 1))
          else
            if 1 = 0 then j_X10_readsList_22 1 s8 else j_X10_readsList_22 1 (gb_si s8 36 0 17 ((s8.1 36 0 17) + 1))
        else
          if 0 = 0 then j_X10_readsList_22 0 s8 else j_X10_readsList_22 0 (gb_si s8 36 0 17 ((s8.1 36 0 17) + 1)))
      else
        if 0 = 0 then
          j_X10_readsList_22 0 (gb_si (gb_si s6 48 0 (s5.1 36 0 25).toNatClampNeg x7) 36 0 25 (((gb_si s6 48 0 (s5.1 36 0 25).toNatClampNeg x7).1 36 0 25) + 1))
        else
          j_X10_readsList_22 0 (gb_si (gb_si (gb_si s6 48 0 (s5.1 36 0 25).toNatClampNeg x7) 36 0 25 (((gb_si s6 48 0 (s5.1 36 0 25).toNatClampNeg x7).1 36 0 25) + 1)) 36 0 17 (((gb_si (gb_si s6 48 0 (s5.1 36 0 25).toNatClampNeg x7) 36 0 25 (((gb_si s6 48 0 (s5.1 36 0 25).toNatClampNeg x7).1 36 0 25) + 1)).1 36 0 17) + 1))))) = some (none, σ') ∧ rdM σ' T (rdO T (n + 1) acc p) ∧ rlX σ σ' := by
      intro s5 w x4 s3 f3 he f5 hF hr
      have f4 : rlX s3 (gb_si s3 47 0 acc.length x4) := fX_si fX_rf (Or.inl ⟨by omega, Or.inl rfl⟩)
      have fa : rlX σ s5 := fX_tr (rl_w f3) (fX_tr f4 (rl_w f5))
      have e5 : s5.1 36 0 25 = nZ acc.length := by rw [f5.1.2 25 (by omega), si_k (by omega), f3.1.2 25 (by omega)]; exact e25
      have f6 : rlX s5 (gb_si (gb_si s5 48 0 acc.length 1) 36 0 25 (nZ (acc.length + 1 : Nat))) := fX_si (fX_si fX_rf (Or.inl ⟨by omega, Or.inr rfl⟩)) (Or.inr ⟨rfl, Or.inr (Or.inr rfl)⟩)
      refine ⟨_, by rw [he, g_b0]; exact rl_n hF e5 (by omega), ?_, fX_tr fa f6⟩
      rw [hr]
      exact ⟨by rw [si_i (by omega), si_k (by omega)]; exact hF.1, hF.2⟩
    cases hg : nn T (fun _ => false) p with
    | none =>
      have hng : ¬ (48 ≤ tA T p ∧ tA T p < 54) := fun z => by
        unfold nn at hg
        rw [if_pos ⟨z.1, z.2, rfl⟩] at hg
        cases hg
      obtain ⟨s3, a1, a2, a3⟩ := m_grade_f h hng
      have hF : mF (gb_si s3 47 0 acc.length 0) p := ⟨by rw [si_k (by omega)]; exact a2.1, a2.2⟩
      rw [a1, g_b1, g_in (by omega)]
      refine bad _ p 0 s3 a3 (m_expect_n hF 58) ⟨fX_rf, rfl⟩ hF ?_
      unfold rdO
      have : rd1 T p = (none, p) := by unfold rd1; rw [hg]
      rw [this]
    | some g =>
      obtain ⟨g6, g7, -⟩ := nn_r hg
      obtain ⟨s3, a1, a2, a3⟩ := m_grade_t h g6 g7
      rw [a1, g_b1, g_in (by omega)]
      have r3 : mR (gb_si s3 47 0 acc.length (nZ g)) T (p + 1) := mR_fX (Q := fun k => k = 47) (I := fun _ => False) (fX_si fX_rf (Or.inl ⟨by omega, rfl⟩)) (by omega) ⟨fun z => z, fun z => z, fun z => z⟩ a2
      by_cases c : tA T (p + 1) = 58
      · obtain ⟨s5, b1, b2, b3⟩ := m_expect_t r3 (c := 58) (by omega) c
        have b1' : f_X10_expect [gR 36 0, gI 58] (gb_si s3 47 0 acc.length (nZ g)) = some (none, s5) := b1
        have e5 : s5.1 36 0 25 = nZ acc.length := by rw [b3.1.2 25 (by omega), si_k (by omega), a3.1.2 25 (by omega)]; exact e25
        obtain ⟨s6, x, d1, d2, d3, d4⟩ := rl_y b2 e5 (by omega)
        rw [b1', g_b0, d4]
        have f4 : rlX s3 (gb_si s3 47 0 acc.length (nZ g)) := fX_si fX_rf (Or.inl ⟨by omega, Or.inl rfl⟩)
        have f7 : rlX s6 (gb_si (gb_si s6 48 0 acc.length (nZ x)) 36 0 25 (nZ (acc.length + 1 : Nat))) := fX_si (fX_si fX_rf (Or.inl ⟨by omega, Or.inr rfl⟩)) (Or.inr ⟨rfl, Or.inr (Or.inr rfl)⟩)
        have f6 : rlX σ s6 := fX_tr (rl_w a3) (fX_tr f4 (fX_tr (rl_w b3) (rl_w d1)))
        have fa := fX_tr f6 f7
        have hrd : rd1 T p = ((nm T 1 99 2 (p + 1 + 1)).1.map (fun t => (g, t)), (nm T 1 99 2 (p + 1 + 1)).2) := by unfold rd1; rw [hg]; exact if_pos c
        unfold mE at d2
        cases ht : (nm T 1 99 2 (p + 1 + 1)).1 with
        | none =>
          rw [ht] at d2
          have hF : mF (gb_si (gb_si s6 48 0 acc.length (nZ x)) 36 0 25 (nZ (acc.length + 1 : Nat))) (nm T 1 99 2 (p + 1 + 1)).2 := ⟨by rw [si_i (by omega), si_k (by omega)]; exact d2.1, d2.2⟩
          rw [if_neg (mF_ne hF), rl_F hF]
          refine ⟨_, rfl, ?_, fa⟩
          unfold rdO
          rw [hrd, ht]
          exact hF
        | some t =>
          rw [ht] at d2 d3
          have ex : x = t := by
            rcases d3 with d3 | d3
            · cases d3
            · cases d3; rfl
          subst ex
          have hR : mR (gb_si (gb_si s6 48 0 acc.length (nZ x)) 36 0 25 (nZ (acc.length + 1 : Nat))) T (nm T 1 99 2 (p + 1 + 1)).2 := mR_fX (Q := fun k => k = 47 ∨ k = 48) (I := fun x => x = 25) (fX_si (fX_si fX_rf (Or.inl ⟨by omega, Or.inr rfl⟩)) (Or.inr ⟨rfl, rfl⟩)) (by omega) ⟨by omega, by omega, by omega⟩ d2
          have el : (acc ++ [(g, x)]).length = acc.length + 1 := by simp
          have hO : ordM (gb_si (gb_si s6 48 0 acc.length (nZ x)) 36 0 25 (nZ (acc.length + 1 : Nat))) (acc ++ [(g, x)]) := by
            refine ⟨by rw [si_s, el], fun i hi => ?_⟩
            rw [el] at hi
            have k47 : ∀ i, s6.1 47 0 i = (gb_si s3 47 0 acc.length (nZ g)).1 47 0 i := fun i => by rw [(d1.1.1 47 0 i (by omega) (fun z => z)).1, (b3.1.1 47 0 i (by omega) (fun z => z)).1]
            have k48 : ∀ i, s6.1 48 0 i = σ.1 48 0 i := fun i => by rw [(d1.1.1 48 0 i (by omega) (fun z => z)).1, (b3.1.1 48 0 i (by omega) (fun z => z)).1, si_k (by omega), (a3.1.1 48 0 i (by omega) (fun z => z)).1]
            by_cases e : i = acc.length
            · subst e
              rw [oz_2, si_k (by omega), si_k (by omega), k47, si_s, si_k (by omega), si_s]
              exact ⟨rfl, rfl⟩
            · rw [oz_1 (by omega), si_k (by omega), si_k (by omega), k47, si_i e, (a3.1.1 47 0 i (by omega) (fun z => z)).1, si_k (by omega), si_i e, k48]
              exact ha.2 i (by omega)
          have hq1 := hR.2.2.2.1
          have ht2 := tA_r h.2.2.2.2.2.2 (nm T 1 99 2 (p + 1 + 1)).2
          rw [if_pos hR.2.2.1, m_sees hR, g_b1, hO.1, el]
          generalize hs8 : gb_si (gb_si s6 48 0 acc.length (nZ x)) 36 0 25 (nZ (acc.length + 1 : Nat)) = s8 at hR hO fa
          have hrd' : rdO T (n + 1) acc p = if (nm T 1 99 2 (p + 1 + 1)).2 < T.length then (if n = 0 then (none, (nm T 1 99 2 (p + 1 + 1)).2) else if tA T (nm T 1 99 2 (p + 1 + 1)).2 = 44 then rdO T n (acc ++ [(g, x)]) ((nm T 1 99 2 (p + 1 + 1)).2 + 1) else (none, (nm T 1 99 2 (p + 1 + 1)).2)) else (some (acc ++ [(g, x)]), (nm T 1 99 2 (p + 1 + 1)).2) := by
            show (match (rd1 T p).1 with
              | none => (none, (rd1 T p).2)
              | some o => if (rd1 T p).2 < T.length then (if n = 0 then (none, (rd1 T p).2) else if tA T (rd1 T p).2 = 44 then rdO T n (acc ++ [o]) ((rd1 T p).2 + 1) else (none, (rd1 T p).2)) else (some (acc ++ [o]), (rd1 T p).2)) = _
            rw [hrd, ht]
            rfl
          rw [hrd']
          have stop : ¬ (nm T 1 99 2 (p + 1 + 1)).2 = T.length → ∃ σ', j_X10_readsList_22 0 s8 = some (none, σ') ∧ rdM σ' T (none, (nm T 1 99 2 (p + 1 + 1)).2) ∧ rlX σ σ' := by
            intro z
            obtain ⟨σ', u1, u2, u3⟩ := rl_Q hR z
            exact ⟨σ', u1, u2, fX_tr fa (rl_w u3)⟩
          by_cases c2 : (nm T 1 99 2 (p + 1 + 1)).2 < T.length
          · rw [if_pos c2]
            by_cases c4 : tA T (nm T 1 99 2 (p + 1 + 1)).2 = 44
            · rw [if_pos (show nZ (tA T (nm T 1 99 2 (p + 1 + 1)).2) = 44 by rw [c4]; rfl)]
              by_cases c3 : n = 0
              · rw [if_pos (show (6 : Int32) ≤ nZ (acc.length + 1 : Nat) by rw [z6, z_le ⟨by omega, by omega⟩ ⟨by omega, by omega⟩]; omega), if_pos c3]
                exact stop (by omega)
              · rw [if_neg (show ¬ (6 : Int32) ≤ nZ (acc.length + 1 : Nat) by rw [z6, z_le ⟨by omega, by omega⟩ ⟨by omega, by omega⟩]; omega), if_neg c3, if_pos c4, hR.2.1, zs]
                obtain ⟨r1, r2⟩ := mR_at hR (q := (nm T 1 99 2 (p + 1 + 1)).2 + 1) (by omega)
                obtain ⟨σ', i1, i2, i3⟩ := m_rd n (acc ++ [(g, x)]) _ _ (by omega) (by omega) r1 ⟨by rw [r2.1.2 25 (by omega)]; exact hO.1, fun i hi => by rw [(r2.1.1 47 0 i (by omega) (fun z => z)).1, (r2.1.1 48 0 i (by omega) (fun z => z)).1]; exact hO.2 i hi⟩
                exact ⟨σ', i1, i2, fX_tr fa (fX_tr (rl_w r2) i3)⟩
            · rw [if_neg (show ¬ nZ (tA T (nm T 1 99 2 (p + 1 + 1)).2) = 44 by rw [show (44 : Int32) = nZ 44 from rfl, z_eq ⟨by omega, by omega⟩ ⟨by omega, by omega⟩]; exact c4)]
              have : (if n = 0 then ((none : Option (List (Nat × Int))), (nm T 1 99 2 (p + 1 + 1)).2) else if tA T (nm T 1 99 2 (p + 1 + 1)).2 = 44 then rdO T n (acc ++ [(g, x)]) ((nm T 1 99 2 (p + 1 + 1)).2 + 1) else (none, (nm T 1 99 2 (p + 1 + 1)).2)) = (none, (nm T 1 99 2 (p + 1 + 1)).2) := by
                by_cases c3 : n = 0
                · rw [if_pos c3]
                · rw [if_neg c3, if_neg c4]
              rw [this]
              exact stop (by omega)
          · have e44 : ¬ nZ (tA T (nm T 1 99 2 (p + 1 + 1)).2) = 44 := by
              have : tA T (nm T 1 99 2 (p + 1 + 1)).2 = -1 := if_neg c2
              rw [this]; decide
            rw [if_neg c2, if_neg e44, rl_R hR (by omega)]
            exact ⟨s8, rfl, ⟨hR.2.2.1, hO⟩, fa⟩
      · obtain ⟨s5, b1, b2, b3⟩ := m_expect_f r3 (c := 58) (by omega) c
        refine bad s5 (p + 1) (nZ g) s3 a3 b1 b3 b2 ?_
        unfold rdO
        have : rd1 T p = (none, p + 1) := by unfold rd1; rw [hg]; exact if_neg c
        rw [this]
end RL
theorem m_readsList {σ0 σ : gb_M} {A : gb_Ab} (h : KM σ0 σ A) : ∃ σ', f_X10_readsList [gR 36 0] σ = some (none, σ') ∧ KM σ0 σ' (setT A []) ∧ rdM σ' A.2.2.2.1 (rdT A.2.2.2.1) ∧ gb_fX (fun k => k = 47 ∨ k = 48) (fun x => x = 7 ∨ x = 16 ∨ x = 17 ∨ x = 18 ∨ x = 25) σ σ' := by
  obtain ⟨a, b, c, d⟩ := h.1.2.2.2.1
  generalize hT : A.2.2.2.1 = T at a b c d
  generalize hs1 : gb_si (gb_si (gb_si (gb_si (gb_si σ 36 0 16 (σ.1 36 0 7)) 36 0 7 0) 36 0 17 0) 36 0 18 (-1)) 36 0 25 0 = s1
  have e7 : s1.1 36 0 7 = 0 := by rw [← hs1]; simp (disch := omega) only [si_i, si_s]
  have e16 : s1.1 36 0 16 = nZ T.length := by rw [← hs1]; simp (disch := omega) only [si_i, si_s]; exact a
  have e25 : s1.1 36 0 25 = 0 := by rw [← hs1, si_s]
  have f1 : gb_fX (fun k => k = 47 ∨ k = 48) (fun x => x = 7 ∨ x = 16 ∨ x = 17 ∨ x = 18 ∨ x = 25) σ s1 := by
    rw [← hs1]
    exact fX_si (fX_si (fX_si (fX_si (fX_si fX_rf (Or.inr ⟨rfl, by omega⟩)) (Or.inr ⟨rfl, by omega⟩)) (Or.inr ⟨rfl, by omega⟩)) (Or.inr ⟨rfl, by omega⟩)) (Or.inr ⟨rfl, by omega⟩)
  have hR : mR s1 T 0 := ⟨e16, by rw [← hs1]; simp (disch := omega) only [si_i, si_s]; rfl, by rw [← hs1]; simp (disch := omega) only [si_i, si_s], by omega, b, fun i hi => by rw [(f1.1 41 0 i (by omega) (by omega)).1]; exact c i hi, d⟩
  have fin : ∀ τ, rlX s1 τ → gb_fX (fun k => k = 47 ∨ k = 48) (fun x => x = 7 ∨ x = 16 ∨ x = 17 ∨ x = 18 ∨ x = 25) σ τ ∧ KM σ0 τ (setT A []) := by
    intro τ f
    have fa := fX_tr f1 (fX_w f (fun k hk => hk) (fun x hx => by omega) : gb_fX (fun k => k = 47 ∨ k = 48) (fun x => x = 7 ∨ x = 16 ∨ x = 17 ∨ x = 18 ∨ x = 25) s1 τ)
    exact ⟨fa, MC_text fa ⟨by omega, by omega, by omega, by omega⟩ ⟨by omega, by omega, by omega⟩ h.1 ⟨by rw [f.2 7 (by omega), e7]; rfl, by simp, fun i hi => (by cases hi), fun i hi => (by cases hi)⟩, fP_tr h.2 (fX_fP fa (fun k hk => by omega))⟩
  rw [e_X10_readsList, e_X10_begin, g_b0, hs1, e16]
  unfold rdT
  by_cases c0 : T.length = 0
  · rw [if_pos c0, if_pos (show nZ T.length ≤ 0 by rw [c0]; decide), rl_R hR c0.symm]
    obtain ⟨k1, k2⟩ := fin s1 fX_rf
    exact ⟨s1, rfl, k2, ⟨hR.2.2.1, e25, fun i hi => by cases hi⟩, k1⟩
  · rw [if_neg c0, if_neg (show ¬ nZ T.length ≤ 0 by rw [z0, z_le ⟨by omega, by omega⟩ ⟨by omega, by omega⟩]; omega)]
    obtain ⟨τ, i1, i2, i3⟩ := m_rd (T := T) 6 [] 0 s1 rfl (by omega) hR ⟨e25, fun i hi => by cases hi⟩
    obtain ⟨k1, k2⟩ := fin τ i3
    exact ⟨τ, i1, k2, i2, k1⟩
