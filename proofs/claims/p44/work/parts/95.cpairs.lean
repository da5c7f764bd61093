/-! LAND: pairs of grades, as the class reads them -/
theorem or_fold (f : Nat → Bool) {P : Nat → Bool} {b : Nat} (hb : b < 6) (h : ∀ k, k < 6 → f k = (P k || decide (k = b))) : bm 6 P ||| (1 <<< (nZ b &&& 31)) = bm 6 f := by
  have e : bm 6 P ||| (1 <<< (nZ b &&& 31)) = bm 6 (fun k => P k || decide (k = b)) := bm_or P hb
  rw [e]
  exact bm_cg (fun k hk => (h k hk).symm)
theorem cU_P {τ σ' : gb_M} {u : gb_Ru} {a b : Nat} {v : Int} (hU : cU τ u) (ha : a < 6) (hb : b < 6) (hab : a ≠ b) (hk : ∀ k x, k ≠ 7 → k ≠ 8 → k ≠ 9 → σ'.1 k 1 x = τ.1 k 1 x) (h7 : ∀ x, x ≠ ((a : Int) * 6 + (b : Int)).toNat → x ≠ ((b : Int) * 6 + (a : Int)).toNat → σ'.1 7 1 x = τ.1 7 1 x) (h7a : σ'.1 7 1 ((a : Int) * 6 + (b : Int)).toNat = nZ (max 0 v)) (h7b : σ'.1 7 1 ((b : Int) * 6 + (a : Int)).toNat = nZ (max 0 v)) (h8 : ∀ g, g < 6 → σ'.1 8 1 g = bm 6 (fun h => decide (uO (ruP u a b v) g h < 0))) (h9 : ∀ g, g ≠ a → g ≠ b → σ'.1 9 1 g = τ.1 9 1 g) (h9a : σ'.1 9 1 a = bm 6 (u.2.2.2 a) ||| (1 <<< (nZ b &&& 31))) (h9b : σ'.1 9 1 b = bm 6 (u.2.2.2 b) ||| (1 <<< (nZ a &&& 31))) : cU σ' (ruP u a b v) := by
  obtain ⟨u1, u2, u3, u4, u5, u6, u7, u8⟩ := hU
  have el : ∀ k, k < 12 ∨ 48 ≤ k → (ruP u a b v).1 k = u.1 k := fun k hk => by
    show up1 (up1 u.1 (12 + (6 * a + b)) v) (12 + (6 * b + a)) v k = _
    rw [upn (by omega), upn (by omega)]
  refine ⟨fun g hg => ?_, fun g hg => ?_, fun g hg => ?_, fun g k hg hh => ?_, h8, fun g hg => ?_, ?_, ?_⟩
  · rw [el _ (by omega), hk 4 _ (by omega) (by omega) (by omega)]; exact u1 g hg
  · rw [el _ (by omega), hk 5 _ (by omega) (by omega) (by omega)]; exact u2 g hg
  · rw [el _ (by omega), hk 6 _ (by omega) (by omega) (by omega)]; exact u3 g hg
  · rw [uO_P ha hb hg hh]
    by_cases e : (g = a ∧ k = b) ∨ (g = b ∧ k = a)
    · rw [if_pos e]
      rcases e with e | e
      · rw [e.1, e.2]; exact h7a
      · rw [e.1, e.2]; exact h7b
    · rw [if_neg e, h7 _ (by omega) (by omega)]; exact u4 g k hg hh
  · by_cases e1 : g = a
    · rw [e1, h9a]
      exact or_fold _ hb (fun k hk => by
        rw [tP_P]
        by_cases e : k = b
        · rw [if_pos (Or.inl ⟨rfl, e⟩), e]; simp
        · rw [if_neg (by omega), decide_eq_false e, Bool.or_false])
    · by_cases e2 : g = b
      · rw [e2, h9b]
        exact or_fold _ ha (fun k hk => by
          rw [tP_P]
          by_cases e : k = a
          · rw [if_pos (Or.inr ⟨rfl, e⟩), e]; simp
          · rw [if_neg (by omega), decide_eq_false e, Bool.or_false])
      · rw [h9 g e1 e2, u6 g hg]
        exact bm_cg (fun k hk => by rw [tP_P, if_neg (by omega)])
  · rw [hk 3 _ (by omega) (by omega) (by omega)]; exact u7
  · rw [hk 3 _ (by omega) (by omega) (by omega)]; exact u8
section CPA
variable {σ : gb_M} {T : List Int} {p : Nat} {u : gb_Ru}
theorem c_two (hI : uI u) (h : cR σ T p) (hu : cU σ u) {a b : Nat} (e1 : nn T (fun _ => false) p = some a) (e2 : nn T (or1 (u.2.2.2 a) a) (p + 1) = some b) : ∃ τ1 τ2, f_X8_newNumber [gR 1 0, gI 0] σ = some (some (gI (nZ a)), τ1) ∧ (τ1.1 9 1 a ||| (1 <<< (nZ a &&& 31))) = bm 6 (or1 (u.2.2.2 a) a) ∧ f_X8_newNumber [gR 1 0, gI (bm 6 (or1 (u.2.2.2 a) a))] τ1 = some (some (gI (nZ b)), τ2) ∧ cR τ2 T (p + 2) ∧ gb_fP (fun k => k = 1) σ τ2 ∧ a < 6 ∧ b < 6 ∧ a ≠ b ∧ uO u a b = 0 ∧ uO u b a = 0 := by
  have ha := (nn_r e1).1
  obtain ⟨hb, -, hb3⟩ := nn_r e2
  obtain ⟨f1, f2⟩ := or1_f hb3
  obtain ⟨τ1, a1, a2, a3⟩ := p_nn0_t h e1
  obtain ⟨τ2, b1, b2, b3⟩ := p_nn_t a2 e2
  have z := hI.2.2.2.2.2 a b ha hb f1
  refine ⟨τ1, τ2, a1, ?_, b1, b2, fP_tr a3 b3, ha, hb, fun e => f2 e.symm, z, by rw [← (hI.2.2.1 a b ha hb).2.2.1]; exact z⟩
  rw [a3.1 9 1 a (by omega), hu.2.2.2.2.2.1 a ha]
  exact or_fold _ ha (fun k hk => rfl)
theorem c_rlP1 (hI : uI u) (h : cR σ T p) (hu : cU σ u) : cL (f_X5_readPair [gR 3 1, gR 1 0, gI 1] σ) σ T (rlP T u true p) := by
  rw [e_X5_readPair]
  unfold rlP
  cases hg : nn T (fun _ => false) p with
  | none => exact cL_n (by rw [p_nn0_f h hg, g_b1, if_neg (by decide)]) h fU_rf
  | some a =>
    have ha := (nn_r hg).1
    dsimp only
    cases hb : nn T (or1 (u.2.2.2 a) a) (p + 1) with
    | none =>
      obtain ⟨τ1, a1, a2, a3⟩ := p_nn0_t h hg
      have e9 : τ1.1 9 1 a ||| (1 <<< (nZ a &&& 31)) = bm 6 (or1 (u.2.2.2 a) a) := by
        rw [a3.1 9 1 a (by omega), hu.2.2.2.2.2.1 a ha]
        exact or_fold _ ha (fun k hk => rfl)
      exact cL_n (by rw [a1, g_b1, if_pos (nn_le (by omega)), g_in (by omega), z_tn (by omega), Int.toNat_natCast, e9, p_nn_f a2 hb, g_b1, if_neg (by decide)]) a2 (fU_1 a3)
    | some b =>
      obtain ⟨τ1, τ2, a1, e9, b1, b2, f2, ha, hb6, hab, z1', z2'⟩ := c_two hI h hu hg hb
      obtain ⟨τ3, d1, d2, d3⟩ := p_number b2 (lo := 1) (hi := 99) (by omega) (k := 2) (Or.inl rfl) rfl
      have d1' : f_X8_number [gR 1 0, gI 1, gI 99] τ2 = some (some (gI (nZ (nE (nm T 1 99 2 (p + 2)).1))), τ3) := d1
      have fa := fP_tr f2 d3
      rw [a1, g_b1, if_pos (nn_le (by omega)), g_in (by omega), z_tn (by omega), Int.toNat_natCast, e9, b1, g_b1, if_pos (nn_le (by omega)), e10, d1', g_b1]
      dsimp only
      cases hv : (nm T 1 99 2 (p + 2)).1 with
      | none => exact cL_n (by rw [if_neg (show ¬ (0 : Int32) ≤ nZ (nE none) by decide)]) d2 (fU_1 fa)
      | some v =>
        have hvr := nmv_r hv
        have t1 : nE (some v) = v := rfl
        have hU3 := cU_fP fa (fun k _ _ => by omega) hu
        obtain ⟨h1, h2, h3, h4, h5, h6, h7, h8⟩ := id hU3
        rw [t1, if_pos (nn_le (by omega)), z6, z_mul, z_add, z_mul, z_add, g_in (by omega), g_in (by omega), g_in (by omega), g_in (by omega), g_in (by omega), g_in (by omega), e10, z_tn (by omega), z_tn (by omega), z_tn (by omega), Int.toNat_natCast]
        simp (disch := omega) only [si_k, si_i, h6]
        refine ⟨gb_si (gb_si (gb_si (gb_si τ3 7 1 ((a : Int) * 6 + (b : Int)).toNat (nZ v)) 7 1 ((b : Int) * 6 + (a : Int)).toNat (nZ v)) 9 1 a (bm 6 (u.2.2.2 a) ||| (1 <<< (nZ b &&& 31)))) 9 1 b (bm 6 (u.2.2.2 b) ||| (1 <<< (nZ a &&& 31))), rfl, cR_fU (σ' := σ) (by omega) (cR_fU (σ' := σ) (by omega) (cR_fU (σ' := σ) (by omega) (cR_fU (σ' := σ) (by omega) d2))), fU_si (fU_si (fU_si (fU_si (fU_1 fa) (by omega)) (by omega)) (by omega)) (by omega), fun u' hu' => ?_⟩
        cases hu'
        refine cU_P hU3 ha hb6 hab (fun k x k7 k8 k9 => ?_) (fun x x1 x2 => ?_) ?_ ?_ (fun g hg => ?_) (fun g g1 g2 => ?_) ?_ ?_
        · rw [si_k k9, si_k k9, si_k k7, si_k k7]
        · rw [si_k (by omega), si_k (by omega), si_i x2, si_i x1]
        · rw [si_k (by omega), si_k (by omega), si_i (by omega), si_s]; exact congrArg nZ (by omega)
        · rw [si_k (by omega), si_k (by omega), si_s]; exact congrArg nZ (by omega)
        · rw [si_k (by omega), si_k (by omega), si_k (by omega), si_k (by omega), h5 g hg]
          refine bm_cg (fun k hk => ?_)
          rw [uO_P ha hb6 hg hk]
          by_cases e : (g = a ∧ k = b) ∨ (g = b ∧ k = a)
          · rw [if_pos e]
            have : uO u g k = 0 := by
              rcases e with e | e
              · rw [e.1, e.2]; exact z1'
              · rw [e.1, e.2]; exact z2'
            rw [this, decide_eq_false (by omega), decide_eq_false (by omega)]
          · rw [if_neg e]
        · rw [si_i g2, si_i g1, si_k (by omega), si_k (by omega)]
        · rw [si_i hab, si_s]
        · rw [si_s]
theorem c_rlP0 (hI : uI u) (h : cR σ T p) (hu : cU σ u) : cL (f_X5_readPair [gR 3 1, gR 1 0, gI 0] σ) σ T (rlP T u false p) := by
  rw [e_X5_readPair]
  unfold rlP
  cases hg : nn T (fun _ => false) p with
  | none => exact cL_n (by rw [p_nn0_f h hg, g_b1, if_neg (by decide)]) h fU_rf
  | some a =>
    have ha := (nn_r hg).1
    dsimp only
    cases hb : nn T (or1 (u.2.2.2 a) a) (p + 1) with
    | none =>
      obtain ⟨τ1, a1, a2, a3⟩ := p_nn0_t h hg
      have e9 : τ1.1 9 1 a ||| (1 <<< (nZ a &&& 31)) = bm 6 (or1 (u.2.2.2 a) a) := by
        rw [a3.1 9 1 a (by omega), hu.2.2.2.2.2.1 a ha]
        exact or_fold _ ha (fun k hk => rfl)
      exact cL_n (by rw [a1, g_b1, if_pos (nn_le (by omega)), g_in (by omega), z_tn (by omega), Int.toNat_natCast, e9, p_nn_f a2 hb, g_b1, if_neg (by decide)]) a2 (fU_1 a3)
    | some b =>
      obtain ⟨τ1, τ2, a1, e9, b1, b2, f2, ha, hb6, hab, z1', z2'⟩ := c_two hI h hu hg hb
      have hU3 := cU_fP f2 (fun k _ _ => by omega) hu
      obtain ⟨h1, h2, h3, h4, h5, h6, h7, h8⟩ := id hU3
      rw [a1, g_b1, if_pos (nn_le (by omega)), g_in (by omega), z_tn (by omega), Int.toNat_natCast, e9, b1, g_b1, if_pos (nn_le (by omega)), e00, if_pos (Nat.le_refl 0), z6, z_mul, z_add, z_mul, z_add, g_in (by omega), g_in (by omega), g_in (by omega), g_in (by omega), g_in (by omega), g_in (by omega), e00, g_in (by omega), g_in (by omega), g_in (by omega), g_in (by omega), z_tn (by omega), z_tn (by omega), z_tn (by omega), Int.toNat_natCast]
      dsimp only
      simp (disch := omega) only [si_k, si_i, h6, h5]
      refine ⟨gb_si (gb_si (gb_si (gb_si (gb_si (gb_si τ2 7 1 ((a : Int) * 6 + (b : Int)).toNat 0) 7 1 ((b : Int) * 6 + (a : Int)).toNat 0) 9 1 a (bm 6 (u.2.2.2 a) ||| (1 <<< (nZ b &&& 31)))) 9 1 b (bm 6 (u.2.2.2 b) ||| (1 <<< (nZ a &&& 31)))) 8 1 a (bm 6 (fun h => decide (uO u a h < 0)) ||| (1 <<< (nZ b &&& 31)))) 8 1 b (bm 6 (fun h => decide (uO u b h < 0)) ||| (1 <<< (nZ a &&& 31))), rfl, cR_fU (σ' := σ) (by omega) (cR_fU (σ' := σ) (by omega) (cR_fU (σ' := σ) (by omega) (cR_fU (σ' := σ) (by omega) (cR_fU (σ' := σ) (by omega) (cR_fU (σ' := σ) (by omega) b2))))), fU_si (fU_si (fU_si (fU_si (fU_si (fU_si (fU_1 f2) (by omega)) (by omega)) (by omega)) (by omega)) (by omega)) (by omega), fun u' hu' => ?_⟩
      cases hu'
      refine cU_P hU3 ha hb6 hab (fun k x k7 k8 k9 => ?_) (fun x x1 x2 => ?_) ?_ ?_ (fun g hg => ?_) (fun g g1 g2 => ?_) ?_ ?_
      · rw [si_k k8, si_k k8, si_k k9, si_k k9, si_k k7, si_k k7]
      · rw [si_k (by omega), si_k (by omega), si_k (by omega), si_k (by omega), si_i x2, si_i x1]
      · rw [si_k (by omega), si_k (by omega), si_k (by omega), si_k (by omega), si_i (by omega), si_s]; rfl
      · rw [si_k (by omega), si_k (by omega), si_k (by omega), si_k (by omega), si_s]; rfl
      · by_cases g1 : g = b
        · rw [g1, si_s]
          exact or_fold _ ha (fun k hk => by
            rw [uO_P ha hb6 hb6 hk]
            by_cases e : k = a
            · rw [if_pos (Or.inr ⟨rfl, e⟩), decide_eq_true e, Bool.or_true]; rfl
            · rw [if_neg (by omega), decide_eq_false e, Bool.or_false])
        · rw [si_i g1]
          by_cases g2 : g = a
          · rw [g2, si_s]
            exact or_fold _ hb6 (fun k hk => by
              rw [uO_P ha hb6 ha hk]
              by_cases e : k = b
              · rw [if_pos (Or.inl ⟨rfl, e⟩), decide_eq_true e, Bool.or_true]; rfl
              · rw [if_neg (by omega), decide_eq_false e, Bool.or_false])
          · rw [si_i g2, si_k (by omega), si_k (by omega), si_k (by omega), si_k (by omega), h5 g hg]
            exact bm_cg (fun k hk => by rw [uO_P ha hb6 hg hk, if_neg (by omega)])
      · rw [si_k (by omega), si_k (by omega), si_i g2, si_i g1, si_k (by omega), si_k (by omega)]
      · rw [si_k (by omega), si_k (by omega), si_i hab, si_s]
      · rw [si_k (by omega), si_k (by omega), si_s]
theorem gd_b {o : Option gb_Ru} {r : gb_R} : gb_gd (decide (oI o &&& 1 = oI o)) r = r := by
  cases o with
  | none => exact gd0
  | some _ => exact gd1
theorem c_rlL (hI : uI u) (h : cR σ T p) (hu : cU σ u) : cL (f_X5_readLine [gR 3 1, gR 1 0] σ) σ T (rlL T u p) := by
  have ft : ∀ c : Int, 0 ≤ c ∧ c ≤ 255 → ¬ tA T p = c → f_X8_takes [gR 1 0, gI (nZ c)] σ = some (some (gI 0), σ) := fun c hc e => p_takes_f h hc e
  rw [e_X5_readLine]
  unfold rlL
  by_cases c1 : tA T p = 103
  · obtain ⟨τ, a1, a2, a3⟩ := p_takes_t h (c := 103) (by omega) c1
    have a1' : f_X8_takes [gR 1 0, gI 103] σ = some (some (gI 1), τ) := a1
    obtain ⟨σ', b1, b2, b3, b4⟩ := c_rlG a2 (cU_fP a3 (fun k _ _ => by omega) hu)
    rw [if_pos c1]
    exact ⟨σ', by rw [a1', g_b1, e10, b1, g_b1, gd_b], b2, fU_tr (fU_1 a3) b3, b4⟩
  have f1 : f_X8_takes [gR 1 0, gI 103] σ = some (some (gI 0), σ) := ft 103 (by omega) c1
  rw [if_neg c1, f1, g_b1, e00]
  by_cases c2 : tA T p = 98
  · obtain ⟨τ, a1, a2, a3⟩ := p_takes_t h (c := 98) (by omega) c2
    have a1' : f_X8_takes [gR 1 0, gI 98] σ = some (some (gI 1), τ) := a1
    obtain ⟨σ', b1, b2, b3, b4⟩ := c_rlB a2 (cU_fP a3 (fun k _ _ => by omega) hu)
    rw [if_pos c2]
    exact ⟨σ', by rw [a1', g_b1, e10, b1, g_b1, gd_b], b2, fU_tr (fU_1 a3) b3, b4⟩
  have f2 : f_X8_takes [gR 1 0, gI 98] σ = some (some (gI 0), σ) := ft 98 (by omega) c2
  rw [if_neg c2, f2, g_b1, e00]
  by_cases c3 : tA T p = 108
  · obtain ⟨τ, a1, a2, a3⟩ := p_takes_t h (c := 108) (by omega) c3
    have a1' : f_X8_takes [gR 1 0, gI 108] σ = some (some (gI 1), τ) := a1
    obtain ⟨σ', b1, b2, b3, b4⟩ := c_rlP1 hI a2 (cU_fP a3 (fun k _ _ => by omega) hu)
    rw [if_pos c3]
    exact ⟨σ', by rw [a1', g_b1, e10, b1, g_b1, gd_b], b2, fU_tr (fU_1 a3) b3, b4⟩
  have f3 : f_X8_takes [gR 1 0, gI 108] σ = some (some (gI 0), σ) := ft 108 (by omega) c3
  rw [if_neg c3, f3, g_b1, e00]
  by_cases c4 : tA T p = 120
  · obtain ⟨τ, a1, a2, a3⟩ := p_takes_t h (c := 120) (by omega) c4
    have a1' : f_X8_takes [gR 1 0, gI 120] σ = some (some (gI 1), τ) := a1
    obtain ⟨σ', b1, b2, b3, b4⟩ := c_rlP0 hI a2 (cU_fP a3 (fun k _ _ => by omega) hu)
    rw [if_pos c4]
    refine ⟨σ', ?_, b2, fU_tr (fU_1 a3) b3, b4⟩
    rw [a1', g_b1, e10, b1, g_b1]
    cases (rlP T u false (p + 1)).1 with
    | none => exact e00
    | some _ => exact e10
  have f4 : f_X8_takes [gR 1 0, gI 120] σ = some (some (gI 0), σ) := ft 120 (by omega) c4
  rw [if_neg c4, f4, g_b1, e00]
  exact cL_n rfl h fU_rf
end CPA
