/-! LAND: the rules, as the class reads them -/
def fU (σ σ' : gb_M) : Prop := ∀ k i x, ¬ (k = 1 ∨ (3 ≤ k ∧ k ≤ 9 ∧ i = 1)) → σ'.1 k i x = σ.1 k i x ∧ σ'.2 k i x = σ.2 k i x
theorem fU_rf {σ : gb_M} : fU σ σ := fun _ _ _ _ => ⟨rfl, rfl⟩
theorem fU_tr {σ σ' σ'' : gb_M} (h : fU σ σ') (h' : fU σ' σ'') : fU σ σ'' := fun k i x a => ⟨(h' k i x a).1.trans (h k i x a).1, (h' k i x a).2.trans (h k i x a).2⟩
theorem fU_1 {σ σ' : gb_M} (h : gb_fP (fun k => k = 1) σ σ') : fU σ σ' := fun k i x a => ⟨h.1 k i x (by omega), h.2 k i x (by omega)⟩
theorem fU_si {σ σ' : gb_M} {k i : Nat} {v : Int32} (h : fU σ σ') (hk : 3 ≤ k ∧ k ≤ 9) : fU σ (gb_si σ' k 1 i v) := by
  intro k' i' x a
  refine ⟨?_, (h k' i' x a).2⟩
  rw [← (h k' i' x a).1]
  simp only [gb_si]
  rw [if_neg (fun e => by omega)]
theorem fU_fP {σ σ' : gb_M} (h : fU σ σ') : gb_fP (fun k => k = 1 ∨ (3 ≤ k ∧ k ≤ 9)) σ σ' := ⟨fun k i x a => (h k i x (by omega)).1, fun k i x a => (h k i x (by omega)).2⟩
def cU (σ : gb_M) (u : gb_Ru) : Prop := (∀ g, g < 6 → σ.1 4 1 g = nZ (u.1 g)) ∧ (∀ g, g < 6 → σ.1 5 1 g = nZ (u.1 (6 + g))) ∧ (∀ g, g < 6 → σ.1 6 1 g = nZ (u.1 (48 + g))) ∧ (∀ g h : Nat, g < 6 → h < 6 → σ.1 7 1 ((g : Int) * 6 + (h : Int)).toNat = nZ (max 0 (uO u g h))) ∧ (∀ g, g < 6 → σ.1 8 1 g = bm 6 (fun h => decide (uO u g h < 0))) ∧ (∀ g, g < 6 → σ.1 9 1 g = bm 6 (u.2.2.2 g)) ∧ σ.1 3 1 6 = bm 6 u.2.1 ∧ σ.1 3 1 7 = bm 6 u.2.2.1
theorem cU_fP {P : Nat → Prop} {σ σ' : gb_M} {u : gb_Ru} (f : gb_fP P σ σ') (hP : ∀ k, 3 ≤ k → k ≤ 9 → ¬ P k) (h : cU σ u) : cU σ' u := by
  obtain ⟨h1, h2, h3, h4, h5, h6, h7, h8⟩ := h
  refine ⟨fun g hg => ?_, fun g hg => ?_, fun g hg => ?_, fun g k hg hk => ?_, fun g hg => ?_, fun g hg => ?_, ?_, ?_⟩
  · rw [f.1 4 _ _ (hP 4 (by omega) (by omega))]; exact h1 g hg
  · rw [f.1 5 _ _ (hP 5 (by omega) (by omega))]; exact h2 g hg
  · rw [f.1 6 _ _ (hP 6 (by omega) (by omega))]; exact h3 g hg
  · rw [f.1 7 _ _ (hP 7 (by omega) (by omega))]; exact h4 g k hg hk
  · rw [f.1 8 _ _ (hP 8 (by omega) (by omega))]; exact h5 g hg
  · rw [f.1 9 _ _ (hP 9 (by omega) (by omega))]; exact h6 g hg
  · rw [f.1 3 _ _ (hP 3 (by omega) (by omega))]; exact h7
  · rw [f.1 3 _ _ (hP 3 (by omega) (by omega))]; exact h8
def oI (o : Option gb_Ru) : Int32 := match o with
  | none => 0
  | some _ => 1
/-- what a line's reader does -/
def cL (fr : gb_R) (σ : gb_M) (T : List Int) (x : Option gb_Ru × Nat) : Prop := ∃ σ', fr = some (some (gI (oI x.1)), σ') ∧ cR σ' T x.2 ∧ fU σ σ' ∧ ∀ u', x.1 = some u' → cU σ' u'
theorem cL_n {fr : gb_R} {σ σ' : gb_M} {T : List Int} {q : Nat} (h : fr = some (some (gI 0), σ')) (h2 : cR σ' T q) (h3 : fU σ σ') : cL fr σ T (none, q) := ⟨σ', h, h2, h3, fun _ z => by cases z⟩
theorem cR_fU {σ σ' : gb_M} {T : List Int} {p : Nat} {k i : Nat} {v : Int32} (hk : 3 ≤ k) (h : cR σ T p) : cR (gb_si σ k 1 i v) T p := cR_fP (P := fun k => 3 ≤ k) (fP_si fP_rf hk) (by omega) (by omega) h
theorem nn_lt {g : Nat} (h : g < 6) : ¬ (nZ g < 0) := by rw [z0, z_lt ⟨by omega, by omega⟩ ⟨by omega, by omega⟩]; omega
theorem nn_le {g : Int} (h : 0 ≤ g ∧ g ≤ 999) : (0 : Int32) ≤ nZ g := by rw [z0, z_le ⟨by omega, by omega⟩ ⟨by omega, by omega⟩]; omega
section CRU
variable {σ : gb_M} {T : List Int} {p : Nat} {u : gb_Ru}
theorem c_rlG (h : cR σ T p) (hu : cU σ u) : cL (f_X5_readGrade [gR 3 1, gR 1 0] σ) σ T (rlG T u p) := by
  rw [e_X5_readGrade, hu.2.2.2.2.2.2.1]
  unfold rlG
  cases hg : nn T u.2.1 p with
  | none => exact cL_n (by rw [p_nn_f h hg, g_b1, if_pos (by decide)]) h fU_rf
  | some g =>
    have hg6 := (nn_r hg).1
    obtain ⟨τ1, a1, a2, a3⟩ := p_nn_t h hg
    rw [a1, g_b1, if_neg (nn_lt hg6)]
    dsimp only
    by_cases c : tA T (p + 1) = 119
    · obtain ⟨τ2, b1, b2, b3⟩ := p_takes_t a2 (c := 119) (by omega) c
      have b1' : f_X8_takes [gR 1 0, gI 119] τ1 = some (some (gI 1), τ2) := b1
      obtain ⟨τ3, d1, d2, d3⟩ := p_number b2 (lo := 0) (hi := 999) (by omega) (k := 3) (Or.inr rfl) rfl
      have d1' : f_X8_number [gR 1 0, gI 0, gI 999] τ2 = some (some (gI (nZ (nE (nm T 0 999 3 (p + 2)).1))), τ3) := d1
      have f3 : fU σ τ3 := fU_1 (fP_tr a3 (fP_tr b3 d3))
      rw [if_pos c, b1', g_b1, e10, d1', g_b1]
      cases hw : (nm T 0 999 3 (p + 2)).1 with
      | none => exact cL_n (by rw [if_pos (show nZ (nE none) < 0 by decide)]) d2 f3
      | some w =>
        have hwr := nmv_r hw
        dsimp only
        rw [if_neg (show ¬ nZ (nE (some w)) < 0 by show ¬ nZ w < 0; rw [z0, z_lt ⟨by omega, by omega⟩ ⟨by omega, by omega⟩]; omega)]
        by_cases c2 : tA T (nm T 0 999 3 (p + 2)).2 = 107
        · obtain ⟨τ4, i1, i2, i3⟩ := p_takes_t d2 (c := 107) (by omega) c2
          have i1' : f_X8_takes [gR 1 0, gI 107] τ3 = some (some (gI 1), τ4) := i1
          obtain ⟨τ5, j1, j2, j3⟩ := p_number i2 (lo := 0) (hi := 99) (by omega) (k := 2) (Or.inl rfl) rfl
          have j1' : f_X8_number [gR 1 0, gI 0, gI 99] τ4 = some (some (gI (nZ (nE (nm T 0 99 2 ((nm T 0 999 3 (p + 2)).2 + 1)).1))), τ5) := j1
          have fa := fP_tr (fP_tr a3 (fP_tr b3 d3)) (fP_tr i3 j3)
          have f5 : fU σ τ5 := fU_1 fa
          rw [if_pos c2, i1', g_b1, e10, j1', g_b1]
          cases hk : (nm T 0 99 2 ((nm T 0 999 3 (p + 2)).2 + 1)).1 with
          | none => exact cL_n (by rw [if_neg (show ¬ (0 : Int32) ≤ nZ (nE none) by decide)]) j2 f5
          | some k =>
            have hkr := nmv_r hk
            obtain ⟨h1, h2, h3, h4, h5, h6, h7, h8⟩ := cU_fP fa (fun k _ _ => by omega) hu
            have hb : bm 6 u.2.1 ||| (1 <<< (nZ g &&& 31)) = bm 6 (or1 u.2.1 g) := bm_or u.2.1 hg6
            refine ⟨gb_si (gb_si (gb_si τ5 4 1 g (nZ w)) 5 1 g (nZ k)) 3 1 6 (bm 6 (or1 u.2.1 g)), ?_, cR_fU (σ' := σ) (by omega) (cR_fU (σ' := σ) (by omega) (cR_fU (σ' := σ) (by omega) j2)), fU_si (fU_si (fU_si f5 (by omega)) (by omega)) (by omega), fun u' hu' => ?_⟩
            · have t1 : nE (some k) = k := rfl
              have t2 : nE (some w) = w := rfl
              rw [t1, t2, if_pos (nn_le (by omega)), g_in (by omega), g_in (by omega), z_tn (by omega), Int.toNat_natCast, si_k (by omega), si_k (by omega), h7, hb]
              rfl
            · cases hu'
              have eO : ∀ a b, a < 6 → b < 6 → uO (ruG u g w k) a b = uO u a b := fun a b ha hb => by
                show up1 (up1 u.1 g w) (6 + g) k _ = _
                rw [upn (by omega), upn (by omega)]; rfl
              refine ⟨fun a ha => ?_, fun a ha => ?_, fun a ha => ?_, fun a b ha hb => ?_, fun a ha => ?_, fun a ha => ?_, ?_, ?_⟩
              · show _ = nZ (up1 (up1 u.1 g w) (6 + g) k a)
                rw [upn (by omega), si_k (by omega), si_k (by omega)]
                by_cases e : a = g
                · rw [e, upe, si_s]
                · rw [upn e, si_i e]; exact h1 a ha
              · show _ = nZ (up1 (up1 u.1 g w) (6 + g) k (6 + a))
                rw [si_k (by omega)]
                by_cases e : a = g
                · rw [e, upe, si_s]
                · rw [upn (by omega), upn (by omega), si_i e, si_k (by omega)]; exact h2 a ha
              · show _ = nZ (up1 (up1 u.1 g w) (6 + g) k (48 + a))
                rw [upn (by omega), upn (by omega), si_k (by omega), si_k (by omega), si_k (by omega)]; exact h3 a ha
              · rw [eO a b ha hb, si_k (by omega), si_k (by omega), si_k (by omega)]; exact h4 a b ha hb
              · rw [si_k (by omega), si_k (by omega), si_k (by omega), h5 a ha]
                exact bm_cg (fun b hb => by rw [eO a b ha hb])
              · rw [si_k (by omega), si_k (by omega), si_k (by omega)]; exact h6 a ha
              · rw [si_s]; rfl
              · rw [si_i (by omega), si_k (by omega), si_k (by omega)]; exact h8
        · have hf : f_X8_takes [gR 1 0, gI 107] τ3 = some (some (gI 0), τ3) := p_takes_f d2 (c := 107) (by omega) c2
          rw [if_neg c2]
          exact cL_n (by rw [hf, g_b1, e00]) d2 f3
    · have hf : f_X8_takes [gR 1 0, gI 119] τ1 = some (some (gI 0), τ1) := p_takes_f a2 (c := 119) (by omega) c
      rw [if_neg c]
      exact cL_n (by rw [hf, g_b1, e00]) a2 (fU_1 a3)
theorem c_rlB (h : cR σ T p) (hu : cU σ u) : cL (f_X5_readBin [gR 3 1, gR 1 0] σ) σ T (rlB T u p) := by
  rw [e_X5_readBin, hu.2.2.2.2.2.2.2]
  unfold rlB
  cases hg : nn T u.2.2.1 p with
  | none => exact cL_n (by rw [p_nn_f h hg, g_b1, if_pos (by decide)]) h fU_rf
  | some g =>
    have hg6 := (nn_r hg).1
    obtain ⟨τ1, a1, a2, a3⟩ := p_nn_t h hg
    rw [a1, g_b1, if_neg (nn_lt hg6)]
    dsimp only
    by_cases c : tA T (p + 1) = 99
    · obtain ⟨τ2, b1, b2, b3⟩ := p_takes_t a2 (c := 99) (by omega) c
      have b1' : f_X8_takes [gR 1 0, gI 99] τ1 = some (some (gI 1), τ2) := b1
      obtain ⟨τ3, d1, d2, d3⟩ := p_number b2 (lo := 0) (hi := 99) (by omega) (k := 2) (Or.inl rfl) rfl
      have d1' : f_X8_number [gR 1 0, gI 0, gI 99] τ2 = some (some (gI (nZ (nE (nm T 0 99 2 (p + 2)).1))), τ3) := d1
      have fa := fP_tr a3 (fP_tr b3 d3)
      have f3 : fU σ τ3 := fU_1 fa
      rw [if_pos c, b1', g_b1, e10, d1', g_b1]
      cases hw : (nm T 0 99 2 (p + 2)).1 with
      | none => exact cL_n (by rw [if_neg (show ¬ (0 : Int32) ≤ nZ (nE none) by decide)]) d2 f3
      | some w =>
        have hwr := nmv_r hw
        obtain ⟨h1, h2, h3, h4, h5, h6, h7, h8⟩ := cU_fP fa (fun k _ _ => by omega) hu
        have hb : bm 6 u.2.2.1 ||| (1 <<< (nZ g &&& 31)) = bm 6 (or1 u.2.2.1 g) := bm_or u.2.2.1 hg6
        refine ⟨gb_si (gb_si τ3 6 1 g (nZ w)) 3 1 7 (bm 6 (or1 u.2.2.1 g)), ?_, cR_fU (σ' := σ) (by omega) (cR_fU (σ' := σ) (by omega) d2), fU_si (fU_si f3 (by omega)) (by omega), fun u' hu' => ?_⟩
        · have t2 : nE (some w) = w := rfl
          rw [t2, if_pos (nn_le (by omega)), g_in (by omega), z_tn (by omega), Int.toNat_natCast, si_k (by omega), h8, hb]
          rfl
        · cases hu'
          have eO : ∀ a b, a < 6 → b < 6 → uO (ruB u g w) a b = uO u a b := fun a b ha hb => by
            show up1 u.1 (48 + g) w _ = _
            rw [upn (by omega)]; rfl
          refine ⟨fun a ha => ?_, fun a ha => ?_, fun a ha => ?_, fun a b ha hb => ?_, fun a ha => ?_, fun a ha => ?_, ?_, ?_⟩
          · show _ = nZ (up1 u.1 (48 + g) w a)
            rw [upn (by omega), si_k (by omega), si_k (by omega)]; exact h1 a ha
          · show _ = nZ (up1 u.1 (48 + g) w (6 + a))
            rw [upn (by omega), si_k (by omega), si_k (by omega)]; exact h2 a ha
          · show _ = nZ (up1 u.1 (48 + g) w (48 + a))
            rw [si_k (by omega)]
            by_cases e : a = g
            · rw [e, upe, si_s]
            · rw [upn (by omega), si_i e]; exact h3 a ha
          · rw [eO a b ha hb, si_k (by omega), si_k (by omega)]; exact h4 a b ha hb
          · rw [si_k (by omega), si_k (by omega), h5 a ha]
            exact bm_cg (fun b hb => by rw [eO a b ha hb])
          · rw [si_k (by omega), si_k (by omega)]; exact h6 a ha
          · rw [si_i (by omega), si_k (by omega)]; exact h7
          · rw [si_s]; rfl
    · have hf : f_X8_takes [gR 1 0, gI 99] τ1 = some (some (gI 0), τ1) := p_takes_f a2 (c := 99) (by omega) c
      rw [if_neg c]
      exact cL_n (by rw [hf, g_b1, e00]) a2 (fU_1 a3)
end CRU
