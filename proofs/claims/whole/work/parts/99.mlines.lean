/-! LAND: the lines, as the reference reads them -/
abbrev rU : gb_M → gb_M → Prop := gb_fX (fun k => k = 46) (fun x => 17 ≤ x ∧ x ≤ 20)
theorem rU_w {σ σ' : gb_M} (h : rdX σ σ') : rU σ σ' := fX_w h.1 (fun k hk => hk.elim) (fun x hx => by omega)
def mP (a b : Nat) : Nat := 6 * (if b < a then b else a) + (if a < b then b else a)
def mU (σ : gb_M) (u : gb_Ru) : Prop := (∀ k, k < 54 → σ.1 46 0 k = nZ (u.1 k)) ∧ σ.1 36 0 19 = bm 6 u.2.1 ∧ σ.1 36 0 20 = bm 6 u.2.2.1 ∧ ∀ a b, a < 6 → b < 6 → a ≠ b → pt (σ.2 36 0 21) (mP a b) = u.2.2.2 a b
theorem mU_rd {σ σ' : gb_M} {u : gb_Ru} (f : rdX σ σ') (h : mU σ u) : mU σ' u := ⟨fun k hk => by rw [(f.1.1 46 0 k (by omega) (fun z => z)).1]; exact h.1 k hk, by rw [f.1.2 19 (by omega)]; exact h.2.1, by rw [f.1.2 20 (by omega)]; exact h.2.2.1, by rw [f.2]; exact h.2.2.2⟩
/-- what a line's reader does -/
def mL (fr : gb_R) (σ : gb_M) (T : List Int) (x : Option gb_Ru × Nat) : Prop := ∃ σ', fr = some (none, σ') ∧ rU σ σ' ∧ (x.1 = none → mF σ' x.2) ∧ ∀ u', x.1 = some u' → mR σ' T x.2 ∧ mU σ' u'
theorem mL_n {fr : gb_R} {σ σ' : gb_M} {T : List Int} {q : Nat} (h : fr = some (none, σ')) (h3 : rU σ σ') (h2 : mF σ' q) : mL fr σ T (none, q) := ⟨σ', h, h3, fun _ => h2, fun _ z => by cases z⟩
theorem mL_tr {fr fr' : gb_R} {σ τ : gb_M} {T : List Int} {x : Option gb_Ru × Nat} (f : rU σ τ) (e : fr' = fr) (h : mL fr τ T x) : mL fr' σ T x := by
  obtain ⟨σ', h1, h2, h3⟩ := h
  exact ⟨σ', e.trans h1, fX_tr f h2, h3⟩
theorem rU_s {σ σ' : gb_M} {i : Nat} {v : Int32} (h : rU σ σ') : rU σ (gb_si σ' 46 0 i v) := fX_si h (Or.inl ⟨by omega, rfl⟩)
theorem rU_x {σ σ' : gb_M} {i : Nat} {v : Int32} (h : rU σ σ') (hi : 17 ≤ i ∧ i ≤ 20) : rU σ (gb_si σ' 36 0 i v) := fX_si h (Or.inr ⟨rfl, hi⟩)
theorem mF_s {σ : gb_M} {w i : Nat} {v : Int32} (h : mF σ w) : mF (gb_si σ 46 0 i v) w := ⟨by rw [si_k (by omega)]; exact h.1, h.2⟩
theorem mF_x {σ : gb_M} {w i : Nat} {v : Int32} (hi : 18 ≠ i) (h : mF σ w) : mF (gb_si σ 36 0 i v) w := ⟨by rw [si_i hi]; exact h.1, h.2⟩
theorem mR_s {σ : gb_M} {T : List Int} {p i : Nat} {v : Int32} (h : mR σ T p) : mR (gb_si σ 46 0 i v) T p := mR_fX (Q := fun k => k = 46) (I := fun _ => False) (fX_si fX_rf (Or.inl ⟨by omega, rfl⟩)) (by omega) ⟨fun z => z, fun z => z, fun z => z⟩ h
theorem mR_x {σ : gb_M} {T : List Int} {p i : Nat} {v : Int32} (hi : i = 19 ∨ i = 20) (h : mR σ T p) : mR (gb_si σ 36 0 i v) T p := mR_fX (Q := fun _ => False) (I := fun x => x = 19 ∨ x = 20) (fX_si fX_rf (Or.inr ⟨rfl, hi⟩)) (fun z => z) ⟨by omega, by omega, by omega⟩ h
noncomputable def tlG (x2 : Int32) (s : gb_M) : gb_R := gb_b0 (f_X10_expect [gR 36 0, gI 119] s) (fun s4 => gb_b1 (f_X10_number [gR 36 0, gI 0, gI 999, gI 3] s4) (fun x6 s5 => gb_b0 (f_X10_expect [gR 36 0, gI 107] s5) (fun s7 => gb_b1 (f_X10_number [gR 36 0, gI 0, gI 99, gI 2] s7) (fun x9 s8 => gb_gd (gb_in (0 + x2) 54) (gb_gd (gb_in (6 + x2) 54) (some (none, gb_si (gb_si (gb_si s8 36 0 19 ((s8.1 36 0 19) ||| (1 <<< (x2 &&& 31)))) 46 0 (0 + x2).toNatClampNeg x6) 46 0 (6 + x2).toNatClampNeg x9)))))))
theorem eqG (σ : gb_M) : f_X10_readsGrade [gR 36 0] σ = gb_b1 (f_X10_gradeSign [gR 36 0] σ) (fun x2 s1 => if s1.1 36 0 18 = (-1) then (if ((s1.1 36 0 19) >>> (x2 &&& 31)) &&& 1 = 1 then gb_b0 (f_X10_fault [gR 36 0, gI ((s1.1 36 0 17) - 1)] s1) (fun s3 => tlG x2 s3) else tlG x2 s1) else tlG x2 s1) := e_X10_readsGrade σ
noncomputable def tlB (x2 : Int32) (s : gb_M) : gb_R := gb_b0 (f_X10_expect [gR 36 0, gI 99] s) (fun s4 => gb_b1 (f_X10_number [gR 36 0, gI 0, gI 99, gI 2] s4) (fun x6 s5 => gb_gd (gb_in (48 + x2) 54) (some (none, gb_si (gb_si s5 36 0 20 ((s5.1 36 0 20) ||| (1 <<< (x2 &&& 31)))) 46 0 (48 + x2).toNatClampNeg x6))))
theorem eqB (σ : gb_M) : f_X10_readsBin [gR 36 0] σ = gb_b1 (f_X10_gradeSign [gR 36 0] σ) (fun x2 s1 => if s1.1 36 0 18 = (-1) then (if ((s1.1 36 0 20) >>> (x2 &&& 31)) &&& 1 = 1 then gb_b0 (f_X10_fault [gR 36 0, gI ((s1.1 36 0 17) - 1)] s1) (fun s3 => tlB x2 s3) else tlB x2 s1) else tlB x2 s1) := e_X10_readsBin σ
section MLI
variable {σ : gb_M} {T : List Int} {p : Nat} {u : gb_Ru}
/-- three places a line of a grade may stop at -/
theorem tlG_w {s : gb_M} {d : Nat} (hd : d < 6) {w : Nat} {x6 x9 : Int32} (h : mF s w) : mL (gb_gd (gb_in (0 + nZ d) 54) (gb_gd (gb_in (6 + nZ d) 54) (some (none, gb_si (gb_si (gb_si s 36 0 19 ((s.1 36 0 19) ||| (1 <<< (nZ d &&& 31)))) 46 0 (0 + nZ d).toNatClampNeg x6) 46 0 (6 + nZ d).toNatClampNeg x9)))) s T (none, w) := by
  rw [z0, z6, z_add, z_add, g_in (by omega), g_in (by omega)]
  exact mL_n rfl (rU_s (rU_s (rU_x fX_rf (by omega)))) (mF_s (mF_s (mF_x (by omega) h)))
theorem tlG_F {s : gb_M} {d : Nat} (hd : d < 6) {w : Nat} (h : mF s w) : mL (tlG (nZ d) s) s T (none, w) := by
  unfold tlG
  rw [m_expect_n h, g_b0, m_number_n h, g_b1, m_expect_n h, g_b0, m_number_n h, g_b1]
  exact tlG_w hd h
theorem tlB_w {s : gb_M} {d : Nat} (hd : d < 6) {w : Nat} {x6 : Int32} (h : mF s w) : mL (gb_gd (gb_in (48 + nZ d) 54) (some (none, gb_si (gb_si s 36 0 20 ((s.1 36 0 20) ||| (1 <<< (nZ d &&& 31)))) 46 0 (48 + nZ d).toNatClampNeg x6))) s T (none, w) := by
  rw [z48, z_add, g_in (by omega)]
  exact mL_n rfl (rU_s (rU_x fX_rf (by omega))) (mF_s (mF_x (by omega) h))
theorem tlB_F {s : gb_M} {d : Nat} (hd : d < 6) {w : Nat} (h : mF s w) : mL (tlB (nZ d) s) s T (none, w) := by
  unfold tlB
  rw [m_expect_n h, g_b0, m_number_n h, g_b1]
  exact tlB_w hd h
theorem m_rlG (h : mR σ T p) (hu : mU σ u) : mL (f_X10_readsGrade [gR 36 0] σ) σ T (rlG T u p) := by
  have h200 := h.2.2.2.2.1
  have hpl := h.2.2.2.1
  have ht := tA_r h.2.2.2.2.2.2 p
  rw [eqG]
  unfold rlG
  by_cases c0 : 48 ≤ tA T p ∧ tA T p < 54
  · have hd : (tA T p - 48).toNat < 6 := by omega
    obtain ⟨s1, a1, a2, a3⟩ := m_grade_t h hd (by omega)
    have hu1 := mU_rd a3 hu
    have hp1 := a2.2.2.2.1
    rw [a1, g_b1, if_pos a2.2.2.1, hu1.2.1]
    by_cases cP : u.2.1 (tA T p - 48).toNat = true
    · have en : nn T u.2.1 p = none := by unfold nn; rw [if_neg (fun z => by rw [cP] at z; exact absurd z.2.2 (by decide))]
      obtain ⟨s3, b1, b2, b3⟩ := m_fault a2 (w := p) (by omega)
      have e1 : nZ (p + 1 : Nat) - 1 = nZ p := by rw [z1, z_sub]; exact congrArg nZ (by omega)
      rw [if_pos (by rw [bm_sh _ hd]; exact cP), a2.2.1, e1, en]
      exact mL_tr (fX_tr (rU_w a3) (rU_w b3)) (by rw [b1, g_b0]) (tlG_F hd b2)
    · have en : nn T u.2.1 p = some (tA T p - 48).toNat := by unfold nn; rw [if_pos ⟨c0.1, c0.2, by cases hh : u.2.1 (tA T p - 48).toNat with | false => rfl | true => exact absurd hh cP⟩]
      rw [if_neg (by rw [bm_sh _ hd]; exact cP), en]
      generalize (tA T p - 48).toNat = d at hd
      refine mL_tr (rU_w a3) rfl ?_
      unfold tlG
      dsimp only
      by_cases c : tA T (p + 1) = 119
      · obtain ⟨s2, b1, b2, b3⟩ := m_expect_t a2 (c := 119) (by omega) c
        have b1' : f_X10_expect [gR 36 0, gI 119] s1 = some (none, s2) := b1
        obtain ⟨s3, x, d1, d2, d3, d4⟩ := m_number b2 (lo := 0) (hi := 999) (by omega) (by omega) (k := 3) (by omega)
        have d1' : f_X10_number [gR 36 0, gI 0, gI 999, gI 3] s2 = some (some (gI (nZ x)), s3) := d1
        refine mL_tr (fX_tr (rU_w b3) (rU_w d4)) (by rw [b1', g_b0, d1', g_b1]) ?_
        rw [if_pos c]
        unfold mE at d2
        cases hw : (nm T 0 999 3 (p + 2)).1 with
        | none =>
          have hw' : (nm T 0 999 3 (p + 1 + 1)).1 = none := hw
          rw [hw'] at d2
          rw [m_expect_n d2, g_b0, m_number_n d2, g_b1]
          exact tlG_w hd d2
        | some w =>
          have hw' : (nm T 0 999 3 (p + 1 + 1)).1 = some w := hw
          rw [hw'] at d2 d3
          have ex : x = w := by
            rcases d3 with d3 | d3
            · cases d3
            · cases d3; rfl
          subst ex
          dsimp only at d2 ⊢
          have hu3 := mU_rd d4 (mU_rd b3 hu1)
          by_cases c2 : tA T (nm T 0 999 3 (p + 2)).2 = 107
          · obtain ⟨s4, i1, i2, i3⟩ := m_expect_t d2 (c := 107) (by omega) c2
            have i1' : f_X10_expect [gR 36 0, gI 107] s3 = some (none, s4) := i1
            obtain ⟨s5, y, j1, j2, j3, j4⟩ := m_number i2 (lo := 0) (hi := 99) (by omega) (by omega) (k := 2) (by omega)
            have j1' : f_X10_number [gR 36 0, gI 0, gI 99, gI 2] s4 = some (some (gI (nZ y)), s5) := j1
            refine mL_tr (fX_tr (rU_w i3) (rU_w j4)) (by rw [i1', g_b0, j1', g_b1]) ?_
            rw [if_pos c2]
            unfold mE at j2
            cases hk : (nm T 0 99 2 ((nm T 0 999 3 (p + 2)).2 + 1)).1 with
            | none =>
              have hk' : (nm T 0 99 2 ((nm T 0 999 3 (p + 1 + 1)).2 + 1)).1 = none := hk
              rw [hk'] at j2
              exact tlG_w hd j2
            | some k =>
              have hk' : (nm T 0 99 2 ((nm T 0 999 3 (p + 1 + 1)).2 + 1)).1 = some k := hk
              rw [hk'] at j2 j3
              have ey : y = k := by
                rcases j3 with j3 | j3
                · cases j3
                · cases j3; rfl
              subst ey
              dsimp only at j2
              obtain ⟨u1, u2, u3, u4⟩ := mU_rd j4 (mU_rd i3 hu3)
              have hb : bm 6 u.2.1 ||| (1 <<< (nZ d &&& 31)) = bm 6 (or1 u.2.1 d) := bm_or u.2.1 hd
              rw [z0, z6, z_add, z_add, g_in (by omega), g_in (by omega), z_tn (by omega), z_tn (by omega), u2, hb]
              have e0 : ((0 : Int) + (d : Int)).toNat = d := by omega
              have e6 : ((6 : Int) + (d : Int)).toNat = 6 + d := by omega
              rw [e0, e6]
              refine ⟨_, rfl, rU_s (rU_s (rU_x fX_rf (by omega))), fun z => (by cases z), fun u' hu' => ?_⟩
              cases hu'
              refine ⟨mR_s (mR_s (mR_x (Or.inl rfl) j2)), fun k hk => ?_, ?_, ?_, fun a b ha hb hab => ?_⟩
              · show _ = nZ (up1 (up1 u.1 d x) (6 + d) y k)
                by_cases g1 : k = 6 + d
                · rw [g1, upe, si_s]
                · rw [upn g1, si_i g1]
                  by_cases g2 : k = d
                  · rw [g2, upe, si_s]
                  · rw [upn g2, si_i g2, si_k (by omega)]; exact u1 k hk
              · rw [si_k (by omega), si_k (by omega), si_s]; rfl
              · rw [si_k (by omega), si_k (by omega), si_i (by omega)]; exact u3
              · exact u4 a b ha hb hab
          · obtain ⟨s4, i1, i2, i3⟩ := m_expect_f d2 (c := 107) (by omega) c2
            have i1' : f_X10_expect [gR 36 0, gI 107] s3 = some (none, s4) := i1
            rw [if_neg c2]
            exact mL_tr (rU_w i3) (by rw [i1', g_b0, m_number_n i2, g_b1]) (tlG_w hd i2)
      · obtain ⟨s2, b1, b2, b3⟩ := m_expect_f a2 (c := 119) (by omega) c
        have b1' : f_X10_expect [gR 36 0, gI 119] s1 = some (none, s2) := b1
        rw [if_neg c]
        exact mL_tr (rU_w b3) (by rw [b1', g_b0, m_number_n b2, g_b1, m_expect_n b2, g_b0, m_number_n b2, g_b1]) (tlG_w hd b2)
  · have en : nn T u.2.1 p = none := by unfold nn; rw [if_neg (fun z => c0 ⟨z.1, z.2.1⟩)]
    obtain ⟨s1, a1, a2, a3⟩ := m_grade_f h c0
    rw [a1, g_b1, if_neg (mF_ne a2), en]
    exact mL_tr (rU_w a3) rfl (tlG_F (d := 0) (by omega) a2)
theorem m_rlB (h : mR σ T p) (hu : mU σ u) : mL (f_X10_readsBin [gR 36 0] σ) σ T (rlB T u p) := by
  have h200 := h.2.2.2.2.1
  have hpl := h.2.2.2.1
  have ht := tA_r h.2.2.2.2.2.2 p
  rw [eqB]
  unfold rlB
  by_cases c0 : 48 ≤ tA T p ∧ tA T p < 54
  · have hd : (tA T p - 48).toNat < 6 := by omega
    obtain ⟨s1, a1, a2, a3⟩ := m_grade_t h hd (by omega)
    have hu1 := mU_rd a3 hu
    have hp1 := a2.2.2.2.1
    rw [a1, g_b1, if_pos a2.2.2.1, hu1.2.2.1]
    by_cases cP : u.2.2.1 (tA T p - 48).toNat = true
    · have en : nn T u.2.2.1 p = none := by unfold nn; rw [if_neg (fun z => by rw [cP] at z; exact absurd z.2.2 (by decide))]
      obtain ⟨s3, b1, b2, b3⟩ := m_fault a2 (w := p) (by omega)
      have e1 : nZ (p + 1 : Nat) - 1 = nZ p := by rw [z1, z_sub]; exact congrArg nZ (by omega)
      rw [if_pos (by rw [bm_sh _ hd]; exact cP), a2.2.1, e1, en]
      exact mL_tr (fX_tr (rU_w a3) (rU_w b3)) (by rw [b1, g_b0]) (tlB_F hd b2)
    · have en : nn T u.2.2.1 p = some (tA T p - 48).toNat := by unfold nn; rw [if_pos ⟨c0.1, c0.2, by cases hh : u.2.2.1 (tA T p - 48).toNat with | false => rfl | true => exact absurd hh cP⟩]
      rw [if_neg (by rw [bm_sh _ hd]; exact cP), en]
      generalize (tA T p - 48).toNat = d at hd
      refine mL_tr (rU_w a3) rfl ?_
      unfold tlB
      dsimp only
      by_cases c : tA T (p + 1) = 99
      · obtain ⟨s2, b1, b2, b3⟩ := m_expect_t a2 (c := 99) (by omega) c
        have b1' : f_X10_expect [gR 36 0, gI 99] s1 = some (none, s2) := b1
        obtain ⟨s3, x, d1, d2, d3, d4⟩ := m_number b2 (lo := 0) (hi := 99) (by omega) (by omega) (k := 2) (by omega)
        have d1' : f_X10_number [gR 36 0, gI 0, gI 99, gI 2] s2 = some (some (gI (nZ x)), s3) := d1
        refine mL_tr (fX_tr (rU_w b3) (rU_w d4)) (by rw [b1', g_b0, d1', g_b1]) ?_
        rw [if_pos c]
        unfold mE at d2
        cases hw : (nm T 0 99 2 (p + 2)).1 with
        | none =>
          have hw' : (nm T 0 99 2 (p + 1 + 1)).1 = none := hw
          rw [hw'] at d2
          exact tlB_w hd d2
        | some w =>
          have hw' : (nm T 0 99 2 (p + 1 + 1)).1 = some w := hw
          rw [hw'] at d2 d3
          have ex : x = w := by
            rcases d3 with d3 | d3
            · cases d3
            · cases d3; rfl
          subst ex
          dsimp only at d2
          obtain ⟨u1, u2, u3, u4⟩ := mU_rd d4 (mU_rd b3 hu1)
          have hb : bm 6 u.2.2.1 ||| (1 <<< (nZ d &&& 31)) = bm 6 (or1 u.2.2.1 d) := bm_or u.2.2.1 hd
          rw [z48, z_add, g_in (by omega), z_tn (by omega), u3, hb]
          have e6 : ((48 : Int) + (d : Int)).toNat = 48 + d := by omega
          rw [e6]
          refine ⟨_, rfl, rU_s (rU_x fX_rf (by omega)), fun z => (by cases z), fun u' hu' => ?_⟩
          cases hu'
          refine ⟨mR_s (mR_x (Or.inr rfl) d2), fun k hk => ?_, ?_, ?_, fun a b ha hb hab => ?_⟩
          · show _ = nZ (up1 u.1 (48 + d) x k)
            by_cases g1 : k = 48 + d
            · rw [g1, upe, si_s]
            · rw [upn g1, si_i g1, si_k (by omega)]; exact u1 k hk
          · rw [si_k (by omega), si_i (by omega)]; exact u2
          · rw [si_k (by omega), si_s]; rfl
          · exact u4 a b ha hb hab
      · obtain ⟨s2, b1, b2, b3⟩ := m_expect_f a2 (c := 99) (by omega) c
        have b1' : f_X10_expect [gR 36 0, gI 99] s1 = some (none, s2) := b1
        rw [if_neg c]
        exact mL_tr (rU_w b3) (by rw [b1', g_b0, m_number_n b2, g_b1]) (tlB_w hd b2)
  · have en : nn T u.2.2.1 p = none := by unfold nn; rw [if_neg (fun z => c0 ⟨z.1, z.2.1⟩)]
    obtain ⟨s1, a1, a2, a3⟩ := m_grade_f h c0
    rw [a1, g_b1, if_neg (mF_ne a2), en]
    exact mL_tr (rU_w a3) rfl (tlB_F (d := 0) (by omega) a2)
end MLI
