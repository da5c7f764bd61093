/-! LAND: pairs of grades, as the reference reads them -/
theorem mP_1 {a b : Nat} (h : a < b) : mP a b = 6 * a + b := by unfold mP; rw [if_neg (by omega), if_pos h]
theorem mP_2 {a b : Nat} (h : b < a) : mP a b = 6 * b + a := by unfold mP; rw [if_pos h, if_neg (by omega)]
theorem mP_lt {a b : Nat} (ha : a < 6) (hb : b < 6) (hab : a ≠ b) : mP a b < 36 := by
  by_cases c : a < b
  · rw [mP_1 c]; omega
  · rw [mP_2 (by omega)]; omega
theorem mP_eq {a b g h : Nat} (ha : a < 6) (hb : b < 6) (hab : a ≠ b) (hg : g < 6) (hh : h < 6) (hgh : g ≠ h) : (mP g h = mP a b) ↔ ((g = a ∧ h = b) ∨ (g = b ∧ h = a)) := by
  by_cases c : a < b
  · by_cases d : g < h
    · rw [mP_1 c, mP_1 d]; omega
    · rw [mP_1 c, mP_2 (by omega)]; omega
  · by_cases d : g < h
    · rw [mP_2 (show b < a by omega), mP_1 d]; omega
    · rw [mP_2 (show b < a by omega), mP_2 (by omega)]; omega
theorem kP {a b : Nat} (ha : a < 6) (hb : b < 6) (hab : a ≠ b) : (6 * (if nZ b < nZ a then nZ b else nZ a)) + (if nZ a < nZ b then nZ b else nZ a) = nZ (mP a b : Nat) := by
  rw [z_min ⟨by omega, by omega⟩ ⟨by omega, by omega⟩, z_max ⟨by omega, by omega⟩ ⟨by omega, by omega⟩, z6, z_mul, z_add]
  refine congrArg nZ ?_
  by_cases c : a < b
  · rw [mP_1 c]; omega
  · rw [mP_2 (by omega)]; omega
noncomputable def wtP (x2 x4 v : Int32) (s : gb_M) : gb_R := gb_gd (gb_in ((12 + (6 * x2)) + x4) 54) (gb_gd (gb_in ((12 + (6 * x4)) + x2) 54) (some (none, gb_si (gb_si (gb_sl s 36 0 21 ((s.2 36 0 21) ||| (1 <<< (((6 * (if x4 < x2 then x4 else x2)) + (if x2 < x4 then x4 else x2)).toInt64 &&& 63)))) 46 0 ((12 + (6 * x2)) + x4).toNatClampNeg v) 46 0 ((12 + (6 * x4)) + x2).toNatClampNeg v)))
noncomputable def tlP (a1 x2 x4 : Int32) (s : gb_M) : gb_R := if a1 = 0 then gb_b1 (f_X10_number [gR 36 0, gI 1, gI 99, gI 2] s) (fun x12 s11 => if s11.1 36 0 18 = (-1) then wtP x2 x4 x12 s11 else some (none, s11)) else if s.1 36 0 18 = (-1) then wtP x2 x4 (-1) s else some (none, s)
theorem eqP (a1 : Int32) (σ : gb_M) : f_X10_readsPair [gR 36 0, gI a1] σ = gb_b1 (f_X10_gradeSign [gR 36 0] σ) (fun x2 s1 => gb_b1 (f_X10_gradeSign [gR 36 0] s1) (fun x4 s3 => if s3.1 36 0 18 = (-1) then (if x2 = x4 then gb_b0 (f_X10_fault [gR 36 0, gI ((s3.1 36 0 17) - 1)] s3) (fun s5 => tlP a1 x2 x4 s5) else if lg_cmp (((s3.2 36 0 21) >>> (((6 * (if x4 < x2 then x4 else x2)) + (if x2 < x4 then x4 else x2)).toInt64 &&& 63)) &&& 1) 1 = 0 then gb_b0 (f_X10_fault [gR 36 0, gI ((s3.1 36 0 17) - 1)] s3) (fun s8 => tlP a1 x2 x4 s8) else tlP a1 x2 x4 s3) else tlP a1 x2 x4 s3)) := e_X10_readsPair a1 σ
section MPA
variable {σ : gb_M} {T : List Int} {p : Nat} {u : gb_Ru}
theorem tlP_F {s : gb_M} {a1 x2 x4 : Int32} {w : Nat} (h : mF s w) : mL (tlP a1 x2 x4 s) s T (none, w) := by
  unfold tlP
  by_cases c : a1 = 0
  · rw [if_pos c, m_number_n h, g_b1, if_neg (mF_ne h)]; exact mL_n rfl fX_rf h
  · rw [if_neg c, if_neg (mF_ne h)]; exact mL_n rfl fX_rf h
theorem mR_sl {s : gb_M} {q i : Nat} {v : Int64} (h : mR s T q) : mR (gb_sl s 36 0 i v) T q := mR_fX (Q := fun _ => False) (I := fun _ => False) (fX_sl fX_rf (Or.inl rfl)) (fun z => z) ⟨fun z => z, fun z => z, fun z => z⟩ h
theorem wtP_R {s : gb_M} {q a b : Nat} {v : Int} (h : mR s T q) (hu : mU s u) (ha : a < 6) (hb : b < 6) (hab : a ≠ b) : mL (wtP (nZ a) (nZ b) (nZ v) s) s T (some (ruP u a b v), q) := by
  obtain ⟨u1, u2, u3, u4⟩ := hu
  unfold wtP
  rw [kP ha hb hab, z12, z6, z_mul, z_add, z_add, z_mul, z_add, z_add, g_in (by omega), g_in (by omega), z_tn (by omega), z_tn (by omega)]
  have e1 : ((12 : Int) + 6 * (a : Int) + (b : Int)).toNat = 12 + (6 * a + b) := by omega
  have e2 : ((12 : Int) + 6 * (b : Int) + (a : Int)).toNat = 12 + (6 * b + a) := by omega
  rw [e1, e2]
  refine ⟨_, rfl, rU_s (rU_s (fX_sl fX_rf (Or.inl rfl))), fun z => (by cases z), fun u' hu' => ?_⟩
  cases hu'
  refine ⟨mR_s (mR_s (mR_sl h)), fun k hk => ?_, ?_, ?_, fun g k hg hk hgk => ?_⟩
  · show _ = nZ (up1 (up1 u.1 (12 + (6 * a + b)) v) (12 + (6 * b + a)) v k)
    by_cases g1 : k = 12 + (6 * b + a)
    · rw [g1, upe, si_s]
    · rw [upn g1, si_i g1]
      by_cases g2 : k = 12 + (6 * a + b)
      · rw [g2, upe, si_s]
      · rw [upn g2, si_i g2]; exact u1 k hk
  · rw [si_k (by omega), si_k (by omega)]; exact u2
  · rw [si_k (by omega), si_k (by omega)]; exact u3
  · rw [si_2, si_2, sl_s, pt_or (mP_lt ha hb hab) (mP_lt hg hk hgk), u4 g k hg hk hgk, tP_P]
    by_cases e : (g = a ∧ k = b) ∨ (g = b ∧ k = a)
    · rw [if_pos e, decide_eq_true ((mP_eq ha hb hab hg hk hgk).2 e), Bool.or_true]
    · rw [if_neg e, decide_eq_false (fun z => e ((mP_eq ha hb hab hg hk hgk).1 z)), Bool.or_false]
def rlQ (T : List Int) (u : gb_Ru) (l : Bool) (a b p : Nat) : Option gb_Ru × Nat := match l with
  | true => ((nm T 1 99 2 (p + 2)).1.map (fun v => ruP u a b v), (nm T 1 99 2 (p + 2)).2)
  | false => (some (ruP u a b (-1)), p + 2)
theorem m_rlPx {a1 : Int32} {l : Bool} (h : mR σ T p) (hu : mU σ u) (hI : uI u) (hR : ∀ (s : gb_M) (a b : Nat), mR s T (p + 2) → mU s u → a < 6 → b < 6 → a ≠ b → mL (tlP a1 (nZ a) (nZ b) s) s T (rlQ T u l a b p)) : mL (f_X10_readsPair [gR 36 0, gI a1] σ) σ T (rlP T u l p) := by
  have h200 := h.2.2.2.2.1
  have ht := tA_r h.2.2.2.2.2.2 p
  have ht1 := tA_r h.2.2.2.2.2.2 (p + 1)
  rw [eqP]
  unfold rlP
  by_cases c0 : 48 ≤ tA T p ∧ tA T p < 54
  · have hd : (tA T p - 48).toNat < 6 := by omega
    have en : nn T (fun _ => false) p = some (tA T p - 48).toNat := by unfold nn; rw [if_pos ⟨c0.1, c0.2, rfl⟩]
    obtain ⟨s1, a1', a2, a3⟩ := m_grade_t h hd (by omega)
    have hp1 := a2.2.2.2.1
    rw [a1', g_b1, en]
    generalize (tA T p - 48).toNat = a at hd
    dsimp only
    by_cases c1 : 48 ≤ tA T (p + 1) ∧ tA T (p + 1) < 54
    · have hd1 : (tA T (p + 1) - 48).toNat < 6 := by omega
      obtain ⟨s3, b1, b2, b3⟩ := m_grade_t a2 hd1 (by omega)
      have hp2 := b2.2.2.2.1
      have hu3 := mU_rd b3 (mU_rd a3 hu)
      have hnn : nn T (or1 (u.2.2.2 a) a) (p + 1) = if or1 (u.2.2.2 a) a (tA T (p + 1) - 48).toNat = false then some (tA T (p + 1) - 48).toNat else none := by
        unfold nn
        by_cases z : or1 (u.2.2.2 a) a (tA T (p + 1) - 48).toNat = false
        · rw [if_pos ⟨c1.1, c1.2, z⟩, if_pos z]
        · rw [if_neg (fun y => z y.2.2), if_neg z]
      rw [b1, g_b1, if_pos b2.2.2.1, hnn]
      generalize (tA T (p + 1) - 48).toNat = b at hd1
      have e1 : nZ (p + 1 + 1 : Nat) - 1 = nZ (p + 1 : Nat) := by rw [z1, z_sub]; exact congrArg nZ (by omega)
      obtain ⟨s5, d1, d2, d3⟩ := m_fault b2 (w := p + 1) (by omega)
      have fa := fX_tr (rU_w a3) (rU_w b3)
      by_cases hab : a = b
      · rw [if_pos (congrArg (fun z : Nat => nZ (z : Int)) hab), b2.2.1, e1, if_neg (show ¬ or1 (u.2.2.2 a) a b = false by unfold or1; rw [decide_eq_true hab.symm, Bool.or_true]; decide)]
        exact mL_tr (fX_tr fa (rU_w d3)) (by rw [d1, g_b0]) (tlP_F d2)
      · rw [if_neg (show ¬ nZ a = nZ b by rw [z_eq ⟨by omega, by omega⟩ ⟨by omega, by omega⟩]; omega), kP hd hd1 hab]
        have ho : or1 (u.2.2.2 a) a b = u.2.2.2 a b := by unfold or1; rw [decide_eq_false (fun z => hab z.symm), Bool.or_false]
        have hl : (lg_cmp (((s3.2 36 0 21) >>> ((nZ (mP a b : Nat)).toInt64 &&& 63)) &&& 1) 1 = 0) = (u.2.2.2 a b = true) := by
          rw [lg_cmp_eq, and_1, pt_sh (mP_lt hd hd1 hab), hu3.2.2.2 a b hd hd1 hab]
        rw [ho]
        cases ht2 : u.2.2.2 a b with
        | true =>
          rw [if_pos (by rw [hl]; exact ht2), b2.2.1, e1, if_neg (by decide)]
          exact mL_tr (fX_tr fa (rU_w d3)) (by rw [d1, g_b0]) (tlP_F d2)
        | false =>
          rw [if_neg (by rw [hl, ht2]; decide), if_pos rfl]
          exact mL_tr fa rfl (hR s3 a b b2 hu3 hd hd1 hab)
    · have en1 : nn T (or1 (u.2.2.2 a) a) (p + 1) = none := by unfold nn; rw [if_neg (fun z => c1 ⟨z.1, z.2.1⟩)]
      obtain ⟨s3, b1, b2, b3⟩ := m_grade_f a2 c1
      rw [b1, g_b1, if_neg (mF_ne b2), en1]
      exact mL_tr (fX_tr (rU_w a3) (rU_w b3)) rfl (tlP_F b2)
  · have en : nn T (fun _ => false) p = none := by unfold nn; rw [if_neg (fun z => c0 ⟨z.1, z.2.1⟩)]
    obtain ⟨s1, a1', a2, a3⟩ := m_grade_f h c0
    rw [a1', g_b1, m_grade_n a2, g_b1, if_neg (mF_ne a2), en]
    exact mL_tr (rU_w a3) rfl (tlP_F a2)
theorem m_rlP1 (h : mR σ T p) (hu : mU σ u) (hI : uI u) : mL (f_X10_readsPair [gR 36 0, gI 0] σ) σ T (rlP T u true p) := by
  refine m_rlPx h hu hI (fun s a b hs hus ha hb hab => ?_)
  obtain ⟨s3, x, d1, d2, d3, d4⟩ := m_number hs (lo := 1) (hi := 99) (by omega) (by omega) (k := 2) (by omega)
  have d1' : f_X10_number [gR 36 0, gI 1, gI 99, gI 2] s = some (some (gI (nZ x)), s3) := d1
  refine mL_tr (rU_w d4) (by unfold tlP; rw [if_pos rfl, d1', g_b1]) ?_
  unfold rlQ
  unfold mE at d2
  dsimp only
  cases hw : (nm T 1 99 2 (p + 2)).1 with
  | none =>
    rw [hw] at d2
    rw [if_neg (mF_ne d2)]
    exact mL_n rfl fX_rf d2
  | some w =>
    rw [hw] at d2 d3
    have ex : x = w := by
      rcases d3 with d3 | d3
      · cases d3
      · cases d3; rfl
    subst ex
    rw [if_pos d2.2.2.1]
    exact wtP_R d2 (mU_rd d4 hus) ha hb hab
theorem m_rlP0 (h : mR σ T p) (hu : mU σ u) (hI : uI u) : mL (f_X10_readsPair [gR 36 0, gI 1] σ) σ T (rlP T u false p) := by
  refine m_rlPx h hu hI (fun s a b hs hus ha hb hab => ?_)
  unfold tlP
  rw [if_neg (by decide), if_pos hs.2.2.1]
  exact wtP_R (v := -1) hs hus ha hb hab
theorem m_rlL (h : mR σ T p) (hu : mU σ u) (hI : uI u) : mL (f_X10_readsLine [gR 36 0] σ) σ T (rlL T u p) := by
  have h200 := h.2.2.2.2.1
  have hpl := h.2.2.2.1
  have ht := tA_r h.2.2.2.2.2.2 p
  rw [e_X10_readsLine, m_sees h, g_b1]
  unfold rlL
  have go : tA T p ≠ -1 → mR (gb_si σ 36 0 17 (nZ (p + 1 : Nat))) T (p + 1) ∧ rdX σ (gb_si σ 36 0 17 (nZ (p + 1 : Nat))) := fun z => mR_at h (q := p + 1) (by have := ht.2.2 (by omega); omega)
  have fin : ∀ {r : gb_R} {x : Option gb_Ru × Nat}, mL r σ T x → mL (gb_b0 r (fun s3 => some (none, s3))) σ T x := by
    intro r x ⟨σ', h1, h2⟩
    exact ⟨σ', by rw [h1, g_b0], h2⟩
  have zc : ∀ {c : Int}, 0 ≤ c ∧ c ≤ 255 → (nZ (tA T p) = nZ c) = (tA T p = c) := fun hc => z_eq ⟨by omega, by omega⟩ ⟨by omega, by omega⟩
  rw [h.2.1, zs]
  by_cases c1 : tA T p = 103
  · have k1 : nZ (tA T p) = 103 := by rw [c1]; rfl
    obtain ⟨r1, r2⟩ := go (by omega)
    rw [if_pos k1, if_pos k1, if_pos c1]
    exact fin (mL_tr (rU_w r2) rfl (m_rlG r1 (mU_rd r2 hu)))
  have n1 : ¬ nZ (tA T p) = 103 := by rw [show (103 : Int32) = nZ 103 from rfl, zc (by omega)]; exact c1
  rw [if_neg n1, if_neg c1]
  by_cases c2 : tA T p = 98
  · have k1 : nZ (tA T p) = 98 := by rw [c2]; rfl
    obtain ⟨r1, r2⟩ := go (by omega)
    rw [if_pos k1, if_neg n1, if_pos k1, if_pos c2]
    exact fin (mL_tr (rU_w r2) rfl (m_rlB r1 (mU_rd r2 hu)))
  have n2 : ¬ nZ (tA T p) = 98 := by rw [show (98 : Int32) = nZ 98 from rfl, zc (by omega)]; exact c2
  rw [if_neg n2, if_neg c2]
  by_cases c3 : tA T p = 108
  · have k1 : nZ (tA T p) = 108 := by rw [c3]; rfl
    have n3 : ¬ nZ (tA T p) = 120 := by rw [c3]; decide
    obtain ⟨r1, r2⟩ := go (by omega)
    rw [if_pos k1, if_neg n1, if_neg n2, if_neg n3, if_pos c3]
    exact fin (mL_tr (rU_w r2) rfl (m_rlP1 r1 (mU_rd r2 hu) hI))
  have n3 : ¬ nZ (tA T p) = 108 := by rw [show (108 : Int32) = nZ 108 from rfl, zc (by omega)]; exact c3
  rw [if_neg n3, if_neg c3]
  by_cases c4 : tA T p = 120
  · have k1 : nZ (tA T p) = 120 := by rw [c4]; rfl
    obtain ⟨r1, r2⟩ := go (by omega)
    rw [if_pos k1, if_neg n1, if_neg n2, if_pos k1, if_pos c4]
    exact fin (mL_tr (rU_w r2) rfl (m_rlP0 r1 (mU_rd r2 hu) hI))
  have n4 : ¬ nZ (tA T p) = 120 := by rw [show (120 : Int32) = nZ 120 from rfl, zc (by omega)]; exact c4
  rw [if_neg n4, if_neg c4]
  obtain ⟨s3, d1, d2, d3⟩ := m_fault h (w := p) (by omega)
  exact mL_n (by rw [d1, g_b0]) (rU_w d3) d2
end MPA
