/-! READ: the same by the reference -/
def mR (σ : gb_M) (T : List Int) (p : Nat) : Prop := σ.1 36 0 16 = nZ T.length ∧ σ.1 36 0 17 = nZ p ∧ σ.1 36 0 18 = -1 ∧ p ≤ T.length ∧ T.length ≤ 200 ∧ (∀ i, i < T.length → σ.1 41 0 i = bY (T.getD i 0)) ∧ ∀ i, i < T.length → 0 ≤ T.getD i 0 ∧ T.getD i 0 ≤ 255
def mF (σ : gb_M) (w : Nat) : Prop := σ.1 36 0 18 = nZ w ∧ w ≤ 200
def rdX (σ σ' : gb_M) : Prop := gb_fX (fun _ => False) (fun x => x = 17 ∨ x = 18) σ σ' ∧ σ'.2 = σ.2
theorem rdX_tr {σ σ' σ'' : gb_M} (h : rdX σ σ') (h' : rdX σ' σ'') : rdX σ σ'' := ⟨fX_tr h.1 h'.1, h'.2.trans h.2⟩
theorem bY_255 : ∀ i : Fin 256, bY (i.val : Int) &&& 255 = nZ (i.val : Int) := by decide +kernel
theorem bY_and {c : Int} (h : 0 ≤ c ∧ c ≤ 255) : bY c &&& 255 = nZ c := by
  have := bY_255 ⟨c.toNat, by omega⟩
  dsimp only at this
  rwa [show ((c.toNat : Nat) : Int) = c by omega] at this
theorem mF_ne {σ : gb_M} {w : Nat} (h : mF σ w) : ¬ σ.1 36 0 18 = -1 := by
  rw [h.1, zm1, z_eq ⟨by have := h.2; omega, by have := h.2; omega⟩ ⟨by omega, by omega⟩]
  omega
theorem mF_fX {Q I : Nat → Prop} {σ σ' : gb_M} {w : Nat} (f : gb_fX Q I σ σ') (hi : ¬ I 18) (h : mF σ w) : mF σ' w := ⟨by rw [f.2 18 hi]; exact h.1, h.2⟩
theorem mR_fX {Q I : Nat → Prop} {σ σ' : gb_M} {T : List Int} {p : Nat} (f : gb_fX Q I σ σ') (hq : ¬ Q 41) (hi : ¬ I 16 ∧ ¬ I 17 ∧ ¬ I 18) (h : mR σ T p) : mR σ' T p := ⟨by rw [f.2 16 hi.1]; exact h.1, by rw [f.2 17 hi.2.1]; exact h.2.1, by rw [f.2 18 hi.2.2]; exact h.2.2.1, h.2.2.2.1, h.2.2.2.2.1, fun i hx => by rw [(f.1 41 0 i (by omega) hq).1]; exact h.2.2.2.2.2.1 i hx, h.2.2.2.2.2.2⟩
section RM1
variable {σ : gb_M} {T : List Int} {p : Nat}
theorem mR_at (h : mR σ T p) {q : Nat} (hq : q ≤ T.length) : mR (gb_si σ 36 0 17 (nZ q)) T q ∧ rdX σ (gb_si σ 36 0 17 (nZ q)) := by
  obtain ⟨a, b, c, d, e, f, g⟩ := h
  exact ⟨⟨by rw [si_i (by omega)]; exact a, si_s, by rw [si_i (by omega)]; exact c, hq, e, fun i hi => by rw [si_k (by omega)]; exact f i hi, g⟩, fX_si fX_rf (Or.inr ⟨rfl, Or.inl rfl⟩), rfl⟩
theorem m_sees (h : mR σ T p) : f_X10_sees [gR 36 0] σ = some (some (gI (nZ (tA T p))), σ) := by
  obtain ⟨a, b, c, d, e, f, g⟩ := h
  rw [e_X10_sees, a, b]
  unfold tA
  by_cases w : p < T.length
  · rw [if_neg (by rw [z_le ⟨by omega, by omega⟩ ⟨by omega, by omega⟩]; omega), g_in (by omega), z_tn (by omega), Int.toNat_natCast, f p w, bY_and (g p w), if_pos w]
  · rw [if_pos (by rw [z_le ⟨by omega, by omega⟩ ⟨by omega, by omega⟩]; omega), if_neg w]; rfl
theorem m_fault (h : mR σ T p) {w : Nat} (hw : w ≤ 200) : ∃ σ', f_X10_fault [gR 36 0, gI (nZ w)] σ = some (none, σ') ∧ mF σ' w ∧ rdX σ σ' := by
  refine ⟨gb_si σ 36 0 18 (nZ w), ?_, ⟨si_s, hw⟩, fX_si fX_rf (Or.inr ⟨rfl, Or.inr rfl⟩), rfl⟩
  rw [e_X10_fault, h.2.2.1, if_pos rfl]
theorem m_expect_t (h : mR σ T p) {c : Int} (hc : 0 ≤ c ∧ c ≤ 255) (e : tA T p = c) : ∃ σ', f_X10_expect [gR 36 0, gI (nZ c)] σ = some (none, σ') ∧ mR σ' T (p + 1) ∧ rdX σ σ' := by
  have hp := (tA_r h.2.2.2.2.2.2 p).2.2 (by omega)
  obtain ⟨g1, g2⟩ := mR_at h (q := p + 1) (by omega)
  refine ⟨_, ?_, g1, g2⟩
  rw [e_X10_expect, h.2.2.1, if_pos rfl, m_sees h, g_b1, e, if_pos rfl, h.2.1, zs]
theorem m_expect_f (h : mR σ T p) {c : Int} (hc : 0 ≤ c ∧ c ≤ 255) (e : ¬ tA T p = c) : ∃ σ', f_X10_expect [gR 36 0, gI (nZ c)] σ = some (none, σ') ∧ mF σ' p ∧ rdX σ σ' := by
  have ht := tA_r h.2.2.2.2.2.2 p
  obtain ⟨σ', a, b, c'⟩ := m_fault h (w := p) (by have := h.2.2.2.1; have := h.2.2.2.2.1; omega)
  refine ⟨σ', ?_, b, c'⟩
  rw [e_X10_expect, h.2.2.1, if_pos rfl, m_sees h, g_b1, if_neg (by rw [z_eq ⟨by omega, by omega⟩ ⟨by omega, by omega⟩]; exact e), h.2.1, a, g_b0]
theorem m_expect_n {w : Nat} (h : mF σ w) (c : Int32) : f_X10_expect [gR 36 0, gI c] σ = some (none, σ) := by rw [e_X10_expect, if_neg (mF_ne h)]
theorem m_number_n {w : Nat} (h : mF σ w) (a b c : Int32) : f_X10_number [gR 36 0, gI a, gI b, gI c] σ = some (some (gI a), σ) := by rw [e_X10_number, if_neg (mF_ne h)]
theorem m_grade_n {w : Nat} (h : mF σ w) : f_X10_gradeSign [gR 36 0] σ = some (some (gI 0), σ) := by rw [e_X10_gradeSign, if_neg (mF_ne h)]
theorem m_grade_t (h : mR σ T p) {d : Nat} (hd : d < 6) (e : tA T p = 48 + d) : ∃ σ', f_X10_gradeSign [gR 36 0] σ = some (some (gI (nZ d)), σ') ∧ mR σ' T (p + 1) ∧ rdX σ σ' := by
  have hp := (tA_r h.2.2.2.2.2.2 p).2.2 (by omega)
  have h2 := h.2.2.2.2.1
  obtain ⟨g1, g2⟩ := mR_at h (q := p + 1) (by omega)
  refine ⟨_, ?_, g1, g2⟩
  have hb : σ.1 41 0 p = nZ (48 + d) := by
    rw [h.2.2.2.2.2.1 p hp]
    have : T.getD p 0 = 48 + d := by rw [← e]; unfold tA; rw [if_pos hp]
    rw [this]
    unfold bY
    rw [if_pos (by omega)]
  have e1 : nZ (p + 1 : Nat) - 1 = nZ p := by rw [z1, z_sub]; exact congrArg nZ (by omega)
  have ed : nZ (48 + (d : Int)) - 48 = nZ d := by rw [z48, z_sub]; exact congrArg nZ (by omega)
  have i48 : (48 : Int64).toInt = 48 := by decide
  have i53 : (53 : Int64).toInt = 53 := by decide
  rw [e_X10_gradeSign, h.2.2.1, if_pos rfl, m_sees h, g_b1, e, m_in_t ⟨by omega, by omega⟩ (by omega), g_b1, e10, h.2.1, zs, si_s, e1, g_in (by omega), z_tn (by omega), Int.toNat_natCast, si_k (by omega), hb, ed]
theorem m_grade_f (h : mR σ T p) (e : ¬ (48 ≤ tA T p ∧ tA T p < 54)) : ∃ σ', f_X10_gradeSign [gR 36 0] σ = some (some (gI 0), σ') ∧ mF σ' p ∧ rdX σ σ' := by
  have ht := tA_r h.2.2.2.2.2.2 p
  obtain ⟨σ', a, b, c'⟩ := m_fault h (w := p) (by have := h.2.2.2.1; have := h.2.2.2.2.1; omega)
  have i48 : (48 : Int64).toInt = 48 := by decide
  have i53 : (53 : Int64).toInt = 53 := by decide
  refine ⟨σ', ?_, b, c'⟩
  rw [e_X10_gradeSign, h.2.2.1, if_pos rfl, m_sees h, g_b1, m_in_f ⟨by omega, by omega⟩ (by omega), g_b1, e00, h.2.1, a, g_b0]
/-- how a number ends -/
def mE (σ' : gb_M) (T : List Int) (x : Option Int × Nat) : Prop := match x.1 with
  | none => mF σ' x.2
  | some _ => mR σ' T x.2
theorem m_fin (h : mR σ T p) {lo hi v : Int} {d : Nat} (hl : 0 ≤ lo ∧ lo ≤ 1) (hh : 0 ≤ hi ∧ hi ≤ 999) (hv : 0 ≤ v ∧ v ≤ 999) (hd : d ≤ 3) (hdp : d ≤ p) : ∃ σ', (if nZ d = 0 then
      gb_b0 (f_X10_fault [gR 36 0, gI (σ.1 36 0 17)] σ) (fun s1 => some (some (gI (nZ v)), s1))
    else
      gb_b1 (f_X10_in [gL (nZ v).toInt64, gL (nZ lo).toInt64, gL (nZ hi).toInt64] σ) (fun x3 s2 => if x3 = 0 then gb_b0 (f_X10_fault [gR 36 0, gI ((s2.1 36 0 17) - 1)] s2) (fun s4 => some (some (gI (nZ v)), s4)) else some (some (gI (nZ v)), s2))) = some (some (gI (nZ v)), σ') ∧ mE σ' T (nf lo hi (v, d, p)) ∧ ((nf lo hi (v, d, p)).1 = none ∨ (nf lo hi (v, d, p)).1 = some v) ∧ rdX σ σ' := by
  have hpl := h.2.2.2.1
  have h200 := h.2.2.2.2.1
  unfold nf
  by_cases c0 : d = 0
  · rw [if_pos (by rw [c0]; rfl), if_pos c0]
    obtain ⟨σ', a, b, c⟩ := m_fault h (w := p) (by omega)
    exact ⟨σ', by rw [h.2.1, a, g_b0], b, Or.inl rfl, c⟩
  rw [if_neg (by rw [z0, z_eq ⟨by omega, by omega⟩ ⟨by omega, by omega⟩]; omega), if_neg c0]
  by_cases c1 : lo ≤ v ∧ v ≤ hi
  · rw [m_in_t ⟨by omega, by omega⟩ (by rw [nz64 ⟨by omega, by omega⟩, nz64 ⟨by omega, by omega⟩]; exact c1), g_b1, e10, if_pos c1]
    exact ⟨σ, rfl, h, Or.inr rfl, fX_rf, rfl⟩
  · rw [m_in_f ⟨by omega, by omega⟩ (by rw [nz64 ⟨by omega, by omega⟩, nz64 ⟨by omega, by omega⟩]; omega), g_b1, e00, if_neg c1]
    have ep : nZ p - 1 = nZ (p - 1 : Nat) := by rw [z1, z_sub]; exact congrArg nZ (by omega)
    obtain ⟨σ', a, b, c⟩ := m_fault h (w := p - 1) (by omega)
    exact ⟨σ', by rw [h.2.1, ep, a, g_b0], b, Or.inl rfl, c⟩
end RM1
theorem m_dg {T : List Int} {lo hi : Int} (m : Nat) (hm : m ≤ 3) (hl : 0 ≤ lo ∧ lo ≤ 1) (hh : 0 ≤ hi ∧ hi ≤ 999) : ∀ k, ∀ (σ : gb_M) (v : Int) (d p : Nat), d + k = m → mR σ T p → 0 ≤ v → v ≤ bnd (3 - d) → d ≤ p → ∃ (σ' : gb_M) (x : Int), j_X10_number_16 (nZ lo) (nZ hi) (nZ m) (nZ v) (nZ d) σ = some (some (gI (nZ x)), σ') ∧ mE σ' T (nf lo hi (dg T k v d p)) ∧ ((nf lo hi (dg T k v d p)).1 = none ∨ (nf lo hi (dg T k v d p)).1 = some x) ∧ rdX σ σ'
  | 0, σ, v, d, p, hk, h, hv, hb, hdp => by
    have hb9 : bnd (3 - d) ≤ 999 := by
      have : d = 0 ∨ d = 1 ∨ d = 2 ∨ d = 3 := by omega
      rcases this with rfl | rfl | rfl | rfl <;> decide
    rw [e_X10_number_16, if_pos (by rw [z_le ⟨by omega, by omega⟩ ⟨by omega, by omega⟩]; omega)]
    obtain ⟨σ', a, b⟩ := m_fin h hl hh (v := v) (d := d) ⟨hv, by omega⟩ (by omega) hdp
    exact ⟨σ', v, a, b⟩
  | k + 1, σ, v, d, p, hk, h, hv, hb, hdp => by
    have hd3 : d = 0 ∨ d = 1 ∨ d = 2 := by omega
    have hb9 : bnd (3 - d) ≤ 999 ∧ 10 * bnd (3 - d) + 9 ≤ bnd (3 - (d + 1)) := by rcases hd3 with rfl | rfl | rfl <;> decide
    have i48 : (48 : Int64).toInt = 48 := by decide
    have i57 : (57 : Int64).toInt = 57 := by decide
    have ht := tA_r h.2.2.2.2.2.2 p
    have h200 := h.2.2.2.2.1
    have stop : ¬ ((d = 0 ∨ v ≠ 0) ∧ 48 ≤ tA T p ∧ tA T p ≤ 57) → ∃ (σ' : gb_M) (x : Int), (if nZ d = 0 then
      gb_b0 (f_X10_fault [gR 36 0, gI (σ.1 36 0 17)] σ) (fun s1 => some (some (gI (nZ v)), s1))
    else
      gb_b1 (f_X10_in [gL (nZ v).toInt64, gL (nZ lo).toInt64, gL (nZ hi).toInt64] σ) (fun x3 s2 => if x3 = 0 then gb_b0 (f_X10_fault [gR 36 0, gI ((s2.1 36 0 17) - 1)] s2) (fun s4 => some (some (gI (nZ v)), s4)) else some (some (gI (nZ v)), s2))) = some (some (gI (nZ x)), σ') ∧ mE σ' T (nf lo hi (dg T (k + 1) v d p)) ∧ ((nf lo hi (dg T (k + 1) v d p)).1 = none ∨ (nf lo hi (dg T (k + 1) v d p)).1 = some x) ∧ rdX σ σ' := by
      intro c
      have e : dg T (k + 1) v d p = (v, d, p) := if_neg c
      rw [e]
      obtain ⟨σ', a, b⟩ := m_fin h hl hh (v := v) (d := d) ⟨hv, by omega⟩ (by omega) hdp
      exact ⟨σ', v, a, b⟩
    have go : (d = 0 ∨ v ≠ 0) → ∃ (σ' : gb_M) (x : Int), gb_b1 (f_X10_sees [gR 36 0] σ) (fun x6 s5 => gb_b1 (f_X10_in [gL x6.toInt64, gL 48, gL 57] s5) (fun x8 s7 => if x8 = 0 then
        (if nZ d = 0 then
          gb_b0 (f_X10_fault [gR 36 0, gI (s7.1 36 0 17)] s7) (fun s9 => some (some (gI (nZ v)), s9))
        else
          gb_b1 (f_X10_in [gL (nZ v).toInt64, gL (nZ lo).toInt64, gL (nZ hi).toInt64] s7) (fun x11 s10 => if x11 = 0 then
            gb_b0 (f_X10_fault [gR 36 0, gI ((s10.1 36 0 17) - 1)] s10) (fun s12 => some (some (gI (nZ v)), s12))
          else
            some (some (gI (nZ v)), s10)))
      else
        gb_b1 (f_X10_sees [gR 36 0] s7) (fun x14 s13 => j_X10_number_16 (nZ lo) (nZ hi) (nZ m) (((10 * nZ v) + x14) - 48) (nZ d + 1) (gb_si s13 36 0 17 ((s13.1 36 0 17) + 1))))) = some (some (gI (nZ x)), σ') ∧ mE σ' T (nf lo hi (dg T (k + 1) v d p)) ∧ ((nf lo hi (dg T (k + 1) v d p)).1 = none ∨ (nf lo hi (dg T (k + 1) v d p)).1 = some x) ∧ rdX σ σ' := by
      intro c0
      rw [m_sees h, g_b1]
      by_cases c : 48 ≤ tA T p ∧ tA T p ≤ 57
      · have hp := ht.2.2 (by omega)
        obtain ⟨g1, g2⟩ := mR_at h (q := p + 1) (by omega)
        have e : dg T (k + 1) v d p = dg T k (10 * v + tA T p - 48) (d + 1) (p + 1) := if_pos ⟨c0, c⟩
        rw [m_in_t ⟨by omega, by omega⟩ (by omega), g_b1, e10, m_sees h, g_b1, h.2.1, z10, z_mul, z_add, z48, z_sub, zs, zs, e]
        obtain ⟨σ', x, a, b, c', d'⟩ := m_dg m hm hl hh k _ (10 * v + tA T p - 48) (d + 1) (p + 1) (by omega) g1 (by omega) (by omega) (by omega)
        exact ⟨σ', x, a, b, c', rdX_tr g2 d'⟩
      · rw [m_in_f ⟨by omega, by omega⟩ (by omega), g_b1, e00]
        exact stop (fun z => c z.2)
    rw [e_X10_number_16, if_neg (by rw [z_le ⟨by omega, by omega⟩ ⟨by omega, by omega⟩]; omega)]
    by_cases c0 : d = 0
    · subst c0
      rw [if_pos (show nZ (0 : Nat) = 0 from rfl)]
      exact go (Or.inl rfl)
    · rw [if_neg (show ¬ nZ d = 0 by rw [z0, z_eq ⟨by omega, by omega⟩ ⟨by omega, by omega⟩]; omega)]
      by_cases c1 : v = 0
      · rw [if_pos (by rw [c1]; decide)]
        exact stop (by omega)
      · rw [if_neg (by rw [z0, z_le ⟨by omega, by omega⟩ ⟨by omega, by omega⟩]; omega)]
        exact go (Or.inr c1)
theorem m_number {σ : gb_M} {T : List Int} {p : Nat} (h : mR σ T p) {lo hi : Int} (hl : 0 ≤ lo ∧ lo ≤ 1) (hh : 0 ≤ hi ∧ hi ≤ 999) {k : Nat} (hk : k ≤ 3) : ∃ (σ' : gb_M) (x : Int), f_X10_number [gR 36 0, gI (nZ lo), gI (nZ hi), gI (nZ k)] σ = some (some (gI (nZ x)), σ') ∧ mE σ' T (nm T lo hi k p) ∧ ((nm T lo hi k p).1 = none ∨ (nm T lo hi k p).1 = some x) ∧ rdX σ σ' := by
  obtain ⟨σ', x, a, b, c, d⟩ := m_dg k hk hl hh k σ 0 0 p (by omega) h (by omega) (by decide) (by omega)
  exact ⟨σ', x, by rw [e_X10_number, h.2.2.1, if_pos rfl]; exact a, b, c, d⟩
