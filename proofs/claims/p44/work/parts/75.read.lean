/-! READ: the signs of THE TEXT, one by one -/
def tA (T : List Int) (p : Nat) : Int := if p < T.length then T.getD p 0 else -1
def nn (T : List Int) (P : Nat → Bool) (p : Nat) : Option Nat := if 48 ≤ tA T p ∧ tA T p < 54 ∧ P (tA T p - 48).toNat = false then some (tA T p - 48).toNat else none
def dg (T : List Int) (k : Nat) (v : Int) (d p : Nat) : Int × Nat × Nat := match k with
  | 0 => (v, d, p)
  | k + 1 => if (d = 0 ∨ v ≠ 0) ∧ 48 ≤ tA T p ∧ tA T p ≤ 57 then dg T k (10 * v + tA T p - 48) (d + 1) (p + 1) else (v, d, p)
def nf (lo hi : Int) (x : Int × Nat × Nat) : Option Int × Nat := if x.2.1 = 0 then (none, x.2.2) else if lo ≤ x.1 ∧ x.1 ≤ hi then (some x.1, x.2.2) else (none, x.2.2 - 1)
def nm (T : List Int) (lo hi : Int) (k p : Nat) : Option Int × Nat := nf lo hi (dg T k 0 0 p)
def rmv (k : Nat) : Int := if k = 0 then 0 else if k = 1 then 9 else if k = 2 then 99 else 999
def bnd (k : Nat) : Int := if k = 0 then 999 else if k = 1 then 99 else if k = 2 then 9 else 0
def cR (σ : gb_M) (T : List Int) (p : Nat) : Prop := textC σ T ∧ σ.1 1 0 2 = nZ p ∧ p ≤ T.length
theorem tA_r {T : List Int} (h : ∀ i, i < T.length → 0 ≤ T.getD i 0 ∧ T.getD i 0 ≤ 255) (p : Nat) : -1 ≤ tA T p ∧ tA T p ≤ 255 ∧ (0 ≤ tA T p → p < T.length) := by
  unfold tA
  by_cases c : p < T.length
  · rw [if_pos c]; have := h p c; omega
  · rw [if_neg c]; omega
theorem dg_p {T : List Int} : ∀ k v d p, d ≤ p → (dg T k v d p).2.1 ≤ (dg T k v d p).2.2 ∧ p ≤ (dg T k v d p).2.2
  | 0, v, d, p, h => ⟨h, Nat.le_refl p⟩
  | k + 1, v, d, p, h => by
    unfold dg
    split
    · have := dg_p (T := T) k (10 * v + tA T p - 48) (d + 1) (p + 1) (by omega)
      omega
    · exact ⟨h, Nat.le_refl p⟩
section RC1
variable {σ : gb_M} {T : List Int} {p : Nat}
theorem cR_t (h : cR σ T p) : (∀ i, i < T.length → 0 ≤ T.getD i 0 ∧ T.getD i 0 ≤ 255) ∧ T.length ≤ 200 := ⟨h.1.2.2.2, h.1.2.1⟩
theorem cR_at (h : cR σ T p) {q : Nat} (hq : q ≤ T.length) : cR (gb_si σ 1 0 2 (nZ q)) T q ∧ gb_fP (fun k => k = 1) σ (gb_si σ 1 0 2 (nZ q)) := by
  obtain ⟨⟨a, b, c, d⟩, e, g⟩ := h
  exact ⟨⟨⟨by rw [si_i (by omega)]; exact a, b, fun i hi => by rw [si_k (by omega)]; exact c i hi, d⟩, si_s, hq⟩, fP_si fP_rf rfl⟩
theorem cR_fP {P : Nat → Prop} {σ' : gb_M} (f : gb_fP P σ σ') (h1 : ¬ P 1) (h2 : ¬ P 2) (h : cR σ T p) : cR σ' T p := ⟨textC_fP f h1 h2 h.1, by rw [f.1 1 0 2 h1]; exact h.2.1, h.2.2⟩
theorem p_ended (h : cR σ T p) : f_X8_ended [gR 1 0] σ = some (some (gI (if p < T.length then 0 else 1)), σ) := by
  obtain ⟨⟨a, b, c, d⟩, e, g⟩ := h
  rw [e_X8_ended, a, e]
  by_cases w : p < T.length
  · rw [if_pos (by rw [z_lt ⟨by omega, by omega⟩ ⟨by omega, by omega⟩]; omega), if_pos w]
  · rw [if_neg (by rw [z_lt ⟨by omega, by omega⟩ ⟨by omega, by omega⟩]; omega), if_neg w]
theorem c_sig (h : cR σ T p) (w : p < T.length) : σ.1 2 0 (nZ p).toNatClampNeg = nZ (tA T p) ∧ gb_in (nZ p) 200 = true := by
  obtain ⟨⟨a, b, c, d⟩, e, g⟩ := h
  refine ⟨?_, z_in (by omega)⟩
  rw [z_tn (by omega), Int.toNat_natCast, c p w]
  unfold tA
  rw [if_pos w]
theorem p_takes_t (h : cR σ T p) {c : Int} (hc : 0 ≤ c ∧ c ≤ 255) (e : tA T p = c) : ∃ σ', f_X8_takes [gR 1 0, gI (nZ c)] σ = some (some (gI 1), σ') ∧ cR σ' T (p + 1) ∧ gb_fP (fun k => k = 1) σ σ' := by
  obtain ⟨hr, h200⟩ := cR_t h
  have hp := (tA_r hr p).2.2 (by omega)
  obtain ⟨s1, s2⟩ := c_sig h hp
  obtain ⟨g1, g2⟩ := cR_at h (q := p + 1) (by omega)
  refine ⟨_, ?_, g1, g2⟩
  rw [e_X8_takes, p_ended h, if_pos hp, g_b1, e00, h.2.1, g_gd s2, s1, e, if_pos rfl, zs]
theorem p_takes_f (h : cR σ T p) {c : Int} (hc : 0 ≤ c ∧ c ≤ 255) (e : ¬ tA T p = c) : f_X8_takes [gR 1 0, gI (nZ c)] σ = some (some (gI 0), σ) := by
  obtain ⟨hr, h200⟩ := cR_t h
  rw [e_X8_takes, p_ended h, g_b1]
  by_cases hp : p < T.length
  · obtain ⟨s1, s2⟩ := c_sig h hp
    have := tA_r hr p
    rw [if_pos hp, e00, h.2.1, g_gd s2, s1, if_neg (by rw [z_eq ⟨by omega, by omega⟩ ⟨by omega, by omega⟩]; exact e)]
  · rw [if_neg hp, e10]
theorem nn_r {P : Nat → Bool} {d : Nat} (h : nn T P p = some d) : d < 6 ∧ tA T p = 48 + d ∧ P d = false := by
  unfold nn at h
  by_cases c : 48 ≤ tA T p ∧ tA T p < 54 ∧ P (tA T p - 48).toNat = false
  · rw [if_pos c] at h
    cases h
    exact ⟨by omega, by omega, c.2.2⟩
  · rw [if_neg c] at h
    cases h
theorem p_nn_t (h : cR σ T p) {P : Nat → Bool} {d : Nat} (e : nn T P p = some d) : ∃ σ', f_X8_newNumber [gR 1 0, gI (bm 6 P)] σ = some (some (gI (nZ d)), σ') ∧ cR σ' T (p + 1) ∧ gb_fP (fun k => k = 1) σ σ' := by
  obtain ⟨hr, h200⟩ := cR_t h
  obtain ⟨d1, d2, d3⟩ := nn_r e
  have hp := (tA_r hr p).2.2 (by omega)
  obtain ⟨s1, s2⟩ := c_sig h hp
  obtain ⟨g1, g2⟩ := cR_at h (q := p + 1) (by omega)
  refine ⟨_, ?_, g1, g2⟩
  have ed : nZ (48 + (d : Int)) - 48 = nZ d := by rw [z48, z_sub]; exact congrArg nZ (by omega)
  have hb : (bm 6 P &&& (1 <<< (nZ d &&& 31)) = 0) = (P d = false) := bm_has P d1
  rw [e_X8_newNumber, p_ended h, if_pos hp, g_b1, e00, h.2.1, g_gd s2, s1, d2, if_neg (by rw [z48, z_lt ⟨by omega, by omega⟩ ⟨by omega, by omega⟩]; omega), g_gd s2, if_pos (by rw [show (54 : Int32) = nZ 54 from rfl, z_lt ⟨by omega, by omega⟩ ⟨by omega, by omega⟩]; omega), g_gd s2, ed, if_pos (by rw [hb]; exact d3), zs]
theorem p_nn_f (h : cR σ T p) {P : Nat → Bool} (e : nn T P p = none) : f_X8_newNumber [gR 1 0, gI (bm 6 P)] σ = some (some (gI (-1)), σ) := by
  obtain ⟨hr, h200⟩ := cR_t h
  rw [e_X8_newNumber, p_ended h, g_b1]
  by_cases hp : p < T.length
  · obtain ⟨s1, s2⟩ := c_sig h hp
    have ht := tA_r hr p
    rw [if_pos hp, e00, h.2.1, g_gd s2, s1]
    by_cases c1 : tA T p < 48
    · rw [if_pos (by rw [z48, z_lt ⟨by omega, by omega⟩ ⟨by omega, by omega⟩]; omega)]
    · rw [if_neg (by rw [z48, z_lt ⟨by omega, by omega⟩ ⟨by omega, by omega⟩]; omega), g_gd s2]
      by_cases c2 : tA T p < 54
      · have ed : nZ (tA T p) - 48 = nZ (tA T p - 48).toNat := by rw [z48, z_sub]; exact congrArg nZ (by omega)
        have hb : (bm 6 P &&& (1 <<< (nZ (tA T p - 48).toNat &&& 31)) = 0) = (P (tA T p - 48).toNat = false) := bm_has P (by omega)
        have hn : ¬ P (tA T p - 48).toNat = false := fun z => by
          unfold nn at e
          rw [if_pos ⟨by omega, c2, z⟩] at e
          cases e
        rw [if_pos (by rw [show (54 : Int32) = nZ 54 from rfl, z_lt ⟨by omega, by omega⟩ ⟨by omega, by omega⟩]; omega), g_gd s2, ed, if_neg (by rw [hb]; exact hn)]
      · rw [if_neg (by rw [show (54 : Int32) = nZ 54 from rfl, z_lt ⟨by omega, by omega⟩ ⟨by omega, by omega⟩]; omega)]
  · rw [if_neg hp, e10]
theorem bm_none : bm 6 (fun _ => false) = 0 := bm_no (fun _ _ => rfl)
theorem p_digit (h : cR σ T p) {v : Int} {d : Nat} (hv : 0 ≤ v ∧ v ≤ 999) (hd : d ≤ 3) : f_X8_digitFits [gR 1 0, gI (nZ v), gI (nZ d)] σ = some (some (gI (if (d = 0 ∨ v ≠ 0) ∧ 48 ≤ tA T p ∧ tA T p ≤ 57 then 1 else 0)), σ) := by
  obtain ⟨hr, h200⟩ := cR_t h
  have z57 : (57 : Int32) = nZ 57 := rfl
  have ht := tA_r hr p
  have tail : ¬ (d ≠ 0 ∧ v = 0) → gb_b1 (f_X8_ended [gR 1 0] σ) (fun x6 s5 => if x6 = 0 then
        (gb_gd (gb_in (s5.1 1 0 2) 200) (if s5.1 2 0 (s5.1 1 0 2).toNatClampNeg < 48 then
            some (some (gI 0), s5)
          else
            gb_gd (gb_in (s5.1 1 0 2) 200) (if 57 < s5.1 2 0 (s5.1 1 0 2).toNatClampNeg then some (some (gI 0), s5) else some (some (gI 1), s5))))
      else
        some (some (gI 0), s5)) = some (some (gI (if (d = 0 ∨ v ≠ 0) ∧ 48 ≤ tA T p ∧ tA T p ≤ 57 then 1 else 0)), σ) := by
    intro hn
    rw [p_ended h, g_b1]
    by_cases hp : p < T.length
    · obtain ⟨s1, s2⟩ := c_sig h hp
      rw [if_pos hp, e00, h.2.1, g_gd s2, s1]
      by_cases c1 : tA T p < 48
      · rw [if_pos (by rw [z48, z_lt ⟨by omega, by omega⟩ ⟨by omega, by omega⟩]; omega), if_neg (by omega)]
      · rw [if_neg (by rw [z48, z_lt ⟨by omega, by omega⟩ ⟨by omega, by omega⟩]; omega), g_gd s2]
        by_cases c2 : 57 < tA T p
        · rw [if_pos (by rw [z57, z_lt ⟨by omega, by omega⟩ ⟨by omega, by omega⟩]; omega), if_neg (by omega)]
        · rw [if_neg (by rw [z57, z_lt ⟨by omega, by omega⟩ ⟨by omega, by omega⟩]; omega), if_pos (by omega)]
    · have : ¬ 0 ≤ tA T p := fun z => hp (ht.2.2 z)
      rw [if_neg hp, e10, if_neg (by omega)]
  rw [e_X8_digitFits]
  by_cases c0 : d = 0
  · rw [if_pos (by rw [z0, z_le ⟨by omega, by omega⟩ ⟨by omega, by omega⟩]; omega)]
    exact tail (by omega)
  · rw [if_neg (by rw [z0, z_le ⟨by omega, by omega⟩ ⟨by omega, by omega⟩]; omega)]
    by_cases c1 : v = 0
    · rw [if_pos (by rw [c1]; rfl), p_ended h, g_b1, if_neg (show ¬ ((d = 0 ∨ v ≠ 0) ∧ 48 ≤ tA T p ∧ tA T p ≤ 57) by omega)]
      by_cases hp : p < T.length
      · rw [if_pos hp, e00]; exact if_neg (by decide)
      · rw [if_neg hp, e10]
    · rw [if_neg (by rw [z0, z_eq ⟨by omega, by omega⟩ ⟨by omega, by omega⟩]; exact c1)]
      exact tail (by omega)
def nE (o : Option Int) : Int := match o with
  | none => -1
  | some v => v
theorem p_fin (h : cR σ T p) {lo hi v : Int} {d : Nat} (hl : 0 ≤ lo ∧ lo ≤ 1) (hh : 0 ≤ hi ∧ hi ≤ 999) (hv : 0 ≤ v ∧ v ≤ 999) (hd : d ≤ 3) (hdp : d ≤ p) : ∃ σ', (if nZ d = 0 then
      some (some (gI (-1)), σ)
    else
      if nZ v < nZ lo then
        some (some (gI (-1)), gb_si σ 1 0 2 ((σ.1 1 0 2) - 1))
      else
        if nZ v ≤ nZ hi then some (some (gI (nZ v)), σ) else some (some (gI (-1)), gb_si σ 1 0 2 ((σ.1 1 0 2) - 1))) = some (some (gI (nZ (nE (nf lo hi (v, d, p)).1))), σ') ∧ cR σ' T (nf lo hi (v, d, p)).2 ∧ gb_fP (fun k => k = 1) σ σ' := by
  obtain ⟨hr, h200⟩ := cR_t h
  have hpl := h.2.2
  unfold nf
  by_cases c0 : d = 0
  · rw [if_pos (by rw [c0]; rfl), if_pos c0]
    exact ⟨σ, rfl, h, fP_rf⟩
  rw [if_neg (by rw [z0, z_eq ⟨by omega, by omega⟩ ⟨by omega, by omega⟩]; omega), if_neg c0]
  obtain ⟨g1, g2⟩ := cR_at h (q := p - 1) (by omega)
  have ep : nZ p - 1 = nZ (p - 1 : Nat) := by rw [z1, z_sub]; exact congrArg nZ (by omega)
  rw [h.2.1, ep]
  by_cases c1 : v < lo
  · rw [if_pos (by rw [z_lt ⟨by omega, by omega⟩ ⟨by omega, by omega⟩]; exact c1), if_neg (show ¬ (lo ≤ v ∧ v ≤ hi) by omega)]
    exact ⟨_, rfl, g1, g2⟩
  · rw [if_neg (by rw [z_lt ⟨by omega, by omega⟩ ⟨by omega, by omega⟩]; exact c1)]
    by_cases c2 : v ≤ hi
    · rw [if_pos (by rw [z_le ⟨by omega, by omega⟩ ⟨by omega, by omega⟩]; exact c2), if_pos (show lo ≤ v ∧ v ≤ hi by omega)]
      exact ⟨σ, rfl, h, fP_rf⟩
    · rw [if_neg (by rw [z_le ⟨by omega, by omega⟩ ⟨by omega, by omega⟩]; exact c2), if_neg (show ¬ (lo ≤ v ∧ v ≤ hi) by omega)]
      exact ⟨_, rfl, g1, g2⟩
end RC1
theorem rmv_s (k : Nat) (hk : k < 3) : ¬ (nZ (rmv (k + 1)) ≤ 0) ∧ nZ (rmv (k + 1)) / 10 = nZ (rmv k) := by
  have : k = 0 ∨ k = 1 ∨ k = 2 := by omega
  rcases this with rfl | rfl | rfl <;> decide
theorem bnd_s (k : Nat) (hk : k < 3) : 10 * bnd (k + 1) + 9 ≤ bnd k ∧ bnd (k + 1) ≤ 999 ∧ bnd k ≤ 999 := by
  have : k = 0 ∨ k = 1 ∨ k = 2 := by omega
  rcases this with rfl | rfl | rfl <;> decide
theorem p_dg {T : List Int} {lo hi : Int} (hl : 0 ≤ lo ∧ lo ≤ 1) (hh : 0 ≤ hi ∧ hi ≤ 999) : ∀ k, k ≤ 3 → ∀ (σ : gb_M) (v : Int) (d p : Nat), cR σ T p → 0 ≤ v → v ≤ bnd k → d ≤ 3 - k → d ≤ p → ∃ σ', j_X8_number_8 (nZ lo) (nZ hi) (nZ v) (nZ d) (nZ (rmv k)) σ = some (some (gI (nZ (nE (nf lo hi (dg T k v d p)).1))), σ') ∧ cR σ' T (nf lo hi (dg T k v d p)).2 ∧ gb_fP (fun k => k = 1) σ σ'
  | 0, _, σ, v, d, p, h, hv, hb, hd, hdp => by
    rw [e_X8_number_8, if_pos (by decide)]
    exact p_fin h hl hh ⟨hv, hb⟩ (by omega) hdp
  | k + 1, hk, σ, v, d, p, h, hv, hb, hd, hdp => by
    obtain ⟨r1, r2⟩ := rmv_s k (by omega)
    obtain ⟨b1, b2, b3⟩ := bnd_s k (by omega)
    obtain ⟨hr, h200⟩ := cR_t h
    rw [e_X8_number_8, if_neg r1, p_digit h (by omega) (by omega), g_b1, r2]
    unfold dg
    by_cases c : (d = 0 ∨ v ≠ 0) ∧ 48 ≤ tA T p ∧ tA T p ≤ 57
    · have hp := (tA_r hr p).2.2 (by omega)
      obtain ⟨s1, s2⟩ := c_sig h hp
      obtain ⟨g1, g2⟩ := cR_at h (q := p + 1) (by omega)
      rw [if_pos c, e10, if_pos c, h.2.1, g_gd s2, s1, z10, z_mul, z_add, z48, z_sub, zs, zs]
      obtain ⟨σ', i1, i2, i3⟩ := p_dg hl hh k (by omega) _ (10 * v + tA T p - 48) (d + 1) (p + 1) g1 (by omega) (by omega) (by omega) (by omega)
      exact ⟨σ', i1, i2, fP_tr g2 i3⟩
    · rw [if_neg c, e00, if_neg c]
      exact p_fin h hl hh (by omega) (by omega) hdp
theorem p_number {σ : gb_M} {T : List Int} {p : Nat} (h : cR σ T p) {lo hi : Int} (hl : 0 ≤ lo ∧ lo ≤ 1) {k : Nat} (hk : k = 2 ∨ k = 3) (e : hi = rmv k) : ∃ σ', f_X8_number [gR 1 0, gI (nZ lo), gI (nZ hi)] σ = some (some (gI (nZ (nE (nm T lo hi k p).1))), σ') ∧ cR σ' T (nm T lo hi k p).2 ∧ gb_fP (fun k => k = 1) σ σ' := by
  have hh : 0 ≤ hi ∧ hi ≤ 999 := by rcases hk with rfl | rfl <;> rw [e] <;> decide
  have hb : (0 : Int) ≤ bnd k := by rcases hk with rfl | rfl <;> decide
  obtain ⟨σ', a, b, c⟩ := p_dg hl hh k (by omega) σ 0 0 p h (by omega) hb (by omega) (by omega)
  rw [← e] at a
  exact ⟨σ', by rw [e_X8_number]; exact a, b, c⟩
theorem nmv_r {T : List Int} {lo hi : Int} {k p : Nat} {v : Int} (h : (nm T lo hi k p).1 = some v) : lo ≤ v ∧ v ≤ hi := by
  unfold nm nf at h
  by_cases c0 : (dg T k 0 0 p).2.1 = 0
  · rw [if_pos c0] at h; cases h
  · rw [if_neg c0] at h
    by_cases c1 : lo ≤ (dg T k 0 0 p).1 ∧ (dg T k 0 0 p).1 ≤ hi
    · rw [if_pos c1] at h; cases h; exact c1
    · rw [if_neg c1] at h; cases h
theorem nm_p {T : List Int} {lo hi : Int} {k p : Nat} : p ≤ (nm T lo hi k p).2 := by
  have h := dg_p (T := T) k 0 0 p (by omega)
  unfold nm nf
  by_cases c0 : (dg T k 0 0 p).2.1 = 0
  · rw [if_pos c0]; exact h.2
  · rw [if_neg c0]
    by_cases c1 : lo ≤ (dg T k 0 0 p).1 ∧ (dg T k 0 0 p).1 ≤ hi
    · rw [if_pos c1]; exact h.2
    · rw [if_neg c1]
      show p ≤ (dg T k 0 0 p).2.2 - 1
      have key : ∀ k v d q, p + d ≤ q → p + (dg T k v d q).2.1 ≤ (dg T k v d q).2.2 := by
        intro k
        induction k with
        | zero => intro v d q hq; exact hq
        | succ k ih =>
          intro v d q hq
          unfold dg
          split
          · exact ih _ _ _ (by omega)
          · exact hq
      have := key k 0 0 p (by omega)
      omega
