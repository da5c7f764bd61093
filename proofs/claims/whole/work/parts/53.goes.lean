/-! GOES: the reference -/
section GOES
variable {σ : gb_M} {s : gb_St} {b : Nat}
theorem m_manyr (σ : gb_M) (hb : b < 6) : f_X10_many [gR 36 0, gI (nZ b)] σ = some (some (gI (σ.1 37 0 (60 + (b : Int)).toNat)), σ) := by
  rw [e_X10_many]
  simp (disch := omega) only [z0, z1, z2, z3, z4, z5, z6, z12, z18, z48, z54, z60, z66, z174, z175, z_neg, z_add, z_sub, z_mul, z_tn, g_in, g_b0, g_b1, Int.toNat_natCast, z_le, z_lt, z_eq, z_mx, z_mn, if_pos, if_neg, if_true, if_false]
theorem m_shift (σ : gb_M) (hb : b < 6) {n : Nat} (hn : n < 6) (h60 : σ.1 37 0 (60 + (b : Int)).toNat = nZ n) (v : Int32) : ∃ σ', j_X10_goes_181 (nZ b) v (nZ (0 : Nat)) σ = j_X10_goes_12 (nZ b) v σ' ∧ gb_fP (fun k => k = 37) σ σ' ∧ (∀ x, (x < 66 + 18 * b ∨ 84 + 18 * b ≤ x) → σ'.1 37 0 x = σ.1 37 0 x) ∧ ∀ k c : Nat, k < n → c < 3 → σ'.1 37 0 (66 + 18 * (b : Int) + 3 * (k : Int) + (c : Int)).toNat = σ.1 37 0 (66 + 18 * (b : Int) + 3 * ((k + 1 : Nat) : Int) + (c : Int)).toNat := by
  obtain ⟨τ, h1, f, t1, t2, t3⟩ := lph (n := n) (σ := σ) (fun i τ => j_X10_goes_181 (nZ b) v (nZ i) τ) (fun i τ => gb_fP (fun k => k = 37) σ τ ∧ (∀ x, (x < 66 + 18 * b ∨ 84 + 18 * b ≤ x) → τ.1 37 0 x = σ.1 37 0 x) ∧ (∀ k c : Nat, k < i → c < 3 → τ.1 37 0 (66 + 18 * (b : Int) + 3 * (k : Int) + (c : Int)).toNat = σ.1 37 0 (66 + 18 * (b : Int) + 3 * ((k + 1 : Nat) : Int) + (c : Int)).toNat) ∧ (∀ x, 66 + 18 * b + 3 * i ≤ x → τ.1 37 0 x = σ.1 37 0 x))
    ⟨fP_rf, fun _ _ => rfl, fun k c hk => by omega, fun _ _ => rfl⟩ (by
    intro i hi τ ⟨f, t1, t2, t3⟩
    have e60 : τ.1 37 0 (60 + (b : Int)).toNat = nZ n := by rw [t1 _ (by omega)]; exact h60
    have l0 := m_lr τ hb (i := i + 1) (by omega) (c := 0) (by omega)
    have l1 := m_lr τ hb (i := i + 1) (by omega) (c := 1) (by omega)
    have l2 := m_lr τ hb (i := i + 1) (by omega) (c := 2) (by omega)
    rw [show ((0 : Nat) : Int) = 0 from rfl] at l0
    rw [show ((1 : Nat) : Int) = 1 from rfl] at l1
    rw [show ((2 : Nat) : Int) = 2 from rfl] at l2
    simp only [Int.natCast_add, Int.natCast_one] at l0 l1 l2
    refine ⟨gb_si (gb_si (gb_si τ 37 0 (66 + 18 * (b : Int) + 3 * (i : Int) + 0).toNat (σ.1 37 0 (66 + 18 * (b : Int) + 3 * ((i : Int) + 1) + 0).toNat)) 37 0 (66 + 18 * (b : Int) + 3 * (i : Int) + 1).toNat (σ.1 37 0 (66 + 18 * (b : Int) + 3 * ((i : Int) + 1) + 1).toNat)) 37 0 (66 + 18 * (b : Int) + 3 * (i : Int) + 2).toNat (σ.1 37 0 (66 + 18 * (b : Int) + 3 * ((i : Int) + 1) + 2).toNat), ?_, fP_si (fP_si (fP_si f rfl) rfl) rfl, fun x hx => ?_, fun k c hk hc => ?_, fun x hx => ?_⟩
    · show j_X10_goes_181 _ _ _ _ = _
      rw [e_X10_goes_181]
      simp (disch := omega) only [z0, z1, z2, z3, z4, z5, z6, z12, z18, z48, z54, z60, z66, z174, z175, z_neg, z_add, z_sub, z_mul, z_tn, g_in, g_b0, g_b1, Int.toNat_natCast, z_le, z_lt, z_eq, z_mx, z_mn, if_pos, if_neg, if_true, if_false, m_manyr τ hb, e60, l0, l1, l2, m_sets τ hb (i := i) (by omega), t3, Int.natCast_add, Int.natCast_one]
    · simp (disch := omega) only [si_i]; exact t1 x hx
    · by_cases e : k = i
      · subst e
        have : c = 0 ∨ c = 1 ∨ c = 2 := by omega
        rcases this with rfl | rfl | rfl
        · simp (disch := omega) only [si_i, si_s, Int.natCast_add, Int.natCast_one, show ((0 : Nat) : Int) = 0 from rfl]
        · simp (disch := omega) only [si_i, si_s, Int.natCast_add, Int.natCast_one]
        · simp (disch := omega) only [si_s, Int.natCast_add, Int.natCast_one, show ((2 : Nat) : Int) = 2 from rfl]
      · simp (disch := omega) only [si_i]
        exact t2 k c (by omega) hc
    · simp (disch := omega) only [si_i]; exact t3 x (by omega))
  refine ⟨τ, ?_, f, t1, t2⟩
  have e60 : τ.1 37 0 (60 + (b : Int)).toNat = nZ n := by rw [t1 _ (by omega)]; exact h60
  rw [h1, e_X10_goes_181]
  simp (disch := omega) only [z0, z1, z2, z3, z4, z5, z6, z12, z18, z48, z54, z60, z66, z174, z175, z_neg, z_add, z_sub, z_mul, z_tn, g_in, g_b0, g_b1, Int.toNat_natCast, z_le, z_lt, z_eq, z_mx, z_mn, if_pos, if_neg, if_true, if_false, m_manyr τ hb, e60]
/-- one layer, or a part of it, is told as gone -/
def gTold (σ : gb_M) (m : Nat) (u : Int) (l : gb_Ly) (n : Int) : gb_M := gb_si (gb_si (gb_si (gb_si (gb_si σ 36 0 15 (nZ u)) 43 0 m (nZ l.1)) 44 0 m (nZ n)) 45 0 m (nZ l.2.2)) 36 0 14 (nZ (m + 1))
theorem gTold_f {m : Nat} {u : Int} {l : gb_Ly} {n : Int} : gb_fP (fun k => k = 36 ∨ (43 ≤ k ∧ k ≤ 45)) σ (gTold σ m u l n) := fP_si (fP_si (fP_si (fP_si (fP_si fP_rf (by omega)) (by omega)) (by omega)) (by omega)) (by omega)
theorem m_goes1 (hM : gb_MM σ s) (hb : b < 6) {l : gb_Ly} {L : List gb_Ly} (hL : sB s b = l :: L) {t : Int} (ht : 0 < t) {m : Nat} (hm : m < 6) (h14 : σ.1 36 0 14 = nZ m) {q : Int} (hq : m ≠ 0 → σ.1 36 0 15 = nZ q ∧ 0 ≤ q ∧ q ≤ 999) (ht2 : t ≤ 99) :
    (l.2.1 ≤ t → j_X10_goes_12 (nZ b) (nZ t) σ = j_X10_goes_181 (nZ b) (nZ (t - l.2.1)) (nZ (0 : Nat)) (gb_si (gTold σ m (if m = 0 then sU s (sY s) l else min q (sU s (sY s) l)) l l.2.1) 37 0 (60 + (b : Int)).toNat (nZ L.length))) ∧
    (t < l.2.1 → j_X10_goes_12 (nZ b) (nZ t) σ = j_X10_goes_12 (nZ b) (nZ 0) (gb_si (gb_si (gb_si (gTold σ m (if m = 0 then sU s (sY s) l else min q (sU s (sY s) l)) l t) 37 0 (66 + 18 * (b : Int) + 3 * ((0 : Nat) : Int) + 0).toNat (nZ l.1)) 37 0 (66 + 18 * (b : Int) + 3 * ((0 : Nat) : Int) + 1).toNat (nZ (l.2.1 - t))) 37 0 (66 + 18 * (b : Int) + 3 * ((0 : Nat) : Int) + 2).toNat (nZ l.2.2))) := by
  obtain ⟨⟨mW, mK, mO, mC, mP, mN, mL, mY, mQ⟩, iw, ik, io, ic, ip, il, id⟩ := id hM
  obtain ⟨y1, y2, q1, q2⟩ := id
  simp only [Nat.zero_add] at mW mK mO mC mP mN mL mY mQ
  have hlen := (il b hb).1
  have hpos : 0 < (sB s b).length := by rw [hL]; simp
  have hz : lz (sB s b) 0 = l := by rw [hL]; rfl
  have g := mL b 0 hb hpos
  have hu := m_unit hM hb hpos
  have hur := sU_r (on := sY s) iw (lz_ok il hb hpos)
  obtain ⟨l1, l2, l3, l4, l5⟩ := lz_ok il hb hpos
  have h60 := mN b hb
  rw [show (sB s b).length = L.length + 1 by rw [hL]; rfl] at h60
  rw [hz] at g hu hur l1 l2 l3 l4 l5
  rw [show ((0 : Nat) : Int) = 0 from rfl] at g hu
  obtain ⟨g1, g2, g3⟩ := g
  have k0 : ∀ τ : gb_M, f_X10_layerOf [gR 36 0, gI (nZ b), gI (nZ 0), gI (nZ 0)] τ = some (some (gI (τ.1 37 0 (66 + 18 * (b : Int) + 3 * 0 + 0).toNat)), τ) := fun τ => m_lr τ hb (i := 0) (by omega) (c := 0) (by omega)
  have k1 : ∀ τ : gb_M, f_X10_layerOf [gR 36 0, gI (nZ b), gI (nZ 0), gI (nZ 1)] τ = some (some (gI (τ.1 37 0 (66 + 18 * (b : Int) + 3 * 0 + 1).toNat)), τ) := fun τ => m_lr τ hb (i := 0) (by omega) (c := 1) (by omega)
  have k2 : ∀ τ : gb_M, f_X10_layerOf [gR 36 0, gI (nZ b), gI (nZ 0), gI (nZ 2)] τ = some (some (gI (τ.1 37 0 (66 + 18 * (b : Int) + 3 * 0 + 2).toNat)), τ) := fun τ => m_lr τ hb (i := 0) (by omega) (c := 2) (by omega)
  have ks : ∀ (τ : gb_M) (x y z : Int32), f_X10_sets [gR 36 0, gI (nZ b), gI (nZ 0), gI x, gI y, gI z] τ = some (none, gb_si (gb_si (gb_si τ 37 0 (66 + 18 * (b : Int) + 3 * 0 + 0).toNat x) 37 0 (66 + 18 * (b : Int) + 3 * 0 + 1).toNat y) 37 0 (66 + 18 * (b : Int) + 3 * 0 + 2).toNat z) := fun τ x y z => m_sets τ hb (i := 0) (by omega) x y z
  by_cases e : m = 0
  · subst e
    rw [show ((0 : Nat) : Int) = 0 from rfl] at h14
    refine ⟨fun hc => ?_, fun hc => ?_⟩
    · rw [e_X10_goes_12]
      have em : min t l.2.1 = l.2.1 := by omega
      unfold gTold
      simp (disch := omega) only [z0, z1, z2, z60, z_le, z_lt, z_eq, if_neg, if_true, k0, k1, k2, g_b1, hu, h14, si_k, si_i, si_s, g1, g2, g3, g_in, z_tn, show (0 : Int).toNat = 0 from rfl, z_mn, em, z_add, z_sub, h60, Int.natCast_add, Int.natCast_one, Int.add_sub_cancel, if_pos, show ((0 : Nat) : Int) = 0 from rfl]
    · rw [e_X10_goes_12]
      have em : min t l.2.1 = t := by omega
      unfold gTold
      simp (disch := omega) only [z0, z1, z2, z60, z_le, z_lt, z_eq, if_neg, if_true, k0, k1, k2, ks, g_b0, g_b1, hu, h14, si_k, si_i, si_s, g1, g2, g3, g_in, z_tn, show (0 : Int).toNat = 0 from rfl, z_mn, em, z_add, z_sub, Int.sub_self, show ((0 : Nat) : Int) = 0 from rfl]
  · obtain ⟨q1, q2, q3⟩ := hq e
    refine ⟨fun hc => ?_, fun hc => ?_⟩
    · rw [e_X10_goes_12, if_neg e]
      have em : min t l.2.1 = l.2.1 := by omega
      unfold gTold
      simp (disch := omega) only [z0, z1, z2, z60, z_le, z_lt, z_eq, if_neg, k0, k1, k2, g_b1, hu, h14, q1, si_k, si_i, si_s, g1, g2, g3, g_in, z_tn, Int.toNat_natCast, z_mn, em, z_add, z_sub, h60, Int.natCast_add, Int.natCast_one, Int.add_sub_cancel, if_pos, show ((0 : Nat) : Int) = 0 from rfl]
    · rw [e_X10_goes_12, if_neg e]
      have em : min t l.2.1 = t := by omega
      unfold gTold
      simp (disch := omega) only [z0, z1, z2, z60, z_le, z_lt, z_eq, if_neg, k0, k1, k2, ks, g_b0, g_b1, hu, h14, q1, si_k, si_i, si_s, g1, g2, g3, g_in, z_tn, Int.toNat_natCast, z_mn, em, z_add, z_sub, Int.sub_self, show ((0 : Nat) : Int) = 0 from rfl]
theorem m_goes12 (hb : b < 6) : ∀ (L : List gb_Ly) (s : gb_St) (σ : gb_M) (t : Int) (m : Nat) (q : Int), gb_MM σ s → sB s b = L → 0 ≤ t → t ≤ lT L → m + L.length ≤ 6 → σ.1 36 0 14 = nZ m → (m ≠ 0 → σ.1 36 0 15 = nZ q ∧ 0 ≤ q ∧ q ≤ 999) →
    ∃ σ', j_X10_goes_12 (nZ b) (nZ t) σ = some (none, σ') ∧ gb_MM σ' (setB s b (tk L t)) ∧ gb_fP (fun k => k = 36 ∨ k = 37 ∨ (43 ≤ k ∧ k ≤ 45)) σ σ' ∧ (∀ x, x ≠ 14 → x ≠ 15 → σ'.1 36 0 x = σ.1 36 0 x) ∧ σ'.1 36 0 14 = nZ (m + (pk L t).length : Nat) ∧ σ'.1 36 0 15 = (if t ≤ 0 then σ.1 36 0 15 else nZ (if m = 0 then mnU s (sY s) L t else min q (mnU s (sY s) L t))) ∧
      (∀ i, i < m → σ'.1 43 0 i = σ.1 43 0 i ∧ σ'.1 44 0 i = σ.1 44 0 i ∧ σ'.1 45 0 i = σ.1 45 0 i) ∧ (∀ i, i < (pk L t).length → σ'.1 43 0 (m + i) = nZ (lz (pk L t) i).1 ∧ σ'.1 44 0 (m + i) = nZ (lz (pk L t) i).2.1 ∧ σ'.1 45 0 (m + i) = nZ (lz (pk L t) i).2.2) := by
  intro L
  have stop : ∀ (s : gb_St) (σ : gb_M) (m : Nat) (q : Int) (L : List gb_Ly), gb_MM σ s → sB s b = L → (∀ l ∈ L, okL l) → σ.1 36 0 14 = nZ m → pk L 0 = [] → ∃ σ', j_X10_goes_12 (nZ b) (nZ 0) σ = some (none, σ') ∧ gb_MM σ' (setB s b (tk L 0)) ∧ gb_fP (fun k => k = 36 ∨ k = 37 ∨ (43 ≤ k ∧ k ≤ 45)) σ σ' ∧ (∀ x, x ≠ 14 → x ≠ 15 → σ'.1 36 0 x = σ.1 36 0 x) ∧ σ'.1 36 0 14 = nZ (m + (pk L 0).length : Nat) ∧ σ'.1 36 0 15 = (if (0 : Int) ≤ 0 then σ.1 36 0 15 else nZ (if m = 0 then mnU s (sY s) L 0 else min q (mnU s (sY s) L 0))) ∧
      (∀ i, i < m → σ'.1 43 0 i = σ.1 43 0 i ∧ σ'.1 44 0 i = σ.1 44 0 i ∧ σ'.1 45 0 i = σ.1 45 0 i) ∧ (∀ i, i < (pk L 0).length → σ'.1 43 0 (m + i) = nZ (lz (pk L 0) i).1 ∧ σ'.1 44 0 (m + i) = nZ (lz (pk L 0) i).2.1 ∧ σ'.1 45 0 (m + i) = nZ (lz (pk L 0) i).2.2) := by
    intro s σ m q L hM hL hok h14 hp
    refine ⟨σ, ?_, ?_, fP_rf, fun _ _ _ => rfl, by rw [hp]; exact h14, by rw [if_pos (Int.le_refl 0)], fun _ _ => ⟨rfl, rfl, rfl⟩, fun i hi => by rw [hp] at hi; cases hi⟩
    · rw [e_X10_goes_12]
      simp (disch := omega) only [z0, z1, z2, z3, z4, z5, z6, z12, z18, z48, z54, z60, z66, z174, z175, z_neg, z_add, z_sub, z_mul, z_tn, g_in, g_b0, g_b1, Int.toNat_natCast, z_le, z_lt, z_eq, z_mx, z_mn, if_pos, if_neg, if_true, if_false]
    · rw [tk_0 hok (Int.le_refl 0), ← hL, setB_id]; exact hM
  induction L with
  | nil =>
    intro s σ t m q hM hL ht ht2 hm h14 hq
    have : t = 0 := by have : lT [] = 0 := rfl; omega
    subst this
    exact stop s σ m q [] hM hL (fun l hl => by cases hl) h14 rfl
  | cons l L ih =>
    intro s σ t m q hM hL ht ht2 hm h14 hq
    have hI := hM.2
    have il := hI.2.2.2.2.2.1
    have hok : ∀ x ∈ l :: L, okL x := by rw [← hL]; exact (il b hb).2.2
    have hokL : ∀ x ∈ L, okL x := fun x hx => hok x (List.mem_cons_of_mem _ hx)
    have hT99 : lT (l :: L) ≤ 99 := by rw [← hL]; exact (il b hb).2.1
    have hl := hok l List.mem_cons_self
    have hl2 := hl.2.1
    have hlen : (l :: L).length = L.length + 1 := rfl
    have hTL := lT_nn hokL
    have hur := sU_r (on := sY s) hI.1 hl
    rw [lT_c] at ht2 hT99
    by_cases ht0 : t ≤ 0
    · have : t = 0 := by omega
      subst this
      exact stop s σ m q (l :: L) hM hL hok h14 (by unfold pk; rw [if_pos (Int.le_refl 0)])
    obtain ⟨hpop, hpart⟩ := m_goes1 hM hb hL (t := t) (by omega) (m := m) (by omega) h14 hq (by omega)
    generalize hu : (if m = 0 then sU s (sY s) l else min q (sU s (sY s) l)) = u at hpop hpart
    have hur2 : 0 ≤ u ∧ u ≤ 999 := by
      rw [← hu]
      by_cases e : m = 0
      · rw [if_pos e]; exact hur
      · rw [if_neg e]; have := hq e; omega
    have hpk : pk (l :: L) t = (l.1, min t l.2.1, l.2.2) :: pk L (t - l.2.1) := by
      show (if t ≤ 0 then [] else _) = _
      rw [if_neg ht0]
    have hmn : mnU s (sY s) (l :: L) t = min (sU s (sY s) l) (mnU s (sY s) L (t - l.2.1)) := by
      show (if t ≤ 0 then 999 else _) = _
      rw [if_neg ht0]
    have told : ∀ n : Int, (gTold σ m u l n).1 36 0 14 = nZ (m + 1 : Nat) ∧ (gTold σ m u l n).1 36 0 15 = nZ u ∧ (∀ x, x ≠ 14 → x ≠ 15 → (gTold σ m u l n).1 36 0 x = σ.1 36 0 x) ∧ (∀ i, i < m → (gTold σ m u l n).1 43 0 i = σ.1 43 0 i ∧ (gTold σ m u l n).1 44 0 i = σ.1 44 0 i ∧ (gTold σ m u l n).1 45 0 i = σ.1 45 0 i) ∧ (gTold σ m u l n).1 43 0 m = nZ l.1 ∧ (gTold σ m u l n).1 44 0 m = nZ n ∧ (gTold σ m u l n).1 45 0 m = nZ l.2.2 ∧ (∀ x, (gTold σ m u l n).1 37 0 x = σ.1 37 0 x) := by
      intro n
      unfold gTold
      refine ⟨by simp only [si_s]; rfl, by simp (disch := omega) only [si_i, si_k, si_s], fun x h1 h2 => by simp (disch := omega) only [si_i, si_k], fun i hi => by simp (disch := omega) only [si_i, si_k, and_self], by simp (disch := omega) only [si_k, si_s], by simp (disch := omega) only [si_k, si_s], by simp (disch := omega) only [si_k, si_s], fun x => by simp (disch := omega) only [si_k]⟩
    by_cases hc : t < l.2.1
    · -- a part of the first
      have e0 : pk L (t - l.2.1) = [] := by
        cases L with
        | nil => rfl
        | cons a A => show (if _ ≤ 0 then [] else _) = _; rw [if_pos (by omega)]
      have em : mnU s (sY s) L (t - l.2.1) = 999 := by
        cases L with
        | nil => rfl
        | cons a A => show (if _ ≤ 0 then 999 else _) = _; rw [if_pos (by omega)]
      obtain ⟨a1, a2, a3, a4, a5, a6, a7, a8⟩ := told t
      rw [hpart hc]
      generalize hτ : gb_si (gb_si (gb_si (gTold σ m u l t) 37 0 (66 + 18 * (b : Int) + 3 * ((0 : Nat) : Int) + 0).toNat (nZ l.1)) 37 0 (66 + 18 * (b : Int) + 3 * ((0 : Nat) : Int) + 1).toNat (nZ (l.2.1 - t))) 37 0 (66 + 18 * (b : Int) + 3 * ((0 : Nat) : Int) + 2).toNat (nZ l.2.2) = τ
      have htk : tk (l :: L) t = (l.1, l.2.1 - t, l.2.2) :: L := by
        show (if t < l.2.1 then _ else _) = _
        rw [if_pos hc, show max 0 t = t by omega]
      have hIV : gb_IV (setB s b (tk (l :: L) t)) := IV_set hI (Nat.le_trans tk_len (by rw [← hL]; exact (il b hb).1)) (by rw [lT_tk hok, lT_c]; omega) (ok_tk hok)
      have e36 : ∀ k x, k ≠ 37 → τ.1 k 0 x = (gTold σ m u l t).1 k 0 x := by
        intro k x hk
        rw [← hτ]
        simp (disch := omega) only [si_k]
      have mL' := hM.1.2.2.2.2.2.2.1
      simp only [Nat.zero_add] at mL'
      have e37 : ∀ x, x ≠ (66 + 18 * (b : Int) + 3 * ((0 : Nat) : Int) + 0).toNat → x ≠ (66 + 18 * (b : Int) + 3 * ((0 : Nat) : Int) + 1).toNat → x ≠ (66 + 18 * (b : Int) + 3 * ((0 : Nat) : Int) + 2).toNat → τ.1 37 0 x = σ.1 37 0 x := by
        intro x h1 h2 h3
        rw [← hτ]
        simp (disch := omega) only [si_i]
        exact a8 x
      have hMτ : gb_MM τ (setB s b (tk (l :: L) t)) := by
        refine ⟨RM_set hM.1 il hb (Nat.le_trans tk_len (by rw [← hL]; exact (il b hb).1)) (fun x hx h1 h2 => ?_) ?_ (fun i hi => ?_), hIV⟩
        · rw [Nat.zero_add, e37 x (by omega) (by omega) (by omega)]
        · rw [Nat.zero_add, e37 _ (by omega) (by omega) (by omega), htk]
          have := hM.1.2.2.2.2.2.1 b hb
          rw [Nat.zero_add, hL] at this
          exact this
        · rw [htk] at hi ⊢
          simp only [Nat.zero_add]
          by_cases ei : i = 0
          · subst ei
            rw [← hτ]
            simp (disch := omega) only [si_i, si_s]
            exact ⟨rfl, rfl, rfl⟩
          · have hi' : i < (sB s b).length := by rw [hL]; exact hi
            rw [e37 _ (by omega) (by omega) (by omega), e37 _ (by omega) (by omega) (by omega), e37 _ (by omega) (by omega) (by omega)]
            have := mL' b i hb hi'
            have ez : lz (sB s b) i = lz ((l.1, l.2.1 - t, l.2.2) :: L) i := by
              rw [hL]
              cases i with
              | zero => exact absurd rfl ei
              | succ i => rfl
            rw [ez] at this
            exact this
      have hlen' : (pk (l :: L) t).length = 1 := by rw [hpk, e0]; rfl
      refine ⟨τ, ?_, hMτ, ?_, fun x h1 h2 => by rw [e36 36 x (by omega)]; exact a3 x h1 h2, ?_, ?_, fun i hi => ?_, fun i hi => ?_⟩
      · rw [e_X10_goes_12]
        simp (disch := omega) only [z0, z1, z2, z3, z4, z5, z6, z12, z18, z48, z54, z60, z66, z174, z175, z_neg, z_add, z_sub, z_mul, z_tn, g_in, g_b0, g_b1, Int.toNat_natCast, z_le, z_lt, z_eq, z_mx, z_mn, if_pos, if_neg, if_true, if_false]
      · rw [← hτ]
        exact fP_si (fP_si (fP_si (fP_w gTold_f (fun k hk => by omega)) (by omega)) (by omega)) (by omega)
      · rw [e36 36 _ (by omega), a1, hlen']
      · rw [e36 36 _ (by omega), a2, if_neg ht0, hmn, em, ← hu]
        by_cases e : m = 0
        · rw [if_pos e, if_pos e, show min (sU s (sY s) l) 999 = sU s (sY s) l by omega]
        · rw [if_neg e, if_neg e, show min (sU s (sY s) l) 999 = sU s (sY s) l by omega]
      · rw [e36 43 _ (by omega), e36 44 _ (by omega), e36 45 _ (by omega)]; exact a4 i hi
      · rw [hlen'] at hi
        have : i = 0 := by omega
        subst this
        rw [e36 43 _ (by omega), e36 44 _ (by omega), e36 45 _ (by omega), Nat.add_zero, a5, a6, a7, hpk, show min t l.2.1 = t by omega]
        exact ⟨rfl, rfl, rfl⟩
    · -- the first goes
      obtain ⟨a1, a2, a3, a4, a5, a6, a7, a8⟩ := told l.2.1
      rw [hpop (by omega)]
      have hls : L.length < 6 := by have := (il b hb).1; rw [hL] at this; have : L.length + 1 ≤ 6 := this; omega
      obtain ⟨τ, g1, g2, g3, g4⟩ := m_shift (gb_si (gTold σ m u l l.2.1) 37 0 (60 + (b : Int)).toNat (nZ L.length)) hb hls si_s (nZ (t - l.2.1))
      have e36 : ∀ k x, k ≠ 37 → τ.1 k 0 x = (gTold σ m u l l.2.1).1 k 0 x := by
        intro k x hk
        rw [g2.1 k 0 x hk]
        simp (disch := omega) only [si_k]
      have hIV : gb_IV (setB s b L) := IV_set hI (by omega) (by omega) hokL
      have mL' := hM.1.2.2.2.2.2.2.1
      simp only [Nat.zero_add] at mL'
      have hMτ : gb_MM τ (setB s b L) := by
        refine ⟨RM_set hM.1 il hb (by omega) (fun x hx h1 h2 => ?_) ?_ (fun i hi => ?_), hIV⟩
        · rw [Nat.zero_add, g3 x h2]
          simp (disch := omega) only [si_i]
          exact a8 x
        · rw [Nat.zero_add, g3 _ (by omega), si_s]
        · simp only [Nat.zero_add]
          have hi' : i + 1 < (sB s b).length := by rw [hL]; show i + 1 < L.length + 1; omega
          have h0 := g4 i 0 hi (by omega)
          have h1 := g4 i 1 hi (by omega)
          have h2 := g4 i 2 hi (by omega)
          have hlen6 := (il b hb).1
          rw [si_i (by omega), a8] at h0 h1 h2
          rw [show ((0 : Nat) : Int) = 0 from rfl] at h0
          rw [show ((1 : Nat) : Int) = 1 from rfl] at h1
          rw [show ((2 : Nat) : Int) = 2 from rfl] at h2
          rw [h0, h1, h2]
          have := mL' b (i + 1) hb hi'
          rw [hL] at this
          exact this
      obtain ⟨σ', b1, b2, b3, b4, b5, b6, b7, b8⟩ := ih (setB s b L) τ (t - l.2.1) (m + 1) u hMτ sB_s (by omega) (by omega) (by rw [hlen] at hm; omega) (by rw [e36 36 _ (by omega)]; exact a1) (fun _ => ⟨by rw [e36 36 _ (by omega)]; exact a2, hur2⟩)
      have htk : tk (l :: L) t = tk L (t - l.2.1) := by
        show (if t < l.2.1 then _ else _) = _
        rw [if_neg hc]
      have hU : ∀ x, sU (setB s b L) (sY (setB s b L)) x = sU s (sY s) x := fun _ => rfl
      have hmU : mnU (setB s b L) (sY (setB s b L)) L (t - l.2.1) = mnU s (sY s) L (t - l.2.1) := by
        have : ∀ (A : List gb_Ly) (t : Int), mnU (setB s b L) (sY (setB s b L)) A t = mnU s (sY s) A t := by
          intro A
          induction A with
          | nil => intro t; rfl
          | cons a A iha => intro t; unfold mnU; rw [iha, hU]
        exact this _ _
      refine ⟨σ', by rw [g1]; exact b1, by rw [htk, ← setB2 (L := L)]; exact b2, ?_, fun x h1 h2 => ?_, ?_, ?_, fun i hi => ?_, fun i hi => ?_⟩
      · exact fP_tr (fP_tr (fP_si (fP_w gTold_f (fun k hk => by omega)) (by omega)) (fP_w g2 (fun k hk => by omega))) b3
      · rw [b4 x h1 h2, e36 36 _ (by omega)]; exact a3 x h1 h2
      · rw [b5, hpk]
        exact congrArg nZ (by simp only [List.length_cons]; omega)
      · rw [b6, if_neg ht0, hmn, hmU, ← hu]
        by_cases e : t - l.2.1 ≤ 0
        · have em : mnU s (sY s) L (t - l.2.1) = 999 := by
            cases L with
            | nil => rfl
            | cons a A => show (if _ ≤ 0 then 999 else _) = _; rw [if_pos e]
          rw [if_pos e, e36 36 _ (by omega), a2, em, ← hu]
          by_cases e : m = 0
          · rw [if_pos e, if_pos e, show min (sU s (sY s) l) 999 = sU s (sY s) l by omega]
          · rw [if_neg e, if_neg e, show min (sU s (sY s) l) 999 = sU s (sY s) l by omega]
        · rw [if_neg e, if_neg (by omega)]
          by_cases e : m = 0
          · rw [if_pos e, if_pos e]
          · rw [if_neg e, if_neg e]
            exact congrArg nZ (by omega)
      · obtain ⟨c1, c2, c3⟩ := b7 i (by omega)
        rw [c1, c2, c3, e36 43 _ (by omega), e36 44 _ (by omega), e36 45 _ (by omega)]; exact a4 i hi
      · rw [hpk] at hi ⊢
        cases i with
        | zero =>
          obtain ⟨c1, c2, c3⟩ := b7 m (by omega)
          rw [Nat.add_zero, c1, c2, c3, e36 43 _ (by omega), e36 44 _ (by omega), e36 45 _ (by omega), a5, a6, a7, show min t l.2.1 = l.2.1 by omega]
          exact ⟨rfl, rfl, rfl⟩
        | succ i =>
          have := b8 i (by have : i + 1 < (pk L (t - l.2.1)).length + 1 := hi; omega)
          rw [show m + (i + 1) = m + 1 + i by omega]
          exact this
theorem m_goes (hM : gb_MM σ s) (hb : b < 6) {t : Int} (ht : 0 ≤ t) (ht2 : t ≤ lT (sB s b)) : ∃ σ', f_X10_goes [gR 36 0, gI (nZ b), gI (nZ t)] σ = some (none, σ') ∧ gb_MM σ' (setB s b (tk (sB s b) t)) ∧ gb_fP (fun k => k = 36 ∨ k = 37 ∨ (43 ≤ k ∧ k ≤ 45)) σ σ' ∧ (∀ x, x ≠ 14 → x ≠ 15 → σ'.1 36 0 x = σ.1 36 0 x) ∧ σ'.1 36 0 14 = nZ (pk (sB s b) t).length ∧ (0 < t → σ'.1 36 0 15 = nZ (mnU s (sY s) (sB s b) t)) ∧
      (∀ i, i < (pk (sB s b) t).length → σ'.1 43 0 i = nZ (lz (pk (sB s b) t) i).1 ∧ σ'.1 44 0 i = nZ (lz (pk (sB s b) t) i).2.1 ∧ σ'.1 45 0 i = nZ (lz (pk (sB s b) t) i).2.2) := by
  have hM' : gb_MM (gb_si (gb_si σ 36 0 14 (nZ (0 : Nat))) 36 0 15 0) s := fP_MM (P := fun k => k = 36) (fP_si (fP_si fP_rf rfl) rfl) (by omega) hM
  obtain ⟨σ', b1, b2, b3, b4, b5, b6, b7, b8⟩ := m_goes12 hb (sB s b) s _ t 0 0 hM' rfl ht ht2 (by have := (hM.2.2.2.2.2.2.1 b hb).1; omega) (by simp (disch := omega) only [si_i, si_s]) (fun h => absurd rfl h)
  refine ⟨σ', ?_, b2, fP_tr (fP_si (fP_si fP_rf (by omega)) (by omega)) b3, fun x h1 h2 => ?_, by rw [b5, Nat.zero_add], fun h => by rw [b6, if_neg (by omega), if_pos rfl], fun i hi => ?_⟩
  · rw [e_X10_goes]
    exact b1
  · rw [b4 x h1 h2]
    simp (disch := omega) only [si_i]
  · have := b8 i hi
    rw [Nat.zero_add] at this
    exact this
end GOES
