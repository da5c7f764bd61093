/-! GAIN: would, best -/
def gT (s : gb_St) (L : List gb_Ly) (g : Nat) (t : Int) (k : Nat) : Int := max 0 (sO s g k) * (min (lG L g + t) (lG L k) - min (lG L g) (lG L k))
def gW (s : gb_St) (L : List gb_Ly) (g : Nat) (t : Int) : Int := sm 6 (gT s L g t)
theorem lM_lay {s : gb_St} (io : iO s) {L : List gb_Ly} {g p q : Nat} {t d : Int} (hp : p < 6) (hq : q < 6) (hne : p ≠ q) : lM s (lay1 L g t d) p q = lM s L p q + (if g = p then gT s L g t q else if g = q then gT s L g t p else 0) := by
  unfold lM gT
  rw [lG_lay, lG_lay]
  by_cases h1 : g = p
  · subst h1
    rw [if_pos rfl, if_neg hne, if_pos rfl, Int.mul_sub, Int.add_zero]
    omega
  · by_cases h2 : g = q
    · subst h2
      rw [if_neg h1, if_pos rfl, if_neg h1, if_pos rfl, Int.mul_sub, Int.add_zero, (io p g hp hq).2.2.1, Int.min_comm (lG L p) (lG L g + t), Int.min_comm (lG L p) (lG L g)]
      omega
    · rw [if_neg h1, if_neg h2, if_neg h1, if_neg h2]
      simp only [Int.add_zero]
theorem gT_s {s : gb_St} (io : iO s) {L : List gb_Ly} {g : Nat} {t : Int} (hg : g < 6) : gT s L g t g = 0 := by
  unfold gT
  rw [(io g g hg hg).2.2.2]
  simp
theorem sm_pair {T : Nat → Int} {g : Nat} (hg : g < 6) (h0 : T g = 0) : sm 6 (fun p => sm 6 (fun q => if p < q then (if g = p then T q else if g = q then T p else 0) else 0)) = sm 6 T := by
  have e : g = 0 ∨ g = 1 ∨ g = 2 ∨ g = 3 ∨ g = 4 ∨ g = 5 := by omega
  rcases e with rfl | rfl | rfl | rfl | rfl | rfl <;> simp [sm] <;> omega
theorem lX_lay {s : gb_St} (io : iO s) {L : List gb_Ly} {g : Nat} {t d : Int} (hg : g < 6) : lX s (lay1 L g t d) = lX s L + gW s L g t := by
  unfold lX gW
  rw [← sm_pair (T := gT s L g t) hg (gT_s io hg), ← sm_add]
  refine sm_c (fun p hp => ?_)
  rw [← sm_add]
  refine sm_c (fun q hq => ?_)
  by_cases h : p < q
  · rw [if_pos h, if_pos h, if_pos h, lM_lay io hp hq (by omega)]
  · rw [if_neg h, if_neg h, if_neg h]; rfl
theorem gT_r {s : gb_St} {b g k : Nat} {t : Int} (hI : gb_IV s) (hb : b < 6) (hg : g < 6) (hk : k < 6) (ht : 0 ≤ t) : 0 ≤ gT s (sB s b) g t k ∧ gT s (sB s b) g t k ≤ 9801 := by
  obtain ⟨iw, ik, io, ic, ip, il, id⟩ := hI
  have h1 := io g k hg hk
  have h2 := lG_r il hb g
  have h3 := lG_r il hb k
  have h4 : max 0 (sO s g k) * (min (lG (sB s b) g + t) (lG (sB s b) k) - min (lG (sB s b) g) (lG (sB s b) k)) ≤ 99 * 99 := Int.mul_le_mul (by omega) (by omega) (by omega) (by omega)
  have h5 : 0 ≤ max 0 (sO s g k) * (min (lG (sB s b) g + t) (lG (sB s b) k) - min (lG (sB s b) g) (lG (sB s b) k)) := Int.mul_nonneg (by omega) (by omega)
  unfold gT
  omega
theorem gW_r {s : gb_St} {b g : Nat} {t : Int} (hI : gb_IV s) (hb : b < 6) (hg : g < 6) (ht : 0 ≤ t) : 0 ≤ gW s (sB s b) g t ∧ gW s (sB s b) g t ≤ 58806 := by
  have h1 := sm_nn (n := 6) (f := gT s (sB s b) g t) (fun k hk => (gT_r hI hb hg hk ht).1)
  have h2 := sm_ub (n := 6) (f := gT s (sB s b) g t) (fun k hk => (gT_r hI hb hg hk ht).2)
  unfold gW
  omega
theorem sU_now {s : gb_St} {g : Nat} {t d : Int} (iw : iW s) (ik : iK s) (hg : g < 6) : sU s d (g, t, d) = sW s g := by
  have h1 := iw g hg
  have h2 := ik g hg
  unfold sU
  show max 0 (sW s g - max 0 (d - d - sK s g)) = sW s g
  omega
theorem lR_lay {s : gb_St} (iw : iW s) (ik : iK s) {L : List gb_Ly} {g : Nat} {t d : Int} (hg : g < 6) : lR s d (lay1 L g t d) = lR s d L + t * sW s g := by
  unfold lR
  rw [sL_lay (f := fun l => l.2.1 * sU s d l) (fun t1 t2 => by
    show (t1 + t2) * sU s d (g, t1 + t2, d) = t1 * sU s d (g, t1, d) + t2 * sU s d (g, t2, d)
    rw [sU_now iw ik hg, sU_now iw ik hg, sU_now iw ik hg, Int.add_mul])]
  show _ + t * sU s d (g, t, d) = _
  rw [sU_now iw ik hg]
def gA (s : gb_St) (b g : Nat) (t : Int) : Int := t * sW s g - gW s (sB s b) g t
theorem gA_r {s : gb_St} {b g : Nat} {t : Int} (hI : gb_IV s) (hb : b < 6) (hg : g < 6) (ht : 1 ≤ t ∧ t ≤ 99) : -58806 ≤ gA s b g t ∧ gA s b g t ≤ 98901 := by
  have h1 := gW_r hI hb hg (t := t) (by omega)
  have h2 := hI.1 g hg
  have h3 : 0 ≤ t * sW s g := Int.mul_nonneg (by omega) (by omega)
  have h4 : t * sW s g ≤ 99 * 999 := Int.mul_le_mul ht.2 h2.2 h2.1 (by omega)
  unfold gA
  omega
theorem lV_lay {s : gb_St} (hI : gb_IV s) {b g : Nat} {t : Int} (hg : g < 6) : lV s (sY s) (lay1 (sB s b) g t (sY s)) = lV s (sY s) (sB s b) + gA s b g t := by
  unfold lV gA
  rw [lX_lay hI.2.2.1 hg, lR_lay hI.1 hI.2.1 hg]
  omega
section GA
variable {σ : gb_M} {j : Nat} {s : gb_St} {b : Nat}
theorem p_growth (hC : gb_SC σ j s) (hb : b < 6) {g : Nat} {t : Int} (hg : g < 6) (ht : 1 ≤ t ∧ t ≤ 99) : f_X7_growth [gR 10 j, gI (nZ b), gI (nZ g), gI (nZ t)] σ = some (some (gI (nZ (gW s (sB s b) g t))), σ) := by
  obtain ⟨⟨cW, cP, cN, cT, cL, cH, cY, cQ⟩, ⟨rK, rC, rO, rA⟩, iw, ik, io, ic, ip, il, id⟩ := id hC
  obtain ⟨y1, y2, q1, q2⟩ := id
  have h1 := lG_r il hb g
  rw [e_X7_growth]
  have st : ∀ i, i < 6 → j_X7_growth_19 j (nZ b) (nZ g) (nZ t) (nZ (lG (sB s b) g)) (nZ (sm i (gT s (sB s b) g t))) (nZ i) σ = j_X7_growth_19 j (nZ b) (nZ g) (nZ t) (nZ (lG (sB s b) g)) (nZ (sm (i + 1) (gT s (sB s b) g t))) (nZ (i + 1 : Nat)) σ := by
    intro i hi
    have h2 := lG_r il hb i
    rw [e_X7_growth_19, sm_s]
    simp (disch := omega) only [z0, z1, z2, z3, z4, z5, z6, z12, z18, z48, z54, z60, z66, z174, z175, z_neg, z_add, z_sub, z_mul, z_tn, g_in, g_b0, g_b1, Int.toNat_natCast, z_le, z_lt, z_eq, z_mx, z_mn, if_pos, if_neg, if_true, if_false, cH b i hb hi, p_lossOf hC hg hi, Int.natCast_add, Int.natCast_one]
    rfl
  have hJ := lp (n := 6) (fun i => j_X7_growth_19 j (nZ b) (nZ g) (nZ t) (nZ (lG (sB s b) g)) (nZ (sm i (gT s (sB s b) g t))) (nZ i) σ) st
  have hJ0 : j_X7_growth_19 j (nZ b) (nZ g) (nZ t) (nZ (lG (sB s b) g)) 0 0 σ = j_X7_growth_19 j (nZ b) (nZ g) (nZ t) (nZ (lG (sB s b) g)) (nZ (gW s (sB s b) g t)) (nZ (6 : Nat)) σ := hJ
  have e : (nZ b * 6 + nZ g) = nZ ((b : Int) * 6 + (g : Int)) := by rw [z6, z_mul, z_add]
  rw [e, z_tn (by omega), cH b g hb hg, hJ0, g_in (by omega), e_X7_growth_19, if_pos (by decide)]
theorem p_gain (hC : gb_SC σ j s) (hb : b < 6) {g : Nat} {t : Int} (hg : g < 6) (ht : 1 ≤ t ∧ t ≤ 99) : f_X7_gain [gR 10 j, gI (nZ b), gI (nZ g), gI (nZ t)] σ = some (some (gI (nZ (gA s b g t))), σ) := by
  obtain ⟨⟨cW, cP, cN, cT, cL, cH, cY, cQ⟩, ⟨rK, rC, rO, rA⟩, iw, ik, io, ic, ip, il, id⟩ := id hC
  obtain ⟨y1, y2, q1, q2⟩ := id
  rw [e_X7_gain, p_growth hC hb hg ht, g_b1, z_tn (by omega), Int.toNat_natCast, cW g hg, g_in (by omega), z_mul, z_sub]
  rfl
/-- where it may lie -/
theorem sWhyZ {g : Nat} {t d : Int} (h : sWhy s b g t d = 0) : ¬ sY s < sP s b ∧ lT (sB s b) + t ≤ sC s b ∧ ap s (sB s b) g = false ∧ (onB (sB s b) g d = true ∨ (sB s b).length ≠ 6) := by
  unfold sWhy at h
  by_cases h1 : sY s < sP s b
  · rw [if_pos h1] at h; omega
  rw [if_neg h1] at h
  by_cases h2 : sC s b < lT (sB s b) + t
  · rw [if_pos h2] at h; omega
  rw [if_neg h2] at h
  by_cases h3 : ap s (sB s b) g = true
  · rw [if_pos h3] at h; omega
  rw [if_neg h3] at h
  refine ⟨h1, by omega, by simpa using h3, ?_⟩
  by_cases h4 : (sB s b).length = 6 ∧ onB (sB s b) g d = false
  · rw [if_pos h4] at h; omega
  · cases ho : onB (sB s b) g d with
    | true => exact Or.inl rfl
    | false => exact Or.inr (fun e => h4 ⟨e, ho⟩)
theorem IV_lay (hI : gb_IV s) (hb : b < 6) {g : Nat} {t d : Int} (hg : g < 6) (ht : 1 ≤ t) (hd : 0 ≤ d ∧ d ≤ 10019) (h : sWhy s b g t d = 0) : gb_IV (setB s b (lay1 (sB s b) g t d)) ∧ lT (sB s b) + t ≤ 99 ∧ (onB (sB s b) g d = true ∨ (sB s b).length < 6) := by
  obtain ⟨h1, h2, h3, h4⟩ := sWhyZ h
  have hc := hI.2.2.2.1 b hb
  have hlen := (hI.2.2.2.2.2.1 b hb).1
  have hroom : onB (sB s b) g d = true ∨ (sB s b).length < 6 := by
    rcases h4 with h4 | h4
    · exact Or.inl h4
    · exact Or.inr (by omega)
  refine ⟨IV_set hI ?_ (by rw [lT_lay]; omega) (ok_lay (hI.2.2.2.2.2.1 b hb).2.2 (by omega) hg ht hd), by omega, hroom⟩
  rw [lay1_len]
  rcases hroom with h5 | h5
  · rw [if_pos h5]; exact hlen
  · split <;> omega
theorem KM_back {Q I : Nat → Prop} {σ0 σ' : gb_M} {A : gb_Ab} (h : KM σ0 σ A) (f : gb_fX Q I σ σ') (hq : ¬ Q 39 ∧ ¬ Q 40 ∧ ¬ Q 41 ∧ ¬ Q 42) (hi : ¬ I 3 ∧ ¬ I 5 ∧ ¬ I 7 ∧ ¬ I 9) (hQ : ∀ k, Q k → 36 ≤ k) (hM : gb_MM σ' A.1) : KM σ0 σ' A := ⟨MC_S h.1 f hq hi hM, fP_tr h.2 (fX_fP f hQ)⟩
end GA
theorem lpi {n : Nat} {α : Type} (J : Nat → α → gb_R) (f : Nat → α → α) (P : α → Prop) {a : α} (h0 : P a) (hs : ∀ i, i < n → ∀ a, P a → J i a = J (i + 1) (f i a) ∧ P (f i a)) : J 0 a = J n (it n a f) ∧ P (it n a f) := by
  have : ∀ k, k ≤ n → J 0 a = J k (it k a f) ∧ P (it k a f) := by
    intro k
    induction k with
    | zero => intro _; exact ⟨rfl, h0⟩
    | succ k ih =>
      intro hk
      obtain ⟨h1, h2⟩ := ih (by omega)
      obtain ⟨h3, h4⟩ := hs k (by omega) _ h2
      exact ⟨h1.trans h3, h4⟩
  exact this n (Nat.le_refl n)
theorem it_inv {n : Nat} {α : Type} (f : Nat → α → α) (P : α → Prop) {a : α} (h0 : P a) (hs : ∀ i, i < n → ∀ a, P a → P (f i a)) : P (it n a f) := by
  have : ∀ k, k ≤ n → P (it k a f) := by
    intro k
    induction k with
    | zero => intro _; exact h0
    | succ k ih => intro hk; exact hs k (by omega) _ (ih (by omega))
  exact this n (Nat.le_refl n)
def bsF (s : gb_St) (g : Nat) (t : Int) (b : Nat) (a : Int × Int) : Int × Int := if sWhy s b g t (sY s) = 0 ∧ (a.1 < 0 ∨ a.2 < gA s b g t) then ((b : Int), gA s b g t) else a
def bsP (a : Int × Int) : Prop := (a.1 = -2 ∨ (0 ≤ a.1 ∧ a.1 < 6)) ∧ -58806 ≤ a.2 ∧ a.2 ≤ 98901
theorem bsF_P {s : gb_St} {g b : Nat} {t : Int} (hI : gb_IV s) (hb : b < 6) (hg : g < 6) (ht : 1 ≤ t ∧ t ≤ 99) {a : Int × Int} (h : bsP a) : bsP (bsF s g t b a) := by
  unfold bsF
  have := gA_r hI hb hg ht
  split
  · exact ⟨Or.inr ⟨by show (0 : Int) ≤ b; omega, by show (b : Int) < 6; omega⟩, this⟩
  · exact h