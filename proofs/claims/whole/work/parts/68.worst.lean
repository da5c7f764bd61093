/-! WORST, DEAR, ROOM, TAKERS -/
theorem zs (i : Nat) : nZ i + 1 = nZ (i + 1 : Nat) := by rw [z1, z_add]; rfl
theorem n6 {i : Nat} (hi : i < 6) : ¬ ((6 : Int32) ≤ nZ i) := by rw [z6, z_le ⟨by omega, by omega⟩ ⟨by omega, by omega⟩]; omega
theorem y6 : (6 : Int32) ≤ nZ (6 : Nat) := by decide
abbrev wA : Type := Int × Int × Int
def wsF (s : gb_St) (b g h : Nat) (a : wA) : wA := if g < h ∧ a.1 < lM s (sB s b) g h then (lM s (sB s b) g h, 10 * (g : Int) + (h : Int), (b : Int)) else a
def wsH (s : gb_St) (b g : Nat) (a : wA) : wA := it 6 a (fun h a => wsF s b g h a)
def wsG (s : gb_St) (b : Nat) (a : wA) : wA := it 6 a (fun g a => wsH s b g a)
def wsP (a : wA) : Prop := 0 ≤ a.1 ∧ a.1 ≤ 9801 ∧ -2 ≤ a.2.1 ∧ a.2.1 ≤ 99 ∧ -1 ≤ a.2.2 ∧ a.2.2 ≤ 6
theorem wsF_P {s : gb_St} {b g h : Nat} (hI : gb_IV s) (hb : b < 6) (hg : g < 6) (hh : h < 6) {a : wA} (hp : wsP a) : wsP (wsF s b g h a) := by
  unfold wsF
  have := lM_r hI hb hg hh
  split
  · refine ⟨this.1, this.2, ?_, ?_, ?_, ?_⟩ <;> dsimp only <;> omega
  · exact hp
theorem wsH_P {s : gb_St} {b g : Nat} (hI : gb_IV s) (hb : b < 6) (hg : g < 6) {a : wA} (hp : wsP a) : wsP (wsH s b g a) := it_inv _ wsP hp (fun h hh a ha => wsF_P hI hb hg hh ha)
theorem wsG_P {s : gb_St} {b : Nat} (hI : gb_IV s) (hb : b < 6) {a : wA} (hp : wsP a) : wsP (wsG s b a) := it_inv _ wsP hp (fun g hg a ha => wsH_P hI hb hg ha)
theorem it_lo {n k : Nat} {α : Type} {a : α} {f : Nat → α → α} (hk : k ≤ n) (h : ∀ i, i < k → ∀ a, f i a = a) : it k a f = a := by
  induction k with
  | zero => rfl
  | succ k ih =>
    show f k (it k a f) = a
    rw [h k (by omega), ih (by omega) (fun i hi => h i (by omega))]
/-- a loop that begins further on, where nothing would happen before -/
theorem lpg {n m : Nat} {α : Type} (J : Nat → α → gb_R) (f : Nat → α → α) (P : α → Prop) (hm : m ≤ n) {a : α} (h0 : P a) (hl : ∀ i, i < m → ∀ a, f i a = a) (hs : ∀ i, m ≤ i → i < n → ∀ a, P a → J i a = J (i + 1) (f i a) ∧ P (f i a)) : J m a = J n (it n a f) ∧ P (it n a f) := by
  have : ∀ k, m ≤ k → k ≤ n → J m a = J k (it k a f) ∧ P (it k a f) := by
    intro k
    induction k with
    | zero =>
      intro h1 _
      have : m = 0 := by omega
      subst this
      exact ⟨rfl, h0⟩
    | succ k ih =>
      intro h1 hk
      by_cases e : m = k + 1
      · have e2 : it (k + 1) a f = a := it_lo hk (fun i hi => hl i (by omega))
        rw [e2, e]
        exact ⟨rfl, h0⟩
      · obtain ⟨h3, h4⟩ := ih (by omega) (by omega)
        obtain ⟨h5, h6⟩ := hs k (by omega) (by omega) _ h4
        exact ⟨h3.trans h5, h6⟩
  exact this n hm (Nat.le_refl n)
theorem ws_loop {s : gb_St} (hI : gb_IV s) (J1 : Nat → wA → gb_R) (J2 : Nat → Nat → wA → gb_R) (J3 : Nat → Nat → Nat → wA → gb_R) (h1 : ∀ b a, b < 6 → J1 b a = J2 b 0 a) (h2 : ∀ b g a, g < 6 → J2 b g a = J3 b g (g + 1) a) (h2' : ∀ b a, J2 b 6 a = J1 (b + 1) a) (h3' : ∀ b g a, J3 b g 6 a = J2 b (g + 1) a) (h3 : ∀ b g h a, b < 6 → g < 6 → h < 6 → g < h → wsP a → J3 b g h a = J3 b g (h + 1) (wsF s b g h a)) {a : wA} (ha : wsP a) : J1 0 a = J1 6 (it 6 a (wsG s)) ∧ wsP (it 6 a (wsG s)) := by
  refine lpi (n := 6) J1 (wsG s) wsP ha (fun b hb a ha => ⟨?_, wsG_P hI hb ha⟩)
  rw [h1 b a hb]
  obtain ⟨e, -⟩ := lpi (n := 6) (J2 b) (fun g a => wsH s b g a) wsP ha (fun g hg a ha => ⟨by
    rw [h2 b g a hg]
    obtain ⟨e, -⟩ := lpg (n := 6) (m := g + 1) (J3 b g) (fun h a => wsF s b g h a) wsP (by omega) ha (fun i hi a => if_neg (by omega)) (fun h hh1 hh2 a ha => ⟨h3 b g h a hb hg hh2 (by omega) ha, wsF_P hI hb hg hh2 ha⟩)
    rw [e, h3']
    rfl, wsH_P hI hb hg ha⟩)
  rw [e, h2']
  rfl
theorem KM_0 {σ : gb_M} {A : gb_Ab} (hM : MC σ A) : KM σ (gb_si σ 36 0 10 0) A := ⟨(MC_t hM).1, fX_fP (MC_t hM).2 (fun k z => z.elim)⟩
def wsR (a c : wA) : Prop := a.1 = c.1 ∧ a.2.1 = c.2.1 ∧ ((a.1 = 0 ∧ a.2.1 = -2) ∨ (0 < a.1 ∧ 0 ≤ a.2.1 ∧ a.2.2 = c.2.2))
theorem it_rel {n : Nat} {α β : Type} (R : α → β → Prop) {f : Nat → α → α} {f' : Nat → β → β} {a : α} {c : β} (h0 : R a c) (hs : ∀ i, i < n → ∀ a c, R a c → R (f i a) (f' i c)) : R (it n a f) (it n c f') := by
  have : ∀ k, k ≤ n → R (it k a f) (it k c f') := by
    intro k
    induction k with
    | zero => intro _; exact h0
    | succ k ih => intro hk; exact hs k (by omega) _ _ (ih (by omega))
  exact this n (Nat.le_refl n)
theorem ws_rel {s : gb_St} {a c : wA} (h : wsR a c) : wsR (it 6 a (wsG s)) (it 6 c (wsG s)) := it_rel wsR h (fun b _ _ _ h => it_rel wsR h (fun g _ _ _ h => it_rel wsR h (fun k _ a c h => by
  obtain ⟨h1, h2, h3⟩ := h
  unfold wsF
  rw [← h1]
  by_cases e : g < k ∧ a.1 < lM s (sB s b) g k
  · rw [if_pos e, if_pos e]
    refine ⟨rfl, rfl, Or.inr ⟨?_, ?_, rfl⟩⟩ <;> dsimp only <;> omega
  · rw [if_neg e, if_neg e]
    exact ⟨h1, h2, h3⟩)))
theorem th_worst {A : gb_Ab} (hA : wfA A) : gb_T2 f_X9_worst f_X10_worst [gR 0 0] [gR 36 0] A := by
  have hI := hA.1.1
  have pc : wsP ((0, -2, -1) : wA) := by refine ⟨?_, ?_, ?_, ?_, ?_, ?_⟩ <;> dsimp only <;> omega
  have pm : wsP ((0, -2, 0) : wA) := by refine ⟨?_, ?_, ?_, ?_, ?_, ?_⟩ <;> dsimp only <;> omega
  have hR := ws_rel (s := A.1) (a := (0, -2, -1)) (c := (0, -2, 0)) ⟨rfl, rfl, Or.inl ⟨rfl, rfl⟩⟩
  have cJ : ∀ σ, CC σ A → f_X9_worst [gR 0 0] σ = j_X9_worst_10 (nZ (it 6 (0, -2, -1) (wsG A.1)).1) (nZ (it 6 (0, -2, -1) (wsG A.1)).2.1) (nZ (it 6 (0, -2, -1) (wsG A.1)).2.2) (nZ (6 : Nat)) σ := by
    intro σ hC
    obtain ⟨hJ, -⟩ := ws_loop hI (fun b a => j_X9_worst_10 (nZ a.1) (nZ a.2.1) (nZ a.2.2) (nZ b) σ) (fun b g a => j_X9_worst_20 (nZ a.1) (nZ a.2.1) (nZ a.2.2) (nZ b) (nZ g) σ) (fun b g h a => j_X9_worst_33 (nZ a.1) (nZ a.2.1) (nZ a.2.2) (nZ b) (nZ g) (nZ h) σ) (fun b a hb => by
        try dsimp only
        rw [e_X9_worst_10, if_neg (n6 hb)]; rfl) (fun b g a hg => by
        try dsimp only
        rw [e_X9_worst_20, if_neg (n6 hg), zs]) (fun b a => by
        try dsimp only
        rw [e_X9_worst_20, if_pos y6, zs]) (fun b g a => by
        try dsimp only
        rw [e_X9_worst_33, if_pos y6, zs]) (fun b g h a hb hg hh hgh ha => by
        try dsimp only
        obtain ⟨p1, p2, p3, p4, p5, p6⟩ := ha
        have hl := lM_r hI hb hg hh
        rw [e_X9_worst_33, if_neg (n6 hh), p_mixedOf hC.1 hb hg hh, g_b1, zs]
        unfold wsF
        by_cases e : a.1 < lM A.1 (sB A.1 b) g h
        · rw [if_neg (by rw [z_le ⟨by omega, by omega⟩ ⟨by omega, by omega⟩]; omega), if_pos ⟨hgh, e⟩, z10, z_mul, z_add]
        · rw [if_pos (by rw [z_le ⟨by omega, by omega⟩ ⟨by omega, by omega⟩]; omega), if_neg (by omega)]) pc
    rw [e_X9_worst]
    exact hJ
  have mJ : ∀ σ, KM σ (gb_si σ 36 0 10 0) A → f_X10_worst [gR 36 0] σ = j_X10_worst_15 (nZ (it 6 (0, -2, 0) (wsG A.1)).1) (nZ (it 6 (0, -2, 0) (wsG A.1)).2.1) (nZ (it 6 (0, -2, 0) (wsG A.1)).2.2) (nZ (6 : Nat)) (gb_si σ 36 0 10 0) := by
    intro σ hM
    have hM1 := hM.1
    obtain ⟨hJ, -⟩ := ws_loop hI (fun b a => j_X10_worst_15 (nZ a.1) (nZ a.2.1) (nZ a.2.2) (nZ b) (gb_si σ 36 0 10 0)) (fun b g a => j_X10_worst_25 (nZ a.1) (nZ a.2.1) (nZ a.2.2) (nZ b) (nZ g) (gb_si σ 36 0 10 0)) (fun b g h a => j_X10_worst_38 (nZ a.1) (nZ a.2.1) (nZ a.2.2) (nZ b) (nZ g) (nZ h) (gb_si σ 36 0 10 0)) (fun b a hb => by
        try dsimp only
        rw [e_X10_worst_15, if_neg (n6 hb)]; rfl) (fun b g a hg => by
        try dsimp only
        rw [e_X10_worst_25, if_neg (n6 hg), zs]) (fun b a => by
        try dsimp only
        rw [e_X10_worst_25, if_pos y6, zs]) (fun b g a => by
        try dsimp only
        rw [e_X10_worst_38, if_pos y6, zs]) (fun b g h a hb hg hh hgh ha => by
        try dsimp only
        obtain ⟨p1, p2, p3, p4, p5, p6⟩ := ha
        have hl := lM_r hI hb hg hh
        rw [e_X10_worst_38, if_neg (n6 hh), m_mixedOf hM1.1 hb hg hh, g_b1, zs]
        unfold wsF
        by_cases e : a.1 < lM A.1 (sB A.1 b) g h
        · rw [if_pos (by rw [z_lt ⟨by omega, by omega⟩ ⟨by omega, by omega⟩]; omega), if_pos ⟨hgh, e⟩, m_mixedOf hM1.1 hb hg hh, g_b1, z10, z_mul, z_add]
        · rw [if_neg (by rw [z_lt ⟨by omega, by omega⟩ ⟨by omega, by omega⟩]; omega), if_neg (by omega)]) pm
    rw [e_X10_worst]
    exact hJ
  have hPc : wsP (it 6 (0, -2, -1) (wsG A.1)) := it_inv _ wsP pc (fun b hb a ha => wsG_P hI hb ha)
  have hPm : wsP (it 6 (0, -2, 0) (wsG A.1)) := it_inv _ wsP pm (fun b hb a ha => wsG_P hI hb ha)
  generalize it 6 ((0, -2, -1) : wA) (wsG A.1) = x at hR cJ hPc
  generalize it 6 ((0, -2, 0) : wA) (wsG A.1) = y at hR mJ hPm
  obtain ⟨r1, r2, r3⟩ := hR
  obtain ⟨p1, p2, p3, p4, p5, p6⟩ := hPc
  obtain ⟨u1, u2, u3, u4, u5, u6⟩ := hPm
  rcases r3 with ⟨r3, r4⟩ | ⟨r3, r4, r5⟩
  · refine T2_same hA (some (gI (nZ (-2)))) (fun σ hC => ?_) (fun σ hM => ?_)
    · rw [cJ σ hC, e_X9_worst_10, if_pos y6, if_pos (by rw [r3]; decide), r4]
    · rw [mJ σ (KM_0 hM), e_X10_worst_15, if_pos y6, if_pos (by rw [← r2, r4]; rfl)]; rfl
  · refine T2_K (some (gI (nZ x.2.1))) (setR A ([] ++ [(nZ x.1).toInt64] ++ [(nZ x.2.2).toInt64])) (wf_setR hA) (fun σ hC => ?_) (fun σ hM => ?_)
    · obtain ⟨τ1, a1, c1⟩ := kc_start hC
      obtain ⟨τ2, a2, c2⟩ := kc_add c1 (by simp) (nZ x.1).toInt64
      obtain ⟨τ3, a3, c3⟩ := kc_add c2 (by simp) (nZ x.2.2).toInt64
      refine ⟨τ3, ?_, c3⟩
      rw [cJ σ hC.1, e_X9_worst_10, if_pos y6, if_neg (by rw [z0, z_le ⟨by omega, by omega⟩ ⟨by omega, by omega⟩]; omega), a1, g_b0, a2, g_b0, a3, g_b0]
    · obtain ⟨τ2, a2, c2⟩ := km_tell (km_start hM) (by simp) (nZ x.1).toInt64
      obtain ⟨τ3, a3, c3⟩ := km_tell c2 (by simp) (nZ x.2.2).toInt64
      refine ⟨τ3, ?_, c3⟩
      rw [mJ σ hM, ← r1, ← r2, ← r5, e_X10_worst_15, if_pos y6, if_neg (by rw [zm2, z_eq ⟨by omega, by omega⟩ ⟨by omega, by omega⟩]; omega), a2, g_b0, a3, g_b0]
theorem z64_add {a b : Int} (ha : rZ a) (hb : rZ b) (hc : rZ (a + b)) : (nZ a).toInt64 + (nZ b).toInt64 = (nZ (a + b)).toInt64 := by
  rw [← Int64.toInt_inj, Int64.toInt_add, nz64 ha, nz64 hb, nz64 hc, Int.bmod_def]
  omega
def dL (s : gb_St) (g : Nat) (l : gb_Ly) : Int := if l.1 = g then l.2.1 * sU s (sY s) l else 0
def dB (s : gb_St) (g b : Nat) : Int := sL (dL s g) (sB s b)
def dW (s : gb_St) (g : Nat) : Int := sm 6 (dB s g)
theorem dL_b {s : gb_St} (iw : iW s) {g : Nat} {L : List gb_Ly} (h : ∀ l ∈ L, okL l) : ∀ l ∈ L, 0 ≤ dL s g l ∧ dL s g l ≤ l.2.1 * 999 := by
  intro l hl
  obtain ⟨u1, u2⟩ := sU_r (on := sY s) iw (h l hl)
  have ht := (h l hl).2.1
  have h1 : 0 ≤ l.2.1 * sU s (sY s) l := Int.mul_nonneg (by omega) u1
  have h2 : l.2.1 * sU s (sY s) l ≤ l.2.1 * 999 := Int.mul_le_mul_of_nonneg_left u2 (by omega)
  unfold dL
  split <;> omega
theorem dB_r {s : gb_St} {g b : Nat} (hI : gb_IV s) (hb : b < 6) : 0 ≤ dB s g b ∧ dB s g b ≤ 98901 := by
  obtain ⟨h1, h2⟩ := sL_bd (L := sB s b) (f := dL s g) (c := 999) (dL_b hI.1 (hI.2.2.2.2.2.1 b hb).2.2) (by omega)
  have := (hI.2.2.2.2.2.1 b hb).2.1
  unfold dB
  omega
theorem dBt_r {s : gb_St} {g b : Nat} (i : Nat) (hI : gb_IV s) (hb : b < 6) : 0 ≤ sL (dL s g) ((sB s b).take i) ∧ sL (dL s g) ((sB s b).take i) ≤ 98901 := by
  obtain ⟨h1, h2⟩ := sL_bd (L := (sB s b).take i) (f := dL s g) (c := 999) (dL_b hI.1 (fun l hl => (hI.2.2.2.2.2.1 b hb).2.2 l (List.mem_of_mem_take hl))) (by omega)
  have := lT_take hI.2.2.2.2.2.1 hb i
  have := (hI.2.2.2.2.2.1 b hb).2.1
  omega
theorem dWk_r {s : gb_St} {g : Nat} (hI : gb_IV s) {k : Nat} (hk : k ≤ 6) : 0 ≤ sm k (dB s g) ∧ sm k (dB s g) ≤ 593406 := by
  have h1 := sm_nn (n := k) (f := dB s g) (fun b hb => (dB_r hI (by omega)).1)
  have h2 := sm_ub (n := k) (f := dB s g) (c := 98901) (fun b hb => (dB_r hI (by omega)).2)
  omega
theorem dW_r {s : gb_St} {g : Nat} (hI : gb_IV s) : 0 ≤ dW s g ∧ dW s g ≤ 593406 := dWk_r hI (Nat.le_refl 6)
section DE
variable {σ : gb_M} {j : Nat} {s : gb_St}
theorem p_worthOfAll (hC : gb_SC σ j s) {g : Nat} (hg : g < 6) : f_X7_worthOfAll [gR 10 j, gI (nZ g)] σ = some (some (gI (nZ (dW s g))), σ) := by
  obtain ⟨⟨cW, cP, cN, cT, cL, cH, cY, cQ⟩, ⟨rK, rC, rO, rA⟩, iw, ik, io, ic, ip, il, id⟩ := id hC
  obtain ⟨y1, y2, q1, q2⟩ := id
  rw [e_X7_worthOfAll]
  obtain ⟨hJ⟩ : Nonempty (j_X7_worthOfAll_4 j (nZ g) 0 0 σ = j_X7_worthOfAll_4 j (nZ g) (nZ (sm 6 (dB s g))) (nZ (6 : Nat)) σ) := ⟨lp (n := 6) (fun b => j_X7_worthOfAll_4 j (nZ g) (nZ (sm b (dB s g))) (nZ b) σ) (by
    intro b hb
    show j_X7_worthOfAll_4 _ _ _ _ _ = j_X7_worthOfAll_4 _ _ _ _ _
    have st : ∀ i, i < (sB s b).length → j_X7_worthOfAll_13 j (nZ g) (nZ (sm b (dB s g) + sL (dL s g) ((sB s b).take i))) (nZ b) (nZ i) σ = j_X7_worthOfAll_13 j (nZ g) (nZ (sm b (dB s g) + sL (dL s g) ((sB s b).take (i + 1)))) (nZ b) (nZ (i + 1 : Nat)) σ := by
      intro i hi
      have hlen := (il b hb).1
      obtain ⟨g1, g2, g3⟩ := cL b i hb hi
      obtain ⟨l1, l2, l3, l4, l5⟩ := lz_ok il hb hi
      rw [e_X7_worthOfAll_13, sL_take hi]
      unfold dL
      by_cases h : (lz (sB s b) i).1 = g
      · rw [if_pos h]
        simp (disch := omega) only [z0, z1, z2, z3, z4, z5, z6, z12, z18, z48, z54, z60, z66, z174, z175, z_neg, z_add, z_sub, z_mul, z_tn, g_in, g_b0, g_b1, Int.toNat_natCast, z_le, z_lt, z_eq, z_mx, z_mn, if_pos, if_neg, if_true, if_false, cN, p_place, g1, g2, cY, p_unit hC.1 hC.2.1 hC.2.2 hb hi (on := sY s) (by omega), Int.natCast_add, Int.natCast_one, Int.add_assoc]
      · rw [if_neg h]
        simp (disch := omega) only [z0, z1, z2, z3, z4, z5, z6, z12, z18, z48, z54, z60, z66, z174, z175, z_neg, z_add, z_sub, z_mul, z_tn, g_in, g_b0, g_b1, Int.toNat_natCast, z_le, z_lt, z_eq, z_mx, z_mn, if_pos, if_neg, if_true, if_false, cN, p_place, g1, Int.add_zero, Int.natCast_add, Int.natCast_one]
    have hJ := lp (n := (sB s b).length) (fun i => j_X7_worthOfAll_13 j (nZ g) (nZ (sm b (dB s g) + sL (dL s g) ((sB s b).take i))) (nZ b) (nZ i) σ) st
    have hlen := (il b hb).1
    have hJ0 : j_X7_worthOfAll_13 j (nZ g) (nZ (sm b (dB s g))) (nZ b) 0 σ = j_X7_worthOfAll_13 j (nZ g) (nZ (sm (b + 1) (dB s g))) (nZ b) (nZ (sB s b).length) σ := by
      have e : sm b (dB s g) + sL (dL s g) ((sB s b).take 0) = sm b (dB s g) := by show _ + 0 = _; omega
      rw [e, List.take_length] at hJ
      exact hJ
    rw [e_X7_worthOfAll_4, if_neg (n6 hb), hJ0, e_X7_worthOfAll_13]
    simp (disch := omega) only [g_in, z_tn, Int.toNat_natCast, cN]
    rw [if_pos (Int32.le_refl _), zs])⟩
  rw [hJ, e_X7_worthOfAll_4, if_pos y6]
  rfl
end DE
def drF (s : gb_St) (g : Nat) (a : Int × Int) : Int × Int := if dW s g ≤ a.2 then a else ((g : Int), dW s g)
def drG (s : gb_St) (g : Nat) (a : Nat) : Nat := if dW s g ≤ dW s a then a else g
theorem drF_P {s : gb_St} (hI : gb_IV s) {g : Nat} (hg : g < 6) {a : Int × Int} (h : -2 ≤ a.1 ∧ a.1 < 6 ∧ 0 ≤ a.2 ∧ a.2 ≤ 593406) : -2 ≤ (drF s g a).1 ∧ (drF s g a).1 < 6 ∧ 0 ≤ (drF s g a).2 ∧ (drF s g a).2 ≤ 593406 := by
  unfold drF
  have := dW_r (g := g) hI
  split
  · exact h
  · dsimp only; omega
theorem dr_rel {s : gb_St} (hI : gb_IV s) : ∀ n, n < 6 → (it (n + 1) ((-2, 0) : Int × Int) (drF s)).2 = dW s (it n 0 (fun i => drG s (i + 1))) ∧ it n 0 (fun i => drG s (i + 1)) < 6 ∧ (it (n + 1) ((-2, 0) : Int × Int) (drF s)).1 = if dW s (it n 0 (fun i => drG s (i + 1))) = 0 then -2 else ((it n 0 (fun i => drG s (i + 1)) : Nat) : Int)
  | 0, _ => by
    have h0 := dW_r (g := 0) hI
    show (drF s 0 (-2, 0)).2 = dW s 0 ∧ 0 < 6 ∧ (drF s 0 (-2, 0)).1 = if dW s 0 = 0 then -2 else ((0 : Nat) : Int)
    unfold drF
    by_cases h : dW s 0 ≤ 0
    · rw [if_pos h, if_pos (by omega)]; dsimp only; omega
    · rw [if_neg h, if_neg (by omega)]; dsimp only; omega
  | n + 1, hn => by
    obtain ⟨h1, h2, h3⟩ := dr_rel hI n (by omega)
    show (drF s (n + 1) (it (n + 1) ((-2, 0) : Int × Int) (drF s))).2 = dW s (drG s (n + 1) (it n 0 (fun i => drG s (i + 1)))) ∧ drG s (n + 1) (it n 0 (fun i => drG s (i + 1))) < 6 ∧ (drF s (n + 1) (it (n + 1) ((-2, 0) : Int × Int) (drF s))).1 = if dW s (drG s (n + 1) (it n 0 (fun i => drG s (i + 1)))) = 0 then -2 else ((drG s (n + 1) (it n 0 (fun i => drG s (i + 1))) : Nat) : Int)
    generalize it (n + 1) ((-2, 0) : Int × Int) (drF s) = x at h1 h3 ⊢
    generalize it n 0 (fun i => drG s (i + 1)) = y at h1 h2 h3 ⊢
    have h4 := dW_r (g := y) hI
    unfold drF drG
    by_cases h : dW s (n + 1) ≤ dW s y
    · rw [if_pos (by omega), if_pos h]
      exact ⟨h1, h2, h3⟩
    · rw [if_neg (by omega), if_neg h, if_neg (by omega)]
      exact ⟨rfl, by omega, rfl⟩
theorem th_dear {A : gb_Ab} (hA : wfA A) : gb_T2 f_X9_dear f_X10_dear [gR 0 0] [gR 36 0] A := by
  have hI := hA.1.1
  obtain ⟨y1, y2, q1, q2⟩ := hI.2.2.2.2.2.2
  have hrel := dr_rel hI 5 (by omega)
  have cJ : ∀ σ, CC σ A → f_X9_dear [gR 0 0] σ = j_X9_dear_7 (nZ (it 6 ((-2, 0) : Int × Int) (drF A.1)).1) (nZ (it 6 ((-2, 0) : Int × Int) (drF A.1)).2) (nZ (6 : Nat)) σ := by
    intro σ hC
    obtain ⟨hJ, -⟩ := lpi (n := 6) (fun i (a : Int × Int) => j_X9_dear_7 (nZ a.1) (nZ a.2) (nZ i) σ) (drF A.1) (fun a => -2 ≤ a.1 ∧ a.1 < 6 ∧ 0 ≤ a.2 ∧ a.2 ≤ 593406) (a := (-2, 0)) (by dsimp only; omega) (fun i hi a ha => ⟨by
      try dsimp only
      have hd := dW_r (g := i) hI
      rw [e_X9_dear_7, if_neg (n6 hi), p_worthOfAll hC.1 hi, g_b1, zs]
      unfold drF
      by_cases e : dW A.1 i ≤ a.2
      · rw [if_pos (by rw [z_le ⟨by omega, by omega⟩ ⟨by omega, by omega⟩]; exact e), if_pos e]
      · rw [if_neg (by rw [z_le ⟨by omega, by omega⟩ ⟨by omega, by omega⟩]; exact e), if_neg e], drF_P hI hi ha⟩)
    rw [e_X9_dear]
    exact hJ
  have mJ : ∀ σ, KM σ (gb_si σ 36 0 10 0) A → ∃ τ, f_X10_dear [gR 36 0] σ = j_X10_dear_107 (nZ (it 5 (0 : Nat) (fun i => drG A.1 (i + 1)) : Nat)) (nZ (6 : Nat)) τ ∧ KM σ τ A ∧ ∀ i, i < 6 → τ.2 52 0 i = (nZ (dW A.1 i)).toInt64 := by
    intro σ hM
    obtain ⟨τ, hJ, hK, hW⟩ := lph (n := 6) (σ := gb_si σ 36 0 10 0) (fun i τ => j_X10_dear_7 (nZ i) τ) (fun i τ => KM σ τ A ∧ ∀ k, k < i → τ.2 52 0 k = (nZ (dW A.1 k)).toInt64) ⟨hM, fun k hk => by omega⟩ (by
      intro g hg τ ⟨hK, hW⟩
      have hJ1 := lp (n := 6) (fun b => j_X10_dear_18 (nZ g) (nZ (sm b (dB A.1 g))).toInt64 (nZ b) τ) (by
        intro b hb
        show j_X10_dear_18 _ _ _ _ = j_X10_dear_18 _ _ _ _
        have hlen := (hI.2.2.2.2.2.1 b hb).1
        have hsb := dWk_r (g := g) hI (k := b) (by omega)
        have st : ∀ i, i < (sB A.1 b).length → j_X10_dear_28 (nZ g) (nZ (sm b (dB A.1 g) + sL (dL A.1 g) ((sB A.1 b).take i))).toInt64 (nZ b) (nZ i) τ = j_X10_dear_28 (nZ g) (nZ (sm b (dB A.1 g) + sL (dL A.1 g) ((sB A.1 b).take (i + 1)))).toInt64 (nZ b) (nZ (i + 1 : Nat)) τ := by
          intro i hi
          have hr1 := dBt_r (g := g) i hI hb
          have hr2 := dBt_r (g := g) (i + 1) hI hb
          obtain ⟨l1, l2, l3, l4, l5⟩ := lz_ok hI.2.2.2.2.2.1 hb hi
          have hdl := dL_b (g := g) hI.1 (hI.2.2.2.2.2.1 b hb).2.2 _ (lz_mem hi)
          rw [sL_take hi] at hr2
          rw [e_X10_dear_28, m_many hK.1.1 hb, g_b1, if_neg (by rw [z_le ⟨by omega, by omega⟩ ⟨by omega, by omega⟩]; omega), z0, m_l0 hK.1.1 hb hi, g_b1, sL_take hi, zs, ← Int.add_assoc]
          by_cases h : (lz (sB A.1 b) i).1 = g
          · have ed : dL A.1 g (lz (sB A.1 b) i) = (lz (sB A.1 b) i).2.1 * sU A.1 (sY A.1) (lz (sB A.1 b) i) := if_pos h
            rw [if_pos (by rw [h]), z1, m_l1 hK.1.1 hb hi, g_b1, m_unit hK.1.1 hb hi, g_b1, z_mul, ← ed, z64_add ⟨by omega, by omega⟩ ⟨by omega, by omega⟩ ⟨by omega, by omega⟩]
          · have ed : dL A.1 g (lz (sB A.1 b) i) = 0 := if_neg h
            rw [if_neg (by rw [z_eq ⟨by omega, by omega⟩ ⟨by omega, by omega⟩]; omega), ed, Int.add_zero]
            rw [Int64.add_zero]
        have hJ := lp (n := (sB A.1 b).length) (fun i => j_X10_dear_28 (nZ g) (nZ (sm b (dB A.1 g) + sL (dL A.1 g) ((sB A.1 b).take i))).toInt64 (nZ b) (nZ i) τ) st
        have hJ0 : j_X10_dear_28 (nZ g) (nZ (sm b (dB A.1 g))).toInt64 (nZ b) 0 τ = j_X10_dear_28 (nZ g) (nZ (sm (b + 1) (dB A.1 g))).toInt64 (nZ b) (nZ (sB A.1 b).length) τ := by
          have e : sm b (dB A.1 g) + sL (dL A.1 g) ((sB A.1 b).take 0) = sm b (dB A.1 g) := by show _ + 0 = _; omega
          rw [e, List.take_length] at hJ
          exact hJ
        rw [e_X10_dear_18, if_neg (n6 hb), hJ0, e_X10_dear_28, m_many hK.1.1 hb, g_b1, if_pos (Int32.le_refl _), zs])
      have f : gb_fX (fun k => k = 52) (fun _ => False) τ (gb_sl τ 52 0 g (nZ (dW A.1 g)).toInt64) := fX_sl fX_rf (Or.inr rfl)
      refine ⟨gb_sl τ 52 0 g (nZ (dW A.1 g)).toInt64, ?_, KM_fX hK f ⟨by omega, by omega, by omega, by omega, by omega⟩ ⟨fun z => z, fun z => z, fun z => z, fun z => z⟩ (fun k hk => by omega), fun k hk => ?_⟩
      · show j_X10_dear_7 _ _ = j_X10_dear_7 _ _
        have hJ1' : j_X10_dear_18 (nZ g) 0 0 τ = j_X10_dear_18 (nZ g) (nZ (dW A.1 g)).toInt64 (nZ (6 : Nat)) τ := hJ1
        rw [e_X10_dear_7, if_neg (n6 hg), hJ1', e_X10_dear_18, if_pos y6, z_tn (by omega), Int.toNat_natCast, g_in (by omega), zs]
      · by_cases e : k = g
        · subst e; rw [sl_s]
        · rw [sl_i e]; exact hW k (by omega))
    refine ⟨τ, ?_, hK, hW⟩
    have hJ' : j_X10_dear_7 0 (gb_si σ 36 0 10 0) = j_X10_dear_7 (nZ (6 : Nat)) τ := hJ
    have hJ2 := lpi (n := 5) (fun i (a : Nat) => j_X10_dear_107 (nZ a) (nZ (i + 1 : Nat)) τ) (fun i => drG A.1 (i + 1)) (fun a => a < 6) (a := 0) (by omega) (fun i hi a ha => ⟨by
      have d1 := dW_r (g := i + 1) hI
      have d2 := dW_r (g := a) hI
      try dsimp only
      rw [e_X10_dear_107, if_neg (n6 (by omega)), z_tn (by omega), Int.toNat_natCast, z_tn (by omega), Int.toNat_natCast, g_in (by omega), g_in (by omega), hW (i + 1) (by omega), hW a ha, zs]
      unfold drG
      by_cases e : dW A.1 (i + 1) ≤ dW A.1 a
      · rw [if_pos (by rw [lg_cmp_le, Int64.le_iff_toInt_le, nz64 ⟨by omega, by omega⟩, nz64 ⟨by omega, by omega⟩]; exact e), if_pos e]
      · rw [if_neg (by rw [lg_cmp_le, Int64.le_iff_toInt_le, nz64 ⟨by omega, by omega⟩, nz64 ⟨by omega, by omega⟩]; exact e), if_neg e], by unfold drG; split <;> omega⟩)
    have hJ2' : j_X10_dear_107 0 1 τ = j_X10_dear_107 (nZ (it 5 (0 : Nat) (fun i => drG A.1 (i + 1)) : Nat)) (nZ (6 : Nat)) τ := hJ2.1
    rw [e_X10_dear, hJ', e_X10_dear_7, if_pos y6, hJ2']
  generalize it 6 ((-2, 0) : Int × Int) (drF A.1) = x at hrel cJ
  generalize it 5 0 (fun i => drG A.1 (i + 1)) = y at hrel mJ
  obtain ⟨r1, r2, r3⟩ := hrel
  have d2 := dW_r (g := y) hI
  have i0 : (0 : Int64).toInt = 0 := by decide
  by_cases w : dW A.1 y = 0
  · rw [if_pos w] at r3
    refine T2_K (some (gI (nZ (-2)))) A hA (fun σ hC => ⟨σ, ?_, hC⟩) (fun σ hM => ?_)
    · rw [cJ σ hC.1, e_X9_dear_7, if_pos y6, if_pos (by rw [r1, w]; decide), r3]
    · obtain ⟨τ, hJ, hK, hW⟩ := mJ σ hM
      refine ⟨τ, ?_, hK⟩
      rw [hJ, e_X10_dear_107, if_pos y6, z_tn (by omega), Int.toNat_natCast, g_in (by omega), hW y r2, w, if_pos (by decide)]
      rfl
  · rw [if_neg w] at r3
    refine T2_K (some (gI (nZ y))) (setR A (rowOf 6 (fun g => (nZ (dW A.1 g)).toInt64))) (wf_setR hA) (fun σ hC => ?_) (fun σ hM => ?_)
    · obtain ⟨τ1, a1, c1⟩ := kc_start hC
      obtain ⟨τ2, a2, c2⟩ := kc_loop (n := 6) (by omega) (fun i τ => j_X9_dear_53 (nZ y) (nZ i) τ) (fun g => (nZ (dW A.1 g)).toInt64) c1 (by
        intro i hi τ τ' hK hadd _
        show j_X9_dear_53 _ _ _ = j_X9_dear_53 _ _ _
        have pv : f_X7_worthOfAll [gR 10 0, gI (nZ i)] τ = some (some (gI (nZ (dW A.1 i))), τ) := p_worthOfAll hK.1.1 hi
        rw [e_X9_dear_53, if_neg (n6 hi), pv, g_b1, hadd, g_b0, zs])
      refine ⟨τ2, ?_, c2⟩
      have a2' : j_X9_dear_53 (nZ y) 0 τ1 = j_X9_dear_53 (nZ y) (nZ (6 : Nat)) τ2 := a2
      rw [cJ σ hC.1, e_X9_dear_7, if_pos y6, if_neg (by rw [r1, z0, z_le ⟨by omega, by omega⟩ ⟨by omega, by omega⟩]; omega), a1, g_b0, r3, a2', e_X9_dear_53, if_pos y6]
    · obtain ⟨τ, hJ, hK, hW⟩ := mJ σ hM
      have c1 := km_start hK
      obtain ⟨τ2, a2, c2, -⟩ := lph (n := 6) (σ := gb_si τ 36 0 9 0) (fun i τ => j_X10_dear_158 (nZ y) (nZ i) τ) (fun i υ => KM σ υ (setR A (rowOf i (fun g => (nZ (dW A.1 g)).toInt64))) ∧ ∀ k, k < 6 → υ.2 52 0 k = (nZ (dW A.1 k)).toInt64) ⟨c1, hW⟩ (by
        intro i hi υ ⟨hK, hw⟩
        obtain ⟨υ', b1, b2, b3⟩ := km_tellx hK (by rw [rowOf_len]; omega) (nZ (dW A.1 i)).toInt64
        refine ⟨υ', ?_, b2, fun k hk => by rw [(b3.1 52 0 k (by omega) (by omega)).2]; exact hw k hk⟩
        show j_X10_dear_158 _ _ _ = j_X10_dear_158 _ _ _
        rw [e_X10_dear_158, if_neg (n6 hi), z_tn (by omega), Int.toNat_natCast, g_in (by omega), hw i hi, b1, g_b0, zs])
      refine ⟨τ2, ?_, c2⟩
      have a2' : j_X10_dear_158 (nZ y) 0 (gb_si τ 36 0 9 0) = j_X10_dear_158 (nZ y) (nZ (6 : Nat)) τ2 := a2
      rw [hJ, e_X10_dear_107, if_pos y6, z_tn (by omega), Int.toNat_natCast, g_in (by omega), hW y r2, if_neg (by rw [lg_cmp_eq, ← Int64.toInt_inj, nz64 ⟨by omega, by omega⟩, i0]; exact w), a2', e_X10_dear_158, if_pos y6]
