/-! WORST, DEAR, ROOM, TAKERS -/
theorem zs (i : Nat) : nZ i + 1 = nZ (i + 1 : Nat) := by rw [z1, z_add]; rfl
theorem n6 {i : Nat} (hi : i < 6) : ¬ ((6 : Int32) ≤ nZ i) := by rw [z6, z_le ⟨by omega, by omega⟩ ⟨by omega, by omega⟩]; omega
theorem y6 : (6 : Int32) ≤ nZ (6 : Nat) := by decide
abbrev wA : Type := Int × Int × Int
def wsF (s : gb_St) (b g h : Nat) (a : wA) : wA := if g < h ∧ a.1 < lM s (sB s b) g h then (lM s (sB s b) g h, 10 * (g : Int) + (h : Int), (b : Int)) else a
def wsH (s : gb_St) (b g : Nat) (a : wA) : wA := it 6 a (fun h a => wsF s b g h a)
def wsG (s : gb_St) (b : Nat) (a : wA) : wA := it 6 a (fun g a => wsH s b g a)
def wsP (a : wA) : Prop := 0 ≤ a.1 ∧ a.1 ≤ 9801 ∧ -2 ≤ a.2.1 ∧ a.2.1 ≤ 99 ∧ -1 ≤ a.2.2 ∧ a.2.2 ≤ 6
theorem wsF_P {s : gb_St} {b g h : Nat} (hI : gb_IV s) (hb : b < 6) (hg : g < 6) (hh : h < 6) {a : wA} (hp : wsP a) : wsP (wsF s b g h a) := by
  unfold wsF
  have := lM_r hI hb hg hh
  split
  · refine ⟨this.1, this.2, ?_, ?_, ?_, ?_⟩ <;> dsimp only <;> omega
  · exact hp
theorem wsH_P {s : gb_St} {b g : Nat} (hI : gb_IV s) (hb : b < 6) (hg : g < 6) {a : wA} (hp : wsP a) : wsP (wsH s b g a) := it_inv _ wsP hp (fun h hh a ha => wsF_P hI hb hg hh ha)
theorem wsG_P {s : gb_St} {b : Nat} (hI : gb_IV s) (hb : b < 6) {a : wA} (hp : wsP a) : wsP (wsG s b a) := it_inv _ wsP hp (fun g hg a ha => wsH_P hI hb hg ha)
theorem it_lo {n k : Nat} {α : Type} {a : α} {f : Nat → α → α} (hk : k ≤ n) (h : ∀ i, i < k → ∀ a, f i a = a) : it k a f = a := by
  induction k with
  | zero => rfl
  | succ k ih =>
    show f k (it k a f) = a
    rw [h k (by omega), ih (by omega) (fun i hi => h i (by omega))]
/-- a loop that begins further on, where nothing would happen before -/
theorem lpg {n m : Nat} {α : Type} (J : Nat → α → gb_R) (f : Nat → α → α) (P : α → Prop) (hm : m ≤ n) {a : α} (h0 : P a) (hl : ∀ i, i < m → ∀ a, f i a = a) (hs : ∀ i, m ≤ i → i < n → ∀ a, P a → J i a = J (i + 1) (f i a) ∧ P (f i a)) : J m a = J n (it n a f) ∧ P (it n a f) := by
  have : ∀ k, m ≤ k → k ≤ n → J m a = J k (it k a f) ∧ P (it k a f) := by
    intro k
    induction k with
    | zero =>
      intro h1 _
      have : m = 0 := by omega
      subst this
      exact ⟨rfl, h0⟩
    | succ k ih =>
      intro h1 hk
      by_cases e : m = k + 1
      · have e2 : it (k + 1) a f = a := it_lo hk (fun i hi => hl i (by omega))
        rw [e2, e]
        exact ⟨rfl, h0⟩
      · obtain ⟨h3, h4⟩ := ih (by omega) (by omega)
        obtain ⟨h5, h6⟩ := hs k (by omega) (by omega) _ h4
        exact ⟨h3.trans h5, h6⟩
  exact this n hm (Nat.le_refl n)
theorem ws_loop {s : gb_St} (hI : gb_IV s) (J1 : Nat → wA → gb_R) (J2 : Nat → Nat → wA → gb_R) (J3 : Nat → Nat → Nat → wA → gb_R) (h1 : ∀ b a, b < 6 → J1 b a = J2 b 0 a) (h2 : ∀ b g a, g < 6 → J2 b g a = J3 b g (g + 1) a) (h2' : ∀ b a, J2 b 6 a = J1 (b + 1) a) (h3' : ∀ b g a, J3 b g 6 a = J2 b (g + 1) a) (h3 : ∀ b g h a, b < 6 → g < 6 → h < 6 → g < h → wsP a → J3 b g h a = J3 b g (h + 1) (wsF s b g h a)) {a : wA} (ha : wsP a) : J1 0 a = J1 6 (it 6 a (wsG s)) ∧ wsP (it 6 a (wsG s)) := by
  refine lpi (n := 6) J1 (wsG s) wsP ha (fun b hb a ha => ⟨?_, wsG_P hI hb ha⟩)
  rw [h1 b a hb]
  obtain ⟨e, -⟩ := lpi (n := 6) (J2 b) (fun g a => wsH s b g a) wsP ha (fun g hg a ha => ⟨by
    rw [h2 b g a hg]
    obtain ⟨e, -⟩ := lpg (n := 6) (m := g + 1) (J3 b g) (fun h a => wsF s b g h a) wsP (by omega) ha (fun i hi a => if_neg (by omega)) (fun h hh1 hh2 a ha => ⟨h3 b g h a hb hg hh2 (by omega) ha, wsF_P hI hb hg hh2 ha⟩)
    rw [e, h3']
    rfl, wsH_P hI hb hg ha⟩)
  rw [e, h2']
  rfl
theorem KM_0 {σ : gb_M} {A : gb_Ab} (hM : MC σ A) : KM σ (gb_si σ 36 0 10 0) A := ⟨(MC_t hM).1, fX_fP (MC_t hM).2 (fun k z => z.elim)⟩
def wsR (a c : wA) : Prop := a.1 = c.1 ∧ a.2.1 = c.2.1 ∧ ((a.1 = 0 ∧ a.2.1 = -2) ∨ (0 < a.1 ∧ 0 ≤ a.2.1 ∧ a.2.2 = c.2.2))
theorem it_rel {n : Nat} {α β : Type} (R : α → β → Prop) {f : Nat → α → α} {f' : Nat → β → β} {a : α} {c : β} (h0 : R a c) (hs : ∀ i, i < n → ∀ a c, R a c → R (f i a) (f' i c)) : R (it n a f) (it n c f') := by
  have : ∀ k, k ≤ n → R (it k a f) (it k c f') := by
    intro k
    induction k with
    | zero => intro _; exact h0
    | succ k ih => intro hk; exact hs k (by omega) _ _ (ih (by omega))
  exact this n (Nat.le_refl n)
theorem ws_rel {s : gb_St} {a c : wA} (h : wsR a c) : wsR (it 6 a (wsG s)) (it 6 c (wsG s)) := it_rel wsR h (fun b _ _ _ h => it_rel wsR h (fun g _ _ _ h => it_rel wsR h (fun k _ a c h => by
  obtain ⟨h1, h2, h3⟩ := h
  unfold wsF
  rw [← h1]
  by_cases e : g < k ∧ a.1 < lM s (sB s b) g k
  · rw [if_pos e, if_pos e]
    refine ⟨rfl, rfl, Or.inr ⟨?_, ?_, rfl⟩⟩ <;> dsimp only <;> omega
  · rw [if_neg e, if_neg e]
    exact ⟨h1, h2, h3⟩)))
theorem z64_add {a b : Int} (ha : rZ a) (hb : rZ b) (hc : rZ (a + b)) : (nZ a).toInt64 + (nZ b).toInt64 = (nZ (a + b)).toInt64 := by
  rw [← Int64.toInt_inj, Int64.toInt_add, nz64 ha, nz64 hb, nz64 hc, Int.bmod_def]
  omega
def dL (s : gb_St) (g : Nat) (l : gb_Ly) : Int := if l.1 = g then l.2.1 * sU s (sY s) l else 0
def dB (s : gb_St) (g b : Nat) : Int := sL (dL s g) (sB s b)
def dW (s : gb_St) (g : Nat) : Int := sm 6 (dB s g)
theorem dL_b {s : gb_St} (iw : iW s) {g : Nat} {L : List gb_Ly} (h : ∀ l ∈ L, okL l) : ∀ l ∈ L, 0 ≤ dL s g l ∧ dL s g l ≤ l.2.1 * 999 := by
  intro l hl
  obtain ⟨u1, u2⟩ := sU_r (on := sY s) iw (h l hl)
  have ht := (h l hl).2.1
  have h1 : 0 ≤ l.2.1 * sU s (sY s) l := Int.mul_nonneg (by omega) u1
  have h2 : l.2.1 * sU s (sY s) l ≤ l.2.1 * 999 := Int.mul_le_mul_of_nonneg_left u2 (by omega)
  unfold dL
  split <;> omega
theorem dB_r {s : gb_St} {g b : Nat} (hI : gb_IV s) (hb : b < 6) : 0 ≤ dB s g b ∧ dB s g b ≤ 98901 := by
  obtain ⟨h1, h2⟩ := sL_bd (L := sB s b) (f := dL s g) (c := 999) (dL_b hI.1 (hI.2.2.2.2.2.1 b hb).2.2) (by omega)
  have := (hI.2.2.2.2.2.1 b hb).2.1
  unfold dB
  omega
theorem dBt_r {s : gb_St} {g b : Nat} (i : Nat) (hI : gb_IV s) (hb : b < 6) : 0 ≤ sL (dL s g) ((sB s b).take i) ∧ sL (dL s g) ((sB s b).take i) ≤ 98901 := by
  obtain ⟨h1, h2⟩ := sL_bd (L := (sB s b).take i) (f := dL s g) (c := 999) (dL_b hI.1 (fun l hl => (hI.2.2.2.2.2.1 b hb).2.2 l (List.mem_of_mem_take hl))) (by omega)
  have := lT_take hI.2.2.2.2.2.1 hb i
  have := (hI.2.2.2.2.2.1 b hb).2.1
  omega
theorem dWk_r {s : gb_St} {g : Nat} (hI : gb_IV s) {k : Nat} (hk : k ≤ 6) : 0 ≤ sm k (dB s g) ∧ sm k (dB s g) ≤ 593406 := by
  have h1 := sm_nn (n := k) (f := dB s g) (fun b hb => (dB_r hI (by omega)).1)
  have h2 := sm_ub (n := k) (f := dB s g) (c := 98901) (fun b hb => (dB_r hI (by omega)).2)
  omega
theorem dW_r {s : gb_St} {g : Nat} (hI : gb_IV s) : 0 ≤ dW s g ∧ dW s g ≤ 593406 := dWk_r hI (Nat.le_refl 6)
section DE
variable {σ : gb_M} {j : Nat} {s : gb_St}
end DE
def drF (s : gb_St) (g : Nat) (a : Int × Int) : Int × Int := if dW s g ≤ a.2 then a else ((g : Int), dW s g)
def drG (s : gb_St) (g : Nat) (a : Nat) : Nat := if dW s g ≤ dW s a then a else g
theorem drF_P {s : gb_St} (hI : gb_IV s) {g : Nat} (hg : g < 6) {a : Int × Int} (h : -2 ≤ a.1 ∧ a.1 < 6 ∧ 0 ≤ a.2 ∧ a.2 ≤ 593406) : -2 ≤ (drF s g a).1 ∧ (drF s g a).1 < 6 ∧ 0 ≤ (drF s g a).2 ∧ (drF s g a).2 ≤ 593406 := by
  unfold drF
  have := dW_r (g := g) hI
  split
  · exact h
  · dsimp only; omega
theorem dr_rel {s : gb_St} (hI : gb_IV s) : ∀ n, n < 6 → (it (n + 1) ((-2, 0) : Int × Int) (drF s)).2 = dW s (it n 0 (fun i => drG s (i + 1))) ∧ it n 0 (fun i => drG s (i + 1)) < 6 ∧ (it (n + 1) ((-2, 0) : Int × Int) (drF s)).1 = if dW s (it n 0 (fun i => drG s (i + 1))) = 0 then -2 else ((it n 0 (fun i => drG s (i + 1)) : Nat) : Int)
  | 0, _ => by
    have h0 := dW_r (g := 0) hI
    show (drF s 0 (-2, 0)).2 = dW s 0 ∧ 0 < 6 ∧ (drF s 0 (-2, 0)).1 = if dW s 0 = 0 then -2 else ((0 : Nat) : Int)
    unfold drF
    by_cases h : dW s 0 ≤ 0
    · rw [if_pos h, if_pos (by omega)]; dsimp only; omega
    · rw [if_neg h, if_neg (by omega)]; dsimp only; omega
  | n + 1, hn => by
    obtain ⟨h1, h2, h3⟩ := dr_rel hI n (by omega)
    show (drF s (n + 1) (it (n + 1) ((-2, 0) : Int × Int) (drF s))).2 = dW s (drG s (n + 1) (it n 0 (fun i => drG s (i + 1)))) ∧ drG s (n + 1) (it n 0 (fun i => drG s (i + 1))) < 6 ∧ (drF s (n + 1) (it (n + 1) ((-2, 0) : Int × Int) (drF s))).1 = if dW s (drG s (n + 1) (it n 0 (fun i => drG s (i + 1)))) = 0 then -2 else ((drG s (n + 1) (it n 0 (fun i => drG s (i + 1))) : Nat) : Int)
    generalize it (n + 1) ((-2, 0) : Int × Int) (drF s) = x at h1 h3 ⊢
    generalize it n 0 (fun i => drG s (i + 1)) = y at h1 h2 h3 ⊢
    have h4 := dW_r (g := y) hI
    unfold drF drG
    by_cases h : dW s (n + 1) ≤ dW s y
    · rw [if_pos (by omega), if_pos h]
      exact ⟨h1, h2, h3⟩
    · rw [if_neg (by omega), if_neg h, if_neg (by omega)]
      exact ⟨rfl, by omega, rfl⟩