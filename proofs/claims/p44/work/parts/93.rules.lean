/-! LAND: what is read of the rules -/
abbrev gb_Ru : Type := (Nat → Int) × (Nat → Bool) × (Nat → Bool) × (Nat → Nat → Bool)
def up1 (f : Nat → Int) (i : Nat) (v : Int) : Nat → Int := fun k => if k = i then v else f k
theorem upe {f : Nat → Int} {i : Nat} {v : Int} : up1 f i v i = v := if_pos rfl
theorem upn {f : Nat → Int} {i k : Nat} {v : Int} (h : k ≠ i) : up1 f i v k = f k := if_neg h
def or1 (P : Nat → Bool) (g : Nat) : Nat → Bool := fun h => P h || decide (h = g)
def or2 (P : Nat → Nat → Bool) (a b : Nat) : Nat → Nat → Bool := fun g h => P g h || (decide (g = a) && decide (h = b)) || (decide (g = b) && decide (h = a))
def ru0 : gb_Ru := (fun k => if 6 ≤ k ∧ k < 12 then 99 else 0, fun _ => false, fun _ => false, fun _ _ => false)
def ruG (u : gb_Ru) (g : Nat) (w k : Int) : gb_Ru := (up1 (up1 u.1 g w) (6 + g) k, or1 u.2.1 g, u.2.2)
def ruB (u : gb_Ru) (b : Nat) (c : Int) : gb_Ru := (up1 u.1 (48 + b) c, u.2.1, or1 u.2.2.1 b, u.2.2.2)
def ruP (u : gb_Ru) (a b : Nat) (v : Int) : gb_Ru := (up1 (up1 u.1 (12 + (6 * a + b)) v) (12 + (6 * b + a)) v, u.2.1, u.2.2.1, or2 u.2.2.2 a b)
def uO (u : gb_Ru) (g h : Nat) : Int := u.1 (12 + (6 * g + h))
def uI (u : gb_Ru) : Prop := (∀ g, g < 6 → 0 ≤ u.1 g ∧ u.1 g ≤ 999) ∧ (∀ g, g < 6 → 0 ≤ u.1 (6 + g) ∧ u.1 (6 + g) ≤ 99) ∧ (∀ g h, g < 6 → h < 6 → -1 ≤ uO u g h ∧ uO u g h ≤ 99 ∧ uO u g h = uO u h g ∧ uO u g g = 0) ∧ (∀ b, b < 6 → 0 ≤ u.1 (48 + b) ∧ u.1 (48 + b) ≤ 99) ∧ (∀ g h, u.2.2.2 g h = u.2.2.2 h g) ∧ ∀ g h, g < 6 → h < 6 → u.2.2.2 g h = false → uO u g h = 0
theorem uI_0 : uI ru0 := by
  have e : ∀ k, ru0.1 k = if 6 ≤ k ∧ k < 12 then 99 else 0 := fun k => rfl
  refine ⟨fun g hg => ?_, fun g hg => ?_, fun g h hg hh => ?_, fun b hb => ?_, fun _ _ => rfl, fun g h hg hh _ => ?_⟩
  · rw [e, if_neg (by omega)]; omega
  · rw [e, if_pos (by omega)]; omega
  · unfold uO
    rw [e, e, e, if_neg (by omega), if_neg (by omega), if_neg (by omega)]; omega
  · rw [e, if_neg (by omega)]; omega
  · unfold uO
    rw [e, if_neg (by omega)]
theorem uI_G {u : gb_Ru} {g : Nat} {w k : Int} (h : uI u) (hg : g < 6) (hw : 0 ≤ w ∧ w ≤ 999) (hk : 0 ≤ k ∧ k ≤ 99) : uI (ruG u g w k) := by
  obtain ⟨h1, h2, h3, h4, h5, h6⟩ := h
  have eO : ∀ a b, a < 6 → b < 6 → uO (ruG u g w k) a b = uO u a b := fun a b ha hb => by
    show up1 (up1 u.1 g w) (6 + g) k _ = _
    rw [upn (by omega), upn (by omega)]; rfl
  refine ⟨fun a ha => ?_, fun a ha => ?_, fun a b ha hb => ?_, fun b hb => ?_, h5, fun a b ha hb z => ?_⟩
  · show 0 ≤ up1 (up1 u.1 g w) (6 + g) k a ∧ up1 (up1 u.1 g w) (6 + g) k a ≤ 999
    rw [upn (by omega)]
    by_cases e : a = g
    · rw [e, upe]; exact hw
    · rw [upn e]; exact h1 a ha
  · show 0 ≤ up1 (up1 u.1 g w) (6 + g) k (6 + a) ∧ up1 (up1 u.1 g w) (6 + g) k (6 + a) ≤ 99
    by_cases e : a = g
    · rw [e, upe]; exact hk
    · rw [upn (by omega), upn (by omega)]; exact h2 a ha
  · rw [eO a b ha hb, eO b a hb ha, eO a a ha ha]; exact h3 a b ha hb
  · show 0 ≤ up1 (up1 u.1 g w) (6 + g) k (48 + b) ∧ up1 (up1 u.1 g w) (6 + g) k (48 + b) ≤ 99
    rw [upn (by omega), upn (by omega)]; exact h4 b hb
  · rw [eO a b ha hb]; exact h6 a b ha hb z
theorem uI_B {u : gb_Ru} {g : Nat} {c : Int} (h : uI u) (hg : g < 6) (hc : 0 ≤ c ∧ c ≤ 99) : uI (ruB u g c) := by
  obtain ⟨h1, h2, h3, h4, h5, h6⟩ := h
  have eO : ∀ a b, a < 6 → b < 6 → uO (ruB u g c) a b = uO u a b := fun a b ha hb => by
    show up1 u.1 (48 + g) c _ = _
    rw [upn (by omega)]; rfl
  refine ⟨fun a ha => ?_, fun a ha => ?_, fun a b ha hb => ?_, fun b hb => ?_, h5, fun a b ha hb z => ?_⟩
  · show 0 ≤ up1 u.1 (48 + g) c a ∧ up1 u.1 (48 + g) c a ≤ 999
    rw [upn (by omega)]; exact h1 a ha
  · show 0 ≤ up1 u.1 (48 + g) c (6 + a) ∧ up1 u.1 (48 + g) c (6 + a) ≤ 99
    rw [upn (by omega)]; exact h2 a ha
  · rw [eO a b ha hb, eO b a hb ha, eO a a ha ha]; exact h3 a b ha hb
  · show 0 ≤ up1 u.1 (48 + g) c (48 + b) ∧ up1 u.1 (48 + g) c (48 + b) ≤ 99
    by_cases e : b = g
    · rw [e, upe]; exact hc
    · rw [upn (by omega)]; exact h4 b hb
  · rw [eO a b ha hb]; exact h6 a b ha hb z
theorem uO_P {u : gb_Ru} {a b : Nat} {v : Int} (ha : a < 6) (hb : b < 6) {g h : Nat} (hg : g < 6) (hh : h < 6) : uO (ruP u a b v) g h = if (g = a ∧ h = b) ∨ (g = b ∧ h = a) then v else uO u g h := by
  show up1 (up1 u.1 (12 + (6 * a + b)) v) (12 + (6 * b + a)) v (12 + (6 * g + h)) = _
  by_cases e1 : g = b ∧ h = a
  · rw [if_pos (Or.inr e1), e1.1, e1.2, upe]
  · rw [upn (by omega)]
    by_cases e2 : g = a ∧ h = b
    · rw [if_pos (Or.inl e2), e2.1, e2.2, upe]
    · rw [upn (by omega), if_neg (by omega)]; rfl
theorem tP_P {u : gb_Ru} {a b : Nat} {v : Int} (g h : Nat) : (ruP u a b v).2.2.2 g h = if (g = a ∧ h = b) ∨ (g = b ∧ h = a) then true else u.2.2.2 g h := by
  show (u.2.2.2 g h || (decide (g = a) && decide (h = b)) || (decide (g = b) && decide (h = a))) = _
  by_cases e1 : (g = a ∧ h = b) ∨ (g = b ∧ h = a)
  · rw [if_pos e1]
    rcases e1 with e | e <;> simp [e.1, e.2]
  · rw [if_neg e1]
    have : (decide (g = a) && decide (h = b)) = false := by
      simp only [Bool.and_eq_false_iff, decide_eq_false_iff_not]; omega
    have h2 : (decide (g = b) && decide (h = a)) = false := by
      simp only [Bool.and_eq_false_iff, decide_eq_false_iff_not]; omega
    rw [this, h2, Bool.or_false, Bool.or_false]
theorem uI_P {u : gb_Ru} {a b : Nat} {v : Int} (h : uI u) (ha : a < 6) (hb : b < 6) (hab : a ≠ b) (hv : -1 ≤ v ∧ v ≤ 99) : uI (ruP u a b v) := by
  obtain ⟨h1, h2, h3, h4, h5, h6⟩ := h
  have el : ∀ k, k < 12 ∨ 48 ≤ k → (ruP u a b v).1 k = u.1 k := fun k hk => by
    show up1 (up1 u.1 (12 + (6 * a + b)) v) (12 + (6 * b + a)) v k = _
    rw [upn (by omega), upn (by omega)]
  refine ⟨fun g hg => ?_, fun g hg => ?_, fun g k hg hk => ?_, fun g hg => ?_, fun g k => ?_, fun g k hg hk z => ?_⟩
  · rw [el _ (by omega)]; exact h1 g hg
  · rw [el _ (by omega)]; exact h2 g hg
  · rw [uO_P ha hb hg hk, uO_P ha hb hk hg, uO_P ha hb hg hg, if_neg (show ¬ ((g = a ∧ g = b) ∨ (g = b ∧ g = a)) by omega)]
    obtain ⟨x1, x2, x3, x4⟩ := h3 g k hg hk
    by_cases e : (g = a ∧ k = b) ∨ (g = b ∧ k = a)
    · rw [if_pos e, if_pos (by omega)]; exact ⟨hv.1, hv.2, rfl, x4⟩
    · rw [if_neg e, if_neg (by omega)]; exact ⟨x1, x2, x3, x4⟩
  · rw [el _ (by omega)]; exact h4 g hg
  · rw [tP_P, tP_P]
    by_cases e : (g = a ∧ k = b) ∨ (g = b ∧ k = a)
    · rw [if_pos e, if_pos (by omega)]
    · rw [if_neg e, if_neg (by omega)]; exact h5 g k
  · rw [tP_P] at z
    by_cases e : (g = a ∧ k = b) ∨ (g = b ∧ k = a)
    · rw [if_pos e] at z; cases z
    · rw [if_neg e] at z
      rw [uO_P ha hb hg hk, if_neg e]; exact h6 g k hg hk z
/-! the lines -/
def rlG (T : List Int) (u : gb_Ru) (p : Nat) : Option gb_Ru × Nat := match nn T u.2.1 p with
  | none => (none, p)
  | some g => if tA T (p + 1) = 119 then (match (nm T 0 999 3 (p + 2)).1 with
    | none => (none, (nm T 0 999 3 (p + 2)).2)
    | some w => if tA T (nm T 0 999 3 (p + 2)).2 = 107 then ((nm T 0 99 2 ((nm T 0 999 3 (p + 2)).2 + 1)).1.map (fun k => ruG u g w k), (nm T 0 99 2 ((nm T 0 999 3 (p + 2)).2 + 1)).2) else (none, (nm T 0 999 3 (p + 2)).2)) else (none, p + 1)
def rlB (T : List Int) (u : gb_Ru) (p : Nat) : Option gb_Ru × Nat := match nn T u.2.2.1 p with
  | none => (none, p)
  | some b => if tA T (p + 1) = 99 then ((nm T 0 99 2 (p + 2)).1.map (fun c => ruB u b c), (nm T 0 99 2 (p + 2)).2) else (none, p + 1)
def rlP (T : List Int) (u : gb_Ru) (l : Bool) (p : Nat) : Option gb_Ru × Nat := match nn T (fun _ => false) p with
  | none => (none, p)
  | some a => match nn T (or1 (u.2.2.2 a) a) (p + 1) with
    | none => (none, p + 1)
    | some b => match l with
      | true => ((nm T 1 99 2 (p + 2)).1.map (fun v => ruP u a b v), (nm T 1 99 2 (p + 2)).2)
      | false => (some (ruP u a b (-1)), p + 2)
def rlL (T : List Int) (u : gb_Ru) (p : Nat) : Option gb_Ru × Nat := if tA T p = 103 then rlG T u (p + 1) else if tA T p = 98 then rlB T u (p + 1) else if tA T p = 108 then rlP T u true (p + 1) else if tA T p = 120 then rlP T u false (p + 1) else (none, p)
def rlS (T : List Int) (m : Nat) (u : gb_Ru) (n p : Nat) : Option (gb_Ru × Nat) × Nat := match m with
  | 0 => (none, p)
  | m + 1 => match (rlL T u p).1 with
    | none => (none, (rlL T u p).2)
    | some u' => if (rlL T u p).2 < T.length then (if tA T (rlL T u p).2 = 59 then rlS T m u' (n + 1) ((rlL T u p).2 + 1) else (none, (rlL T u p).2)) else (some (u', n + 1), (rlL T u p).2)
theorem or1_f {P : Nat → Bool} {a b : Nat} (h : or1 P a b = false) : P b = false ∧ b ≠ a := by
  unfold or1 at h
  rw [Bool.or_eq_false_iff] at h
  exact ⟨h.1, of_decide_eq_false h.2⟩
theorem rlG_q {T : List Int} {u u' : gb_Ru} {p : Nat} (hu : uI u) (h : (rlG T u p).1 = some u') : uI u' ∧ p ≤ (rlG T u p).2 := by
  unfold rlG at h ⊢
  cases hg : nn T u.2.1 p with
  | none => rw [hg] at h; cases h
  | some g =>
    rw [hg] at h
    dsimp only at h ⊢
    by_cases c : tA T (p + 1) = 119
    · rw [if_pos c] at h ⊢
      cases hw : (nm T 0 999 3 (p + 2)).1 with
      | none => rw [hw] at h; cases h
      | some w =>
        rw [hw] at h
        dsimp only at h ⊢
        have q1 := nm_p (T := T) (lo := 0) (hi := 999) (k := 3) (p := p + 2)
        by_cases c2 : tA T (nm T 0 999 3 (p + 2)).2 = 107
        · rw [if_pos c2] at h ⊢
          have q2 := nm_p (T := T) (lo := 0) (hi := 99) (k := 2) (p := (nm T 0 999 3 (p + 2)).2 + 1)
          cases hk : (nm T 0 99 2 ((nm T 0 999 3 (p + 2)).2 + 1)).1 with
          | none => rw [hk] at h; cases h
          | some k =>
            rw [hk] at h
            cases h
            exact ⟨uI_G hu (nn_r hg).1 (nmv_r hw) (nmv_r hk), by show p ≤ (nm T 0 99 2 _).2; omega⟩
        · rw [if_neg c2] at h; cases h
    · rw [if_neg c] at h; cases h
theorem rlB_q {T : List Int} {u u' : gb_Ru} {p : Nat} (hu : uI u) (h : (rlB T u p).1 = some u') : uI u' ∧ p ≤ (rlB T u p).2 := by
  unfold rlB at h ⊢
  cases hg : nn T u.2.2.1 p with
  | none => rw [hg] at h; cases h
  | some g =>
    rw [hg] at h
    dsimp only at h ⊢
    by_cases c : tA T (p + 1) = 99
    · rw [if_pos c] at h ⊢
      have q1 := nm_p (T := T) (lo := 0) (hi := 99) (k := 2) (p := p + 2)
      cases hw : (nm T 0 99 2 (p + 2)).1 with
      | none => rw [hw] at h; cases h
      | some w =>
        rw [hw] at h
        cases h
        exact ⟨uI_B hu (nn_r hg).1 (nmv_r hw), by show p ≤ (nm T 0 99 2 _).2; omega⟩
    · rw [if_neg c] at h; cases h
theorem rlP_q {T : List Int} {u u' : gb_Ru} {l : Bool} {p : Nat} (hu : uI u) (h : (rlP T u l p).1 = some u') : uI u' ∧ p ≤ (rlP T u l p).2 := by
  unfold rlP at h ⊢
  cases hg : nn T (fun _ => false) p with
  | none => rw [hg] at h; cases h
  | some a =>
    rw [hg] at h
    dsimp only at h ⊢
    cases hb : nn T (or1 (u.2.2.2 a) a) (p + 1) with
    | none => rw [hb] at h; cases h
    | some b =>
      rw [hb] at h
      have ha6 := (nn_r hg).1
      obtain ⟨hb6, -, hb3⟩ := nn_r hb
      have hne := (or1_f hb3).2
      cases l with
      | false =>
        cases h
        exact ⟨uI_P hu ha6 hb6 (fun e => hne e.symm) (by omega), by show p ≤ p + 2; omega⟩
      | true =>
        dsimp only at h ⊢
        have q1 := nm_p (T := T) (lo := 1) (hi := 99) (k := 2) (p := p + 2)
        cases hw : (nm T 1 99 2 (p + 2)).1 with
        | none => rw [hw] at h; cases h
        | some w =>
          rw [hw] at h
          cases h
          have := nmv_r hw
          exact ⟨uI_P hu ha6 hb6 (fun e => hne e.symm) (by omega), by show p ≤ (nm T 1 99 2 _).2; omega⟩
theorem rlL_q {T : List Int} {u u' : gb_Ru} {p : Nat} (hu : uI u) (h : (rlL T u p).1 = some u') : uI u' ∧ p + 1 ≤ (rlL T u p).2 := by
  unfold rlL at h ⊢
  by_cases c1 : tA T p = 103
  · rw [if_pos c1] at h ⊢; exact rlG_q hu h
  · rw [if_neg c1] at h ⊢
    by_cases c2 : tA T p = 98
    · rw [if_pos c2] at h ⊢; exact rlB_q hu h
    · rw [if_neg c2] at h ⊢
      by_cases c3 : tA T p = 108
      · rw [if_pos c3] at h ⊢; exact rlP_q hu h
      · rw [if_neg c3] at h ⊢
        by_cases c4 : tA T p = 120
        · rw [if_pos c4] at h ⊢; exact rlP_q hu h
        · rw [if_neg c4] at h; cases h
