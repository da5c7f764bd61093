/-! READ: orders -/
def rd1 (T : List Int) (p : Nat) : Option (Nat × Int) × Nat := match nn T (fun _ => false) p with
  | none => (none, p)
  | some g => if tA T (p + 1) = 58 then ((nm T 1 99 2 (p + 2)).1.map (fun t => (g, t)), (nm T 1 99 2 (p + 2)).2) else (none, p + 1)
def rdO (T : List Int) (n : Nat) (acc : List (Nat × Int)) (p : Nat) : Option (List (Nat × Int)) × Nat := match n with
  | 0 => (none, p)
  | n + 1 => match (rd1 T p).1 with
    | none => (none, (rd1 T p).2)
    | some o => if (rd1 T p).2 < T.length then (if n = 0 then (none, (rd1 T p).2) else if tA T (rd1 T p).2 = 44 then rdO T n (acc ++ [o]) ((rd1 T p).2 + 1) else (none, (rd1 T p).2)) else (some (acc ++ [o]), (rd1 T p).2)
theorem rd1_r {T : List Int} {p : Nat} {o : Nat × Int} (h : (rd1 T p).1 = some o) : nn T (fun _ => false) p = some o.1 ∧ tA T (p + 1) = 58 ∧ (nm T 1 99 2 (p + 2)).1 = some o.2 ∧ (rd1 T p).2 = (nm T 1 99 2 (p + 2)).2 ∧ o.1 < 6 ∧ 1 ≤ o.2 ∧ o.2 ≤ 99 := by
  unfold rd1 at h ⊢
  cases hg : nn T (fun _ => false) p with
  | none => rw [hg] at h; cases h
  | some g =>
    rw [hg] at h
    dsimp only at h ⊢
    by_cases c : tA T (p + 1) = 58
    · rw [if_pos c] at h ⊢
      cases ht : (nm T 1 99 2 (p + 2)).1 with
      | none => rw [ht] at h; cases h
      | some t =>
        rw [ht] at h
        cases h
        exact ⟨rfl, c, rfl, rfl, (nn_r hg).1, (nmv_r ht).1, (nmv_r ht).2⟩
    · rw [if_neg c] at h; cases h
def rdT (T : List Int) : Option (List (Nat × Int)) × Nat := if T.length = 0 then (some [], 0) else rdO T 6 [] 0
def rdE (x : Option (List (Nat × Int)) × Nat) : Int := match x.1 with
  | none => -21 - (x.2 : Int)
  | some O => O.length
def oz (O : List (Nat × Int)) (i : Nat) : Nat × Int := O.getD i (0, 0)
def okO (O : List (Nat × Int)) : Prop := O.length ≤ 6 ∧ ∀ i, i < O.length → (oz O i).1 < 6 ∧ 1 ≤ (oz O i).2 ∧ (oz O i).2 ≤ 99
def ordA (σ : gb_M) (O : List (Nat × Int)) : Prop := ∀ i, i < O.length → σ.1 24 0 i = nZ (oz O i).1 ∧ σ.1 25 0 i = nZ (oz O i).2
def ordC (σ : gb_M) (O : List (Nat × Int)) : Prop := σ.1 23 0 3 = nZ O.length ∧ ordA σ O
def ordM (σ : gb_M) (O : List (Nat × Int)) : Prop := σ.1 36 0 25 = nZ O.length ∧ ∀ i, i < O.length → σ.1 47 0 i = nZ (oz O i).1 ∧ σ.1 48 0 i = nZ (oz O i).2
theorem oz_1 {O : List (Nat × Int)} {o : Nat × Int} {i : Nat} (hi : i < O.length) : oz (O ++ [o]) i = oz O i := by
  simp [oz, List.getD, List.getElem?_append_left hi]
theorem oz_2 {O : List (Nat × Int)} {o : Nat × Int} : oz (O ++ [o]) O.length = o := by
  simp [oz, List.getD]
theorem okO_app {O : List (Nat × Int)} {o : Nat × Int} (h : okO O) (hl : O.length < 6) (ho : o.1 < 6 ∧ 1 ≤ o.2 ∧ o.2 ≤ 99) : okO (O ++ [o]) := by
  have el : (O ++ [o]).length = O.length + 1 := by simp
  refine ⟨by omega, fun i hi => ?_⟩
  rw [el] at hi
  by_cases e : i = O.length
  · subst e; rw [oz_2]; exact ho
  · rw [oz_1 (by omega)]; exact h.2 i (by omega)
theorem rdO_ok {T : List Int} : ∀ n acc p, acc.length + n = 6 → okO acc → ∀ O, (rdO T n acc p).1 = some O → okO O
  | 0, acc, p, hn, ha, O, h => by cases h
  | n + 1, acc, p, hn, ha, O, h => by
    unfold rdO at h
    cases hg : (rd1 T p).1 with
    | none => rw [hg] at h; cases h
    | some o =>
      obtain ⟨-, -, -, -, hr⟩ := rd1_r hg
      rw [hg] at h
      dsimp only at h
      have ha' := okO_app ha (by omega) hr
      by_cases c2 : (rd1 T p).2 < T.length
      · rw [if_pos c2] at h
        by_cases c3 : n = 0
        · rw [if_pos c3] at h; cases h
        · rw [if_neg c3] at h
          by_cases c4 : tA T (rd1 T p).2 = 44
          · rw [if_pos c4] at h
            exact rdO_ok n _ _ (by simp; omega) ha' O h
          · rw [if_neg c4] at h; cases h
      · rw [if_neg c2] at h
        cases h
        exact ha'
theorem rdT_ok {T : List Int} {O : List (Nat × Int)} (h : (rdT T).1 = some O) : okO O := by
  unfold rdT at h
  have h0 : okO [] := ⟨by simp, fun i hi => by cases hi⟩
  split at h
  · cases h; exact h0
  · exact rdO_ok 6 [] 0 rfl h0 O h
abbrev rdP : gb_M → gb_M → Prop := gb_fP (fun k => k = 1 ∨ (23 ≤ k ∧ k ≤ 25))
theorem rd_w {σ σ' : gb_M} (h : gb_fP (fun k => k = 1) σ σ') : rdP σ σ' := fP_w h (fun k hk => Or.inl hk)
theorem p_nn0_t {σ : gb_M} {T : List Int} {p : Nat} (h : cR σ T p) {d : Nat} (e : nn T (fun _ => false) p = some d) : ∃ σ', f_X8_newNumber [gR 1 0, gI 0] σ = some (some (gI (nZ d)), σ') ∧ cR σ' T (p + 1) ∧ gb_fP (fun k => k = 1) σ σ' := by
  have := p_nn_t h e
  rwa [bm_none] at this
theorem p_nn0_f {σ : gb_M} {T : List Int} {p : Nat} (h : cR σ T p) (e : nn T (fun _ => false) p = none) : f_X8_newNumber [gR 1 0, gI 0] σ = some (some (gI (-1)), σ) := by
  have := p_nn_f h e
  rwa [bm_none] at this
theorem p_one_t {σ : gb_M} {T : List Int} {p : Nat} (h : cR σ T p) {i : Nat} (hi : i < 6) {o : Nat × Int} (e : (rd1 T p).1 = some o) : ∃ σ', f_X2_readOne [gR 23 0, gR 1 0, gI (nZ i)] σ = some (some (gI 1), σ') ∧ cR σ' T (rd1 T p).2 ∧ rdP σ σ' ∧ (σ'.1 24 0 i = nZ o.1 ∧ σ'.1 25 0 i = nZ o.2) ∧ ∀ k, k ≠ i → σ'.1 24 0 k = σ.1 24 0 k ∧ σ'.1 25 0 k = σ.1 25 0 k := by
  obtain ⟨e1, e2, e3, e4, hr⟩ := rd1_r e
  obtain ⟨τ1, a1, a2, a3⟩ := p_nn0_t h e1
  obtain ⟨τ2, b1, b2, b3⟩ := p_takes_t a2 (c := 58) (by omega) e2
  have b1' : f_X8_takes [gR 1 0, gI 58] τ1 = some (some (gI 1), τ2) := b1
  obtain ⟨τ3, d1, d2, d3⟩ := p_number b2 (lo := 1) (hi := 99) (by omega) (k := 2) (Or.inl rfl) rfl
  have d1' : f_X8_number [gR 1 0, gI 1, gI 99] τ2 = some (some (gI (nZ (nE (nm T 1 99 2 (p + 2)).1))), τ3) := d1
  rw [e3] at d1'
  have d1' : f_X8_number [gR 1 0, gI 1, gI 99] τ2 = some (some (gI (nZ o.2)), τ3) := d1'
  have d2' : cR τ3 T (nm T 1 99 2 (p + 2)).2 := d2
  have f3 := fP_tr a3 (fP_tr b3 d3)
  refine ⟨gb_si (gb_si τ3 24 0 i (nZ o.1)) 25 0 i (nZ o.2), ?_, ?_, ?_, ?_, fun k hk => ?_⟩
  · rw [e_X2_readOne, a1, g_b1, if_neg (by rw [z0, z_lt ⟨by omega, by omega⟩ ⟨by omega, by omega⟩]; omega), b1', g_b1, e10, d1', g_b1, if_pos (show (0 : Int32) ≤ nZ o.2 by rw [z0, z_le ⟨by omega, by omega⟩ ⟨by omega, by omega⟩]; omega), z_tn (by omega), Int.toNat_natCast, g_in (by omega), g_in (by omega)]
  · rw [e4]
    exact cR_fP (P := fun k => 23 ≤ k) (fP_si (fP_si fP_rf (by omega)) (by omega)) (by omega) (by omega) d2'
  · exact fP_tr (rd_w f3) (fP_si (fP_si fP_rf (by omega)) (by omega))
  · simp (disch := omega) only [si_k, si_s, and_self]
  · simp (disch := omega) only [si_k, si_i]
    exact ⟨f3.1 24 0 k (by omega), f3.1 25 0 k (by omega)⟩
theorem p_one_f {σ : gb_M} {T : List Int} {p : Nat} (h : cR σ T p) {i : Nat} (hi : i < 6) (e : (rd1 T p).1 = none) : ∃ σ', f_X2_readOne [gR 23 0, gR 1 0, gI (nZ i)] σ = some (some (gI 0), σ') ∧ cR σ' T (rd1 T p).2 ∧ rdP σ σ' := by
  rw [e_X2_readOne]
  unfold rd1 at e ⊢
  cases hg : nn T (fun _ => false) p with
  | none =>
    rw [p_nn0_f h hg, g_b1, if_pos (by decide)]
    exact ⟨σ, rfl, h, fP_rf⟩
  | some g =>
    have hg6 := (nn_r hg).1
    rw [hg] at e
    dsimp only at e ⊢
    obtain ⟨τ1, a1, a2, a3⟩ := p_nn0_t h hg
    rw [a1, g_b1, if_neg (by rw [z0, z_lt ⟨by omega, by omega⟩ ⟨by omega, by omega⟩]; omega)]
    by_cases c : tA T (p + 1) = 58
    · rw [if_pos c] at e ⊢
      obtain ⟨τ2, b1, b2, b3⟩ := p_takes_t a2 (c := 58) (by omega) c
      have b1' : f_X8_takes [gR 1 0, gI 58] τ1 = some (some (gI 1), τ2) := b1
      obtain ⟨τ3, d1, d2, d3⟩ := p_number b2 (lo := 1) (hi := 99) (by omega) (k := 2) (Or.inl rfl) rfl
      have d1' : f_X8_number [gR 1 0, gI 1, gI 99] τ2 = some (some (gI (nZ (nE (nm T 1 99 2 (p + 2)).1))), τ3) := d1
      have e3 : (nm T 1 99 2 (p + 2)).1 = none := by
        cases ht : (nm T 1 99 2 (p + 2)).1 with
        | none => rfl
        | some t => rw [ht] at e; cases e
      rw [e3] at d1'
      refine ⟨τ3, ?_, d2, rd_w (fP_tr a3 (fP_tr b3 d3))⟩
      rw [b1', g_b1, e10, d1', g_b1, if_neg (show ¬ (0 : Int32) ≤ nZ (nE none) by decide)]
    · rw [if_neg c]
      have hf : f_X8_takes [gR 1 0, gI 58] τ1 = some (some (gI 0), τ1) := p_takes_f a2 (c := 58) (by omega) c
      exact ⟨τ1, by rw [hf, g_b1, e00], a2, rd_w a3⟩
theorem p_rd {T : List Int} : ∀ n acc p (σ : gb_M), acc.length + n = 6 → 0 < n → cR σ T p → ordA σ acc → ∃ σ', j_X2_read_16 (nZ acc.length) σ = some (some (gI (nZ (rdE (rdO T n acc p)))), σ') ∧ (∀ O, (rdO T n acc p).1 = some O → ordC σ' O) ∧ cR σ' T (rdO T n acc p).2 ∧ rdP σ σ'
  | 0, _, _, _, _, h, _, _ => absurd h (by omega)
  | n + 1, acc, p, σ, hn, _, h, ha => by
    have fl : ∀ (τ : gb_M) (q : Nat), cR τ T q → gb_b1 (f_X8_fault [gR 1 0] τ) (fun x4 s3 => some (some (gI x4), s3)) = some (some (gI (nZ (-21 - (q : Int)))), τ) := by
      intro τ q hq
      rw [e_X8_fault, g_b1, hq.2.1, show (-21 : Int32) = nZ (-21) from rfl, z_sub]
    rw [e_X2_read_16, if_neg (n6 (by omega))]
    unfold rdO
    cases hg : (rd1 T p).1 with
    | none =>
      obtain ⟨τ, a1, a2, a3⟩ := p_one_f h (i := acc.length) (by omega) hg
      refine ⟨τ, ?_, fun O hO => (by cases hO), a2, a3⟩
      rw [a1, g_b1, e00, fl τ _ a2]
      rfl
    | some o =>
      obtain ⟨τ, a1, a2, a3, a4, a5⟩ := p_one_t h (i := acc.length) (by omega) hg
      have hl := a2.2.2
      have el : (acc ++ [o]).length = acc.length + 1 := by simp
      have ha' : ordA τ (acc ++ [o]) := by
        intro i hi
        rw [el] at hi
        by_cases e : i = acc.length
        · subst e; rw [oz_2]; exact a4
        · obtain ⟨u1, u2⟩ := a5 i e
          rw [oz_1 (by omega), u1, u2]
          exact ha i (by omega)
      rw [a1, g_b1, e10, p_ended a2, g_b1]
      dsimp only
      by_cases c2 : (rd1 T p).2 < T.length
      · rw [if_pos c2, if_pos c2, e00]
        by_cases c3 : n = 0
        · rw [if_pos c3, if_pos (show nZ acc.length = 5 by rw [show acc.length = 5 by omega]; rfl)]
          exact ⟨τ, by rw [fl τ _ a2]; rfl, fun O hO => (by cases hO), a2, a3⟩
        · rw [if_neg c3, if_neg (show ¬ nZ acc.length = 5 by rw [z5, z_eq ⟨by omega, by omega⟩ ⟨by omega, by omega⟩]; omega)]
          by_cases c4 : tA T (rd1 T p).2 = 44
          · obtain ⟨τ2, b1, b2, b3⟩ := p_takes_t a2 (c := 44) (by omega) c4
            have b1' : f_X8_takes [gR 1 0, gI 44] τ = some (some (gI 1), τ2) := b1
            obtain ⟨σ', i1, i2, i3, i4⟩ := p_rd n (acc ++ [o]) _ τ2 (by omega) (by omega) b2 (fun i hi => by rw [b3.1 24 0 i (by omega), b3.1 25 0 i (by omega)]; exact ha' i hi)
            rw [if_pos c4, b1', g_b1, e10, zs, ← el]
            exact ⟨σ', i1, i2, i3, fP_tr a3 (fP_tr (rd_w b3) i4)⟩
          · have hf : f_X8_takes [gR 1 0, gI 44] τ = some (some (gI 0), τ) := p_takes_f a2 (c := 44) (by omega) c4
            rw [if_neg c4, hf, g_b1, e00]
            exact ⟨τ, by rw [fl τ _ a2]; rfl, fun O hO => (by cases hO), a2, a3⟩
      · rw [if_neg c2, if_neg c2, e10, zs, si_s]
        refine ⟨gb_si τ 23 0 3 (nZ (acc.length + 1 : Nat)), ?_, fun O hO => ?_, cR_fP (P := fun k => 23 ≤ k) (fP_si fP_rf (by omega)) (by omega) (by omega) a2, fP_tr a3 (fP_si fP_rf (by omega))⟩
        · show some (some (gI _), _) = some (some (gI (nZ ((acc ++ [o]).length : Int))), _)
          rw [el]
        · cases hO
          refine ⟨by rw [si_s, el], fun i hi => ?_⟩
          rw [si_k (by omega), si_k (by omega)]
          exact ha' i hi
theorem CC_text2 {P : Nat → Prop} {σ σ' : gb_M} {A : gb_Ab} {T : List Int} (h : gb_fP P σ σ') (hP : ∀ k, P k → k = 1 ∨ k = 2 ∨ 22 < k) (hC : CC σ A) (hT : textC σ' T) : CC σ' (setT A T) := ⟨SC_fP h (fun k _ _ z => by have := hP k z; omega) hC.1, keptC_fP h (fun z => by have := hP 0 z; omega) (fun k _ _ z => by have := hP k z; omega) hC.2.1, pastC_fP h (fun z => by have := hP _ z; omega) (fun k _ _ z => by have := hP k z; omega) hC.2.2.1, hT, rowC_fP h (fun z => by have := hP _ z; omega) (fun z => by have := hP _ z; omega) hC.2.2.2.2⟩
theorem p_readOrders {σ0 σ : gb_M} {A : gb_Ab} (h : KC σ0 σ A) : ∃ σ', f_X9_readOrders [gR 0 0] σ = some (some (gI (nZ (rdE (rdT A.2.2.2.1)))), σ') ∧ KC σ0 σ' (setT A []) ∧ (∀ O, (rdT A.2.2.2.1).1 = some O → ordC σ' O) ∧ (rdT A.2.2.2.1).2 ≤ 200 := by
  obtain ⟨⟨a, b, c, d⟩, hf⟩ := And.intro h.1.2.2.2.1 h.2
  generalize hT : A.2.2.2.1 = T at a b c d
  have f1 : rdP σ (gb_si (gb_si σ 1 0 2 0) 23 0 3 0) := fP_si (fP_si fP_rf (Or.inl rfl)) (by omega)
  have c1 : cR (gb_si (gb_si σ 1 0 2 0) 23 0 3 0) T 0 := ⟨⟨by rw [si_k (by omega), si_i (by omega)]; exact a, b, fun i hi => by rw [si_k (by omega), si_k (by omega)]; exact c i hi, d⟩, by rw [si_k (by omega), si_s]; rfl, by omega⟩
  have fin : ∀ (τ : gb_M) (q : Nat) (r : Int32), f_X2_read [gR 23 0, gR 1 0] (gb_si σ 1 0 2 0) = some (some (gI r), τ) → cR τ T q → rdP (gb_si (gb_si σ 1 0 2 0) 23 0 3 0) τ → f_X9_readOrders [gR 0 0] σ = some (some (gI r), gb_si τ 1 0 1 0) ∧ KC σ0 (gb_si τ 1 0 1 0) (setT A []) := by
    intro τ q r e hq f
    have f2 : rdP σ (gb_si τ 1 0 1 0) := fP_tr f1 (fP_tr f (fP_si fP_rf (Or.inl rfl)))
    refine ⟨by rw [e_X9_readOrders, e_X8_start, g_b0, e, g_b1, e_X8_clear, g_b0], CC_text2 f2 (fun k hk => by omega) h.1 ⟨by rw [si_s]; rfl, by simp, fun i hi => (by cases hi), fun i hi => (by cases hi)⟩, fP_tr h.2 (fP_w f2 (fun k hk => by omega))⟩
  unfold rdT
  by_cases c0 : T.length = 0
  · rw [if_pos c0]
    obtain ⟨k1, k2⟩ := fin _ 0 0 (by rw [e_X2_read, p_ended c1, g_b1, if_neg (show ¬ 0 < T.length by omega), e10]) c1 fP_rf
    refine ⟨_, k1, k2, fun O hO => ?_, by omega⟩
    cases hO
    exact ⟨by rw [si_k (by omega), si_s]; rfl, fun i hi => by cases hi⟩
  · rw [if_neg c0]
    obtain ⟨τ, i1, i2, i3, i4⟩ := p_rd (T := T) 6 [] 0 _ rfl (by omega) c1 (fun i hi => by cases hi)
    have i1' : j_X2_read_16 0 (gb_si (gb_si σ 1 0 2 0) 23 0 3 0) = some (some (gI (nZ (rdE (rdO T 6 [] 0)))), τ) := i1
    obtain ⟨k1, k2⟩ := fin τ _ _ (by rw [e_X2_read, p_ended c1, g_b1, if_pos (show 0 < T.length by omega), e00]; exact i1') i3 i4
    refine ⟨_, k1, k2, fun O hO => ?_, by have := i3.2.2; omega⟩
    obtain ⟨u1, u2⟩ := i2 O hO
    refine ⟨by rw [si_k (by omega)]; exact u1, fun i hi => ?_⟩
    rw [si_k (by omega), si_k (by omega)]
    exact u2 i hi
