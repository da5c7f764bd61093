/-! LAND: the lines, as the reference reads them -/
abbrev rU : gb_M → gb_M → Prop := gb_fX (fun k => k = 46) (fun x => 17 ≤ x ∧ x ≤ 20)
theorem rU_w {σ σ' : gb_M} (h : rdX σ σ') : rU σ σ' := fX_w h.1 (fun k hk => hk.elim) (fun x hx => by omega)
def mP (a b : Nat) : Nat := 6 * (if b < a then b else a) + (if a < b then b else a)
def mU (σ : gb_M) (u : gb_Ru) : Prop := (∀ k, k < 54 → σ.1 46 0 k = nZ (u.1 k)) ∧ σ.1 36 0 19 = bm 6 u.2.1 ∧ σ.1 36 0 20 = bm 6 u.2.2.1 ∧ ∀ a b, a < 6 → b < 6 → a ≠ b → pt (σ.2 36 0 21) (mP a b) = u.2.2.2 a b
theorem mU_rd {σ σ' : gb_M} {u : gb_Ru} (f : rdX σ σ') (h : mU σ u) : mU σ' u := ⟨fun k hk => by rw [(f.1.1 46 0 k (by omega) (fun z => z)).1]; exact h.1 k hk, by rw [f.1.2 19 (by omega)]; exact h.2.1, by rw [f.1.2 20 (by omega)]; exact h.2.2.1, by rw [f.2]; exact h.2.2.2⟩
/-- what a line's reader does -/
def mL (fr : gb_R) (σ : gb_M) (T : List Int) (x : Option gb_Ru × Nat) : Prop := ∃ σ', fr = some (none, σ') ∧ rU σ σ' ∧ (x.1 = none → mF σ' x.2) ∧ ∀ u', x.1 = some u' → mR σ' T x.2 ∧ mU σ' u'
theorem mL_n {fr : gb_R} {σ σ' : gb_M} {T : List Int} {q : Nat} (h : fr = some (none, σ')) (h3 : rU σ σ') (h2 : mF σ' q) : mL fr σ T (none, q) := ⟨σ', h, h3, fun _ => h2, fun _ z => by cases z⟩
theorem mL_tr {fr fr' : gb_R} {σ τ : gb_M} {T : List Int} {x : Option gb_Ru × Nat} (f : rU σ τ) (e : fr' = fr) (h : mL fr τ T x) : mL fr' σ T x := by
  obtain ⟨σ', h1, h2, h3⟩ := h
  exact ⟨σ', e.trans h1, fX_tr f h2, h3⟩
theorem rU_s {σ σ' : gb_M} {i : Nat} {v : Int32} (h : rU σ σ') : rU σ (gb_si σ' 46 0 i v) := fX_si h (Or.inl ⟨by omega, rfl⟩)
theorem rU_x {σ σ' : gb_M} {i : Nat} {v : Int32} (h : rU σ σ') (hi : 17 ≤ i ∧ i ≤ 20) : rU σ (gb_si σ' 36 0 i v) := fX_si h (Or.inr ⟨rfl, hi⟩)
theorem mF_s {σ : gb_M} {w i : Nat} {v : Int32} (h : mF σ w) : mF (gb_si σ 46 0 i v) w := ⟨by rw [si_k (by omega)]; exact h.1, h.2⟩
theorem mF_x {σ : gb_M} {w i : Nat} {v : Int32} (hi : 18 ≠ i) (h : mF σ w) : mF (gb_si σ 36 0 i v) w := ⟨by rw [si_i hi]; exact h.1, h.2⟩
theorem mR_s {σ : gb_M} {T : List Int} {p i : Nat} {v : Int32} (h : mR σ T p) : mR (gb_si σ 46 0 i v) T p := mR_fX (Q := fun k => k = 46) (I := fun _ => False) (fX_si fX_rf (Or.inl ⟨by omega, rfl⟩)) (by omega) ⟨fun z => z, fun z => z, fun z => z⟩ h
theorem mR_x {σ : gb_M} {T : List Int} {p i : Nat} {v : Int32} (hi : i = 19 ∨ i = 20) (h : mR σ T p) : mR (gb_si σ 36 0 i v) T p := mR_fX (Q := fun _ => False) (I := fun x => x = 19 ∨ x = 20) (fX_si fX_rf (Or.inr ⟨rfl, hi⟩)) (fun z => z) ⟨by omega, by omega, by omega⟩ h
section MLI
variable {σ : gb_M} {T : List Int} {p : Nat} {u : gb_Ru}
/-- three places a line of a grade may stop at -/
theorem tlG_w {s : gb_M} {d : Nat} (hd : d < 6) {w : Nat} {x6 x9 : Int32} (h : mF s w) : mL (gb_gd (gb_in (0 + nZ d) 54) (gb_gd (gb_in (6 + nZ d) 54) (some (none, gb_si (gb_si (gb_si s 36 0 19 ((s.1 36 0 19) ||| (1 <<< (nZ d &&& 31)))) 46 0 (0 + nZ d).toNatClampNeg x6) 46 0 (6 + nZ d).toNatClampNeg x9)))) s T (none, w) := by
  rw [z0, z6, z_add, z_add, g_in (by omega), g_in (by omega)]
  exact mL_n rfl (rU_s (rU_s (rU_x fX_rf (by omega)))) (mF_s (mF_s (mF_x (by omega) h)))
theorem tlB_w {s : gb_M} {d : Nat} (hd : d < 6) {w : Nat} {x6 : Int32} (h : mF s w) : mL (gb_gd (gb_in (48 + nZ d) 54) (some (none, gb_si (gb_si s 36 0 20 ((s.1 36 0 20) ||| (1 <<< (nZ d &&& 31)))) 46 0 (48 + nZ d).toNatClampNeg x6))) s T (none, w) := by
  rw [z48, z_add, g_in (by omega)]
  exact mL_n rfl (rU_s (rU_x fX_rf (by omega))) (mF_s (mF_x (by omega) h))
end MLI
