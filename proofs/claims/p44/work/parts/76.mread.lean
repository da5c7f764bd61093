/-! READ: the same by the reference -/
def mR (σ : gb_M) (T : List Int) (p : Nat) : Prop := σ.1 36 0 16 = nZ T.length ∧ σ.1 36 0 17 = nZ p ∧ σ.1 36 0 18 = -1 ∧ p ≤ T.length ∧ T.length ≤ 200 ∧ (∀ i, i < T.length → σ.1 41 0 i = bY (T.getD i 0)) ∧ ∀ i, i < T.length → 0 ≤ T.getD i 0 ∧ T.getD i 0 ≤ 255
def mF (σ : gb_M) (w : Nat) : Prop := σ.1 36 0 18 = nZ w ∧ w ≤ 200
def rdX (σ σ' : gb_M) : Prop := gb_fX (fun _ => False) (fun x => x = 17 ∨ x = 18) σ σ' ∧ σ'.2 = σ.2
theorem rdX_tr {σ σ' σ'' : gb_M} (h : rdX σ σ') (h' : rdX σ' σ'') : rdX σ σ'' := ⟨fX_tr h.1 h'.1, h'.2.trans h.2⟩
theorem bY_255 : ∀ i : Fin 256, bY (i.val : Int) &&& 255 = nZ (i.val : Int) := by decide +kernel
theorem bY_and {c : Int} (h : 0 ≤ c ∧ c ≤ 255) : bY c &&& 255 = nZ c := by
  have := bY_255 ⟨c.toNat, by omega⟩
  dsimp only at this
  rwa [show ((c.toNat : Nat) : Int) = c by omega] at this
theorem mF_ne {σ : gb_M} {w : Nat} (h : mF σ w) : ¬ σ.1 36 0 18 = -1 := by
  rw [h.1, zm1, z_eq ⟨by have := h.2; omega, by have := h.2; omega⟩ ⟨by omega, by omega⟩]
  omega
theorem mF_fX {Q I : Nat → Prop} {σ σ' : gb_M} {w : Nat} (f : gb_fX Q I σ σ') (hi : ¬ I 18) (h : mF σ w) : mF σ' w := ⟨by rw [f.2 18 hi]; exact h.1, h.2⟩
theorem mR_fX {Q I : Nat → Prop} {σ σ' : gb_M} {T : List Int} {p : Nat} (f : gb_fX Q I σ σ') (hq : ¬ Q 41) (hi : ¬ I 16 ∧ ¬ I 17 ∧ ¬ I 18) (h : mR σ T p) : mR σ' T p := ⟨by rw [f.2 16 hi.1]; exact h.1, by rw [f.2 17 hi.2.1]; exact h.2.1, by rw [f.2 18 hi.2.2]; exact h.2.2.1, h.2.2.2.1, h.2.2.2.2.1, fun i hx => by rw [(f.1 41 0 i (by omega) hq).1]; exact h.2.2.2.2.2.1 i hx, h.2.2.2.2.2.2⟩
section RM1
variable {σ : gb_M} {T : List Int} {p : Nat}
theorem mR_at (h : mR σ T p) {q : Nat} (hq : q ≤ T.length) : mR (gb_si σ 36 0 17 (nZ q)) T q ∧ rdX σ (gb_si σ 36 0 17 (nZ q)) := by
  obtain ⟨a, b, c, d, e, f, g⟩ := h
  exact ⟨⟨by rw [si_i (by omega)]; exact a, si_s, by rw [si_i (by omega)]; exact c, hq, e, fun i hi => by rw [si_k (by omega)]; exact f i hi, g⟩, fX_si fX_rf (Or.inr ⟨rfl, Or.inl rfl⟩), rfl⟩
/-- how a number ends -/
def mE (σ' : gb_M) (T : List Int) (x : Option Int × Nat) : Prop := match x.1 with
  | none => mF σ' x.2
  | some _ => mR σ' T x.2
end RM1