/-! LAY: the reference -/
def gb_fP (P : Nat → Prop) (σ σ' : gb_M) : Prop := (∀ k i x, ¬ P k → σ'.1 k i x = σ.1 k i x) ∧ ∀ k i x, ¬ P k → σ'.2 k i x = σ.2 k i x
theorem fP_rf {P : Nat → Prop} {σ : gb_M} : gb_fP P σ σ := ⟨fun _ _ _ _ => rfl, fun _ _ _ _ => rfl⟩
theorem fP_tr {P : Nat → Prop} {σ σ' σ'' : gb_M} (h : gb_fP P σ σ') (h' : gb_fP P σ' σ'') : gb_fP P σ σ'' := ⟨fun k i x hk => (h'.1 k i x hk).trans (h.1 k i x hk), fun k i x hk => (h'.2 k i x hk).trans (h.2 k i x hk)⟩
theorem fP_w {P Q : Nat → Prop} {σ σ' : gb_M} (h : gb_fP P σ σ') (hPQ : ∀ k, P k → Q k) : gb_fP Q σ σ' := ⟨fun k i x hk => h.1 k i x (fun z => hk (hPQ k z)), fun k i x hk => h.2 k i x (fun z => hk (hPQ k z))⟩
theorem fP_si {P : Nat → Prop} {j k i : Nat} {σ σ' : gb_M} {v : Int32} (h : gb_fP P σ σ') (hk : P k) : gb_fP P σ (gb_si σ' k j i v) := by
  refine ⟨fun k' i' x hk' => ?_, h.2⟩
  rw [← h.1 k' i' x hk']
  simp only [gb_si]
  rw [if_neg (fun e => hk' (by rw [e.1]; exact hk))]
theorem fP_sl {P : Nat → Prop} {j k i : Nat} {σ σ' : gb_M} {v : Int64} (h : gb_fP P σ σ') (hk : P k) : gb_fP P σ (gb_sl σ' k j i v) := by
  refine ⟨h.1, fun k' i' x hk' => ?_⟩
  rw [← h.2 k' i' x hk']
  simp only [gb_sl]
  rw [if_neg (fun e => hk' (by rw [e.1]; exact hk))]
theorem fS_fP {j : Nat} {σ σ' : gb_M} (h : gb_fS j σ σ') : gb_fP (fun k => 10 ≤ k ∧ k ≤ 18) σ σ' := ⟨fun k i x hk => h.1 k i x (fun z => hk ⟨z.1, z.2.1⟩), fun k i x _ => by rw [h.2]⟩
/-- the reference's numbers with another pile in one bin -/
theorem RM_set {f f' : Nat → Int32} {o b : Nat} {s : gb_St} {L : List gb_Ly} (hR : gb_RM f o s) (il : iL s) (hb : b < 6) (hl : L.length ≤ 6) (h1 : ∀ x, x < 176 → x ≠ 60 + b → (x < 66 + 18 * b ∨ 84 + 18 * b ≤ x) → f' (o + x) = f (o + x)) (hN : f' (o + (60 + (b : Int)).toNat) = nZ L.length)
    (hL : ∀ i : Nat, i < L.length → f' (o + (66 + 18 * (b : Int) + 3 * (i : Int) + 0).toNat) = nZ (lz L i).1 ∧ f' (o + (66 + 18 * (b : Int) + 3 * (i : Int) + 1).toNat) = nZ (lz L i).2.1 ∧ f' (o + (66 + 18 * (b : Int) + 3 * (i : Int) + 2).toNat) = nZ (lz L i).2.2) : gb_RM f' o (setB s b L) := by
  obtain ⟨mW, mK, mO, mC, mP, mN, mL, mY, mQ⟩ := hR
  refine ⟨fun g hg => ?_, fun g hg => ?_, fun g h hg hh => ?_, fun k hk => ?_, fun k hk => ?_, fun k hk => ?_, fun k i hk hi => ?_, ?_, ?_⟩
  · rw [h1 _ (by omega) (by omega) (by omega)]; exact mW g hg
  · rw [h1 _ (by omega) (by omega) (by omega)]; exact mK g hg
  · rw [h1 _ (by omega) (by omega) (by omega)]; exact mO g h hg hh
  · rw [h1 _ (by omega) (by omega) (by omega)]; exact mC k hk
  · rw [h1 _ (by omega) (by omega) (by omega)]; exact mP k hk
  · by_cases e : k = b
    · subst e; rw [sB_s]; exact hN
    · rw [h1 _ (by omega) (by omega) (by omega), sB_n e]; exact mN k hk
  · by_cases e : k = b
    · subst e; rw [sB_s] at hi ⊢; exact hL i hi
    · rw [sB_n e] at hi ⊢
      have hlen := (il k hk).1
      rw [h1 _ (by omega) (by omega) (by omega), h1 _ (by omega) (by omega) (by omega), h1 _ (by omega) (by omega) (by omega)]
      exact mL k i hk hi
  · rw [h1 _ (by omega) (by omega) (by omega)]; exact mY
  · rw [h1 _ (by omega) (by omega) (by omega)]; exact mQ
theorem RM_cg {f f' : Nat → Int32} {o o' : Nat} {s : gb_St} (hR : gb_RM f o s) (il : iL s) (h : ∀ x, x < 176 → f' (o' + x) = f (o + x)) : gb_RM f' o' s := by
  obtain ⟨mW, mK, mO, mC, mP, mN, mL, mY, mQ⟩ := hR
  refine ⟨fun g hg => ?_, fun g hg => ?_, fun g k hg hk => ?_, fun k hk => ?_, fun k hk => ?_, fun k hk => ?_, fun k i hk hi => ?_, ?_, ?_⟩
  · rw [h _ (by omega)]; exact mW g hg
  · rw [h _ (by omega)]; exact mK g hg
  · rw [h _ (by omega)]; exact mO g k hg hk
  · rw [h _ (by omega)]; exact mC k hk
  · rw [h _ (by omega)]; exact mP k hk
  · rw [h _ (by omega)]; exact mN k hk
  · have hlen := (il k hk).1
    rw [h _ (by omega), h _ (by omega), h _ (by omega)]; exact mL k i hk hi
  · rw [h _ (by omega)]; exact mY
  · rw [h _ (by omega)]; exact mQ
theorem fP_MM {P : Nat → Prop} {σ σ' : gb_M} {s : gb_St} (h : gb_fP P σ σ') (hP : ¬ P 37) (hM : gb_MM σ s) : gb_MM σ' s := ⟨RM_cg hM.1 hM.2.2.2.2.2.2.1 (fun x _ => h.1 37 0 _ hP), hM.2⟩
section MLAY
variable {σ : gb_M} {s : gb_St} {b : Nat}
end MLAY
