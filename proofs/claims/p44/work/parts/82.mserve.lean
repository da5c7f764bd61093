/-! SERVE, PICK: by the reference -/
def gJ (s : gb_St) (G : Nat → Int) : gb_St := (s.1, fun b => tk (s.2 b) (G b))
theorem gJ_upd {s : gb_St} {G : Nat → Int} {b : Nat} {t : Int} (hok : ∀ l ∈ sB s b, okL l) (hG : 0 ≤ G b) (ht : 0 ≤ t) : setB (gJ s G) b (tk (sB (gJ s G) b) t) = gJ s (updG G b t) := by
  refine Prod.ext rfl (funext fun k => ?_)
  show (if k = b then tk (tk (sB s b) (G b)) t else tk (s.2 k) (G k)) = tk (s.2 k) (updG G b t k)
  unfold updG
  by_cases e : k = b
  · subst e
    rw [if_pos rfl, if_pos rfl, tk_tk hok hG ht]
    rfl
  · rw [if_neg e, if_neg e]
theorem gJ_0 {s : gb_St} (il : iL s) {G : Nat → Int} (h : ∀ b, G b = 0) : ∀ b, b < 6 → sB (gJ s G) b = sB s b := fun b hb => by
  show tk (s.2 b) (G b) = s.2 b
  rw [h b]
  exact tk_0 (il b hb).2.2 (Int.le_refl 0)
abbrev mX : gb_M → gb_M → Prop := gb_fX (fun k => k = 37 ∨ (43 ≤ k ∧ k ≤ 45) ∨ k = 49 ∨ k = 50 ∨ k = 51) (fun x => x = 14 ∨ x = 15 ∨ x = 29)
def jM (σ : gb_M) (way : List Nat) (m : Int) (best : List Nat) : Prop := σ.1 36 0 29 = nZ m ∧ (∀ i, i < way.length → σ.1 49 0 i = nZ (wz way i)) ∧ ∀ i, i < best.length → σ.1 50 0 i = nZ (wz best i)
theorem jM_fX {Q I : Nat → Prop} {σ σ' : gb_M} {way best : List Nat} {m : Int} (f : gb_fX Q I σ σ') (hq : ¬ Q 49 ∧ ¬ Q 50) (hi : ¬ I 29) (h : jM σ way m best) : jM σ' way m best := ⟨by rw [f.2 29 hi]; exact h.1, fun i hx => by rw [(f.1 49 0 i (by omega) hq.1).1]; exact h.2.1 i hx, fun i hx => by rw [(f.1 50 0 i (by omega) hq.2).1]; exact h.2.2 i hx⟩
theorem ordM_fX {Q I : Nat → Prop} {σ σ' : gb_M} {O : List (Nat × Int)} (f : gb_fX Q I σ σ') (hq : ¬ Q 47 ∧ ¬ Q 48) (hi : ¬ I 25) (h : ordM σ O) : ordM σ' O := ⟨by rw [f.2 25 hi]; exact h.1, fun i hx => by rw [(f.1 47 0 i (by omega) hq.1).1, (f.1 48 0 i (by omega) hq.2).1]; exact h.2 i hx⟩
theorem jM_way {σ : gb_M} {way : List Nat} {m : Int} {best : List Nat} {b : Nat} (h : jM σ way m best) : jM (gb_si σ 49 0 way.length (nZ b)) (way ++ [b]) m best := by
  obtain ⟨i1, i2, i3⟩ := h
  refine ⟨by rw [si_k (by omega)]; exact i1, fun i hi => ?_, fun i hi => by rw [si_k (by omega)]; exact i3 i hi⟩
  rw [List.length_append] at hi
  have hi : i < way.length + 1 := hi
  by_cases e : i = way.length
  · subst e; rw [si_s, wz_2]
  · rw [si_i e, wz_1 (by omega)]; exact i2 i (by omega)
theorem jM_unway {σ : gb_M} {way : List Nat} {m : Int} {best : List Nat} {b : Nat} (h : jM σ (way ++ [b]) m best) : jM σ way m best :=
  ⟨h.1, fun i hi => by rw [h.2.1 i (by rw [List.length_append]; omega), wz_1 hi], h.2.2⟩