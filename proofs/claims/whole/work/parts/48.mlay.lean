/-! LAY: the reference -/
def gb_fP (P : Nat → Prop) (σ σ' : gb_M) : Prop := (∀ k i x, ¬ P k → σ'.1 k i x = σ.1 k i x) ∧ ∀ k i x, ¬ P k → σ'.2 k i x = σ.2 k i x
theorem fP_rf {P : Nat → Prop} {σ : gb_M} : gb_fP P σ σ := ⟨fun _ _ _ _ => rfl, fun _ _ _ _ => rfl⟩
theorem fP_tr {P : Nat → Prop} {σ σ' σ'' : gb_M} (h : gb_fP P σ σ') (h' : gb_fP P σ' σ'') : gb_fP P σ σ'' := ⟨fun k i x hk => (h'.1 k i x hk).trans (h.1 k i x hk), fun k i x hk => (h'.2 k i x hk).trans (h.2 k i x hk)⟩
theorem fP_w {P Q : Nat → Prop} {σ σ' : gb_M} (h : gb_fP P σ σ') (hPQ : ∀ k, P k → Q k) : gb_fP Q σ σ' := ⟨fun k i x hk => h.1 k i x (fun z => hk (hPQ k z)), fun k i x hk => h.2 k i x (fun z => hk (hPQ k z))⟩
theorem fP_si {P : Nat → Prop} {j k i : Nat} {σ σ' : gb_M} {v : Int32} (h : gb_fP P σ σ') (hk : P k) : gb_fP P σ (gb_si σ' k j i v) := by
  refine ⟨fun k' i' x hk' => ?_, h.2⟩
  rw [← h.1 k' i' x hk']
  simp only [gb_si]
  rw [if_neg (fun e => hk' (by rw [e.1]; exact hk))]
theorem fP_sl {P : Nat → Prop} {j k i : Nat} {σ σ' : gb_M} {v : Int64} (h : gb_fP P σ σ') (hk : P k) : gb_fP P σ (gb_sl σ' k j i v) := by
  refine ⟨h.1, fun k' i' x hk' => ?_⟩
  rw [← h.2 k' i' x hk']
  simp only [gb_sl]
  rw [if_neg (fun e => hk' (by rw [e.1]; exact hk))]
theorem fS_fP {j : Nat} {σ σ' : gb_M} (h : gb_fS j σ σ') : gb_fP (fun k => 10 ≤ k ∧ k ≤ 18) σ σ' := ⟨fun k i x hk => h.1 k i x (fun z => hk ⟨z.1, z.2.1⟩), fun k i x _ => by rw [h.2]⟩
/-- the reference's numbers with another pile in one bin -/
theorem RM_set {f f' : Nat → Int32} {o b : Nat} {s : gb_St} {L : List gb_Ly} (hR : gb_RM f o s) (il : iL s) (hb : b < 6) (hl : L.length ≤ 6) (h1 : ∀ x, x < 176 → x ≠ 60 + b → (x < 66 + 18 * b ∨ 84 + 18 * b ≤ x) → f' (o + x) = f (o + x)) (hN : f' (o + (60 + (b : Int)).toNat) = nZ L.length)
    (hL : ∀ i : Nat, i < L.length → f' (o + (66 + 18 * (b : Int) + 3 * (i : Int) + 0).toNat) = nZ (lz L i).1 ∧ f' (o + (66 + 18 * (b : Int) + 3 * (i : Int) + 1).toNat) = nZ (lz L i).2.1 ∧ f' (o + (66 + 18 * (b : Int) + 3 * (i : Int) + 2).toNat) = nZ (lz L i).2.2) : gb_RM f' o (setB s b L) := by
  obtain ⟨mW, mK, mO, mC, mP, mN, mL, mY, mQ⟩ := hR
  refine ⟨fun g hg => ?_, fun g hg => ?_, fun g h hg hh => ?_, fun k hk => ?_, fun k hk => ?_, fun k hk => ?_, fun k i hk hi => ?_, ?_, ?_⟩
  · rw [h1 _ (by omega) (by omega) (by omega)]; exact mW g hg
  · rw [h1 _ (by omega) (by omega) (by omega)]; exact mK g hg
  · rw [h1 _ (by omega) (by omega) (by omega)]; exact mO g h hg hh
  · rw [h1 _ (by omega) (by omega) (by omega)]; exact mC k hk
  · rw [h1 _ (by omega) (by omega) (by omega)]; exact mP k hk
  · by_cases e : k = b
    · subst e; rw [sB_s]; exact hN
    · rw [h1 _ (by omega) (by omega) (by omega), sB_n e]; exact mN k hk
  · by_cases e : k = b
    · subst e; rw [sB_s] at hi ⊢; exact hL i hi
    · rw [sB_n e] at hi ⊢
      have hlen := (il k hk).1
      rw [h1 _ (by omega) (by omega) (by omega), h1 _ (by omega) (by omega) (by omega), h1 _ (by omega) (by omega) (by omega)]
      exact mL k i hk hi
  · rw [h1 _ (by omega) (by omega) (by omega)]; exact mY
  · rw [h1 _ (by omega) (by omega) (by omega)]; exact mQ
theorem RM_cg {f f' : Nat → Int32} {o o' : Nat} {s : gb_St} (hR : gb_RM f o s) (il : iL s) (h : ∀ x, x < 176 → f' (o' + x) = f (o + x)) : gb_RM f' o' s := by
  obtain ⟨mW, mK, mO, mC, mP, mN, mL, mY, mQ⟩ := hR
  refine ⟨fun g hg => ?_, fun g hg => ?_, fun g k hg hk => ?_, fun k hk => ?_, fun k hk => ?_, fun k hk => ?_, fun k i hk hi => ?_, ?_, ?_⟩
  · rw [h _ (by omega)]; exact mW g hg
  · rw [h _ (by omega)]; exact mK g hg
  · rw [h _ (by omega)]; exact mO g k hg hk
  · rw [h _ (by omega)]; exact mC k hk
  · rw [h _ (by omega)]; exact mP k hk
  · rw [h _ (by omega)]; exact mN k hk
  · have hlen := (il k hk).1
    rw [h _ (by omega), h _ (by omega), h _ (by omega)]; exact mL k i hk hi
  · rw [h _ (by omega)]; exact mY
  · rw [h _ (by omega)]; exact mQ
theorem fP_MM {P : Nat → Prop} {σ σ' : gb_M} {s : gb_St} (h : gb_fP P σ σ') (hP : ¬ P 37) (hM : gb_MM σ s) : gb_MM σ' s := ⟨RM_cg hM.1 hM.2.2.2.2.2.2.1 (fun x _ => h.1 37 0 _ hP), hM.2⟩
section MLAY
variable {σ : gb_M} {s : gb_St} {b : Nat}
theorem m_sets (σ : gb_M) (hb : b < 6) {i : Nat} (hi : i < 6) (x y z : Int32) : f_X10_sets [gR 36 0, gI (nZ b), gI (nZ i), gI x, gI y, gI z] σ = some (none, gb_si (gb_si (gb_si σ 37 0 (66 + 18 * (b : Int) + 3 * (i : Int) + 0).toNat x) 37 0 (66 + 18 * (b : Int) + 3 * (i : Int) + 1).toNat y) 37 0 (66 + 18 * (b : Int) + 3 * (i : Int) + 2).toNat z) := by
  rw [e_X10_sets]
  simp (disch := omega) only [z18, z66, z3, z1, z2, z_mul, z_add, g_in, z_tn, Int.add_zero]
theorem m_lr (σ : gb_M) (hb : b < 6) {i : Nat} (hi : i < 6) {c : Nat} (hc : c < 3) : f_X10_layerOf [gR 36 0, gI (nZ b), gI (nZ i), gI (nZ c)] σ = some (some (gI (σ.1 37 0 (66 + 18 * (b : Int) + 3 * (i : Int) + (c : Int)).toNat)), σ) := by
  rw [e_X10_layerOf]
  simp (disch := omega) only [z0, z1, z2, z3, z4, z5, z6, z12, z18, z48, z54, z60, z66, z174, z175, z_neg, z_add, z_sub, z_mul, z_tn, g_in, g_b0, g_b1, Int.toNat_natCast, z_le, z_lt, z_eq, z_mx, z_mn, if_pos, if_neg, if_true, if_false]
theorem m_lies (hM : gb_MM σ s) (hb : b < 6) {g : Nat} {t d : Int} (hg : g < 6) (ht : 1 ≤ t) (hT : lT (sB s b) + t ≤ 99) (hd : 0 ≤ d ∧ d ≤ 10019) (hn : onB (sB s b) g d = true ∨ (sB s b).length < 6) : ∃ σ', f_X10_lies [gR 36 0, gI (nZ b), gI (nZ g), gI (nZ t), gI (nZ d)] σ = some (none, σ') ∧ gb_MM σ' (setB s b (lay1 (sB s b) g t d)) ∧ gb_fP (fun k => k = 37) σ σ' ∧ (∀ x, 66 + 18 * b + 3 * (sB s b).length + 2 < x → σ'.1 37 0 x = σ.1 37 0 x) := by
  obtain ⟨⟨mW, mK, mO, mC, mP, mN, mL, mY, mQ⟩, iw, ik, io, ic, ip, il, id⟩ := id hM
  obtain ⟨y1, y2, q1, q2⟩ := id
  simp only [Nat.zero_add] at mW mK mO mC mP mN mL mY mQ
  have hlen := (il b hb).1
  have hIV : gb_IV (setB s b (lay1 (sB s b) g t d)) := IV_set hM.2 (by rw [lay1_len]; rcases hn with h | h; rw [if_pos h]; exact hlen; split <;> omega) (by rw [lT_lay]; exact hT) (ok_lay (il b hb).2.2 hT hg ht hd)
  cases h : onB (sB s b) g d with
  | false =>
    have hn : (sB s b).length < 6 := by rcases hn with e | e; rw [h] at e; cases e; exact e
    have hl : lay1 (sB s b) g t d = sB s b ++ [(g, t, d)] := by unfold lay1; rw [h]; exact if_neg (by simp)
    rw [e_X10_lies]
    simp (disch := omega) only [m_onTop_f hM hb hg ⟨by omega, by omega⟩ h, g_b1, g_b0, z0, if_true, m_many hM hb, m_sets σ hb hn, z60, z_add, g_in, z_tn, si_i, mN b hb, z1]
    refine ⟨_, rfl, ⟨RM_set hM.1 il hb (by rw [lay1_len, h]; simp; omega) (fun x hx h1 h2 => ?_) ?_ (fun i hi => ?_), hIV⟩, fP_si (fP_si (fP_si (fP_si fP_rf rfl) rfl) rfl) rfl, fun x hx => ?_⟩
    · simp (disch := omega) only [si_i]
    · simp only [Nat.zero_add, si_s]
      rw [hl, List.length_append]
      rfl
    · rw [hl] at hi ⊢
      rw [List.length_append] at hi
      have hi : i < (sB s b).length + 1 := hi
      simp only [Nat.zero_add]
      by_cases e : i = (sB s b).length
      · subst e
        simp (disch := omega) only [si_i, si_s]
        rw [lz_app2]
        exact ⟨rfl, rfl, rfl⟩
      · simp (disch := omega) only [si_i]
        rw [lz_app1 (by omega)]
        exact mL b i hb (by omega)
    · simp (disch := omega) only [si_i]
  | true =>
    obtain ⟨h1, h2, h3⟩ := onB_t h
    have hl : lay1 (sB s b) g t d = (sB s b).dropLast ++ [(g, (lz (sB s b) ((sB s b).length - 1)).2.1 + t, d)] := by unfold lay1; rw [h]; exact if_pos rfl
    have e : ((sB s b).length : Int) - 1 = (((sB s b).length - 1 : Nat) : Int) := by omega
    have hi0 : (sB s b).length - 1 < (sB s b).length := by omega
    rw [e_X10_lies]
    simp (disch := omega) only [m_onTop_t hM hb h, g_b1, g_b0, z0, z1, z_eq, if_neg, m_many hM hb, z_sub, e, m_l1 hM hb hi0, z_add, m_sets σ hb (show (sB s b).length - 1 < 6 by omega)]
    refine ⟨_, rfl, ⟨RM_set hM.1 il hb (by rw [lay1_len, if_pos h]; exact hlen) (fun x hx h1 h2 => ?_) ?_ (fun i hi => ?_), hIV⟩, fP_si (fP_si (fP_si fP_rf rfl) rfl) rfl, fun x hx => ?_⟩
    · simp (disch := omega) only [si_i]
    · simp (disch := omega) only [Nat.zero_add, si_i]
      rw [mN b hb, lay1_len, if_pos h]
    · rw [lay1_len, if_pos h] at hi
      rw [hl]
      simp only [Nat.zero_add]
      by_cases ei : i = (sB s b).length - 1
      · subst ei
        have ez : lz ((sB s b).dropLast ++ [(g, (lz (sB s b) ((sB s b).length - 1)).2.1 + t, d)]) ((sB s b).length - 1) = (g, (lz (sB s b) ((sB s b).length - 1)).2.1 + t, d) := by
          have := lz_app2 (L := (sB s b).dropLast) (l := (g, (lz (sB s b) ((sB s b).length - 1)).2.1 + t, d))
          rwa [List.length_dropLast] at this
        rw [ez]
        simp (disch := omega) only [si_i, si_s, and_self]
      · simp (disch := omega) only [si_i]
        rw [lz_app1 (by rw [List.length_dropLast]; omega), lz_dl (by omega)]
        exact mL b i hb (by omega)
    · simp (disch := omega) only [si_i]
end MLAY
