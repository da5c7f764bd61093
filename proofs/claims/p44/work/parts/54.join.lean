/-! JOIN, TURN, FUMES: the class -/
def jn (L : List gb_Ly) : List gb_Ly := L.foldl (fun a l => lay1 a l.1 l.2.1 l.2.2) []
theorem jn_take {L : List gb_Ly} {i : Nat} (hi : i < L.length) : jn (L.take (i + 1)) = lay1 (jn (L.take i)) (lz L i).1 (lz L i).2.1 (lz L i).2.2 := by
  unfold jn
  rw [lz_take hi, List.foldl_append]
  rfl
theorem jn_T {L : List gb_Ly} : ∀ n, n ≤ L.length → lT (jn (L.take n)) = lT (L.take n) := by
  intro n
  induction n with
  | zero => intro _; rfl
  | succ n ih =>
    intro hn
    rw [jn_take (by omega), lT_lay, ih (by omega)]
    exact (sL_take (f := fun l => l.2.1) (by omega)).symm
theorem jn_len {L : List gb_Ly} : ∀ n, n ≤ L.length → (jn (L.take n)).length ≤ n := by
  intro n
  induction n with
  | zero => intro _; exact Nat.le_refl _
  | succ n ih =>
    intro hn
    have := ih (by omega)
    rw [jn_take (by omega), lay1_len]
    split <;> omega
theorem jn_ok {L : List gb_Ly} (hL : ∀ l ∈ L, okL l) (hT : lT L ≤ 99) : ∀ n, n ≤ L.length → ∀ l ∈ jn (L.take n), okL l := by
  have hmono : ∀ n, lT (L.take n) ≤ lT L := by
    intro n
    have h : lT L = lT (L.take n) + lT (L.drop n) := by unfold lT; rw [← sL_app, List.take_append_drop]
    have := lT_nn (L := L.drop n) (fun l hl => hL l (List.mem_of_mem_drop hl))
    omega
  intro n
  induction n with
  | zero => intro _ l hl; cases hl
  | succ n ih =>
    intro hn
    have ho := hL _ (lz_mem (L := L) (i := n) (by omega))
    rw [jn_take (by omega)]
    refine ok_lay (ih (by omega)) ?_ ho.1 ho.2.1 ho.2.2.2
    have h1 := jn_T (L := L) n (by omega)
    have h2 : lT (L.take (n + 1)) = lT (L.take n) + (lz L n).2.1 := sL_take (by omega)
    have h3 := hmono (n + 1)
    omega
theorem jn_all {L : List gb_Ly} : jn (L.take L.length) = jn L := by rw [List.take_length]
theorem IV_jn {s : gb_St} {b : Nat} (hI : gb_IV s) (hb : b < 6) : gb_IV (setB s b (jn (sB s b))) := by
  have il := hI.2.2.2.2.2.1
  refine IV_set hI ?_ ?_ ?_
  · rw [← jn_all]; exact Nat.le_trans (jn_len _ (Nat.le_refl _)) (il b hb).1
  · rw [← jn_all, jn_T _ (Nat.le_refl _), List.take_length]; exact (il b hb).2.1
  · rw [← jn_all]; exact jn_ok (il b hb).2.2 (il b hb).2.1 _ (Nat.le_refl _)
section JOIN
variable {σ : gb_M} {j : Nat} {s : gb_St} {b : Nat}
theorem p_join (hC : gb_SC σ j s) (hb : b < 6) : ∃ σ', f_X7_join [gR 10 j, gI (nZ b)] σ = some (none, σ') ∧ gb_SC σ' j (setB s b (jn (sB s b))) ∧ gb_fS j σ σ' := by
  obtain ⟨⟨cW, cP, cN, cT, cL, cH, cY, cQ⟩, ⟨rK, rC, rO, rA⟩, iw, ik, io, ic, ip, il, id⟩ := id hC
  obtain ⟨y1, y2, q1, q2⟩ := id
  have hlen := (il b hb).1
  have hT99 := (il b hb).2.1
  have hok := (il b hb).2.2
  rw [e_X7_join]
  simp (disch := omega) only [g_in, z_tn, Int.toNat_natCast, cN]
  obtain ⟨τ, hJ, f, t10, t11, t12, t13, t13', t14, t14', tl, th, th'⟩ := lph (n := 6) (σ := gb_si (gb_si σ 13 j b 0) 14 j b 0) (fun i τ => j_X7_join_23 j (nZ b) (nZ (sB s b).length) (nZ i) τ)
    (fun i τ => gb_fS j σ τ ∧ (∀ x, τ.1 10 j x = σ.1 10 j x) ∧ (∀ x, τ.1 11 j x = σ.1 11 j x) ∧ (∀ x, τ.1 12 j x = σ.1 12 j x) ∧ τ.1 13 j b = 0 ∧ (∀ x, x ≠ b → τ.1 13 j x = σ.1 13 j x) ∧ τ.1 14 j b = 0 ∧ (∀ x, x ≠ b → τ.1 14 j x = σ.1 14 j x) ∧ (∀ k x, (15 ≤ k ∧ k ≤ 17) → τ.1 k j x = σ.1 k j x) ∧ (∀ g : Nat, g < i → τ.1 18 j ((b : Int) * 6 + (g : Int)).toNat = 0) ∧ (∀ x, (x < b * 6 ∨ b * 6 + 6 ≤ x) → τ.1 18 j x = σ.1 18 j x))
    ⟨fS_si (fS_si fS_rf (by omega)) (by omega), fun x => by simp (disch := omega) only [si_k], fun x => by simp (disch := omega) only [si_k], fun x => by simp (disch := omega) only [si_k], by simp (disch := omega) only [si_k, si_s], fun x hx => by simp (disch := omega) only [si_k, si_i], by simp only [si_s], fun x hx => by simp (disch := omega) only [si_k, si_i], fun k x hk => by simp (disch := omega) only [si_k], fun g hg => by omega, fun x _ => by simp (disch := omega) only [si_k]⟩ (by
    intro i hi τ ⟨f, t10, t11, t12, t13, t13', t14, t14', tl, th, th'⟩
    refine ⟨gb_si τ 18 j ((b : Int) * 6 + (i : Int)).toNat 0, ?_, fS_si f (by omega), fun x => ?_, fun x => ?_, fun x => ?_, ?_, fun x hx => ?_, ?_, fun x hx => ?_, fun k x hk => ?_, fun g hg => ?_, fun x hx => ?_⟩
    · show j_X7_join_23 _ _ _ _ _ = _
      rw [e_X7_join_23]
      simp (disch := omega) only [z6, z1, z_le, if_neg, g_in, z_tn, z_mul, z_add, Int.natCast_add, Int.natCast_one]
    · simp (disch := omega) only [si_k]; exact t10 x
    · simp (disch := omega) only [si_k]; exact t11 x
    · simp (disch := omega) only [si_k]; exact t12 x
    · simp (disch := omega) only [si_k]; exact t13
    · simp (disch := omega) only [si_k]; exact t13' x hx
    · simp (disch := omega) only [si_k]; exact t14
    · simp (disch := omega) only [si_k]; exact t14' x hx
    · simp (disch := omega) only [si_k]; exact tl k x hk
    · by_cases e : g = i
      · subst e; simp only [si_s]
      · simp (disch := omega) only [si_i]; exact th g (by omega)
    · simp (disch := omega) only [si_i]; exact th' x hx)
  have hSC0 : gb_SC τ j (setB s b []) := by
    refine ⟨RS_set hC.1 t10 t11 t12 il (by rw [t13]; rfl) (fun k _ hk => t13' k hk) (by rw [t14]; rfl) (fun k _ hk => t14' k hk) (fun i hi => by cases hi) (fun k i hk hne hi => ⟨tl _ _ (by omega), tl _ _ (by omega), tl _ _ (by omega)⟩) (fun g hg => by rw [th g hg]; rfl) (fun k g hk hne hg => th' _ (by omega)), fS_RR (s := s) f hC.2.1, IV_set hC.2.2 (by simp) (by show (0 : Int) ≤ 99; omega) (fun l hl => by cases hl)⟩
  rw [show (0 : Int32) = nZ ((0 : Nat) : Int) from rfl] at *
  rw [hJ]
  have h23 : j_X7_join_23 j (nZ b) (nZ (sB s b).length) (nZ (6 : Nat)) τ = j_X7_join_49 j (nZ b) (nZ (sB s b).length) (nZ (0 : Nat)) τ := by
    rw [e_X7_join_23]
    simp (disch := omega) only [z0, z1, z2, z3, z4, z5, z6, z12, z18, z48, z54, z60, z66, z174, z175, z_neg, z_add, z_sub, z_mul, z_tn, g_in, g_b0, g_b1, Int.toNat_natCast, z_le, z_lt, z_eq, z_mx, z_mn, if_pos, if_neg, if_true, if_false, show ((6 : Nat) : Int) = 6 from rfl]
    rfl
  rw [h23]
  obtain ⟨τ2, hJ2, hSC, f2, -⟩ := lph (n := (sB s b).length) (σ := τ) (fun i τ => j_X7_join_49 j (nZ b) (nZ (sB s b).length) (nZ i) τ)
    (fun i τ' => gb_SC τ' j (setB s b (jn ((sB s b).take i))) ∧ gb_fS j σ τ' ∧ ∀ k x, (15 ≤ k ∧ k ≤ 17) → b * 6 + i ≤ x → τ'.1 k j x = σ.1 k j x)
    ⟨hSC0, f, fun k x hk _ => tl k x hk⟩ (by
    intro i hi τ ⟨hS, f, tr⟩
    obtain ⟨g1, g2, g3⟩ := cL b i hb hi
    obtain ⟨l1, l2, l3, l4, l5⟩ := lz_ok il hb hi
    have hTi := lT_take il hb (i + 1)
    have hTs : lT ((sB s b).take (i + 1)) = lT ((sB s b).take i) + (lz (sB s b) i).2.1 := sL_take hi
    have hjT := jn_T (L := sB s b) i (by omega)
    have hjl := jn_len (L := sB s b) i (by omega)
    obtain ⟨τ', a1, a2, a3, a4⟩ := p_lay hS hb (g := (lz (sB s b) i).1) (t := (lz (sB s b) i).2.1) (d := (lz (sB s b) i).2.2) l1 l2 (by rw [sB_s]; omega) ⟨l4, l5⟩ (Or.inr (by rw [sB_s]; omega))
    rw [sB_s] at a2 a4
    rw [setB2, ← jn_take hi] at a2
    refine ⟨τ', ?_, a2, fS_tr f a3, fun k x hk hx => ?_⟩
    · show j_X7_join_49 _ _ _ _ _ = _
      rw [e_X7_join_49]
      simp (disch := omega) only [z0, z1, z2, z3, z4, z5, z6, z12, z18, z48, z54, z60, z66, z174, z175, z_neg, z_add, z_sub, z_mul, z_tn, g_in, g_b0, g_b1, Int.toNat_natCast, z_le, z_lt, z_eq, z_mx, z_mn, if_pos, if_neg, if_true, if_false, p_place, tr 15 _ (show 15 ≤ 15 ∧ 15 ≤ 17 by omega) (show b * 6 + i ≤ ((b : Int) * 6 + (i : Int)).toNat by omega), tr 16 _ (show 15 ≤ 16 ∧ 16 ≤ 17 by omega) (show b * 6 + i ≤ ((b : Int) * 6 + (i : Int)).toNat by omega), tr 17 _ (show 15 ≤ 17 ∧ 17 ≤ 17 by omega) (show b * 6 + i ≤ ((b : Int) * 6 + (i : Int)).toNat by omega), g1, g2, g3, a1, Int.natCast_add, Int.natCast_one]
    · rw [a4 k x hk (by omega)]; exact tr k x hk (by omega))
  rw [hJ2]
  refine ⟨τ2, ?_, by rw [← jn_all]; exact hSC, f2⟩
  rw [e_X7_join_49]
  simp (disch := omega) only [z0, z1, z2, z3, z4, z5, z6, z12, z18, z48, z54, z60, z66, z174, z175, z_neg, z_add, z_sub, z_mul, z_tn, g_in, g_b0, g_b1, Int.toNat_natCast, z_le, z_lt, z_eq, z_mx, z_mn, if_pos, if_neg, if_true, if_false]
def swp (σ : gb_M) (j p q : Nat) : gb_M := gb_si (gb_si (gb_si (gb_si (gb_si (gb_si σ 15 j p (σ.1 15 j q)) 16 j p (σ.1 16 j q)) 17 j p (σ.1 17 j q)) 15 j q (σ.1 15 j p)) 16 j q (σ.1 16 j p)) 17 j q (σ.1 17 j p)
theorem lz_rev {L : List gb_Ly} {i : Nat} (hi : i < L.length) : lz L.reverse i = lz L (L.length - 1 - i) := by
  simp [lz, List.getD, List.getElem?_reverse hi]
theorem sL_rev {f : gb_Ly → Int} : ∀ {L : List gb_Ly}, sL f L.reverse = sL f L
  | [] => rfl
  | l :: t => by
    rw [List.reverse_cons, sL_app, sL_rev]
    simp only [sL]; omega
end JOIN
