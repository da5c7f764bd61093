/-! TAKE: the class -/
section TAKE
variable {σ : gb_M} {j : Nat} {s : gb_St} {b : Nat}
theorem p_take (hC : gb_SC σ j s) (hb : b < 6) {t : Int} (ht : 0 ≤ t ∧ t ≤ 99) : ∃ σ', f_X7_take [gR 10 j, gI (nZ b), gI (nZ t)] σ = some (none, σ') ∧ gb_SC σ' j (setB s b (tk (sB s b) t)) ∧ gb_fS j σ σ' := by
  obtain ⟨⟨cW, cP, cN, cT, cL, cH, cY, cQ⟩, ⟨rK, rC, rO, rA⟩, iw, ik, io, ic, ip, il, id⟩ := id hC
  obtain ⟨y1, y2, q1, q2⟩ := id
  have hlen := (il b hb).1
  have hT99 := (il b hb).2.1
  have hok := (il b hb).2.2
  have okt : ∀ n, ∀ x ∈ (sB s b).take n, okL x := fun n x hx => hok x (List.mem_of_mem_take hx)
  rw [e_X7_take]
  obtain ⟨τ, hJ, f, t10, t11, t12, t13, t14, t14', tl, tr, tb, th, th'⟩ := lph (n := (sB s b).length) (σ := σ) (fun i τ => j_X7_take_8 j (nZ b) (nZ (max 0 (t - lT ((sB s b).take i)))) (nZ (tk ((sB s b).take i) t).length) (nZ i) τ)
    (fun i τ => gb_fS j σ τ ∧ (∀ x, τ.1 10 j x = σ.1 10 j x) ∧ (∀ x, τ.1 11 j x = σ.1 11 j x) ∧ (∀ x, τ.1 12 j x = σ.1 12 j x) ∧ (∀ x, τ.1 13 j x = σ.1 13 j x) ∧ τ.1 14 j b = nZ (lT (sB s b) - lT ((sB s b).take i) + lT (tk ((sB s b).take i) t)) ∧ (∀ x, x ≠ b → τ.1 14 j x = σ.1 14 j x) ∧
      (∀ k : Nat, k < (tk ((sB s b).take i) t).length → τ.1 15 j ((b : Int) * 6 + (k : Int)).toNat = nZ (lz (tk ((sB s b).take i) t) k).1 ∧ τ.1 16 j ((b : Int) * 6 + (k : Int)).toNat = nZ (lz (tk ((sB s b).take i) t) k).2.1 ∧ τ.1 17 j ((b : Int) * 6 + (k : Int)).toNat = nZ (lz (tk ((sB s b).take i) t) k).2.2) ∧
      (∀ k x, (15 ≤ k ∧ k ≤ 17) → b * 6 + i ≤ x → τ.1 k j x = σ.1 k j x) ∧ (∀ k x, (15 ≤ k ∧ k ≤ 17) → x < b * 6 → τ.1 k j x = σ.1 k j x) ∧
      (∀ g : Nat, g < 6 → τ.1 18 j ((b : Int) * 6 + (g : Int)).toNat = nZ (lG (sB s b) g - lG ((sB s b).take i) g + lG (tk ((sB s b).take i) t) g)) ∧ (∀ x, (x < b * 6 ∨ b * 6 + 6 ≤ x) → τ.1 18 j x = σ.1 18 j x))
    ⟨fS_rf, fun _ => rfl, fun _ => rfl, fun _ => rfl, fun _ => rfl, by rw [cT b hb]; simp [tk, lT, sL], fun _ _ => rfl, fun k hk => by simp [tk] at hk, fun _ _ _ _ => rfl, fun _ _ _ _ => rfl, fun g hg => by rw [cH b g hb hg]; simp [tk, lG, sL], fun _ _ => rfl⟩ (by
    intro i hi τ ⟨f, t10, t11, t12, t13, t14, t14', tl, tr, tb, th, th'⟩
    obtain ⟨g1, g2, g3⟩ := cL b i hb hi
    obtain ⟨l1, l2, l3, l4, l5⟩ := lz_ok il hb hi
    have c13 : τ.1 13 j b = nZ (sB s b).length := by rw [t13]; exact cN b hb
    have c15 : τ.1 15 j ((b : Int) * 6 + (i : Int)).toNat = nZ (lz (sB s b) i).1 := by rw [tr 15 _ (by omega) (by omega)]; exact g1
    have c16 : τ.1 16 j ((b : Int) * 6 + (i : Int)).toNat = nZ (lz (sB s b) i).2.1 := by rw [tr 16 _ (by omega) (by omega)]; exact g2
    have c17 : τ.1 17 j ((b : Int) * 6 + (i : Int)).toNat = nZ (lz (sB s b) i).2.2 := by rw [tr 17 _ (by omega) (by omega)]; exact g3
    have hTi := lT_take il hb i
    have hkl : (tk ((sB s b).take i) t).length ≤ i := Nat.le_trans tk_len (by rw [List.length_take]; omega)
    have hta := tk_app (A := (sB s b).take i) (l := lz (sB s b) i) (t := t) (okt i) l2
    have htT : lT ((sB s b).take (i + 1)) = lT ((sB s b).take i) + (lz (sB s b) i).2.1 := sL_take hi
    have htG : ∀ g, lG ((sB s b).take (i + 1)) g = lG ((sB s b).take i) g + (if (lz (sB s b) i).1 = g then (lz (sB s b) i).2.1 else 0) := fun g => sL_take hi
    have htkT := lT_tk (t := t) (okt i)
    have htkT1 := lT_tk (t := t) (okt (i + 1))
    have htkG : ∀ g, lG (tk ((sB s b).take (i + 1)) t) g = lG (tk ((sB s b).take i) t) g + (if (lz (sB s b) i).1 = g then max 0 ((lz (sB s b) i).2.1 - max 0 (t - lT ((sB s b).take i))) else 0) := fun g => by rw [lz_take hi]; exact lG_tk_app (okt i) l2
    rw [← lz_take hi] at hta
    have hgT := lG_r il hb (lz (sB s b) i).1
    have hgi : lG ((sB s b).take (i + 1)) (lz (sB s b) i).1 ≤ lT ((sB s b).take (i + 1)) := lG_le (okt (i + 1))
    generalize hli : lz (sB s b) i = l at *
    have hth := th l.1 l1
    show ∃ τ', j_X7_take_8 j (nZ b) (nZ (max 0 (t - lT ((sB s b).take i)))) (nZ (tk ((sB s b).take i) t).length) (nZ i) τ = _ ∧ _
    generalize hr : max 0 (t - lT ((sB s b).take i)) = r at *
    have hr' : max 0 (t - lT ((sB s b).take (i + 1))) = max 0 (r - l.2.1) := by omega
    by_cases hc : r < l.2.1
    · -- a part stays
      have hc' : t - lT ((sB s b).take i) < l.2.1 := by omega
      rw [if_pos hc'] at hta
      have hl1 : (tk ((sB s b).take (i + 1)) t).length = (tk ((sB s b).take i) t).length + 1 := by rw [hta, List.length_append]; rfl
      generalize hK : tk ((sB s b).take i) t = K at *
      refine ⟨gb_si (gb_si (gb_si (gb_si (gb_si τ 14 j b (nZ (lT (sB s b) - lT ((sB s b).take i) + lT K - r))) 18 j ((b : Int) * 6 + (l.1 : Int)).toNat (nZ (lG (sB s b) l.1 - lG ((sB s b).take i) l.1 + lG K l.1 - r))) 16 j ((b : Int) * 6 + (K.length : Int)).toNat (nZ (l.2.1 - r))) 15 j ((b : Int) * 6 + (K.length : Int)).toNat (nZ l.1)) 17 j ((b : Int) * 6 + (K.length : Int)).toNat (nZ l.2.2), ?_, fS_si (fS_si (fS_si (fS_si (fS_si f (by omega)) (by omega)) (by omega)) (by omega)) (by omega), ?_, ?_, ?_, ?_, ?_, ?_, ?_, ?_, ?_, ?_, ?_⟩
      · by_cases ek : K.length = i
        · rw [e_X7_take_8]
          have em : min r l.2.1 = r := by omega
          simp (disch := omega) only [g_in, g_b1, z_tn, Int.toNat_natCast, c13, z_le, z_lt, if_neg, if_pos, p_place, c16, z_mn, em, si_k, si_s, si_i, c15, z6, z_mul, z_add, z_sub, z1, t14, hth, ek, c17, hr', hl1, Int.natCast_add, Int.natCast_one, show max 0 (r - l.2.1) = 0 by omega, Int.sub_self]
        · rw [e_X7_take_8]
          have em : min r l.2.1 = r := by omega
          simp (disch := omega) only [g_in, g_b1, z_tn, Int.toNat_natCast, c13, z_le, z_lt, if_neg, if_pos, p_place, c16, z_mn, em, si_k, si_s, si_i, c15, z6, z_mul, z_add, z_sub, z1, t14, hth, c17, hr', hl1, Int.natCast_add, Int.natCast_one, show max 0 (r - l.2.1) = 0 by omega, Int.sub_self]
      · intro x; simp (disch := omega) only [si_k]; exact t10 x
      · intro x; simp (disch := omega) only [si_k]; exact t11 x
      · intro x; simp (disch := omega) only [si_k]; exact t12 x
      · intro x; simp (disch := omega) only [si_k]; exact t13 x
      · simp (disch := omega) only [si_k, si_s]
        exact congrArg nZ (by omega)
      · intro x hx; simp (disch := omega) only [si_k, si_i]; exact t14' x hx
      · intro k hk
        rw [hl1] at hk
        rw [hta]
        by_cases ek : k = K.length
        · subst ek
          rw [lz_app2]
          simp (disch := omega) only [si_k, si_s, hr, and_self]
        · rw [lz_app1 (by omega)]
          simp (disch := omega) only [si_k, si_i]
          exact tl k (by omega)
      · intro k x hk hx
        have : k = 15 ∨ k = 16 ∨ k = 17 := by omega
        rcases this with rfl | rfl | rfl <;> simp (disch := omega) only [si_k, si_i] <;> exact tr _ x hk (by omega)
      · intro k x hk hx
        have : k = 15 ∨ k = 16 ∨ k = 17 := by omega
        rcases this with rfl | rfl | rfl <;> simp (disch := omega) only [si_k, si_i] <;> exact tb _ x hk hx
      · intro g hg
        rw [htkG g, htG g]
        by_cases eg : l.1 = g
        · subst eg
          simp (disch := omega) only [si_k, si_s, if_true]
          exact congrArg nZ (by omega)
        · simp (disch := omega) only [si_k, si_i, if_neg, Int.add_zero]
          exact th g hg
      · intro x hx; simp (disch := omega) only [si_k, si_i]; exact th' x hx
    · -- all of it goes
      have hc' : ¬ t - lT ((sB s b).take i) < l.2.1 := by omega
      rw [if_neg hc', List.append_nil] at hta
      rw [hta] at htkG htkT1 ⊢
      generalize hK : tk ((sB s b).take i) t = K at *
      refine ⟨gb_si (gb_si τ 14 j b (nZ (lT (sB s b) - lT ((sB s b).take i) + lT K - l.2.1))) 18 j ((b : Int) * 6 + (l.1 : Int)).toNat (nZ (lG (sB s b) l.1 - lG ((sB s b).take i) l.1 + lG K l.1 - l.2.1)), ?_, fS_si (fS_si f (by omega)) (by omega), ?_, ?_, ?_, ?_, ?_, ?_, ?_, ?_, ?_, ?_, ?_⟩
      · rw [e_X7_take_8]
        have em : min r l.2.1 = l.2.1 := by omega
        simp (disch := omega) only [g_in, g_b1, z_tn, Int.toNat_natCast, c13, z_le, z_lt, if_neg, if_pos, p_place, c16, z_mn, em, si_k, si_s, si_i, c15, z6, z_mul, z_add, z_sub, z1, t14, hth, hr', Int.natCast_add, Int.natCast_one, show max 0 (r - l.2.1) = r - l.2.1 by omega]
      · intro x; simp (disch := omega) only [si_k]; exact t10 x
      · intro x; simp (disch := omega) only [si_k]; exact t11 x
      · intro x; simp (disch := omega) only [si_k]; exact t12 x
      · intro x; simp (disch := omega) only [si_k]; exact t13 x
      · simp (disch := omega) only [si_k, si_s]
        exact congrArg nZ (by omega)
      · intro x hx; simp (disch := omega) only [si_k, si_i]; exact t14' x hx
      · intro k hk
        simp (disch := omega) only [si_k]
        exact tl k hk
      · intro k x hk hx
        simp (disch := omega) only [si_k]
        exact tr _ x hk (by omega)
      · intro k x hk hx
        simp (disch := omega) only [si_k]
        exact tb _ x hk hx
      · intro g hg
        have h2 := htkG g
        rw [htG g]
        by_cases eg : l.1 = g
        · subst eg
          simp (disch := omega) only [si_s, if_true]
          exact congrArg nZ (by omega)
        · simp (disch := omega) only [si_k, si_i, if_neg, Int.add_zero]
          exact th g hg
      · intro x hx; simp (disch := omega) only [si_k, si_i]; exact th' x hx)
  have e0 : lT ((sB s b).take 0) = 0 := rfl
  have e1 : (tk ((sB s b).take 0) t).length = 0 := rfl
  rw [e0, Int.sub_zero, show max 0 t = t by omega, e1] at hJ
  rw [show (0 : Int32) = nZ ((0 : Nat) : Int) from rfl, hJ]
  rw [List.take_length] at *
  have c13 : τ.1 13 j b = nZ (sB s b).length := by rw [t13]; exact cN b hb
  have ff : gb_fS j σ (gb_si τ 13 j b (nZ (tk (sB s b) t).length)) := fS_si f (by omega)
  have hkl : (tk (sB s b) t).length ≤ (sB s b).length := tk_len
  refine ⟨gb_si τ 13 j b (nZ (tk (sB s b) t).length), ?_, ⟨?_, fS_RR (s := s) ff hC.2.1, IV_set hC.2.2 (by omega) (by rw [lT_tk hok]; have := lT_nn hok; omega) (ok_tk hok)⟩, ff⟩
  · rw [e_X7_take_8]
    simp (disch := omega) only [z0, z1, z2, z3, z4, z5, z6, z12, z18, z48, z54, z60, z66, z174, z175, z_neg, z_add, z_sub, z_mul, z_tn, g_in, g_b0, g_b1, Int.toNat_natCast, z_le, z_lt, z_eq, z_mx, z_mn, if_pos, if_neg, if_true, if_false, c13]
  · refine RS_set hC.1 (fun x => ?_) (fun x => ?_) (fun x => ?_) il ?_ (fun k hk hne => ?_) ?_ (fun k hk hne => ?_) (fun i hi => ?_) (fun k i hk hne hi => ?_) (fun k hk => ?_) (fun k m hk hne hm => ?_)
    · simp (disch := omega) only [si_k]; exact t10 x
    · simp (disch := omega) only [si_k]; exact t11 x
    · simp (disch := omega) only [si_k]; exact t12 x
    · simp only [si_s]
    · simp (disch := omega) only [si_i]; exact t13 k
    · simp (disch := omega) only [si_k]; rw [t14]; exact congrArg nZ (by omega)
    · simp (disch := omega) only [si_k]; exact t14' k hne
    · simp (disch := omega) only [si_k]; exact tl i hi
    · simp (disch := omega) only [si_k]
      by_cases hkb : k < b
      · rw [tb 15 _ (by omega) (by omega), tb 16 _ (by omega) (by omega), tb 17 _ (by omega) (by omega)]; exact ⟨rfl, rfl, rfl⟩
      · rw [tr 15 _ (by omega) (by omega), tr 16 _ (by omega) (by omega), tr 17 _ (by omega) (by omega)]; exact ⟨rfl, rfl, rfl⟩
    · simp (disch := omega) only [si_k]; rw [th k hk]; exact congrArg nZ (by omega)
    · simp (disch := omega) only [si_k]; exact th' _ (by omega)
end TAKE
