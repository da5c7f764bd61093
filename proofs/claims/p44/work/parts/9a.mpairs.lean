/-! LAND: pairs of grades, as the reference reads them -/
theorem mP_1 {a b : Nat} (h : a < b) : mP a b = 6 * a + b := by unfold mP; rw [if_neg (by omega), if_pos h]
theorem mP_2 {a b : Nat} (h : b < a) : mP a b = 6 * b + a := by unfold mP; rw [if_pos h, if_neg (by omega)]
theorem mP_lt {a b : Nat} (ha : a < 6) (hb : b < 6) (hab : a ≠ b) : mP a b < 36 := by
  by_cases c : a < b
  · rw [mP_1 c]; omega
  · rw [mP_2 (by omega)]; omega
theorem mP_eq {a b g h : Nat} (ha : a < 6) (hb : b < 6) (hab : a ≠ b) (hg : g < 6) (hh : h < 6) (hgh : g ≠ h) : (mP g h = mP a b) ↔ ((g = a ∧ h = b) ∨ (g = b ∧ h = a)) := by
  by_cases c : a < b
  · by_cases d : g < h
    · rw [mP_1 c, mP_1 d]; omega
    · rw [mP_1 c, mP_2 (by omega)]; omega
  · by_cases d : g < h
    · rw [mP_2 (show b < a by omega), mP_1 d]; omega
    · rw [mP_2 (show b < a by omega), mP_2 (by omega)]; omega
theorem kP {a b : Nat} (ha : a < 6) (hb : b < 6) (hab : a ≠ b) : (6 * (if nZ b < nZ a then nZ b else nZ a)) + (if nZ a < nZ b then nZ b else nZ a) = nZ (mP a b : Nat) := by
  rw [z_min ⟨by omega, by omega⟩ ⟨by omega, by omega⟩, z_max ⟨by omega, by omega⟩ ⟨by omega, by omega⟩, z6, z_mul, z_add]
  refine congrArg nZ ?_
  by_cases c : a < b
  · rw [mP_1 c]; omega
  · rw [mP_2 (by omega)]; omega
noncomputable def wtP (x2 x4 v : Int32) (s : gb_M) : gb_R := gb_gd (gb_in ((12 + (6 * x2)) + x4) 54) (gb_gd (gb_in ((12 + (6 * x4)) + x2) 54) (some (none, gb_si (gb_si (gb_sl s 36 0 21 ((s.2 36 0 21) ||| (1 <<< (((6 * (if x4 < x2 then x4 else x2)) + (if x2 < x4 then x4 else x2)).toInt64 &&& 63)))) 46 0 ((12 + (6 * x2)) + x4).toNatClampNeg v) 46 0 ((12 + (6 * x4)) + x2).toNatClampNeg v)))
section MPA
variable {σ : gb_M} {T : List Int} {p : Nat} {u : gb_Ru}
theorem mR_sl {s : gb_M} {q i : Nat} {v : Int64} (h : mR s T q) : mR (gb_sl s 36 0 i v) T q := mR_fX (Q := fun _ => False) (I := fun _ => False) (fX_sl fX_rf (Or.inl rfl)) (fun z => z) ⟨fun z => z, fun z => z, fun z => z⟩ h
theorem wtP_R {s : gb_M} {q a b : Nat} {v : Int} (h : mR s T q) (hu : mU s u) (ha : a < 6) (hb : b < 6) (hab : a ≠ b) : mL (wtP (nZ a) (nZ b) (nZ v) s) s T (some (ruP u a b v), q) := by
  obtain ⟨u1, u2, u3, u4⟩ := hu
  unfold wtP
  rw [kP ha hb hab, z12, z6, z_mul, z_add, z_add, z_mul, z_add, z_add, g_in (by omega), g_in (by omega), z_tn (by omega), z_tn (by omega)]
  have e1 : ((12 : Int) + 6 * (a : Int) + (b : Int)).toNat = 12 + (6 * a + b) := by omega
  have e2 : ((12 : Int) + 6 * (b : Int) + (a : Int)).toNat = 12 + (6 * b + a) := by omega
  rw [e1, e2]
  refine ⟨_, rfl, rU_s (rU_s (fX_sl fX_rf (Or.inl rfl))), fun z => (by cases z), fun u' hu' => ?_⟩
  cases hu'
  refine ⟨mR_s (mR_s (mR_sl h)), fun k hk => ?_, ?_, ?_, fun g k hg hk hgk => ?_⟩
  · show _ = nZ (up1 (up1 u.1 (12 + (6 * a + b)) v) (12 + (6 * b + a)) v k)
    by_cases g1 : k = 12 + (6 * b + a)
    · rw [g1, upe, si_s]
    · rw [upn g1, si_i g1]
      by_cases g2 : k = 12 + (6 * a + b)
      · rw [g2, upe, si_s]
      · rw [upn g2, si_i g2]; exact u1 k hk
  · rw [si_k (by omega), si_k (by omega)]; exact u2
  · rw [si_k (by omega), si_k (by omega)]; exact u3
  · rw [si_2, si_2, sl_s, pt_or (mP_lt ha hb hab) (mP_lt hg hk hgk), u4 g k hg hk hgk, tP_P]
    by_cases e : (g = a ∧ k = b) ∨ (g = b ∧ k = a)
    · rw [if_pos e, decide_eq_true ((mP_eq ha hb hab hg hk hgk).2 e), Bool.or_true]
    · rw [if_neg e, decide_eq_false (fun z => e ((mP_eq ha hb hab hg hk hgk).1 z)), Bool.or_false]
def rlQ (T : List Int) (u : gb_Ru) (l : Bool) (a b p : Nat) : Option gb_Ru × Nat := match l with
  | true => ((nm T 1 99 2 (p + 2)).1.map (fun v => ruP u a b v), (nm T 1 99 2 (p + 2)).2)
  | false => (some (ruP u a b (-1)), p + 2)
end MPA
