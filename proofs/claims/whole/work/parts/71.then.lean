/-! THEN, OLD, FALLS, CURES -/
def spF (s : gb_St) (on : Int) (b i : Nat) (x : Int32) : Int32 := if sU s on (lz (sB s b) i) < sW s (lz (sB s b) i).1 then x ||| (1 <<< (nZ (lz (sB s b) i).1 &&& 31)) else x
def spB (s : gb_St) (on : Int) (b : Nat) (x : Int32) : Int32 := it (sB s b).length x (spF s on b)
def spA (s : gb_St) (on : Int) : Int32 := it 6 0 (spB s on)
theorem lps {n : Nat} {α : Type} (J : Nat → α → gb_R) (f : Nat → α → α) (a : α) (hs : ∀ i, i < n → ∀ a, J i a = J (i + 1) (f i a)) : J 0 a = J n (it n a f) := (lpi J f (fun _ => True) trivial (fun i hi a _ => ⟨hs i hi a, trivial⟩)).1
section TH
variable {σ : gb_M} {j : Nat} {s : gb_St} {b : Nat}
theorem p_spoilt (hC : gb_SC σ j s) (hb : b < 6) {i : Nat} (hi : i < (sB s b).length) {on : Int} (ho : 0 ≤ on ∧ on ≤ 11000) : f_X7_spoilt [gR 10 j, gI (nZ ((b : Int) * 6 + (i : Int))), gI (nZ on)] σ = some (some (gI (if sU s on (lz (sB s b) i) < sW s (lz (sB s b) i).1 then 1 else 0)), σ) := by
  obtain ⟨⟨cW, cP, cN, cT, cL, cH, cY, cQ⟩, ⟨rK, rC, rO, rA⟩, iw, ik, io, ic, ip, il, id⟩ := id hC
  obtain ⟨y1, y2, q1, q2⟩ := id
  have hlen := (il b hb).1
  obtain ⟨g1, g2, g3⟩ := cL b i hb hi
  obtain ⟨l1, l2, l3, l4, l5⟩ := lz_ok il hb hi
  have hu := sU_r (on := on) iw ⟨l1, l2, l3, l4, l5⟩
  have hw := iw _ l1
  rw [e_X7_spoilt, p_unit hC.1 hC.2.1 hC.2.2 hb hi ho, g_b1, z_tn (by omega), g1, g_in (by omega), z_tn (by omega), Int.toNat_natCast, g_in (by omega), cW _ l1]
  by_cases h : sU s on (lz (sB s b) i) < sW s (lz (sB s b) i).1
  · rw [if_neg (by rw [z_le ⟨by omega, by omega⟩ ⟨by omega, by omega⟩]; omega), if_pos h]
  · rw [if_pos (by rw [z_le ⟨by omega, by omega⟩ ⟨by omega, by omega⟩]; omega), if_neg h]
theorem p_spoiltGrades (hC : gb_SC σ j s) {on : Int} (ho : 0 ≤ on ∧ on ≤ 11000) : f_X7_spoiltGrades [gR 10 j, gI (nZ on)] σ = some (some (gI (spA s on)), σ) := by
  obtain ⟨⟨cW, cP, cN, cT, cL, cH, cY, cQ⟩, ⟨rK, rC, rO, rA⟩, iw, ik, io, ic, ip, il, id⟩ := id hC
  obtain ⟨y1, y2, q1, q2⟩ := id
  have h1 := lps (n := 6) (fun b x => j_X7_spoiltGrades_4 j (nZ on) x (nZ b) σ) (spB s on) 0 (by
    intro b hb x
    try dsimp only
    have hlen := (il b hb).1
    have h2 := lps (n := (sB s b).length) (fun i x => j_X7_spoiltGrades_13 j (nZ on) x (nZ b) (nZ i) σ) (spF s on b) x (by
      intro i hi x
      try dsimp only
      obtain ⟨g1, g2, g3⟩ := cL b i hb hi
      obtain ⟨l1, l2, l3, l4, l5⟩ := lz_ok il hb hi
      rw [e_X7_spoiltGrades_13, z_tn (by omega), Int.toNat_natCast, g_in (by omega), cN b hb, if_neg (by rw [z_le ⟨by omega, by omega⟩ ⟨by omega, by omega⟩]; omega), p_place, g_b1, p_spoilt hC hb hi ho, g_b1, zs, z_tn (by omega), g1]
      unfold spF
      by_cases h : sU s on (lz (sB s b) i) < sW s (lz (sB s b) i).1
      · rw [if_pos h, e10, if_pos h, g_in (by omega)]
      · rw [if_neg h, e00, if_neg h])
    have h2' : j_X7_spoiltGrades_13 j (nZ on) x (nZ b) 0 σ = j_X7_spoiltGrades_13 j (nZ on) (spB s on b x) (nZ b) (nZ (sB s b).length) σ := h2
    rw [e_X7_spoiltGrades_4, if_neg (n6 hb), h2', e_X7_spoiltGrades_13, z_tn (by omega), Int.toNat_natCast, g_in (by omega), cN b hb, if_pos (Int32.le_refl _), zs])
  have h1' : j_X7_spoiltGrades_4 j (nZ on) 0 0 σ = j_X7_spoiltGrades_4 j (nZ on) (spA s on) (nZ (6 : Nat)) σ := h1
  rw [e_X7_spoiltGrades, h1', e_X7_spoiltGrades_4, if_pos y6]
end TH
theorem th_then {A : gb_Ab} (hA : wfA A) (a : Int32) : gb_T2 f_X9_then f_X10_then [gR 0 0, gI a] [gR 36 0, gI a] A := by
  have hx := nZ_rz a
  rw [nZ_of a]
  generalize a.toInt = d at hx
  have hI := hA.1.1
  obtain ⟨y1, y2, q1, q2⟩ := hI.2.2.2.2.2.2
  have i0 : (0 : Int64).toInt = 0 := by decide
  have i9 : (999 : Int64).toInt = 999 := by decide
  have z999' : (999 : Int32) = nZ 999 := rfl
  by_cases h1 : 0 ≤ d ∧ d ≤ 999
  rotate_left
  · refine T2_same hA (some (gI (-1))) (fun σ hC => ?_) (fun σ hM => ?_)
    · rw [e_X9_then]
      by_cases h2 : d < 0
      · rw [if_pos (by rw [z0, z_lt hx ⟨by omega, by omega⟩]; exact h2)]
      · rw [if_neg (by rw [z0, z_lt hx ⟨by omega, by omega⟩]; exact h2), if_neg (by rw [z999', z_le hx ⟨by omega, by omega⟩]; omega)]
    · rw [e_X10_then, m_in_f hx (by omega), g_b1, e00]
  refine T2_K (some (gI (nZ (lA A.1 (sY A.1 + d))))) (setR A ([] ++ [(nZ (lA A.1 (sY A.1) - lA A.1 (sY A.1 + d))).toInt64] ++ [(spA A.1 (sY A.1 + d)).toInt64])) (wf_setR hA) (fun σ hC => ?_) (fun σ hM => ?_)
  · obtain ⟨τ1, a1, c1⟩ := kc_start hC
    obtain ⟨τ2, a2, c2⟩ := kc_add c1 (by simp) (nZ (lA A.1 (sY A.1) - lA A.1 (sY A.1 + d))).toInt64
    obtain ⟨τ3, a3, c3⟩ := kc_add c2 (by simp) (spA A.1 (sY A.1 + d)).toInt64
    refine ⟨τ3, ?_, c3⟩
    have cY := hC.1.1.1.2.2.2.2.2.2.1
    have cY1 : τ1.1 10 0 9 = nZ (sY A.1) := c1.1.1.1.2.2.2.2.2.2.1
    have cY2 : τ2.1 10 0 9 = nZ (sY A.1) := c2.1.1.1.2.2.2.2.2.2.1
    have p1 : f_X7_valueOfAll [gR 10 0, gI (nZ (sY A.1))] τ1 = some (some (gI (nZ (lA A.1 (sY A.1)))), τ1) := p_valueOfAll c1.1.1 (on := sY A.1) (by omega)
    have p2 : f_X7_spoiltGrades [gR 10 0, gI (nZ (sY A.1 + d))] τ2 = some (some (gI (spA A.1 (sY A.1 + d))), τ2) := p_spoiltGrades c2.1.1 (by omega)
    rw [e_X9_then, if_neg (by rw [z0, z_lt hx ⟨by omega, by omega⟩]; omega), if_pos (by rw [z999', z_le hx ⟨by omega, by omega⟩]; omega), cY, z_add, p_valueOfAll hC.1.1 (on := sY A.1 + d) (by omega), g_b1, a1, g_b0, cY1, p1, g_b1, z_sub, a2, g_b0, cY2, z_add, p2, g_b1, a3, g_b0]
  · have mY := m_DAY hM
    have hM1 := hM.1.1
    obtain ⟨mW, mK, mO, mC, mP, mN, mL, -, mQ⟩ := id hM1.1
    simp only [Nat.zero_add] at mW
    have c1 := km_start hM
    obtain ⟨τ2, a2, c2⟩ := km_tell c1 (by simp) (nZ (lA A.1 (sY A.1) - lA A.1 (sY A.1 + d))).toInt64
    obtain ⟨τ3, a3, c3⟩ := km_tell c2 (by simp) (spA A.1 (sY A.1 + d)).toInt64
    refine ⟨τ3, ?_, c3⟩
    have mY1 : (gb_si (gb_si σ 36 0 10 0) 36 0 9 0).1 37 0 174 = nZ (sY A.1) := by have := m_DAY c1; exact this
    have mY3 : τ3.1 37 0 174 = nZ (sY A.1) := by have := m_DAY c3; exact this
    have p1 : f_X10_allNow [gR 36 0] (gb_si (gb_si σ 36 0 10 0) 36 0 9 0) = some (some (gI (nZ (lA A.1 (sY A.1)))), gb_si (gb_si σ 36 0 10 0) 36 0 9 0) := m_allNow c1.1.1
    have p2 : f_X10_allOn [gR 36 0, gI (nZ (sY A.1 + d))] (gb_si (gb_si σ 36 0 10 0) 36 0 9 0) = some (some (gI (nZ (lA A.1 (sY A.1 + d)))), gb_si (gb_si σ 36 0 10 0) 36 0 9 0) := m_allOn c1.1.1 (by omega)
    have p3 : f_X10_allOn [gR 36 0, gI (nZ (sY A.1 + d))] τ3 = some (some (gI (nZ (lA A.1 (sY A.1 + d)))), τ3) := m_allOn c3.1.1 (by omega)
    have h1' := lps (n := 6) (fun b x => j_X10_then_23 (nZ d) x (nZ b) (gb_si σ 36 0 10 0)) (spB A.1 (sY A.1 + d)) 0 (by
      intro b hb x
      try dsimp only
      have hlen := (hI.2.2.2.2.2.1 b hb).1
      have h2 := lps (n := (sB A.1 b).length) (fun i x => j_X10_then_32 (nZ d) x (nZ b) (nZ i) (gb_si σ 36 0 10 0)) (spF A.1 (sY A.1 + d) b) x (by
        intro i hi x
        try dsimp only
        obtain ⟨l1, l2, l3, l4, l5⟩ := lz_ok hI.2.2.2.2.2.1 hb hi
        have hu := sU_r (on := sY A.1 + d) hI.1 ⟨l1, l2, l3, l4, l5⟩
        have hw := hI.1 _ l1
        have k0 : (0 : Int32) + nZ (lz (sB A.1 b) i).1 = nZ (lz (sB A.1 b) i).1 := by rw [z0, z_add, Int.zero_add]
        rw [e_X10_then_32, m_many hM1 hb, g_b1, if_neg (by rw [z_le ⟨by omega, by omega⟩ ⟨by omega, by omega⟩]; omega), g174, e174, mY, z_add, m_unitOn hM1 hb hi (by omega), g_b1, m_L0 hM1 hb hi, g_b1, k0, z_tn (by omega), Int.toNat_natCast, mW _ l1, g_in (by omega), zs]
        unfold spF
        by_cases h : sU A.1 (sY A.1 + d) (lz (sB A.1 b) i) < sW A.1 (lz (sB A.1 b) i).1
        · rw [if_neg (by rw [z_le ⟨by omega, by omega⟩ ⟨by omega, by omega⟩]; omega), if_pos h, m_L0 hM1 hb hi, g_b1]
        · rw [if_pos (by rw [z_le ⟨by omega, by omega⟩ ⟨by omega, by omega⟩]; omega), if_neg h])
      have h2' : j_X10_then_32 (nZ d) x (nZ b) 0 (gb_si σ 36 0 10 0) = j_X10_then_32 (nZ d) (spB A.1 (sY A.1 + d) b x) (nZ b) (nZ (sB A.1 b).length) (gb_si σ 36 0 10 0) := h2
      rw [e_X10_then_23, if_neg (n6 hb), h2', e_X10_then_32, m_many hM1 hb, g_b1, if_pos (Int32.le_refl _), zs])
    have h1'' : j_X10_then_23 (nZ d) 0 0 (gb_si σ 36 0 10 0) = j_X10_then_23 (nZ d) (spA A.1 (sY A.1 + d)) (nZ (6 : Nat)) (gb_si σ 36 0 10 0) := h1'
    rw [e_X10_then, m_in_t hx (by omega), g_b1, e10, h1'', e_X10_then_23, if_pos y6, p1, g_b1, g174, e174, mY1, z_add, p2, g_b1, z_sub, a2, g_b0, a3, g_b0, g174, mY3, z_add, p3, g_b1]
def oF (s : gb_St) (l : gb_Ly) : Int := if sU s (sY s) l < sW s l.1 then l.2.1 else 0
def oT (s : gb_St) (b : Nat) : Int := sL (oF s) (sB s b)
def oX (s : gb_St) (n : Nat) : Int32 := it n 0 (fun b x => if 0 < oT s b then x ||| (1 <<< (nZ b &&& 31)) else x)
theorem oT_r {s : gb_St} {b : Nat} (il : iL s) (hb : b < 6) : 0 ≤ oT s b ∧ oT s b ≤ 99 := by
  have h0 := (il b hb).2.1
  have h1 : 0 ≤ sL (oF s) (sB s b) := sL_nn (fun l hl => by
    have := ((il b hb).2.2 l hl).2.1
    unfold oF
    split <;> omega)
  have h2 : sL (oF s) (sB s b) ≤ lT (sB s b) := sL_le (fun l hl => by
    have := ((il b hb).2.2 l hl).2.1
    unfold oF
    split <;> omega)
  unfold oT
  omega
theorem oX_s {s : gb_St} {b : Nat} : oX s (b + 1) = if 0 < oT s b then oX s b ||| (1 <<< (nZ b &&& 31)) else oX s b := rfl
section OL
variable {σ : gb_M} {j : Nat} {s : gb_St} {b : Nat}
theorem p_spoiltTons (hC : gb_SC σ j s) (hb : b < 6) : f_X7_spoiltTons [gR 10 j, gI (nZ b)] σ = some (some (gI (nZ (oT s b))), σ) := by
  obtain ⟨⟨cW, cP, cN, cT, cL, cH, cY, cQ⟩, ⟨rK, rC, rO, rA⟩, iw, ik, io, ic, ip, il, id⟩ := id hC
  obtain ⟨y1, y2, q1, q2⟩ := id
  have hlen := (il b hb).1
  have h1 := lp (n := (sB s b).length) (fun i => j_X7_spoiltTons_4 j (nZ b) (nZ (sL (oF s) ((sB s b).take i))) (nZ i) σ) (by
    intro i hi
    try dsimp only
    obtain ⟨g1, g2, g3⟩ := cL b i hb hi
    rw [e_X7_spoiltTons_4, z_tn (by omega), Int.toNat_natCast, g_in (by omega), cN b hb, if_neg (by rw [z_le ⟨by omega, by omega⟩ ⟨by omega, by omega⟩]; omega), p_place, g_b1, cY, p_spoilt hC hb hi (on := sY s) (by omega), g_b1, zs, z_tn (by omega), g2, sL_take hi, g_in (by omega), z_add]
    unfold oF
    by_cases h : sU s (sY s) (lz (sB s b) i) < sW s (lz (sB s b) i).1
    · rw [if_pos h, if_pos h, e10]
    · rw [if_neg h, if_neg h, e00, Int.add_zero])
  have h1' : j_X7_spoiltTons_4 j (nZ b) 0 0 σ = j_X7_spoiltTons_4 j (nZ b) (nZ (oT s b)) (nZ (sB s b).length) σ := by
    rw [List.take_length] at h1
    exact h1
  rw [e_X7_spoiltTons, h1', e_X7_spoiltTons_4, z_tn (by omega), Int.toNat_natCast, g_in (by omega), cN b hb, if_pos (Int32.le_refl _)]
end OL
theorem or_0 (x : Int32) : x ||| 0 = x := by simp
theorem th_old {A : gb_Ab} (hA : wfA A) : gb_T2 f_X9_old f_X10_old [gR 0 0] [gR 36 0] A := by
  have hI := hA.1.1
  obtain ⟨y1, y2, q1, q2⟩ := hI.2.2.2.2.2.2
  refine T2_K (some (gI (nZ (sm 6 (oT A.1))))) (setR A (rowOf 6 (fun b => (nZ (oT A.1 b)).toInt64) ++ [(oX A.1 6).toInt64])) (wf_setR hA) (fun σ hC => ?_) (fun σ hM => ?_)
  · obtain ⟨τ1, a1, c1⟩ := kc_start hC
    obtain ⟨τ2, a2, c2⟩ := kc_loop (n := 6) (by omega) (fun i τ => j_X9_old_13 (nZ (sm i (oT A.1))) (oX A.1 i) (nZ i) τ) (fun b => (nZ (oT A.1 b)).toInt64) c1 (by
      intro i hi τ τ' hK hadd _
      show j_X9_old_13 _ _ _ _ = j_X9_old_13 _ _ _ _
      have pv : f_X7_spoiltTons [gR 10 0, gI (nZ i)] τ = some (some (gI (nZ (oT A.1 i))), τ) := p_spoiltTons hK.1.1 hi
      have hr := oT_r hI.2.2.2.2.2.1 hi
      rw [e_X9_old_13, if_neg (n6 hi), pv, g_b1, hadd, g_b0, zs, z_add, oX_s]
      by_cases h : 0 < oT A.1 i
      · rw [if_neg (by rw [z0, z_le ⟨by omega, by omega⟩ ⟨by omega, by omega⟩]; omega), if_pos h]; rfl
      · rw [if_pos (by rw [z0, z_le ⟨by omega, by omega⟩ ⟨by omega, by omega⟩]; omega), if_neg h]; rfl)
    obtain ⟨τ3, a3, c3⟩ := kc_add c2 (by rw [rowOf_len]; omega) (oX A.1 6).toInt64
    refine ⟨τ3, ?_, c3⟩
    have a2' : j_X9_old_13 0 0 0 τ1 = j_X9_old_13 (nZ (sm 6 (oT A.1))) (oX A.1 6) (nZ (6 : Nat)) τ2 := a2
    rw [e_X9_old, a1, g_b0, a2', e_X9_old_13, if_pos y6, a3, g_b0]
  · have c1 := km_start hM
    obtain ⟨τ2, a2, c2⟩ := km_loop (n := 6) (by omega) (fun i τ => j_X10_old_16 (nZ (sm i (oT A.1))) (oX A.1 i) (nZ i) τ) (fun b => (nZ (oT A.1 b)).toInt64) c1 (by
      intro b hb τ τ' hK hadd _
      show j_X10_old_16 _ _ _ _ = j_X10_old_16 _ _ _ _
      have hM1 : gb_MM τ A.1 := hK.1.1
      obtain ⟨mW, mK, mO, mC, mP, mN, mL, -, mQ⟩ := id hM1.1
      simp only [Nat.zero_add] at mW
      have hlen := (hI.2.2.2.2.2.1 b hb).1
      have hr := oT_r hI.2.2.2.2.2.1 hb
      have h1 := lp (n := (sB A.1 b).length) (fun i => j_X10_old_28 (nZ (sm b (oT A.1))) (oX A.1 b) (nZ b) (nZ (sL (oF A.1) ((sB A.1 b).take i))) (nZ i) τ) (by
        intro i hi
        try dsimp only
        obtain ⟨l1, l2, l3, l4, l5⟩ := lz_ok hI.2.2.2.2.2.1 hb hi
        have hu := sU_r (on := sY A.1) hI.1 ⟨l1, l2, l3, l4, l5⟩
        have hw := hI.1 _ l1
        have k0 : (0 : Int32) + nZ (lz (sB A.1 b) i).1 = nZ (lz (sB A.1 b) i).1 := by rw [z0, z_add, Int.zero_add]
        rw [e_X10_old_28, m_many hM1 hb, g_b1, if_neg (by rw [z_le ⟨by omega, by omega⟩ ⟨by omega, by omega⟩]; omega), m_unit hM1 hb hi, g_b1, m_L0 hM1 hb hi, g_b1, k0, z_tn (by omega), Int.toNat_natCast, mW _ l1, g_in (by omega), zs, sL_take hi]
        unfold oF
        by_cases h : sU A.1 (sY A.1) (lz (sB A.1 b) i) < sW A.1 (lz (sB A.1 b) i).1
        · rw [if_neg (by rw [z_le ⟨by omega, by omega⟩ ⟨by omega, by omega⟩]; omega), if_pos h, m_L1 hM1 hb hi, g_b1, z_add]
        · rw [if_pos (by rw [z_le ⟨by omega, by omega⟩ ⟨by omega, by omega⟩]; omega), if_neg h, z0, z_add])
      have h1' : j_X10_old_28 (nZ (sm b (oT A.1))) (oX A.1 b) (nZ b) 0 0 τ = j_X10_old_28 (nZ (sm b (oT A.1))) (oX A.1 b) (nZ b) (nZ (oT A.1 b)) (nZ (sB A.1 b).length) τ := by
        rw [List.take_length] at h1
        exact h1
      rw [e_X10_old_16, if_neg (n6 hb), h1', e_X10_old_28, m_many hM1 hb, g_b1, if_pos (Int32.le_refl _), hadd, g_b0, zs, z_add, oX_s, or_0]
      by_cases h : 0 < oT A.1 b
      · rw [if_neg (by rw [z0, z_le ⟨by omega, by omega⟩ ⟨by omega, by omega⟩]; omega), if_pos h]; rfl
      · rw [if_pos (by rw [z0, z_le ⟨by omega, by omega⟩ ⟨by omega, by omega⟩]; omega), if_neg h]; rfl)
    obtain ⟨τ3, a3, c3⟩ := km_tell c2 (by rw [rowOf_len]; omega) (oX A.1 6).toInt64
    refine ⟨τ3, ?_, c3⟩
    have a2' : j_X10_old_16 0 0 0 (gb_si (gb_si σ 36 0 10 0) 36 0 9 0) = j_X10_old_16 (nZ (sm 6 (oT A.1))) (oX A.1 6) (nZ (6 : Nat)) τ2 := a2
    rw [e_X10_old, a2', e_X10_old_16, if_pos y6, a3, g_b0]
theorem lV_mono {s : gb_St} {L : List gb_Ly} (hok : ∀ l ∈ L, okL l) {on on' : Int} (h : on ≤ on') : lV s on' L ≤ lV s on L := by
  have : lR s on' L ≤ lR s on L := sL_le (fun l hl => by
    have h1 := (hok l hl).2.1
    have h2 : sU s on' l ≤ sU s on l := by unfold sU; omega
    exact Int.mul_le_mul_of_nonneg_left h2 (by omega))
  unfold lV
  omega
theorem th_falls {A : gb_Ab} (hA : wfA A) (a c : Int32) : gb_T2 f_X9_falls f_X10_falls [gR 0 0, gI a, gI c] [gR 36 0, gI a, gI c] A := by
  have hx := nZ_rz a
  have hy := nZ_rz c
  rw [nZ_of a, nZ_of c]
  generalize a.toInt = x at hx
  generalize c.toInt = v at hy
  have hI := hA.1.1
  obtain ⟨y1, y2, q1, q2⟩ := hI.2.2.2.2.2.2
  by_cases h1 : 0 ≤ x ∧ x < 6
  rotate_left
  · refine T2_same hA (some (gI (-1))) (fun σ hC => ?_) (fun σ hM => ?_)
    · rw [e_X9_falls, cb_f hx h1, g_b1, e00]
    · rw [e_X10_falls, mb_f hx h1, g_b1, e00]
  obtain ⟨b, rfl⟩ : ∃ b : Nat, x = b := ⟨x.toNat, by omega⟩
  have hb : b < 6 := by omega
  have hok := (hI.2.2.2.2.2.1 b hb).2.2
  obtain ⟨k, hk, hn, -, he⟩ := lp_ex (n := 1000) (fun _ => none) (fun d => lV A.1 (sY A.1 + d) (sB A.1 b) < v) (fun _ _ _ => rfl)
  have z1000 : (1000 : Int32) = nZ 1000 := rfl
  have z999' : (999 : Int32) = nZ 999 := rfl
  refine T2_same hA (some (gI (if k < 1000 then nZ k else -2))) (fun σ hC => ?_) (fun σ hM => ?_)
  · have cY := hC.1.1.2.2.2.2.2.2.1
    have step : ∀ (p : Int) (y : Int32) (h : Int), nZ p / 2 = y → 1 ≤ p ∧ p ≤ 512 → 0 ≤ h → h ≤ k → (k : Int) < h + 2 * p → ∃ h' : Int, 0 ≤ h' ∧ h' ≤ k ∧ (k : Int) < h' + p ∧ j_X9_falls_16 (nZ b) (nZ v) (nZ h) (nZ p) σ = j_X9_falls_16 (nZ b) (nZ v) (nZ h') y σ := by
      intro p y h hy2 hp h0 h1 h2
      rw [e_X9_falls_16, if_neg (by rw [z0, z_le ⟨by omega, by omega⟩ ⟨by omega, by omega⟩]; omega), z_add, z1, z_sub, z999', hy2]
      by_cases c1 : 999 < h + p - 1
      · exact ⟨h, h0, h1, by omega, by rw [if_pos (by rw [z_lt ⟨by omega, by omega⟩ ⟨by omega, by omega⟩]; exact c1)]⟩
      · rw [if_neg (by rw [z_lt ⟨by omega, by omega⟩ ⟨by omega, by omega⟩]; exact c1), cY, z_add, p_valueThen hC.1 hb (by omega), g_b1]
        have hv := lV_r (on := sY A.1 + (h + p - 1)) hI hb
        by_cases c2 : lV A.1 (sY A.1 + (h + p - 1)) (sB A.1 b) < v
        · refine ⟨h, h0, h1, ?_, by rw [if_pos (by rw [z_lt ⟨by omega, by omega⟩ hy]; exact c2)]⟩
          apply Classical.byContradiction
          intro hc
          have := hn (h + p - 1).toNat (by omega)
          rw [show (((h + p - 1).toNat : Nat) : Int) = h + p - 1 by omega] at this
          exact this c2
        · refine ⟨h + p, by omega, ?_, by omega, by rw [if_neg (by rw [z_lt ⟨by omega, by omega⟩ hy]; exact c2)]⟩
          apply Classical.byContradiction
          intro hc
          rcases he with he | ⟨he, hp2⟩
          · omega
          · have := lV_mono (s := A.1) hok (on := sY A.1 + (k : Int)) (on' := sY A.1 + (h + p - 1)) (by omega)
            omega
    obtain ⟨k1, a1, b1, c1, e1⟩ := step 512 (nZ 256) 0 (by decide) (by omega) (by omega) (by omega) (by omega)
    obtain ⟨k2, a2, b2, c2, e2⟩ := step 256 (nZ 128) k1 (by decide) (by omega) a1 b1 (by omega)
    obtain ⟨k3, a3, b3, c3, e3⟩ := step 128 (nZ 64) k2 (by decide) (by omega) a2 b2 (by omega)
    obtain ⟨k4, a4, b4, c4, e4⟩ := step 64 (nZ 32) k3 (by decide) (by omega) a3 b3 (by omega)
    obtain ⟨k5, a5, b5, c5, e5⟩ := step 32 (nZ 16) k4 (by decide) (by omega) a4 b4 (by omega)
    obtain ⟨k6, a6, b6, c6, e6⟩ := step 16 (nZ 8) k5 (by decide) (by omega) a5 b5 (by omega)
    obtain ⟨k7, a7, b7, c7, e7⟩ := step 8 (nZ 4) k6 (by decide) (by omega) a6 b6 (by omega)
    obtain ⟨k8, a8, b8, c8, e8⟩ := step 4 (nZ 2) k7 (by decide) (by omega) a7 b7 (by omega)
    obtain ⟨k9, a9, b9, c9, e9⟩ := step 2 (nZ 1) k8 (by decide) (by omega) a8 b8 (by omega)
    obtain ⟨k10, a10, b10, c10, e10'⟩ := step 1 (nZ 0) k9 (by decide) (by omega) a9 b9 (by omega)
    have ek : k10 = k := by omega
    subst ek
    have e1' : j_X9_falls_16 (nZ b) (nZ v) 0 512 σ = j_X9_falls_16 (nZ b) (nZ v) (nZ k1) (nZ 256) σ := e1
    rw [e_X9_falls, cb_t hb, g_b1, e10, e1', e2, e3, e4, e5, e6, e7, e8, e9, e10', e_X9_falls_16, if_pos (by decide), z999']
    by_cases h : k < 1000
    · rw [if_neg (by rw [z_lt ⟨by omega, by omega⟩ ⟨by omega, by omega⟩]; omega), if_pos h]
    · rw [if_pos (by rw [z_lt ⟨by omega, by omega⟩ ⟨by omega, by omega⟩]; omega), if_neg h]
  · have hM1 := (MC_t (v := 0) hM).1
    have mY := m_DAY (KM_0 hM)
    have hJ := lp (n := k) (fun d => j_X10_falls_16 (nZ b) (nZ v) (nZ d) (gb_si σ 36 0 10 0)) (by
      intro d hd
      have hv := lV_r (on := sY A.1 + d) hI hb
      have := hn d hd
      try dsimp only
      rw [e_X10_falls_16, if_neg (by rw [z1000, z_le ⟨by omega, by omega⟩ ⟨by omega, by omega⟩]; omega), g174, e174, mY, z_add, m_valueOn hM1.1 hb (by omega), g_b1, if_pos (by rw [z_le hy ⟨by omega, by omega⟩]; omega), zs])
    have hJ' : j_X10_falls_16 (nZ b) (nZ v) 0 (gb_si σ 36 0 10 0) = j_X10_falls_16 (nZ b) (nZ v) (nZ k) (gb_si σ 36 0 10 0) := hJ
    rw [e_X10_falls, mb_t hb, g_b1, e10, hJ', e_X10_falls_16]
    rcases he with he | ⟨he, hp⟩
    · rw [if_pos (by rw [z1000, z_le ⟨by omega, by omega⟩ ⟨by omega, by omega⟩]; omega), if_neg (by omega)]
    · have hv := lV_r (on := sY A.1 + k) hI hb
      rw [if_neg (by rw [z1000, z_le ⟨by omega, by omega⟩ ⟨by omega, by omega⟩]; omega), g174, e174, mY, z_add, m_valueOn hM1.1 hb (by omega), g_b1, if_neg (by rw [z_le hy ⟨by omega, by omega⟩]; omega), if_pos he]
