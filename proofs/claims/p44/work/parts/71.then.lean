/-! THEN, OLD, FALLS, CURES -/
def spF (s : gb_St) (on : Int) (b i : Nat) (x : Int32) : Int32 := if sU s on (lz (sB s b) i) < sW s (lz (sB s b) i).1 then x ||| (1 <<< (nZ (lz (sB s b) i).1 &&& 31)) else x
def spB (s : gb_St) (on : Int) (b : Nat) (x : Int32) : Int32 := it (sB s b).length x (spF s on b)
def spA (s : gb_St) (on : Int) : Int32 := it 6 0 (spB s on)
theorem lps {n : Nat} {α : Type} (J : Nat → α → gb_R) (f : Nat → α → α) (a : α) (hs : ∀ i, i < n → ∀ a, J i a = J (i + 1) (f i a)) : J 0 a = J n (it n a f) := (lpi J f (fun _ => True) trivial (fun i hi a _ => ⟨hs i hi a, trivial⟩)).1
section TH
variable {σ : gb_M} {j : Nat} {s : gb_St} {b : Nat}
theorem p_spoilt (hC : gb_SC σ j s) (hb : b < 6) {i : Nat} (hi : i < (sB s b).length) {on : Int} (ho : 0 ≤ on ∧ on ≤ 11000) : f_X7_spoilt [gR 10 j, gI (nZ ((b : Int) * 6 + (i : Int))), gI (nZ on)] σ = some (some (gI (if sU s on (lz (sB s b) i) < sW s (lz (sB s b) i).1 then 1 else 0)), σ) := by
  obtain ⟨⟨cW, cP, cN, cT, cL, cH, cY, cQ⟩, ⟨rK, rC, rO, rA⟩, iw, ik, io, ic, ip, il, id⟩ := id hC
  obtain ⟨y1, y2, q1, q2⟩ := id
  have hlen := (il b hb).1
  obtain ⟨g1, g2, g3⟩ := cL b i hb hi
  obtain ⟨l1, l2, l3, l4, l5⟩ := lz_ok il hb hi
  have hu := sU_r (on := on) iw ⟨l1, l2, l3, l4, l5⟩
  have hw := iw _ l1
  rw [e_X7_spoilt, p_unit hC.1 hC.2.1 hC.2.2 hb hi ho, g_b1, z_tn (by omega), g1, g_in (by omega), z_tn (by omega), Int.toNat_natCast, g_in (by omega), cW _ l1]
  by_cases h : sU s on (lz (sB s b) i) < sW s (lz (sB s b) i).1
  · rw [if_neg (by rw [z_le ⟨by omega, by omega⟩ ⟨by omega, by omega⟩]; omega), if_pos h]
  · rw [if_pos (by rw [z_le ⟨by omega, by omega⟩ ⟨by omega, by omega⟩]; omega), if_neg h]
theorem p_spoiltGrades (hC : gb_SC σ j s) {on : Int} (ho : 0 ≤ on ∧ on ≤ 11000) : f_X7_spoiltGrades [gR 10 j, gI (nZ on)] σ = some (some (gI (spA s on)), σ) := by
  obtain ⟨⟨cW, cP, cN, cT, cL, cH, cY, cQ⟩, ⟨rK, rC, rO, rA⟩, iw, ik, io, ic, ip, il, id⟩ := id hC
  obtain ⟨y1, y2, q1, q2⟩ := id
  have h1 := lps (n := 6) (fun b x => j_X7_spoiltGrades_4 j (nZ on) x (nZ b) σ) (spB s on) 0 (by
    intro b hb x
    try dsimp only
    have hlen := (il b hb).1
    have h2 := lps (n := (sB s b).length) (fun i x => j_X7_spoiltGrades_13 j (nZ on) x (nZ b) (nZ i) σ) (spF s on b) x (by
      intro i hi x
      try dsimp only
      obtain ⟨g1, g2, g3⟩ := cL b i hb hi
      obtain ⟨l1, l2, l3, l4, l5⟩ := lz_ok il hb hi
      rw [e_X7_spoiltGrades_13, z_tn (by omega), Int.toNat_natCast, g_in (by omega), cN b hb, if_neg (by rw [z_le ⟨by omega, by omega⟩ ⟨by omega, by omega⟩]; omega), p_place, g_b1, p_spoilt hC hb hi ho, g_b1, zs, z_tn (by omega), g1]
      unfold spF
      by_cases h : sU s on (lz (sB s b) i) < sW s (lz (sB s b) i).1
      · rw [if_pos h, e10, if_pos h, g_in (by omega)]
      · rw [if_neg h, e00, if_neg h])
    have h2' : j_X7_spoiltGrades_13 j (nZ on) x (nZ b) 0 σ = j_X7_spoiltGrades_13 j (nZ on) (spB s on b x) (nZ b) (nZ (sB s b).length) σ := h2
    rw [e_X7_spoiltGrades_4, if_neg (n6 hb), h2', e_X7_spoiltGrades_13, z_tn (by omega), Int.toNat_natCast, g_in (by omega), cN b hb, if_pos (Int32.le_refl _), zs])
  have h1' : j_X7_spoiltGrades_4 j (nZ on) 0 0 σ = j_X7_spoiltGrades_4 j (nZ on) (spA s on) (nZ (6 : Nat)) σ := h1
  rw [e_X7_spoiltGrades, h1', e_X7_spoiltGrades_4, if_pos y6]
end TH
def oF (s : gb_St) (l : gb_Ly) : Int := if sU s (sY s) l < sW s l.1 then l.2.1 else 0
def oT (s : gb_St) (b : Nat) : Int := sL (oF s) (sB s b)
def oX (s : gb_St) (n : Nat) : Int32 := it n 0 (fun b x => if 0 < oT s b then x ||| (1 <<< (nZ b &&& 31)) else x)
theorem oT_r {s : gb_St} {b : Nat} (il : iL s) (hb : b < 6) : 0 ≤ oT s b ∧ oT s b ≤ 99 := by
  have h0 := (il b hb).2.1
  have h1 : 0 ≤ sL (oF s) (sB s b) := sL_nn (fun l hl => by
    have := ((il b hb).2.2 l hl).2.1
    unfold oF
    split <;> omega)
  have h2 : sL (oF s) (sB s b) ≤ lT (sB s b) := sL_le (fun l hl => by
    have := ((il b hb).2.2 l hl).2.1
    unfold oF
    split <;> omega)
  unfold oT
  omega
theorem oX_s {s : gb_St} {b : Nat} : oX s (b + 1) = if 0 < oT s b then oX s b ||| (1 <<< (nZ b &&& 31)) else oX s b := rfl
section OL
variable {σ : gb_M} {j : Nat} {s : gb_St} {b : Nat}
end OL
theorem or_0 (x : Int32) : x ||| 0 = x := by simp
theorem lV_mono {s : gb_St} {L : List gb_Ly} (hok : ∀ l ∈ L, okL l) {on on' : Int} (h : on ≤ on') : lV s on' L ≤ lV s on L := by
  have : lR s on' L ≤ lR s on L := sL_le (fun l hl => by
    have h1 := (hok l hl).2.1
    have h2 : sU s on' l ≤ sU s on l := by unfold sU; omega
    exact Int.mul_le_mul_of_nonneg_left h2 (by omega))
  unfold lV
  omega