/-! SIGN, END, COUNT -/
theorem b255 : ∀ i : Fin 32, (255#32)[i.val] = decide (i.val < 8) := by decide
theorem sbx (v : Int32) (s : Int32) (hs : s = 24 ∨ s = 16 ∨ s = 8 ∨ s = 0) : (v >>> s).toInt8.toInt32.toInt8.toInt32 &&& 255 = (v.toUInt32 >>> s.toUInt32).toInt32 &&& 255 := by
  rcases hs with rfl | rfl | rfl | rfl
  all_goals
    apply Int32.toBitVec_inj.1
    simp
    ext i hi
    simp
    rw [b255 ⟨i, hi⟩]
    by_cases h : i < 8
    · simp [BitVec.getElem_signExtend, BitVec.getElem_sshiftRight, h]
      try rw [BitVec.getLsbD_eq_getElem (by omega)]
      try rw [if_pos hi]
      rw [dif_pos (by omega)]
    · simp [h]
theorem and255 (x : Int32) : 0 ≤ (x &&& 255).toInt ∧ (x &&& 255).toInt ≤ 255 := by
  have h : (x &&& 255).toBitVec.toNat ≤ 255 := by
    simp
    exact Nat.and_le_right
  have e : (x &&& 255).toInt = ((x &&& 255).toBitVec.toNat : Int) := BitVec.toInt_eq_toNat_of_lt (by omega)
  omega
theorem bY_256 : ∀ i : Fin 256, nZ ((i.val : Int) - 128) = bY (nZ ((i.val : Int) - 128) &&& 255).toInt := by decide +kernel
theorem bY_of (x : Int8) : x.toInt32 = bY (x.toInt32 &&& 255).toInt := by
  have h1 := x.le_toInt
  have h2 := x.toInt_lt
  have h := bY_256 ⟨(x.toInt + 128).toNat, by omega⟩
  dsimp only at h
  rw [show (((x.toInt + 128).toNat : Nat) : Int) - 128 = x.toInt by omega] at h
  have e : x.toInt32 = nZ x.toInt := by
    rw [← Int32.toInt_inj, Int8.toInt_toInt32, nZ_ti ⟨by omega, by omega⟩]
  rw [e]; exact h
theorem gdi_1 {T : List Int} {x d : Int} {i : Nat} (hi : i < T.length) : (T ++ [x]).getD i d = T.getD i d := by
  simp [List.getD, List.getElem?_append_left hi]
theorem gdi_2 {T : List Int} {x d : Int} : (T ++ [x]).getD T.length d = x := by
  simp [List.getD]
def setT (A : gb_Ab) (T : List Int) : gb_Ab := (A.1, A.2.1, A.2.2.1, T, A.2.2.2.2)
theorem tC_add {σ : gb_M} {T : List Int} (h : textC σ T) (hl : T.length < 200) {w : Int32} (hw : 0 ≤ w.toInt ∧ w.toInt ≤ 255) : gb_in (σ.1 1 0 1) 200 = true ∧ textC (gb_si (gb_si σ 2 0 (σ.1 1 0 1).toNatClampNeg w) 1 0 1 ((gb_si σ 2 0 (σ.1 1 0 1).toNatClampNeg w).1 1 0 1 + 1)) (T ++ [w.toInt]) ∧ gb_fP (fun k => k = 1 ∨ k = 2) σ (gb_si (gb_si σ 2 0 (σ.1 1 0 1).toNatClampNeg w) 1 0 1 ((gb_si σ 2 0 (σ.1 1 0 1).toNatClampNeg w).1 1 0 1 + 1)) := by
  obtain ⟨a, b, c, d⟩ := h
  have el : (T ++ [w.toInt]).length = T.length + 1 := by simp
  refine ⟨by rw [a]; exact z_in (by omega), ⟨?_, by omega, fun i hi => ?_, fun i hi => ?_⟩, fP_si (fP_si fP_rf (Or.inr rfl)) (Or.inl rfl)⟩
  · rw [si_s, si_k (by omega), a, zs, el]
  · rw [el] at hi
    rw [si_k (by omega), a, z_tn (by omega), Int.toNat_natCast]
    by_cases e : i = T.length
    · subst e; rw [si_s, gdi_2]; exact nZ_of w
    · rw [si_i e, gdi_1 (by omega)]; exact c i (by omega)
  · rw [el] at hi
    by_cases e : i = T.length
    · subst e; rw [gdi_2]; exact hw
    · rw [gdi_1 (by omega)]; exact d i (by omega)
theorem tM_add {σ : gb_M} {T : List Int} (h : textM σ T) (hl : T.length < 200) {w : Int32} {x : Int} (hx : 0 ≤ x ∧ x ≤ 255) (hw : w = bY x) : gb_in (σ.1 36 0 7) 200 = true ∧ textM (gb_si (gb_si σ 36 0 7 (σ.1 36 0 7 + 1)) 41 0 (σ.1 36 0 7).toNatClampNeg w) (T ++ [x]) ∧ gb_fX (fun k => k = 41) (fun x => x = 7) σ (gb_si (gb_si σ 36 0 7 (σ.1 36 0 7 + 1)) 41 0 (σ.1 36 0 7).toNatClampNeg w) := by
  obtain ⟨a, b, c, d⟩ := h
  have el : (T ++ [x]).length = T.length + 1 := by simp
  refine ⟨by rw [a]; exact z_in (by omega), ⟨?_, by omega, fun i hi => ?_, fun i hi => ?_⟩, fX_si (fX_si fX_rf (Or.inr ⟨rfl, rfl⟩)) (Or.inl ⟨by omega, rfl⟩)⟩
  · rw [si_k (by omega), si_s, a, zs, el]
  · rw [el] at hi
    rw [a, z_tn (by omega), Int.toNat_natCast]
    by_cases e : i = T.length
    · subst e; rw [si_s, gdi_2]; exact hw
    · rw [si_i e, si_k (by omega), gdi_1 (by omega)]; exact c i (by omega)
  · rw [el] at hi
    by_cases e : i = T.length
    · subst e; rw [gdi_2]; exact hx
    · rw [gdi_1 (by omega)]; exact d i (by omega)
theorem CC_text {P : Nat → Prop} {σ σ' : gb_M} {A : gb_Ab} {T : List Int} (h : gb_fP P σ σ') (hP : ∀ k, P k → k = 1 ∨ k = 2) (hC : CC σ A) (hT : textC σ' T) : CC σ' (setT A T) := ⟨SC_fP h (fun k _ _ z => by have := hP k z; omega) hC.1, keptC_fP h (fun z => by have := hP 0 z; omega) (fun k _ _ z => by have := hP k z; omega) hC.2.1, pastC_fP h (fun z => by have := hP _ z; omega) (fun k _ _ z => by have := hP k z; omega) hC.2.2.1, hT, rowC_fP h (fun z => by have := hP _ z; omega) (fun z => by have := hP _ z; omega) hC.2.2.2.2⟩
theorem MC_text {Q I : Nat → Prop} {σ σ' : gb_M} {A : gb_Ab} {T : List Int} (h : gb_fX Q I σ σ') (hq : ¬ Q 37 ∧ ¬ Q 39 ∧ ¬ Q 40 ∧ ¬ Q 42) (hi : ¬ I 3 ∧ ¬ I 5 ∧ ¬ I 9) (hM : MC σ A) (hT : textM σ' T) : MC σ' (setT A T) := ⟨MM_fX h hq.1 hM.1, keptM_fX h hq.2.1 hi.1 hM.2.1, PM_fX h hq.2.2.1 hi.2.1 hM.2.2.1, hT, rowM_fX h hq.2.2.2 hi.2.2 hM.2.2.2.2⟩
def bw (v s : Int32) : Int32 := (v.toUInt32 >>> s.toUInt32).toInt32 &&& 255
def tx4 (T : List Int) (v : Int32) : List Int := T ++ [(bw v 24).toInt] ++ [(bw v 16).toInt] ++ [(bw v 8).toInt] ++ [(bw v 0).toInt]
theorem tx4_len {T : List Int} {v : Int32} : (tx4 T v).length = T.length + 4 := by simp [tx4]
theorem gd_take {T : List Int} {i n : Nat} {d : Int} (h : i < n) : (T.take n).getD i d = T.getD i d := by
  simp [List.getD, List.getElem?_take, h]
theorem p_emptyBins {σ : gb_M} {j : Nat} {s : gb_St} (hC : gb_SC σ j s) : f_X7_emptyBins [gR 10 j] σ = some (some (gI (bm 6 (fun b => decide ((sB s b).length = 0)))), σ) := by
  obtain ⟨⟨cW, cP, cN, cT, cL, cH, cY, cQ⟩, ⟨rK, rC, rO, rA⟩, iw, ik, io, ic, ip, il, id⟩ := id hC
  obtain ⟨y1, y2, q1, q2⟩ := id
  have h1 := lp (n := 6) (fun i => j_X7_emptyBins_4 j (bm i (fun b => decide ((sB s b).length = 0))) (nZ i) σ) (by
    intro i hi
    try dsimp only
    have hlen := (il i hi).1
    rw [e_X7_emptyBins_4, if_neg (n6 hi), z_tn (by omega), Int.toNat_natCast, g_in (by omega), cN i hi, zs]
    by_cases h : (sB s i).length = 0
    · rw [if_pos (by rw [h]; decide), bm_t (decide_eq_true h)]
    · rw [if_neg (by rw [z0, z_eq ⟨by omega, by omega⟩ ⟨by omega, by omega⟩]; omega), bm_f (decide_eq_false h)])
  have h1' : j_X7_emptyBins_4 j 0 0 σ = j_X7_emptyBins_4 j (bm 6 (fun b => decide ((sB s b).length = 0))) (nZ (6 : Nat)) σ := h1
  rw [e_X7_emptyBins, h1', e_X7_emptyBins_4, if_pos y6]