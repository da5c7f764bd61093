/-! SIGN, END, COUNT -/
theorem b255 : ∀ i : Fin 32, (255#32)[i.val] = decide (i.val < 8) := by decide
theorem sbx (v : Int32) (s : Int32) (hs : s = 24 ∨ s = 16 ∨ s = 8 ∨ s = 0) : (v >>> s).toInt8.toInt32.toInt8.toInt32 &&& 255 = (v.toUInt32 >>> s.toUInt32).toInt32 &&& 255 := by
  rcases hs with rfl | rfl | rfl | rfl
  all_goals
    apply Int32.toBitVec_inj.1
    simp
    ext i hi
    simp
    rw [b255 ⟨i, hi⟩]
    by_cases h : i < 8
    · simp [BitVec.getElem_signExtend, BitVec.getElem_sshiftRight, h]
      try rw [BitVec.getLsbD_eq_getElem (by omega)]
      try rw [if_pos hi]
      rw [dif_pos (by omega)]
    · simp [h]
theorem and255 (x : Int32) : 0 ≤ (x &&& 255).toInt ∧ (x &&& 255).toInt ≤ 255 := by
  have h : (x &&& 255).toBitVec.toNat ≤ 255 := by
    simp
    exact Nat.and_le_right
  have e : (x &&& 255).toInt = ((x &&& 255).toBitVec.toNat : Int) := BitVec.toInt_eq_toNat_of_lt (by omega)
  omega
theorem bY_256 : ∀ i : Fin 256, nZ ((i.val : Int) - 128) = bY (nZ ((i.val : Int) - 128) &&& 255).toInt := by decide +kernel
theorem bY_of (x : Int8) : x.toInt32 = bY (x.toInt32 &&& 255).toInt := by
  have h1 := x.le_toInt
  have h2 := x.toInt_lt
  have h := bY_256 ⟨(x.toInt + 128).toNat, by omega⟩
  dsimp only at h
  rw [show (((x.toInt + 128).toNat : Nat) : Int) - 128 = x.toInt by omega] at h
  have e : x.toInt32 = nZ x.toInt := by
    rw [← Int32.toInt_inj, Int8.toInt_toInt32, nZ_ti ⟨by omega, by omega⟩]
  rw [e]; exact h
theorem gdi_1 {T : List Int} {x d : Int} {i : Nat} (hi : i < T.length) : (T ++ [x]).getD i d = T.getD i d := by
  simp [List.getD, List.getElem?_append_left hi]
theorem gdi_2 {T : List Int} {x d : Int} : (T ++ [x]).getD T.length d = x := by
  simp [List.getD]
def setT (A : gb_Ab) (T : List Int) : gb_Ab := (A.1, A.2.1, A.2.2.1, T, A.2.2.2.2)
theorem tC_add {σ : gb_M} {T : List Int} (h : textC σ T) (hl : T.length < 200) {w : Int32} (hw : 0 ≤ w.toInt ∧ w.toInt ≤ 255) : gb_in (σ.1 1 0 1) 200 = true ∧ textC (gb_si (gb_si σ 2 0 (σ.1 1 0 1).toNatClampNeg w) 1 0 1 ((gb_si σ 2 0 (σ.1 1 0 1).toNatClampNeg w).1 1 0 1 + 1)) (T ++ [w.toInt]) ∧ gb_fP (fun k => k = 1 ∨ k = 2) σ (gb_si (gb_si σ 2 0 (σ.1 1 0 1).toNatClampNeg w) 1 0 1 ((gb_si σ 2 0 (σ.1 1 0 1).toNatClampNeg w).1 1 0 1 + 1)) := by
  obtain ⟨a, b, c, d⟩ := h
  have el : (T ++ [w.toInt]).length = T.length + 1 := by simp
  refine ⟨by rw [a]; exact z_in (by omega), ⟨?_, by omega, fun i hi => ?_, fun i hi => ?_⟩, fP_si (fP_si fP_rf (Or.inr rfl)) (Or.inl rfl)⟩
  · rw [si_s, si_k (by omega), a, zs, el]
  · rw [el] at hi
    rw [si_k (by omega), a, z_tn (by omega), Int.toNat_natCast]
    by_cases e : i = T.length
    · subst e; rw [si_s, gdi_2]; exact nZ_of w
    · rw [si_i e, gdi_1 (by omega)]; exact c i (by omega)
  · rw [el] at hi
    by_cases e : i = T.length
    · subst e; rw [gdi_2]; exact hw
    · rw [gdi_1 (by omega)]; exact d i (by omega)
theorem tM_add {σ : gb_M} {T : List Int} (h : textM σ T) (hl : T.length < 200) {w : Int32} {x : Int} (hx : 0 ≤ x ∧ x ≤ 255) (hw : w = bY x) : gb_in (σ.1 36 0 7) 200 = true ∧ textM (gb_si (gb_si σ 36 0 7 (σ.1 36 0 7 + 1)) 41 0 (σ.1 36 0 7).toNatClampNeg w) (T ++ [x]) ∧ gb_fX (fun k => k = 41) (fun x => x = 7) σ (gb_si (gb_si σ 36 0 7 (σ.1 36 0 7 + 1)) 41 0 (σ.1 36 0 7).toNatClampNeg w) := by
  obtain ⟨a, b, c, d⟩ := h
  have el : (T ++ [x]).length = T.length + 1 := by simp
  refine ⟨by rw [a]; exact z_in (by omega), ⟨?_, by omega, fun i hi => ?_, fun i hi => ?_⟩, fX_si (fX_si fX_rf (Or.inr ⟨rfl, rfl⟩)) (Or.inl ⟨by omega, rfl⟩)⟩
  · rw [si_k (by omega), si_s, a, zs, el]
  · rw [el] at hi
    rw [a, z_tn (by omega), Int.toNat_natCast]
    by_cases e : i = T.length
    · subst e; rw [si_s, gdi_2]; exact hw
    · rw [si_i e, si_k (by omega), gdi_1 (by omega)]; exact c i (by omega)
  · rw [el] at hi
    by_cases e : i = T.length
    · subst e; rw [gdi_2]; exact hx
    · rw [gdi_1 (by omega)]; exact d i (by omega)
theorem CC_text {P : Nat → Prop} {σ σ' : gb_M} {A : gb_Ab} {T : List Int} (h : gb_fP P σ σ') (hP : ∀ k, P k → k = 1 ∨ k = 2) (hC : CC σ A) (hT : textC σ' T) : CC σ' (setT A T) := ⟨SC_fP h (fun k _ _ z => by have := hP k z; omega) hC.1, keptC_fP h (fun z => by have := hP 0 z; omega) (fun k _ _ z => by have := hP k z; omega) hC.2.1, pastC_fP h (fun z => by have := hP _ z; omega) (fun k _ _ z => by have := hP k z; omega) hC.2.2.1, hT, rowC_fP h (fun z => by have := hP _ z; omega) (fun z => by have := hP _ z; omega) hC.2.2.2.2⟩
theorem MC_text {Q I : Nat → Prop} {σ σ' : gb_M} {A : gb_Ab} {T : List Int} (h : gb_fX Q I σ σ') (hq : ¬ Q 37 ∧ ¬ Q 39 ∧ ¬ Q 40 ∧ ¬ Q 42) (hi : ¬ I 3 ∧ ¬ I 5 ∧ ¬ I 9) (hM : MC σ A) (hT : textM σ' T) : MC σ' (setT A T) := ⟨MM_fX h hq.1 hM.1, keptM_fX h hq.2.1 hi.1 hM.2.1, PM_fX h hq.2.2.1 hi.2.1 hM.2.2.1, hT, rowM_fX h hq.2.2.2 hi.2.2 hM.2.2.2.2⟩
def bw (v s : Int32) : Int32 := (v.toUInt32 >>> s.toUInt32).toInt32 &&& 255
def tx4 (T : List Int) (v : Int32) : List Int := T ++ [(bw v 24).toInt] ++ [(bw v 16).toInt] ++ [(bw v 8).toInt] ++ [(bw v 0).toInt]
theorem tx4_len {T : List Int} {v : Int32} : (tx4 T v).length = T.length + 4 := by simp [tx4]
theorem th_sign {A : gb_Ab} (hA : wfA A) (v : Int32) : gb_T2 f_X9_sign f_X10_sign [gR 0 0, gI v] [gR 36 0, gI v] A := by
  have z4' : (4 : Int32) = nZ 4 := rfl
  have z200 : (200 : Int32) = nZ 200 := rfl
  by_cases h1 : A.2.2.2.1.length + 4 ≤ 200
  rotate_left
  · refine ⟨some (gI (-1)), A, hA, fun σ hC _ => ⟨σ, ?_, hC, fP_rf⟩, fun σ hM => ⟨gb_si σ 36 0 10 0, ?_, (MC_t hM).1, fX_fP (MC_t hM).2 (fun k z => z.elim)⟩⟩
    · have a := hC.2.2.2.1.1
      have b := hC.2.2.2.1.2.1
      rw [e_X9_sign, e_X8_add, a, z4', z_add, z200, if_neg (by rw [z_le ⟨by omega, by omega⟩ ⟨by omega, by omega⟩]; omega), g_b1, e00]
    · have a := (MC_t (v := 0) hM).1.2.2.2.1.1
      have b := hM.2.2.2.1.2.1
      rw [e_X10_sign, a, z4', z_add, z200, if_neg (by rw [z_le ⟨by omega, by omega⟩ ⟨by omega, by omega⟩]; omega)]
  have r24 := and255 ((v.toUInt32 >>> (24 : Int32).toUInt32).toInt32)
  have r16 := and255 ((v.toUInt32 >>> (16 : Int32).toUInt32).toInt32)
  have r8 := and255 ((v.toUInt32 >>> (8 : Int32).toUInt32).toInt32)
  have r0 := and255 ((v.toUInt32 >>> (0 : Int32).toUInt32).toInt32)
  refine ⟨some (gI (nZ (A.2.2.2.1.length + 4 : Nat))), setT A (tx4 A.2.2.2.1 v), hA, fun σ hC _ => ?_, fun σ hM => ?_⟩
  · have a := hC.2.2.2.1.1
    have key : ∀ (σ : gb_M) (T : List Int) (s n : Int32), ¬ s < 0 → s.toUInt32 &&& Int32.toUInt32 31 = s.toUInt32 → s + (-8) = n → textC σ T → T.length < 200 → ∃ τ, j_X8_add_17 v s σ = j_X8_add_17 v n τ ∧ textC τ (T ++ [(bw v s).toInt]) ∧ gb_fP (fun k => k = 1 ∨ k = 2) σ τ := by
      intro σ T s n h1 h2 h3 ht hl
      obtain ⟨g1, t1, f1⟩ := tC_add ht hl (and255 ((v.toUInt32 >>> s.toUInt32).toInt32))
      exact ⟨_, by rw [e_X8_add_17, if_neg h1, h2, h3, g_gd g1], t1, f1⟩
    obtain ⟨τ1, g1, t1, f1⟩ := key σ _ 24 16 (by decide) (by decide) (by decide) hC.2.2.2.1 (by omega)
    obtain ⟨τ2, g2, t2, f2⟩ := key τ1 _ 16 8 (by decide) (by decide) (by decide) t1 (by simp; omega)
    obtain ⟨τ3, g3, t3, f3⟩ := key τ2 _ 8 0 (by decide) (by decide) (by decide) t2 (by simp; omega)
    obtain ⟨τ4, g4, t4, f4⟩ := key τ3 _ 0 (-8) (by decide) (by decide) (by decide) t3 (by simp; omega)
    have fa := fP_tr f1 (fP_tr f2 (fP_tr f3 f4))
    have t4' : textC τ4 (tx4 A.2.2.2.1 v) := t4
    refine ⟨τ4, ?_, CC_text fa (fun k z => z) hC t4', fP_w fa (fun k hk => by omega)⟩
    have a4 := t4'.1
    rw [tx4_len] at a4
    rw [e_X9_sign, e_X8_add, a, z4', z_add, z200, if_pos (by rw [z_le ⟨by omega, by omega⟩ ⟨by omega, by omega⟩]; omega), g1, g2, g3, g4, e_X8_add_17, if_pos (by decide), g_b1, e10, a4]
  · have hM1 := (MC_t (v := 0) hM).1
    have a := hM1.2.2.2.1.1
    have key : ∀ (σ : gb_M) (T : List Int) (s n t : Int32), ¬ s < 0 → (8 * s) &&& 31 = t → s + (-1) = n → (t = 24 ∨ t = 16 ∨ t = 8 ∨ t = 0) → textM σ T → T.length < 200 → ∃ τ, j_X10_sign_21 v s σ = j_X10_sign_21 v n τ ∧ textM τ (T ++ [(bw v t).toInt]) ∧ gb_fX (fun k => k = 41) (fun x => x = 7) σ τ := by
      intro σ T s n t h1 h2 h3 h4 ht hl
      obtain ⟨g1, t1, f1⟩ := tM_add ht hl (w := (v >>> t).toInt8.toInt32.toInt8.toInt32) (and255 ((v.toUInt32 >>> t.toUInt32).toInt32)) (by rw [← sbx v t h4]; exact bY_of _)
      exact ⟨_, by rw [e_X10_sign_21, if_neg h1, h2, h3, g_gd g1], t1, f1⟩
    obtain ⟨τ1, g1, t1, f1⟩ := key _ _ 3 2 24 (by decide) (by decide) (by decide) (by simp) hM1.2.2.2.1 (by omega)
    obtain ⟨τ2, g2, t2, f2⟩ := key τ1 _ 2 1 16 (by decide) (by decide) (by decide) (by simp) t1 (by simp; omega)
    obtain ⟨τ3, g3, t3, f3⟩ := key τ2 _ 1 0 8 (by decide) (by decide) (by decide) (by simp) t2 (by simp; omega)
    obtain ⟨τ4, g4, t4, f4⟩ := key τ3 _ 0 (-1) 0 (by decide) (by decide) (by decide) (by simp) t3 (by simp; omega)
    have fa := fX_tr f1 (fX_tr f2 (fX_tr f3 f4))
    have t4' : textM τ4 (tx4 A.2.2.2.1 v) := t4
    refine ⟨τ4, ?_, MC_text fa ⟨by omega, by omega, by omega, by omega⟩ ⟨by omega, by omega, by omega⟩ hM1 t4', fP_tr (fX_fP (MC_t hM).2 (fun k z => z.elim)) (fX_fP fa (fun k hk => by omega))⟩
    have a4 := t4'.1
    rw [tx4_len] at a4
    rw [e_X10_sign, a, z4', z_add, z200, if_pos (by rw [z_le ⟨by omega, by omega⟩ ⟨by omega, by omega⟩]; omega), g1, g2, g3, g4, e_X10_sign_21, if_pos (by decide), a4]
theorem gd_take {T : List Int} {i n : Nat} {d : Int} (h : i < n) : (T.take n).getD i d = T.getD i d := by
  simp [List.getD, List.getElem?_take, h]
theorem th_end {A : gb_Ab} (hA : wfA A) (a : Int32) : gb_T2 f_X9_end f_X10_end [gR 0 0, gI a] [gR 36 0, gI a] A := by
  have hx := nZ_rz a
  rw [nZ_of a]
  generalize a.toInt = n at hx
  have i0 : (0 : Int64).toInt = 0 := by decide
  by_cases hl : A.2.2.2.1.length ≤ 200
  rotate_left
  · exact ⟨none, A, hA, fun σ hC _ => absurd hC.2.2.2.1.2.1 hl, fun σ hM => absurd hM.2.2.2.1.2.1 hl⟩
  by_cases h1 : 0 ≤ n ∧ n ≤ A.2.2.2.1.length
  rotate_left
  · refine T2_same hA (some (gI 0)) (fun σ hC => ?_) (fun σ hM => ?_)
    · have a := hC.2.2.2.1.1
      rw [e_X9_end, e_X8_cut]
      by_cases h2 : n < 0
      · rw [if_pos (by rw [z0, z_lt hx ⟨by omega, by omega⟩]; exact h2), g_b1, gd0]
      · rw [if_neg (by rw [z0, z_lt hx ⟨by omega, by omega⟩]; exact h2), a, if_neg (by rw [z_le hx ⟨by omega, by omega⟩]; omega), g_b1, gd0]
    · have a := (MC_t (v := 0) hM).1.2.2.2.1.1
      rw [e_X10_end, a, m_in_f hx (by rw [i0, nz64 ⟨by omega, by omega⟩]; omega), g_b1, e00]
  obtain ⟨k, rfl⟩ : ∃ k : Nat, n = k := ⟨n.toNat, by omega⟩
  have el : (A.2.2.2.1.take k).length = k := by rw [List.length_take]; omega
  refine ⟨some (gI 1), setT A (A.2.2.2.1.take k), hA, fun σ hC _ => ?_, fun σ hM => ?_⟩
  · obtain ⟨a, b, c, d⟩ := hC.2.2.2.1
    have f : gb_fP (fun k => k = 1) σ (gb_si σ 1 0 1 (nZ k)) := fP_si fP_rf rfl
    refine ⟨gb_si σ 1 0 1 (nZ k), ?_, CC_text f (fun k z => Or.inl z) hC ⟨by rw [si_s, el], by omega, fun i hi => ?_, fun i hi => ?_⟩, fP_w f (fun k hk => by omega)⟩
    · rw [e_X9_end, e_X8_cut, if_neg (by rw [z0, z_lt hx ⟨by omega, by omega⟩]; omega), a, if_pos (by rw [z_le hx ⟨by omega, by omega⟩]; omega), g_b1, gd1]
    · rw [el] at hi
      rw [si_k (by omega), gd_take hi]; exact c i (by omega)
    · rw [el] at hi
      rw [gd_take hi]; exact d i (by omega)
  · have hM1 := (MC_t (v := 0) hM).1
    obtain ⟨a, b, c, d⟩ := hM1.2.2.2.1
    have f : gb_fX (fun _ => False) (fun x => x = 7) (gb_si σ 36 0 10 0) (gb_si (gb_si σ 36 0 10 0) 36 0 7 (nZ k)) := fX_si fX_rf (Or.inr ⟨rfl, rfl⟩)
    refine ⟨gb_si (gb_si σ 36 0 10 0) 36 0 7 (nZ k), ?_, MC_text f ⟨fun z => z, fun z => z, fun z => z, fun z => z⟩ ⟨by omega, by omega, by omega⟩ hM1 ⟨by rw [si_s, el], by omega, fun i hi => ?_, fun i hi => ?_⟩, fP_tr (fX_fP (MC_t hM).2 (fun k z => z.elim)) (fX_fP f (fun k hk => hk.elim))⟩
    · rw [e_X10_end, a, m_in_t hx (by rw [i0, nz64 ⟨by omega, by omega⟩]; omega), g_b1, e10]
    · rw [el] at hi
      rw [si_k (by omega), gd_take hi]; exact c i (by omega)
    · rw [el] at hi
      rw [gd_take hi]; exact d i (by omega)
theorem p_emptyBins {σ : gb_M} {j : Nat} {s : gb_St} (hC : gb_SC σ j s) : f_X7_emptyBins [gR 10 j] σ = some (some (gI (bm 6 (fun b => decide ((sB s b).length = 0)))), σ) := by
  obtain ⟨⟨cW, cP, cN, cT, cL, cH, cY, cQ⟩, ⟨rK, rC, rO, rA⟩, iw, ik, io, ic, ip, il, id⟩ := id hC
  obtain ⟨y1, y2, q1, q2⟩ := id
  have h1 := lp (n := 6) (fun i => j_X7_emptyBins_4 j (bm i (fun b => decide ((sB s b).length = 0))) (nZ i) σ) (by
    intro i hi
    try dsimp only
    have hlen := (il i hi).1
    rw [e_X7_emptyBins_4, if_neg (n6 hi), z_tn (by omega), Int.toNat_natCast, g_in (by omega), cN i hi, zs]
    by_cases h : (sB s i).length = 0
    · rw [if_pos (by rw [h]; decide), bm_t (decide_eq_true h)]
    · rw [if_neg (by rw [z0, z_eq ⟨by omega, by omega⟩ ⟨by omega, by omega⟩]; omega), bm_f (decide_eq_false h)])
  have h1' : j_X7_emptyBins_4 j 0 0 σ = j_X7_emptyBins_4 j (bm 6 (fun b => decide ((sB s b).length = 0))) (nZ (6 : Nat)) σ := h1
  rw [e_X7_emptyBins, h1', e_X7_emptyBins_4, if_pos y6]
theorem th_count {A : gb_Ab} (hA : wfA A) (a : Int32) : gb_T2 f_X9_count f_X10_count [gR 0 0, gI a] [gR 36 0, gI a] A := by
  have hx := nZ_rz a
  rw [nZ_of a]
  generalize a.toInt = y at hx
  have hI := hA.1.1
  have mJ : ∀ σ, KM σ (gb_si σ 36 0 10 0) A → f_X10_count [gR 36 0, gI (nZ y)] σ = j_X10_count_18 (nZ y) (nZ (sm 6 (fun b => lT (sB A.1 b)))) (nZ (sm 6 (fun b => ((sB A.1 b).length : Int)))) (bm 6 (fun b => decide (sY A.1 < sP A.1 b))) (bm 6 (fun b => decide ((sB A.1 b).length = 0))) (nZ (6 : Nat)) (gb_si σ 36 0 10 0) := by
    intro σ hM
    have hM1 := hM.1.1
    have h1 := lp (n := 6) (fun i => j_X10_count_18 (nZ y) (nZ (sm i (fun b => lT (sB A.1 b)))) (nZ (sm i (fun b => ((sB A.1 b).length : Int)))) (bm i (fun b => decide (sY A.1 < sP A.1 b))) (bm i (fun b => decide ((sB A.1 b).length = 0))) (nZ i) (gb_si σ 36 0 10 0)) (by
      intro i hi
      try dsimp only
      have hlen := (hI.2.2.2.2.2.1 i hi).1
      rw [e_X10_count_18, if_neg (n6 hi), m_tonsIn hM1 hi, g_b1, m_many hM1 hi, g_b1, zs, z_add, z_add, sm_s, sm_s]
      by_cases w : sY A.1 < sP A.1 i
      · rw [m_closed_t hM1 hi w, g_b1, show nZ 1 = 1 from rfl, e10, m_many hM1 hi, g_b1, bm_t (n := i) (P := fun b => decide (sY A.1 < sP A.1 b)) (decide_eq_true w)]
        by_cases h : (sB A.1 i).length = 0
        · rw [if_pos (by rw [h]; decide), bm_t (decide_eq_true h)]
        · rw [if_neg (by rw [z0, z_eq ⟨by omega, by omega⟩ ⟨by omega, by omega⟩]; omega), bm_f (decide_eq_false h), or_0]
      · rw [m_closed_f hM1 hi w, g_b1, if_pos (show nZ 0 = 0 from rfl), m_many hM1 hi, g_b1, bm_f (n := i) (P := fun b => decide (sY A.1 < sP A.1 b)) (decide_eq_false w), or_0]
        by_cases h : (sB A.1 i).length = 0
        · rw [if_pos (by rw [h]; decide), bm_t (decide_eq_true h)]
        · rw [if_neg (by rw [z0, z_eq ⟨by omega, by omega⟩ ⟨by omega, by omega⟩]; omega), bm_f (decide_eq_false h), or_0])
    rw [e_X10_count]
    exact h1
  by_cases h2 : 0 ≤ y ∧ y ≤ 8
  rotate_left
  · refine T2_same hA (some (gI (-1))) (fun σ hC => ?_) (fun σ hM => ?_)
    · rw [e_X9_count, ts_out hx h2, e_X9_count_124]
    · rw [mJ σ (KM_0 hM), e_X10_count_18, if_pos y6, ts_out hx h2, e_X10_count_187]
  have hc : y = 0 ∨ y = 1 ∨ y = 2 ∨ y = 3 ∨ y = 4 ∨ y = 5 ∨ y = 6 ∨ y = 7 ∨ y = 8 := by omega
  rcases hc with rfl | rfl | rfl | rfl | rfl | rfl | rfl | rfl | rfl
  · refine T2_same hA (some (gI (nZ (sY A.1)))) (fun σ hC => ?_) (fun σ hM => ?_)
    · rw [e_X9_count, ts_in hx h2 rfl, e_X9_count_52, hC.1.1.2.2.2.2.2.2.1]
    · rw [mJ σ (KM_0 hM), e_X10_count_18, if_pos y6, ts_in hx h2 rfl, e_X10_count_144, g174, e174, m_DAY (KM_0 hM)]
  · refine T2_same hA (some (gI (nZ (sm 6 (fun b => lT (sB A.1 b)))))) (fun σ hC => ?_) (fun σ hM => ?_)
    · rw [e_X9_count, ts_in hx h2 rfl, e_X9_count_60, p_tonsInAll hC.1, g_b1]
    · rw [mJ σ (KM_0 hM), e_X10_count_18, if_pos y6, ts_in hx h2 rfl, e_X10_count_153]
  · refine T2_same hA (some (gI (nZ (sm 6 (fun b => ((sB A.1 b).length : Int)))))) (fun σ hC => ?_) (fun σ hM => ?_)
    · rw [e_X9_count, ts_in hx h2 rfl, e_X9_count_68, p_layersInAll hC.1, g_b1]
    · rw [mJ σ (KM_0 hM), e_X10_count_18, if_pos y6, ts_in hx h2 rfl, e_X10_count_155]
  · refine T2_same hA (some (gI (bm 6 (fun b => decide (sY A.1 < sP A.1 b))))) (fun σ hC => ?_) (fun σ hM => ?_)
    · rw [e_X9_count, ts_in hx h2 rfl, e_X9_count_76, p_closedBins hC.1, g_b1]
    · rw [mJ σ (KM_0 hM), e_X10_count_18, if_pos y6, ts_in hx h2 rfl, e_X10_count_157]
  · refine T2_same hA (some (gI (bm 6 (fun b => decide ((sB A.1 b).length = 0))))) (fun σ hC => ?_) (fun σ hM => ?_)
    · rw [e_X9_count, ts_in hx h2 rfl, e_X9_count_84, p_emptyBins hC.1, g_b1]
    · rw [mJ σ (KM_0 hM), e_X10_count_18, if_pos y6, ts_in hx h2 rfl, e_X10_count_160]
  · refine T2_same hA (some (gI (nZ A.2.2.1.length))) (fun σ hC => ?_) (fun σ hM => ?_)
    · obtain ⟨n, hn, e1, e2, _⟩ := hC.2.2.1
      rw [e_X9_count, ts_in hx h2 rfl, e_X9_count_92, e2]
    · rw [mJ σ (KM_0 hM), e_X10_count_18, if_pos y6, ts_in hx h2 rfl, e_X10_count_163, (MC_t hM).1.2.2.1.1]
  · refine T2_same hA (some (gI (nZ (sQ A.1)))) (fun σ hC => ?_) (fun σ hM => ?_)
    · rw [e_X9_count, ts_in hx h2 rfl, e_X9_count_100, hC.1.1.2.2.2.2.2.2.2]
    · have mQ := (MC_t (v := 0) hM).1.1.1.2.2.2.2.2.2.2.2
      rw [Nat.zero_add] at mQ
      rw [mJ σ (KM_0 hM), e_X10_count_18, if_pos y6, ts_in hx h2 rfl, e_X10_count_168, show (175 : Int32).toNatClampNeg = 175 by decide, mQ]
      exact g_gd (by decide)
  · refine T2_same hA (some (gI (nZ A.2.2.2.2.length))) (fun σ hC => ?_) (fun σ hM => ?_)
    · rw [e_X9_count, ts_in hx h2 rfl, e_X9_count_108, hC.2.2.2.2.1]
    · rw [mJ σ (KM_0 hM), e_X10_count_18, if_pos y6, ts_in hx h2 rfl, e_X10_count_177, (MC_t hM).1.2.2.2.2.1]
  · refine T2_same hA (some (gI (nZ A.2.2.2.1.length))) (fun σ hC => ?_) (fun σ hM => ?_)
    · rw [e_X9_count, ts_in hx h2 rfl, e_X9_count_116, hC.2.2.2.1.1]
    · rw [mJ σ (KM_0 hM), e_X10_count_18, if_pos y6, ts_in hx h2 rfl, e_X10_count_182, (MC_t hM).1.2.2.2.1.1]
