/-! T1: asks -/
section T1B
variable {A : gb_Ab}
def fmS (s : gb_St) (b : Nat) (n : Int) : gb_St := setB (setP s b (sY s + n)) b (jn (fum (sB s b) (sY s + n)))
theorem t_fumes (hA : wfA A) {b : Nat} {n : Int} (hb : b < 6) (h2 : 1 ≤ n ∧ n ≤ 20) (h3 : ¬ sY A.1 < sP A.1 b) : gb_T1 f_X9_fumes [gR 0 0, gI (nZ b), gI (nZ n)] A (some (gI (nZ (sY A.1 + n)))) (setS A (fmS A.1 b n)) := by
  have hI := hA.1.1
  obtain ⟨y1, y2, q1, q2⟩ := hI.2.2.2.2.2.2
  have hd' : 0 ≤ sY A.1 + n ∧ sY A.1 + n ≤ 10019 := by omega
  have hIP := IV_P hI hb hd'
  have hIF : gb_IV (setB (setP A.1 b (sY A.1 + n)) b (fum (sB A.1 b) (sY A.1 + n))) := IV_set hIP (by unfold fum; rw [List.length_map]; exact (hI.2.2.2.2.2.1 b hb).1) (by rw [show lT (fum (sB A.1 b) (sY A.1 + n)) = lT (sB A.1 b) from fum_sL (fun _ _ _ => rfl)]; exact (hI.2.2.2.2.2.1 b hb).2.1) (fum_ok (hI.2.2.2.2.2.1 b hb).2.2 hd')
  have hIJ := IV_jn hIF hb
  rw [sB_s, setB2] at hIJ
  refine T1_of (fun _ => wf_setS hA ⟨hIJ, gd_setB (s := setP A.1 b (sY A.1 + n)) hA.1.2 adj_jn⟩) (fun σ hC _ => ?_)
  obtain ⟨τ, a1, a2, a3⟩ := CC_past hC
  obtain ⟨τ', b1, b2, b3⟩ := p_fumigate a2.1 hb h2
  have c12 := b2.1.2.1 b hb
  have c12' : τ'.1 12 0 b = nZ (sY A.1 + n) := by
    rw [c12]
    exact congrArg nZ (if_pos rfl)
  refine ⟨τ', ?_, CC_S a2 b3 b2, fP_tr a3 (fP_w (fS_fP b3) (fun k hk => by omega))⟩
  rw [e_X9_fumes, cb_t hb, g_b1, e10, if_neg (by rw [z1, z_lt ⟨by omega, by omega⟩ ⟨by omega, by omega⟩]; omega), if_pos (by rw [z20, z_le ⟨by omega, by omega⟩ ⟨by omega, by omega⟩]; omega), p_closed_f hC.1 hb h3, g_b1, e00, a1, g_b0, b1, g_b0]
  simp (disch := omega) only [g_in, z_tn, Int.toNat_natCast, c12']
theorem t_fumes2 (hA : wfA A) {b : Nat} {n : Int} (hb : b < 6) (h2 : 1 ≤ n ∧ n ≤ 20) (h3 : sY A.1 < sP A.1 b) : gb_T1 f_X9_fumes [gR 0 0, gI (nZ b), gI (nZ n)] A (some (gI (-2))) A :=
  T1_same _ (fun σ hC => by rw [e_X9_fumes, cb_t hb, g_b1, e10, if_neg (by rw [z1, z_lt ⟨by omega, by omega⟩ ⟨by omega, by omega⟩]; omega), if_pos (by rw [z20, z_le ⟨by omega, by omega⟩ ⟨by omega, by omega⟩]; omega), p_closed_t hC.1 hb h3, g_b1, e10])
theorem t_pair (hA : wfA A) {g h : Nat} (hg : g < 6) (hh : h < 6) : gb_T1 f_X9_pair [gR 0 0, gI (nZ g), gI (nZ h)] A (some (gI (nZ (if 0 ≤ sO A.1 g h then sO A.1 g h else -2)))) A := by
  refine T1_same _ (fun σ hC => ?_)
  obtain ⟨⟨cW, cP, cN, cT, cL, cH, cY, cQ⟩, ⟨rK, rC, rO, rA⟩, -⟩ := id hC.1
  have hb := bm_has (fun k => decide (sO A.1 g k < 0)) hh
  have hmay : f_X5_may [gR 3 0, gI (nZ g), gI (nZ h)] σ = some (some (gI (if 0 ≤ sO A.1 g h then 1 else 0)), σ) := by
    rw [e_X5_may]
    simp (disch := omega) only [g_in, z_tn, Int.toNat_natCast, rA]
    by_cases h0 : 0 ≤ sO A.1 g h
    · rw [if_pos h0, if_pos]
      rw [z1]
      rw [hb]
      exact decide_eq_false (by omega)
    · rw [if_neg h0, if_neg]
      rw [z1, hb]
      simp only [Bool.not_eq_false, decide_eq_true_eq]
      omega
  rw [e_X9_pair, cg_t hg, g_b1, e10, cg_t hh, g_b1, e10, hmay, g_b1]
  by_cases h0 : 0 ≤ sO A.1 g h
  · rw [if_pos h0, if_pos h0, e10, p_lossOf hC.1 hg hh, g_b1, show max 0 (sO A.1 g h) = sO A.1 g h by omega]
  · rw [if_neg h0, if_neg h0, e00]; rfl
theorem t_grade0 (hA : wfA A) {g : Nat} (hg : g < 6) : gb_T1 f_X9_grade [gR 0 0, gI (nZ g), gI 0] A (some (gI (nZ (sW A.1 g)))) A := by
  refine T1_same _ (fun σ hC => ?_)
  have cW := hC.1.1.1
  rw [e_X9_grade, cg_t hg, g_b1, e10, z0, ts_in ⟨by omega, by omega⟩ (by omega) rfl, e_X9_grade_36]
  simp (disch := omega) only [g_in, z_tn, Int.toNat_natCast, cW]
theorem t_bin0 (hA : wfA A) {b : Nat} (hb : b < 6) : gb_T1 f_X9_bin [gR 0 0, gI (nZ b), gI 0] A (some (gI (nZ (sC A.1 b)))) A := by
  refine T1_same _ (fun σ hC => ?_)
  have k1 := hC.1.2.1.2.1 b hb
  rw [e_X9_bin, cb_t hb, g_b1, e10, z0, ts_in ⟨by omega, by omega⟩ (by omega) rfl, e_X9_bin_44]
  simp (disch := omega) only [g_in, z_tn, Int.toNat_natCast, k1]
theorem t_bin1 (hA : wfA A) {b : Nat} (hb : b < 6) : gb_T1 f_X9_bin [gR 0 0, gI (nZ b), gI 1] A (some (gI (nZ (lT (sB A.1 b))))) A := by
  refine T1_same _ (fun σ hC => ?_)
  have k2 := hC.1.1.2.2.2.1 b hb
  rw [e_X9_bin, cb_t hb, g_b1, e10, z1, ts_in ⟨by omega, by omega⟩ (by omega) rfl, e_X9_bin_54]
  simp (disch := omega) only [g_in, z_tn, Int.toNat_natCast, k2]
theorem t_bin2 (hA : wfA A) {b : Nat} (hb : b < 6) : gb_T1 f_X9_bin [gR 0 0, gI (nZ b), gI 2] A (some (gI (nZ (sB A.1 b).length))) A := by
  refine T1_same _ (fun σ hC => ?_)
  have k3 := hC.1.1.2.2.1 b hb
  rw [e_X9_bin, cb_t hb, g_b1, e10, z2, ts_in ⟨by omega, by omega⟩ (by omega) rfl, e_X9_bin_64]
  simp (disch := omega) only [g_in, z_tn, Int.toNat_natCast, k3]
theorem t_bin3 (hA : wfA A) {b : Nat} (hb : b < 6) : gb_T1 f_X9_bin [gR 0 0, gI (nZ b), gI 3] A (some (gI (nZ (max 0 (sP A.1 b - sY A.1))))) A := by
  have hI := hA.1.1
  obtain ⟨y1, y2, q1, q2⟩ := hI.2.2.2.2.2.2
  have hp := hI.2.2.2.2.1 b hb
  refine T1_same _ (fun σ hC => ?_)
  have k4 := hC.1.1.2.1 b hb
  have k5 := hC.1.1.2.2.2.2.2.2.1
  rw [e_X9_bin, cb_t hb, g_b1, e10, z3, ts_in ⟨by omega, by omega⟩ (by omega) rfl, e_X9_bin_74]
  simp (disch := omega) only [g_in, z_tn, Int.toNat_natCast, k4, k5, z_sub, z0, z_lt, z_mx]
theorem t_bin4 (hA : wfA A) {b : Nat} (hb : b < 6) : gb_T1 f_X9_bin [gR 0 0, gI (nZ b), gI 4] A (some (gI (bm 6 (fun g => decide (0 < lG (sB A.1 b) g))))) A :=
  T1_same _ (fun σ hC => by rw [e_X9_bin, cb_t hb, g_b1, e10, z4, ts_in ⟨by omega, by omega⟩ (by omega) rfl, e_X9_bin_96, p_gradesIn hC.1 hb, g_b1])
theorem c_layer0 {σ : gb_M} (hA : wfA A) (hC : CC σ A) {b i : Nat} {w : Int} (hb : b < 6) (hi : i < (sB A.1 b).length) : f_X9_layer [gR 0 0, gI (nZ b), gI (nZ i), gI (nZ w)] σ = gb_tsel (nZ w) 0 3 [k_X9_layer_64 gb_n, k_X9_layer_75 gb_n, k_X9_layer_86 gb_n, k_X9_layer_97 gb_n] (k_X9_layer_114 gb_n) [(4, gI (nZ ((b : Int) * 6 + (i : Int)))), (0, gR 0 0), (1, gI (nZ b)), (2, gI (nZ i)), (3, gI (nZ w))] [] σ := by
  have hlen := (hA.1.1.2.2.2.2.2.1 b hb).1
  have cN := hC.1.1.2.2.1 b hb
  rw [e_X9_layer, cb_t hb, g_b1, e10, if_neg (by rw [z0, z_lt ⟨by omega, by omega⟩ ⟨by omega, by omega⟩]; omega)]
  simp (disch := omega) only [g_in, z_tn, Int.toNat_natCast, cN]
  rw [if_pos (by rw [z_lt ⟨by omega, by omega⟩ ⟨by omega, by omega⟩]; omega), p_place, g_b1]
theorem t_layer0 (hA : wfA A) {b i : Nat} (hb : b < 6) (hi : i < (sB A.1 b).length) : gb_T1 f_X9_layer [gR 0 0, gI (nZ b), gI (nZ i), gI 0] A (some (gI (nZ (lz (sB A.1 b) i).1))) A := by
  have hlen := (hA.1.1.2.2.2.2.2.1 b hb).1
  refine T1_same _ (fun σ hC => ?_)
  obtain ⟨g1, g2, g3⟩ := hC.1.1.2.2.2.2.1 b i hb hi
  rw [z0, c_layer0 hA hC hb hi, ts_in ⟨by omega, by omega⟩ (by omega) rfl, e_X9_layer_64]
  simp (disch := omega) only [g_in, z_tn, g1]
theorem t_layer1 (hA : wfA A) {b i : Nat} (hb : b < 6) (hi : i < (sB A.1 b).length) : gb_T1 f_X9_layer [gR 0 0, gI (nZ b), gI (nZ i), gI 1] A (some (gI (nZ (lz (sB A.1 b) i).2.1))) A := by
  have hlen := (hA.1.1.2.2.2.2.2.1 b hb).1
  refine T1_same _ (fun σ hC => ?_)
  obtain ⟨g1, g2, g3⟩ := hC.1.1.2.2.2.2.1 b i hb hi
  rw [z1, c_layer0 hA hC hb hi, ts_in ⟨by omega, by omega⟩ (by omega) rfl, e_X9_layer_75]
  simp (disch := omega) only [g_in, z_tn, g2]
theorem t_layer2 (hA : wfA A) {b i : Nat} (hb : b < 6) (hi : i < (sB A.1 b).length) : gb_T1 f_X9_layer [gR 0 0, gI (nZ b), gI (nZ i), gI 2] A (some (gI (nZ (lz (sB A.1 b) i).2.2))) A := by
  have hlen := (hA.1.1.2.2.2.2.2.1 b hb).1
  refine T1_same _ (fun σ hC => ?_)
  obtain ⟨g1, g2, g3⟩ := hC.1.1.2.2.2.2.1 b i hb hi
  rw [z2, c_layer0 hA hC hb hi, ts_in ⟨by omega, by omega⟩ (by omega) rfl, e_X9_layer_86]
  simp (disch := omega) only [g_in, z_tn, g3]
theorem t_layer3 (hA : wfA A) {b i : Nat} (hb : b < 6) (hi : i < (sB A.1 b).length) : gb_T1 f_X9_layer [gR 0 0, gI (nZ b), gI (nZ i), gI 3] A (some (gI (nZ (sU A.1 (sY A.1) (lz (sB A.1 b) i))))) A := by
  have hI := hA.1.1
  obtain ⟨y1, y2, q1, q2⟩ := hI.2.2.2.2.2.2
  refine T1_same _ (fun σ hC => ?_)
  have cY := hC.1.1.2.2.2.2.2.2.1
  rw [z3, c_layer0 hA hC hb hi, ts_in ⟨by omega, by omega⟩ (by omega) rfl, e_X9_layer_97, cY, p_unit hC.1.1 hC.1.2.1 hC.1.2.2 hb hi (by omega), g_b1]
theorem t_value (hA : wfA A) {b : Nat} (hb : b < 6) : gb_T1 f_X9_value [gR 0 0, gI (nZ b)] A (some (gI (nZ (lV A.1 (sY A.1) (sB A.1 b))))) (setR A [(nZ (lR A.1 (sY A.1) (sB A.1 b))).toInt64, (nZ (lX A.1 (sB A.1 b))).toInt64, (nZ (lF A.1 (sB A.1 b))).toInt64]) := by
  have hI := hA.1.1
  obtain ⟨y1, y2, q1, q2⟩ := hI.2.2.2.2.2.2
  refine T1_K (fun _ => wf_setR hA) (fun σ hC _ => ?_)
  obtain ⟨τ1, a1, c1⟩ := kc_start hC
  obtain ⟨τ2, a2, c2⟩ := kc_add c1 (by simp) (nZ (lR A.1 (sY A.1) (sB A.1 b))).toInt64
  obtain ⟨τ3, a3, c3⟩ := kc_add c2 (by simp) (nZ (lX A.1 (sB A.1 b))).toInt64
  obtain ⟨τ4, a4, c4⟩ := kc_add c3 (by simp) (nZ (lF A.1 (sB A.1 b))).toInt64
  refine ⟨τ4, ?_, c4⟩
  have cY : τ1.1 10 0 9 = nZ (sY A.1) := c1.1.1.1.2.2.2.2.2.2.1
  have p1 : f_X7_raw [gR 10 0, gI (nZ b), gI (nZ (sY A.1))] τ1 = some (some (gI (nZ (lR A.1 (sY A.1) (sB A.1 b)))), τ1) := p_raw c1.1.1 hb (on := sY A.1) (by omega)
  have p2 : f_X7_mixedIn [gR 10 0, gI (nZ b)] τ2 = some (some (gI (nZ (lX A.1 (sB A.1 b)))), τ2) := p_mixedIn c2.1.1 hb
  have p3 : f_X7_rawUnspoilt [gR 10 0, gI (nZ b)] τ3 = some (some (gI (nZ (lF A.1 (sB A.1 b)))), τ3) := p_rawUnspoilt c3.1.1 hb
  have p4 : f_X7_valueOf [gR 10 0, gI (nZ b)] τ4 = some (some (gI (nZ (lV A.1 (sY A.1) (sB A.1 b)))), τ4) := p_valueOf c4.1.1 hb
  rw [e_X9_value, cb_t hb, g_b1, e10, a1, g_b0, cY, p1, g_b1, a2, g_b0, p2, g_b1, a3, g_b0, p3, g_b1, a4, g_b0, p4, g_b1]
theorem t_all (hA : wfA A) : gb_T1 f_X9_all [gR 0 0] A (some (gI (nZ (lA A.1 (sY A.1))))) (setR A (rowOf 6 (fun b => (nZ (lV A.1 (sY A.1) (sB A.1 b))).toInt64))) := by
  obtain ⟨y1, y2, q1, q2⟩ := hA.1.1.2.2.2.2.2.2
  refine T1_K (fun _ => wf_setR hA) (fun σ hC _ => ?_)
  obtain ⟨τ1, a1, c1⟩ := kc_start hC
  obtain ⟨τ2, a2, c2⟩ := kc_loop (n := 6) (by omega) (fun i τ => j_X9_all_9 (nZ i) τ) (fun b => (nZ (lV A.1 (sY A.1) (sB A.1 b))).toInt64) c1 (by
    intro i hi τ τ' hK hadd _
    show j_X9_all_9 _ _ = j_X9_all_9 _ _
    have pv : f_X7_valueOf [gR 10 0, gI (nZ i)] τ = some (some (gI (nZ (lV A.1 (sY A.1) (sB A.1 i)))), τ) := p_valueOf hK.1.1 hi
    rw [e_X9_all_9, if_neg (by rw [z6, z_le ⟨by omega, by omega⟩ ⟨by omega, by omega⟩]; omega), pv, g_b1, hadd, g_b0, z1, z_add]
    rfl)
  refine ⟨τ2, ?_, c2⟩
  have cY : τ2.1 10 0 9 = nZ (sY A.1) := c2.1.1.1.2.2.2.2.2.2.1
  have pA : f_X7_valueOfAll [gR 10 0, gI (nZ (sY A.1))] τ2 = some (some (gI (nZ (lA A.1 (sY A.1)))), τ2) := p_valueOfAll c2.1.1 (on := sY A.1) (by omega)
  have a2' : j_X9_all_9 0 τ1 = j_X9_all_9 (nZ (6 : Nat)) τ2 := a2
  rw [e_X9_all, a1, g_b0, a2', e_X9_all_9, if_pos (by decide), cY, pA, g_b1]
theorem t_mixed (hA : wfA A) {g : Nat} (hg : g < 6) : gb_T1 f_X9_mixed [gR 0 0, gI (nZ g)] A (some (gI (nZ (sm 6 (mxH A.1 g))))) (setR A (rowOf 6 (fun h => (nZ (mxH A.1 g h)).toInt64))) := by
  refine T1_K (fun _ => wf_setR hA) (fun σ hC _ => ?_)
  obtain ⟨τ1, a1, c1⟩ := kc_start hC
  obtain ⟨τ2, a2, c2⟩ := kc_loop (n := 6) (by omega) (fun i τ => j_X9_mixed_20 (nZ g) (nZ (sm i (mxH A.1 g))) (nZ i) τ) (fun h => (nZ (mxH A.1 g h)).toInt64) c1 (by
    intro h hh τ τ' hK hadd _
    show j_X9_mixed_20 _ _ _ _ = j_X9_mixed_20 _ _ _ _
    have st : ∀ i, i < 6 → j_X9_mixed_32 (nZ g) (nZ (sm h (mxH A.1 g))) (nZ h) (nZ (sm i (fun b => lM A.1 (sB A.1 b) g h))) (nZ i) τ = j_X9_mixed_32 (nZ g) (nZ (sm h (mxH A.1 g))) (nZ h) (nZ (sm (i + 1) (fun b => lM A.1 (sB A.1 b) g h))) (nZ (i + 1 : Nat)) τ := by
      intro i hi
      have pm : f_X7_mixedOf [gR 10 0, gI (nZ i), gI (nZ g), gI (nZ h)] τ = some (some (gI (nZ (lM A.1 (sB A.1 i) g h))), τ) := p_mixedOf hK.1.1 hi hg hh
      rw [e_X9_mixed_32, if_neg (by rw [z6, z_le ⟨by omega, by omega⟩ ⟨by omega, by omega⟩]; omega), pm, g_b1, z_add, z1, z_add]
      rfl
    have hJ := lp (n := 6) (fun i => j_X9_mixed_32 (nZ g) (nZ (sm h (mxH A.1 g))) (nZ h) (nZ (sm i (fun b => lM A.1 (sB A.1 b) g h))) (nZ i) τ) st
    have hJ0 : j_X9_mixed_32 (nZ g) (nZ (sm h (mxH A.1 g))) (nZ h) 0 0 τ = j_X9_mixed_32 (nZ g) (nZ (sm h (mxH A.1 g))) (nZ h) (nZ (mxH A.1 g h)) (nZ (6 : Nat)) τ := hJ
    rw [e_X9_mixed_20, if_neg (by rw [z6, z_le ⟨by omega, by omega⟩ ⟨by omega, by omega⟩]; omega), hJ0, e_X9_mixed_32, if_pos (by decide), hadd, g_b0, z_add, z1, z_add]
    rfl)
  refine ⟨τ2, ?_, c2⟩
  have a2' : j_X9_mixed_20 (nZ g) 0 0 τ1 = j_X9_mixed_20 (nZ g) (nZ (sm 6 (mxH A.1 g))) (nZ (6 : Nat)) τ2 := a2
  rw [e_X9_mixed, cg_t hg, g_b1, e10, a1, g_b0, a2', e_X9_mixed_20, if_pos (by decide)]
theorem t_would_no (hA : wfA A) {g b : Nat} {t : Int} (hg : g < 6) (h2 : 1 ≤ t ∧ t ≤ 99) (hb : b < 6) (h4 : ¬ sWhy A.1 b g t (sY A.1) = 0) : gb_T1 f_X9_would [gR 0 0, gI (nZ g), gI (nZ t), gI (nZ b)] A (some (gI (nZ (-1000000 + sWhy A.1 b g t (sY A.1))))) A := by
  have hI := hA.1.1
  obtain ⟨y1, y2, q1, q2⟩ := hI.2.2.2.2.2.2
  have hr := sWhy_r (s := A.1) (b := b) (g := g) (t := t) (d := sY A.1)
  refine T1_same _ (fun σ hC => ?_)
  have cY := hC.1.1.2.2.2.2.2.2.1
  rw [e_X9_would, cg_t hg, g_b1, e10, ct_t h2, g_b1, e10, cb_t hb, g_b1, e10, cY, p_why hC.1 hb hg (by omega) (by omega), g_b1, if_neg (by rw [z0, z_le ⟨by omega, by omega⟩ ⟨by omega, by omega⟩]; omega), show (-1000000 : Int32) = nZ (-1000000) from rfl, z_add]
theorem t_would (hA : wfA A) {g b : Nat} {t : Int} (hg : g < 6) (h2 : 1 ≤ t ∧ t ≤ 99) (hb : b < 6) (h4 : sWhy A.1 b g t (sY A.1) = 0) : gb_T1 f_X9_would [gR 0 0, gI (nZ g), gI (nZ t), gI (nZ b)] A (some (gI (nZ (gA A.1 b g t)))) (setR A [(nZ (lV A.1 (sY A.1) (sB A.1 b) + gA A.1 b g t)).toInt64, (nZ (lX A.1 (sB A.1 b) + gW A.1 (sB A.1 b) g t)).toInt64]) := by
  have hI := hA.1.1
  obtain ⟨y1, y2, q1, q2⟩ := hI.2.2.2.2.2.2
  refine T1_K (fun _ => wf_setR hA) (fun σ hC _ => ?_)
  obtain ⟨τ1, a1, c1⟩ := kc_start hC
  obtain ⟨τ2, a2, c2⟩ := kc_add c1 (by simp) (nZ (lV A.1 (sY A.1) (sB A.1 b) + gA A.1 b g t)).toInt64
  obtain ⟨τ3, a3, c3⟩ := kc_add c2 (by simp) (nZ (lX A.1 (sB A.1 b) + gW A.1 (sB A.1 b) g t)).toInt64
  refine ⟨τ3, ?_, c3⟩
  have cY := hC.1.1.1.2.2.2.2.2.2.1
  have p1 : f_X7_valueOf [gR 10 0, gI (nZ b)] τ1 = some (some (gI (nZ (lV A.1 (sY A.1) (sB A.1 b)))), τ1) := p_valueOf c1.1.1 hb
  have p2 : f_X7_mixedIn [gR 10 0, gI (nZ b)] τ2 = some (some (gI (nZ (lX A.1 (sB A.1 b)))), τ2) := p_mixedIn c2.1.1 hb
  have p3 : f_X7_growth [gR 10 0, gI (nZ b), gI (nZ g), gI (nZ t)] τ2 = some (some (gI (nZ (gW A.1 (sB A.1 b) g t))), τ2) := p_growth c2.1.1 hb hg h2
  have h00 : (0 : Int32) ≤ nZ 0 := by decide
  rw [e_X9_would, cg_t hg, g_b1, e10, ct_t h2, g_b1, e10, cb_t hb, g_b1, e10, cY, p_why hC.1.1 hb hg (by omega) (by omega), g_b1, h4, if_pos h00, p_gain hC.1.1 hb hg h2, g_b1, a1, g_b0, p1, g_b1, z_add, a2, g_b0, p2, g_b1, p3, g_b1, z_add, a3, g_b0]
def wsI (s : gb_St) : wA := it 6 (0, -2, -1) (wsG s)
theorem c_worst0 {σ : gb_M} (hA : wfA A) (hC : CC σ A) : f_X9_worst [gR 0 0] σ = j_X9_worst_10 (nZ (wsI A.1).1) (nZ (wsI A.1).2.1) (nZ (wsI A.1).2.2) (nZ (6 : Nat)) σ := by
  have hI := hA.1.1
  have pc : wsP ((0, -2, -1) : wA) := by refine ⟨?_, ?_, ?_, ?_, ?_, ?_⟩ <;> dsimp only <;> omega
  obtain ⟨hJ, -⟩ := ws_loop hI (fun b a => j_X9_worst_10 (nZ a.1) (nZ a.2.1) (nZ a.2.2) (nZ b) σ) (fun b g a => j_X9_worst_20 (nZ a.1) (nZ a.2.1) (nZ a.2.2) (nZ b) (nZ g) σ) (fun b g h a => j_X9_worst_33 (nZ a.1) (nZ a.2.1) (nZ a.2.2) (nZ b) (nZ g) (nZ h) σ) (fun b a hb => by
      try dsimp only
      rw [e_X9_worst_10, if_neg (n6 hb)]; rfl) (fun b g a hg => by
      try dsimp only
      rw [e_X9_worst_20, if_neg (n6 hg), zs]) (fun b a => by
      try dsimp only
      rw [e_X9_worst_20, if_pos y6, zs]) (fun b g a => by
      try dsimp only
      rw [e_X9_worst_33, if_pos y6, zs]) (fun b g h a hb hg hh hgh ha => by
      try dsimp only
      obtain ⟨p1, p2, p3, p4, p5, p6⟩ := ha
      have hl := lM_r hI hb hg hh
      rw [e_X9_worst_33, if_neg (n6 hh), p_mixedOf hC.1 hb hg hh, g_b1, zs]
      unfold wsF
      by_cases e : a.1 < lM A.1 (sB A.1 b) g h
      · rw [if_neg (by rw [z_le ⟨by omega, by omega⟩ ⟨by omega, by omega⟩]; omega), if_pos ⟨hgh, e⟩, z10, z_mul, z_add]
      · rw [if_pos (by rw [z_le ⟨by omega, by omega⟩ ⟨by omega, by omega⟩]; omega), if_neg (by omega)]) pc
  rw [e_X9_worst]
  exact hJ
/-- worst: what it answers, and that the ROW alone changes -/
theorem t_worst (hA : wfA A) : ∃ R, gb_T1 f_X9_worst [gR 0 0] A (some (gI (nZ (wsI A.1).2.1))) (setR A R) := by
  have hI := hA.1.1
  have pc : wsP ((0, -2, -1) : wA) := by refine ⟨?_, ?_, ?_, ?_, ?_, ?_⟩ <;> dsimp only <;> omega
  obtain ⟨p1, p2, p3, p4, p5, p6⟩ : wsP (wsI A.1) := it_inv _ wsP pc (fun b hb a ha => wsG_P hI hb ha)
  by_cases h : 0 < (wsI A.1).1
  · refine ⟨[(nZ (wsI A.1).1).toInt64, (nZ (wsI A.1).2.2).toInt64], T1_K (fun _ => wf_setR hA) (fun σ hC _ => ?_)⟩
    obtain ⟨τ1, a1, c1⟩ := kc_start hC
    obtain ⟨τ2, a2, c2⟩ := kc_add c1 (by simp) (nZ (wsI A.1).1).toInt64
    obtain ⟨τ3, a3, c3⟩ := kc_add c2 (by simp) (nZ (wsI A.1).2.2).toInt64
    refine ⟨τ3, ?_, c3⟩
    rw [c_worst0 hA hC.1, e_X9_worst_10, if_pos y6, if_neg (by rw [z0, z_le ⟨by omega, by omega⟩ ⟨by omega, by omega⟩]; omega), a1, g_b0, a2, g_b0, a3, g_b0]
  · refine ⟨A.2.2.2.2, T1_same _ (fun σ hC => ?_)⟩
    rw [c_worst0 hA hC, e_X9_worst_10, if_pos y6, if_pos (by rw [z0, z_le ⟨by omega, by omega⟩ ⟨by omega, by omega⟩]; omega)]
theorem t_bottom2 (hA : wfA A) {b : Nat} (hb : b < 6) (h2 : (sB A.1 b).length = 0) : gb_T1 f_X9_bottom [gR 0 0, gI (nZ b)] A (some (gI (-2))) A := by
  refine T1_same _ (fun σ hC => ?_)
  have cN := hC.1.1.2.2.1 b hb
  rw [e_X9_bottom, cb_t hb, g_b1, e10, z_tn (by omega), Int.toNat_natCast, g_in (by omega), cN, h2, if_pos (by decide)]
theorem t_bottom (hA : wfA A) {b : Nat} (hb : b < 6) (h0 : 0 < (sB A.1 b).length) : gb_T1 f_X9_bottom [gR 0 0, gI (nZ b)] A (some (gI (nZ (lz (sB A.1 b) 0).1))) (setR A [(nZ (rn (sB A.1 b) (lz (sB A.1 b) 0).1)).toInt64, (nZ (hl (sB A.1 b) (lz (sB A.1 b) 0).1)).toInt64]) := by
  have hI := hA.1.1
  have hlen := (hI.2.2.2.2.2.1 b hb).1
  have hl0 := (lz_ok hI.2.2.2.2.2.1 hb h0).1
  have hle := hl_le (g := (lz (sB A.1 b) 0).1) (L := sB A.1 b)
  have hLt : hl ((sB A.1 b).drop 0) (lz (sB A.1 b) 0).1 = hl (sB A.1 b) (lz (sB A.1 b) 0).1 := rfl
  refine T1_K (fun _ => wf_setR hA) (fun σ hC _ => ?_)
  obtain ⟨τ1, a1, c1⟩ := kc_start hC
  obtain ⟨τ2, a2, c2⟩ := kc_add c1 (by simp) (nZ (rn (sB A.1 b) (lz (sB A.1 b) 0).1)).toInt64
  obtain ⟨τ3, a3, c3⟩ := kc_add c2 (by simp) (nZ (hl (sB A.1 b) (lz (sB A.1 b) 0).1)).toInt64
  refine ⟨τ3, ?_, c3⟩
  have cN := hC.1.1.1.2.2.1 b hb
  have g1 := (hC.1.1.1.2.2.2.2.1 b 0 hb h0).1
  have pe := p_runEnd hC.1.1 hb h0
  rw [hLt, Nat.zero_add] at pe
  have pu : f_X7_tonsUnder [gR 10 0, gI (nZ b), gI (nZ (hl (sB A.1 b) (lz (sB A.1 b) 0).1 : Nat))] τ1 = some (some (gI (nZ (rn (sB A.1 b) (lz (sB A.1 b) 0).1))), τ1) := p_tonsUnder c1.1.1 hb (n := hl (sB A.1 b) (lz (sB A.1 b) 0).1) (by omega)
  have pp : f_X7_place [gI (nZ b), gI 0] σ = some (some (gI (nZ ((b : Int) * 6 + ((0 : Nat) : Int)))), σ) := p_place b 0
  have pe' : f_X7_runEnd [gR 10 0, gI (nZ b), gI 0] σ = some (some (gI (nZ (hl (sB A.1 b) (lz (sB A.1 b) 0).1 : Nat))), σ) := pe
  rw [e_X9_bottom, cb_t hb, g_b1, e10, z_tn (by omega), Int.toNat_natCast, g_in (by omega), cN, if_neg (by rw [z0, z_eq ⟨by omega, by omega⟩ ⟨by omega, by omega⟩]; omega), pp, g_b1, z_tn (by omega), g1, g_in (by omega), pe', g_b1, a1, g_b0, pu, g_b1, a2, g_b0, a3, g_b0]
theorem t_then (hA : wfA A) {d : Int} (h1 : 0 ≤ d ∧ d ≤ 999) : gb_T1 f_X9_then [gR 0 0, gI (nZ d)] A (some (gI (nZ (lA A.1 (sY A.1 + d))))) (setR A [(nZ (lA A.1 (sY A.1) - lA A.1 (sY A.1 + d))).toInt64, (spA A.1 (sY A.1 + d)).toInt64]) := by
  have hI := hA.1.1
  obtain ⟨y1, y2, q1, q2⟩ := hI.2.2.2.2.2.2
  have z999' : (999 : Int32) = nZ 999 := rfl
  refine T1_K (fun _ => wf_setR hA) (fun σ hC _ => ?_)
  obtain ⟨τ1, a1, c1⟩ := kc_start hC
  obtain ⟨τ2, a2, c2⟩ := kc_add c1 (by simp) (nZ (lA A.1 (sY A.1) - lA A.1 (sY A.1 + d))).toInt64
  obtain ⟨τ3, a3, c3⟩ := kc_add c2 (by simp) (spA A.1 (sY A.1 + d)).toInt64
  refine ⟨τ3, ?_, c3⟩
  have cY := hC.1.1.1.2.2.2.2.2.2.1
  have cY1 : τ1.1 10 0 9 = nZ (sY A.1) := c1.1.1.1.2.2.2.2.2.2.1
  have cY2 : τ2.1 10 0 9 = nZ (sY A.1) := c2.1.1.1.2.2.2.2.2.2.1
  have p1 : f_X7_valueOfAll [gR 10 0, gI (nZ (sY A.1))] τ1 = some (some (gI (nZ (lA A.1 (sY A.1)))), τ1) := p_valueOfAll c1.1.1 (on := sY A.1) (by omega)
  have p2 : f_X7_spoiltGrades [gR 10 0, gI (nZ (sY A.1 + d))] τ2 = some (some (gI (spA A.1 (sY A.1 + d))), τ2) := p_spoiltGrades c2.1.1 (by omega)
  rw [e_X9_then, if_neg (by rw [z0, z_lt ⟨by omega, by omega⟩ ⟨by omega, by omega⟩]; omega), if_pos (by rw [z999', z_le ⟨by omega, by omega⟩ ⟨by omega, by omega⟩]; omega), cY, z_add, p_valueOfAll hC.1.1 (on := sY A.1 + d) (by omega), g_b1, a1, g_b0, cY1, p1, g_b1, z_sub, a2, g_b0, cY2, z_add, p2, g_b1, a3, g_b0]
theorem t_count0 (hA : wfA A) : gb_T1 f_X9_count [gR 0 0, gI 0] A (some (gI (nZ (sY A.1)))) A :=
  T1_same _ (fun σ hC => by rw [e_X9_count, z0, ts_in ⟨by omega, by omega⟩ (by omega) rfl, e_X9_count_52, hC.1.1.2.2.2.2.2.2.1])
theorem t_count1 (hA : wfA A) : gb_T1 f_X9_count [gR 0 0, gI 1] A (some (gI (nZ (sm 6 (fun b => lT (sB A.1 b)))))) A :=
  T1_same _ (fun σ hC => by rw [e_X9_count, z1, ts_in ⟨by omega, by omega⟩ (by omega) rfl, e_X9_count_60, p_tonsInAll hC.1, g_b1])
theorem t_count2 (hA : wfA A) : gb_T1 f_X9_count [gR 0 0, gI 2] A (some (gI (nZ (sm 6 (fun b => ((sB A.1 b).length : Int)))))) A :=
  T1_same _ (fun σ hC => by rw [e_X9_count, z2, ts_in ⟨by omega, by omega⟩ (by omega) rfl, e_X9_count_68, p_layersInAll hC.1, g_b1])
theorem t_count5 (hA : wfA A) : gb_T1 f_X9_count [gR 0 0, gI 5] A (some (gI (nZ A.2.2.1.length))) A := by
  refine T1_same _ (fun σ hC => ?_)
  obtain ⟨n, hn, e1, e2, _⟩ := hC.2.2.1
  rw [e_X9_count, z5, ts_in ⟨by omega, by omega⟩ (by omega) rfl, e_X9_count_92, e2]
theorem t_row {i : Nat} (hi : i < A.2.2.2.2.length) : gb_T1 f_X9_row [gR 0 0, gI (nZ i)] A (some (gL (A.2.2.2.2.getD i 0))) A := by
  refine T1_same _ (fun σ hC => ?_)
  obtain ⟨a, b, c⟩ := hC.2.2.2.2
  rw [e_X9_row, if_neg (by rw [z0, z_lt ⟨by omega, by omega⟩ ⟨by omega, by omega⟩]; omega), a, if_pos (by rw [z_lt ⟨by omega, by omega⟩ ⟨by omega, by omega⟩]; omega), z_tn (by omega), Int.toNat_natCast, c i hi, g_in (by omega)]
end T1B
