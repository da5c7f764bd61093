/-! T1: text, land, searches -/
section T1C
variable {A : gb_Ab}
theorem t_sign (v : Int32) (h1 : A.2.2.2.1.length + 4 ≤ 200) : gb_T1 f_X9_sign [gR 0 0, gI v] A (some (gI (nZ (A.2.2.2.1.length + 4 : Nat)))) (setT A (tx4 A.2.2.2.1 v)) := by
  have z4' : (4 : Int32) = nZ 4 := rfl
  have z200 : (200 : Int32) = nZ 200 := rfl
  refine T1_of (fun h => h) (fun σ hC _ => ?_)
  have a := hC.2.2.2.1.1
  have key : ∀ (σ : gb_M) (T : List Int) (s n : Int32), ¬ s < 0 → s.toUInt32 &&& Int32.toUInt32 31 = s.toUInt32 → s + (-8) = n → textC σ T → T.length < 200 → ∃ τ, j_X8_add_17 v s σ = j_X8_add_17 v n τ ∧ textC τ (T ++ [(bw v s).toInt]) ∧ gb_fP (fun k => k = 1 ∨ k = 2) σ τ := by
    intro σ T s n h1 h2 h3 ht hl
    obtain ⟨g1, t1, f1⟩ := tC_add ht hl (and255 ((v.toUInt32 >>> s.toUInt32).toInt32))
    exact ⟨_, by rw [e_X8_add_17, if_neg h1, h2, h3, g_gd g1], t1, f1⟩
  obtain ⟨τ1, g1, t1, f1⟩ := key σ _ 24 16 (by decide) (by decide) (by decide) hC.2.2.2.1 (by omega)
  obtain ⟨τ2, g2, t2, f2⟩ := key τ1 _ 16 8 (by decide) (by decide) (by decide) t1 (by simp; omega)
  obtain ⟨τ3, g3, t3, f3⟩ := key τ2 _ 8 0 (by decide) (by decide) (by decide) t2 (by simp; omega)
  obtain ⟨τ4, g4, t4, f4⟩ := key τ3 _ 0 (-8) (by decide) (by decide) (by decide) t3 (by simp; omega)
  have fa := fP_tr f1 (fP_tr f2 (fP_tr f3 f4))
  have t4' : textC τ4 (tx4 A.2.2.2.1 v) := t4
  refine ⟨τ4, ?_, CC_text fa (fun k z => z) hC t4', fP_w fa (fun k hk => by omega)⟩
  have a4 := t4'.1
  rw [tx4_len] at a4
  rw [e_X9_sign, e_X8_add, a, z4', z_add, z200, if_pos (by rw [z_le ⟨by omega, by omega⟩ ⟨by omega, by omega⟩]; omega), g1, g2, g3, g4, e_X8_add_17, if_pos (by decide), g_b1, e10, a4]
theorem t_end {k : Nat} (hl : A.2.2.2.1.length ≤ 200) (h1 : k ≤ A.2.2.2.1.length) : gb_T1 f_X9_end [gR 0 0, gI (nZ k)] A (some (gI 1)) (setT A (A.2.2.2.1.take k)) := by
  have el : (A.2.2.2.1.take k).length = k := by rw [List.length_take]; omega
  refine T1_of (fun h => h) (fun σ hC _ => ?_)
  obtain ⟨a, b, c, d⟩ := hC.2.2.2.1
  have f : gb_fP (fun k => k = 1) σ (gb_si σ 1 0 1 (nZ k)) := fP_si fP_rf rfl
  refine ⟨gb_si σ 1 0 1 (nZ k), ?_, CC_text f (fun k z => Or.inl z) hC ⟨by rw [si_s, el], by omega, fun i hi => ?_, fun i hi => ?_⟩, fP_w f (fun k hk => by omega)⟩
  · rw [e_X9_end, e_X8_cut, if_neg (by rw [z0, z_lt ⟨by omega, by omega⟩ ⟨by omega, by omega⟩]; omega), a, if_pos (by rw [z_le ⟨by omega, by omega⟩ ⟨by omega, by omega⟩]; omega), g_b1, gd1]
  · rw [el] at hi
    rw [si_k (by omega), gd_take hi]; exact c i (by omega)
  · rw [el] at hi
    rw [gd_take hi]; exact d i (by omega)
theorem t_lands : gb_T1 f_X9_land [gR 0 0] A (some (gI (nZ (rlE (ldT A.2.2.2.1))))) (ldA A (ldT A.2.2.2.1)) := by
  intro σ hA
  obtain ⟨h1, h2, h3⟩ := hA
  obtain ⟨σ', a, b, c⟩ := c_land ⟨h1, fP_rf⟩
  exact ⟨σ', a, b, gone_f c (by omega) h2, wf_ld h3 (ldT_I h1.2.2.2.1.2.2.2)⟩
theorem t_serves {O : List (Nat × Int)} (hr : (rdT A.2.2.2.1).1 = some O) : gb_T1 f_X9_serves [gR 0 0] A (some (gI (nZ (svA A.1 O).length))) (setR (setT A []) (rowOf (svA A.1 O).length (fun i => (nZ (wz (svA A.1 O) i)).toInt64))) := by
  have hok := rdT_ok hr
  have hO6 := hok.1
  have hle := sv_len (s := A.1) (O := O) O.length (fun _ => 0) [] [] (by simp) (by simp)
  have hle : (svA A.1 O).length ≤ O.length := hle
  refine T1_K (fun h => h) (fun σ hC hg => ?_)
  obtain ⟨τ1, a1, a2, a3, a4⟩ := p_readOrders hC
  have e : rdE (rdT A.2.2.2.1) = O.length := by unfold rdE; rw [hr]
  rw [e] at a1
  obtain ⟨τ2, b1, b2, b3, b4⟩ := p_serve (s := A.1) ⟨a2.1.1, a3 O hr, hok⟩ (goneC_K a2 hg)
  have c2 : KC σ τ2 (setT A []) := KC_fP a2 b4 (fun k hk z => by omega) (fun k z => by omega)
  obtain ⟨τ3, d1, d2, d3⟩ := kc_startx c2
  obtain ⟨τ4, e1, e2, e3⟩ := kc_bins d2 (n := (svA A.1 O).length) (by omega) (w := svA A.1 O) (kd := 33) (by omega) (fun i τ => j_X9_serves_28 (nZ (svA A.1 O).length) (nZ i) τ) (fun i hi => by rw [d3.1 33 0 i (by omega)]; exact b2 i hi) (fun i hi τ τ' f h33 hadd => by
    show j_X9_serves_28 _ _ _ = j_X9_serves_28 _ _ _
    rw [e_X9_serves_28, if_neg (by rw [z_le ⟨by omega, by omega⟩ ⟨by omega, by omega⟩]; omega), z_tn (by omega), Int.toNat_natCast, g_in (by omega), h33, hadd, g_b0, zs])
  refine ⟨τ4, ?_, e2⟩
  have e1' : j_X9_serves_28 (nZ (svA A.1 O).length) 0 τ3 = j_X9_serves_28 (nZ (svA A.1 O).length) (nZ (svA A.1 O).length) τ4 := e1
  rw [e_X9_serves, a1, g_b1, if_pos (by rw [z0, z_le ⟨by omega, by omega⟩ ⟨by omega, by omega⟩]; omega), b1, g_b1, d1, g_b0, e1', e_X9_serves_28, if_pos (Int32.le_refl _)]
theorem t_picks {O : List (Nat × Int)} (hr : (rdT A.2.2.2.1).1 = some O) : gb_T1 f_X9_picks [gR 0 0] A (some (gI (nZ (pvA A.1 O).1))) (setR (setT A []) (rowOf O.length (fun i => (nZ (wz (pvA A.1 O).2 i)).toInt64))) := by
  have hok := rdT_ok hr
  have hO6 := hok.1
  refine T1_K (fun h => h) (fun σ hC hg => ?_)
  obtain ⟨τ1, a1, a2, a3, a4⟩ := p_readOrders hC
  have e : rdE (rdT A.2.2.2.1) = O.length := by unfold rdE; rw [hr]
  rw [e] at a1
  obtain ⟨τ2, b1, b2, b4⟩ := p_pick (s := A.1) ⟨a2.1.1, a3 O hr, hok⟩ (goneC_K a2 hg)
  have c2 : KC σ τ2 (setT A []) := KC_fP a2 b4 (fun k hk z => by omega) (fun k z => by omega)
  obtain ⟨τ3, d1, d2, d3⟩ := kc_startx c2
  obtain ⟨τ4, e1, e2, e3⟩ := kc_bins d2 (n := O.length) (by omega) (w := (pvA A.1 O).2) (kd := 33) (by omega) (fun i τ => j_X9_picks_28 (nZ O.length) (nZ (pvA A.1 O).1) (nZ i) τ) (fun i hi => by rw [d3.1 33 0 i (by omega)]; exact b2 i hi) (fun i hi τ τ' f h33 hadd => by
    show j_X9_picks_28 _ _ _ _ = j_X9_picks_28 _ _ _ _
    rw [e_X9_picks_28, if_neg (by rw [z_le ⟨by omega, by omega⟩ ⟨by omega, by omega⟩]; omega), z_tn (by omega), Int.toNat_natCast, g_in (by omega), h33, hadd, g_b0, zs])
  refine ⟨τ4, ?_, e2⟩
  have e1' : j_X9_picks_28 (nZ O.length) (nZ (pvA A.1 O).1) 0 τ3 = j_X9_picks_28 (nZ O.length) (nZ (pvA A.1 O).1) (nZ O.length) τ4 := e1
  rw [e_X9_picks, a1, g_b1, if_pos (by rw [z0, z_le ⟨by omega, by omega⟩ ⟨by omega, by omega⟩]; omega), b1, g_b1, d1, g_b0, e1', e_X9_picks_28, if_pos (Int32.le_refl _)]
def slS (s : gb_St) (O : List (Nat × Int)) : gb_St := sF s O (svA s O) (svA s O).length
def slT (s : gb_St) (O : List (Nat × Int)) : Int := sm (svA s O).length (mT s O (svA s O))
theorem t_sells (hA : wfA A) {O : List (Nat × Int)} (hr : (rdT A.2.2.2.1).1 = some O) : gb_T1 f_X9_sells [gR 0 0] A (some (gI (nZ (svA A.1 O).length))) (setR (setS (setT A []) (slS A.1 O)) [(nZ (slT A.1 O)).toInt64, (nZ (lA A.1 (sY A.1))).toInt64, (nZ (lA (slS A.1 O) (sY A.1))).toInt64]) ∧ 0 ≤ slT A.1 O ∧ slT A.1 O ≤ 593406 ∧ gdS (slS A.1 O) ∧ sY (slS A.1 O) = sY A.1 := by
  have hok := rdT_ok hr
  have hO6 := hok.1
  have hI := hA.1.1
  have il := hI.2.2.2.2.2.1
  obtain ⟨y1, y2, q1, q2⟩ := hI.2.2.2.2.2.2
  have hle : (svA A.1 O).length ≤ O.length := sv_len (s := A.1) (O := O) O.length (fun _ => 0) [] [] (by simp) (by simp)
  have hw : vW A.1 O (svA A.1 O) := svA_vW
  unfold slS slT
  obtain ⟨w, hwd⟩ : ∃ w, svA A.1 O = w := ⟨_, rfl⟩
  rw [hwd] at hle hw ⊢
  have hm : ∀ i, i < w.length → 0 ≤ mT A.1 O w i ∧ mT A.1 O w i ≤ 98901 := fun i hi => mT_r hI hok (by omega) (hw i hi).1
  have hs1 : ∀ k, k ≤ w.length → 0 ≤ sm k (mT A.1 O w) ∧ sm k (mT A.1 O w) ≤ 593406 := fun k hk => by
    have h1 := sm_nn (n := k) (f := mT A.1 O w) (fun i hi => (hm i (by omega)).1)
    have h2 := sm_ub (n := k) (f := mT A.1 O w) (c := 98901) (fun i hi => (hm i (by omega)).2)
    omega
  have hsn := hs1 w.length (Nat.le_refl _)
  have hIF : gb_IV (sF A.1 O w w.length) := IV_Q (IV_gJ hI) (by omega)
  have hgd : gdS (sF A.1 O w w.length) := ⟨hIF, fun b hb => adj_tk (hA.1.2 b hb)⟩
  have hYF : sY (sF A.1 O w w.length) = sY A.1 := by
    show (if (174 : Nat) = 175 then min 2000000000 (sQ A.1 + sm w.length (mT A.1 O w)) else A.1.1 174) = _
    exact if_neg (by omega)
  refine ⟨T1_K (fun _ => wf_setR (wf_setS (A := setT A []) hA hgd)) (fun σ hC hg => ?_), hsn.1, hsn.2, hgd, hYF⟩
  obtain ⟨τ1, a1, a2, a3, a4⟩ := p_readOrders hC
  have e : rdE (rdT A.2.2.2.1) = O.length := by unfold rdE; rw [hr]
  rw [e] at a1
  have hoc := a3 O hr
  obtain ⟨τ2, b1, b2, b3, b4⟩ := p_serve (s := A.1) ⟨a2.1.1, hoc, hok⟩ (goneC_K a2 hg)
  rw [hwd] at b1 b2 b3
  have c2 : KC σ τ2 (setT A []) := KC_fP a2 b4 (fun k hk z => by omega) (fun k z => by omega)
  obtain ⟨τ3, d1, d2, d3⟩ := CC_pastx c2.1
  have cY : τ3.1 10 0 9 = nZ (sY A.1) := d2.1.1.2.2.2.2.2.2.1
  have pA : f_X7_valueOfAll [gR 10 0, gI (nZ (sY A.1))] τ3 = some (some (gI (nZ (lA A.1 (sY A.1)))), τ3) := p_valueOfAll d2.1 (on := sY A.1) (by omega)
  have k33 : ∀ i, i < w.length → τ3.1 33 0 i = nZ (wz w i) := fun i hi => by rw [d3.1 33 0 i (by omega)]; exact b2 i hi
  have k25 : ∀ i, i < w.length → τ3.1 25 0 i = nZ (oz O i).2 := fun i hi => by rw [d3.1 25 0 i (by omega), b4.1 25 0 i (by omega)]; exact (hoc.2 i (by omega)).2
  have hS0 : gb_SC τ3 0 (sF A.1 O w 0) := SC_ext (sF_0 hI).1 (sF_0 hI).2 d2.1
  obtain ⟨τ4, e1, e2, e3⟩ := lph (n := w.length) (σ := τ3) (fun i τ => j_X9_sells_51 (nZ w.length) (nZ (lA A.1 (sY A.1))) (nZ (sm i (mT A.1 O w))) (nZ i) τ) (fun i τ => gb_SC τ 0 (sF A.1 O w i) ∧ gb_fS 0 τ3 τ) ⟨hS0, fS_rf⟩ (by
    intro i hi τ ⟨hS, f⟩
    obtain ⟨h6, hc⟩ := hw i hi
    obtain ⟨o1, o2, o3⟩ := hok.2 i (by omega)
    obtain ⟨s1, s2⟩ := sF_s hI hok hw hle hi
    obtain ⟨τ', u1, u2, u3⟩ := p_drawOut hS h6 (t := (oz O i).2) (by omega)
    rw [s1] at u2
    rw [s2] at u1
    refine ⟨τ', ?_, u2, fS_tr f u3⟩
    show j_X9_sells_51 _ _ _ _ _ = j_X9_sells_51 _ _ _ _ _
    have e33 : τ.1 33 0 i = nZ (wz w i) := by rw [f.1 33 0 i (by omega)]; exact k33 i hi
    have e25 : τ.1 25 0 i = nZ (oz O i).2 := by rw [f.1 25 0 i (by omega)]; exact k25 i hi
    rw [e_X9_sells_51, if_neg (by rw [z_le ⟨by omega, by omega⟩ ⟨by omega, by omega⟩]; omega), z_tn (by omega), Int.toNat_natCast, g_in (by omega), g_in (by omega), e33, e25, u1, g_b1, z_add, zs]
    rfl)
  have hCC : CC τ4 (setS (setT A []) (sF A.1 O w w.length)) := CC_S d2 e3 e2
  have hK4 : KC σ τ4 (setS (setT A []) (sF A.1 O w w.length)) := ⟨hCC, fP_tr c2.2 (fP_tr (fP_w d3 (fun k hk => by omega)) (fP_w (fS_fP e3) (fun k hk => by omega)))⟩
  obtain ⟨τ5, g1, g2⟩ := kc_start hK4
  obtain ⟨τ6, g3, g4⟩ := kc_add g2 (by simp) (nZ (sm w.length (mT A.1 O w))).toInt64
  obtain ⟨τ7, g5, g6⟩ := kc_add g4 (by simp) (nZ (lA A.1 (sY A.1))).toInt64
  obtain ⟨τ8, g7, g8⟩ := kc_add g6 (by simp) (nZ (lA (sF A.1 O w w.length) (sY A.1))).toInt64
  refine ⟨τ8, ?_, g8⟩
  have cY7 : τ7.1 10 0 9 = nZ (sY A.1) := by
    have : τ7.1 10 0 9 = nZ (sY (sF A.1 O w w.length)) := g6.1.1.1.2.2.2.2.2.2.1
    rw [this, hYF]
  have pA7 : f_X7_valueOfAll [gR 10 0, gI (nZ (sY A.1))] τ7 = some (some (gI (nZ (lA (sF A.1 O w w.length) (sY A.1)))), τ7) := p_valueOfAll g6.1.1 (on := sY A.1) (by omega)
  have e1' : j_X9_sells_51 (nZ w.length) (nZ (lA A.1 (sY A.1))) 0 0 τ3 = j_X9_sells_51 (nZ w.length) (nZ (lA A.1 (sY A.1))) (nZ (sm w.length (mT A.1 O w))) (nZ w.length) τ4 := e1
  rw [e_X9_sells, a1, g_b1, if_pos (by rw [z0, z_le ⟨by omega, by omega⟩ ⟨by omega, by omega⟩]; omega), b1, g_b1, d1, g_b0, cY, pA, g_b1, e1', e_X9_sells_51, if_pos (Int32.le_refl _), g1, g_b0, g3, g_b0, g5, g_b0, cY7, pA7, g_b1, g7, g_b0]
end T1C
