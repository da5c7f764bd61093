/-! HOLDS: it answers true -/
section HP
variable {A : gb_Ab}
/-- the grades of a bin, pair by pair -/
theorem h_204 (hI : gb_IV A.1) (hX : okX A.1) {b : Nat} (hb : b < 6) {k : Nat} (hk : k < (sB A.1 b).length) (v1 v2 v3 v6 v7 v8 v9 t u : Int32) {σ : gb_M} (h : CR σ A) : ∃ σ', j_L_holds_204 v1 v2 v3 (nZ b) (nZ (sB A.1 b).length) v6 v7 v8 v9 (nZ k) (nZ (lz (sB A.1 b) k).1) t u 0 σ = j_L_holds_90 v1 v2 v3 (nZ b) (nZ (sB A.1 b).length) v6 (v7 + t) (v8 + (t * u)) (v9 ||| (1 <<< (nZ (lz (sB A.1 b) k).1 &&& 31))) (nZ (k + 1 : Nat)) σ' ∧ CR σ' A := by
  have il := hI.2.2.2.2.2.1
  have hlen := (il b hb).1
  obtain ⟨σ', a, c⟩ := lph (n := k) (σ := σ) (fun x τ => j_L_holds_204 v1 v2 v3 (nZ b) (nZ (sB A.1 b).length) v6 v7 v8 v9 (nZ k) (nZ (lz (sB A.1 b) k).1) t u (nZ x) τ) (fun _ τ => CR τ A) h (fun x hx τ hC => by
    obtain ⟨τ1, a1, c1⟩ := u_layer0 hC hb (i := x) (by omega)
    have hg := (lz_ok il hb hk).1
    have hg2 := (lz_ok il hb (i := x) (by omega)).1
    have h0 := (hX b hb).2 k x hk (by omega)
    obtain ⟨τ2, a2, c2⟩ := u_pair c1 hg hg2 h0
    have hr := hI.2.2.1 _ _ hg hg2
    refine ⟨τ2, ?_, c2⟩
    show j_L_holds_204 _ _ _ _ _ _ _ _ _ _ _ _ _ _ _ = _
    rw [e_L_holds_204, if_neg (by rw [z_le ⟨by omega, by omega⟩ ⟨by omega, by omega⟩]; omega), g_b1e a1, g_b1e a2, if_pos (by rw [z0, z_le ⟨by omega, by omega⟩ ⟨by omega, by omega⟩]; exact h0), zs])
  have a' : j_L_holds_204 v1 v2 v3 (nZ b) (nZ (sB A.1 b).length) v6 v7 v8 v9 (nZ k) (nZ (lz (sB A.1 b) k).1) t u 0 σ = j_L_holds_204 v1 v2 v3 (nZ b) (nZ (sB A.1 b).length) v6 v7 v8 v9 (nZ k) (nZ (lz (sB A.1 b) k).1) t u (nZ k) σ' := a
  exact ⟨σ', by rw [a', e_L_holds_204, if_pos (Int32.le_refl _), zs], c⟩
noncomputable abbrev hJ90 (A : gb_Ab) (v1 v2 v3 : Int32) (b k : Nat) (σ : gb_M) : gb_R := j_L_holds_90 v1 v2 v3 (nZ b) (nZ (sB A.1 b).length) (nZ (lT (sB A.1 b))) (nZ (lT ((sB A.1 b).take k))) (nZ (lR A.1 (sY A.1) ((sB A.1 b).take k))) (bm 6 (fun g => decide (0 < lG ((sB A.1 b).take k) g))) (nZ k) σ
theorem h_90 (hI : gb_IV A.1) (hg : gdS A.1) (hX : okX A.1) {b : Nat} (hb : b < 6) (v1 v2 v3 : Int32) {σ : gb_M} (h : CR σ A) : ∃ σ', hJ90 A v1 v2 v3 b 0 σ = hJ90 A v1 v2 v3 b (sB A.1 b).length σ' ∧ CR σ' A := by
  have il := hI.2.2.2.2.2.1
  have iw := hI.1
  have hlen := (il b hb).1
  have hok := (il b hb).2.2
  refine lph (n := (sB A.1 b).length) (σ := σ) (fun k τ => hJ90 A v1 v2 v3 b k τ) (fun _ τ => CR τ A) h (fun k hk τ hC => ?_)
  have hl := lz_ok il hb hk
  obtain ⟨l1, l2, l3, l4, l5⟩ := id hl
  have hu := sU_r (on := sY A.1) iw hl
  have hw := iw _ l1
  have hle := sU_le (on := sY A.1) (l := lz (sB A.1 b) k) iw l1
  obtain ⟨τ1, a1, c1⟩ := u_layer0 hC hb hk
  obtain ⟨τ2, a2, c2⟩ := u_layer1 c1 hb hk
  obtain ⟨τ3, a3, c3⟩ := u_layer3 c2 hb hk
  obtain ⟨τ4, a4, c4⟩ := u_grade0 c3 l1
  have eT : nZ (lT ((sB A.1 b).take k)) + nZ (lz (sB A.1 b) k).2.1 = nZ (lT ((sB A.1 b).take (k + 1))) := by
    rw [z_add, show lT ((sB A.1 b).take (k + 1)) = lT ((sB A.1 b).take k) + (lz (sB A.1 b) k).2.1 from sL_take hk]
  have eR : nZ (lR A.1 (sY A.1) ((sB A.1 b).take k)) + nZ (lz (sB A.1 b) k).2.1 * nZ (sU A.1 (sY A.1) (lz (sB A.1 b) k)) = nZ (lR A.1 (sY A.1) ((sB A.1 b).take (k + 1))) := by
    rw [z_mul, z_add, show lR A.1 (sY A.1) ((sB A.1 b).take (k + 1)) = lR A.1 (sY A.1) ((sB A.1 b).take k) + (lz (sB A.1 b) k).2.1 * sU A.1 (sY A.1) (lz (sB A.1 b) k) from sL_take hk]
  have fin : ∀ τ, CR τ A → ∃ τ', j_L_holds_204 v1 v2 v3 (nZ b) (nZ (sB A.1 b).length) (nZ (lT (sB A.1 b))) (nZ (lT ((sB A.1 b).take k))) (nZ (lR A.1 (sY A.1) ((sB A.1 b).take k))) (bm 6 (fun g => decide (0 < lG ((sB A.1 b).take k) g))) (nZ k) (nZ (lz (sB A.1 b) k).1) (nZ (lz (sB A.1 b) k).2.1) (nZ (sU A.1 (sY A.1) (lz (sB A.1 b) k))) 0 τ = hJ90 A v1 v2 v3 b (k + 1) τ' ∧ CR τ' A := fun τ hC => by
    obtain ⟨τ', a, c⟩ := h_204 hI hX hb hk v1 v2 v3 (nZ (lT (sB A.1 b))) (nZ (lT ((sB A.1 b).take k))) (nZ (lR A.1 (sY A.1) ((sB A.1 b).take k))) (bm 6 (fun g => decide (0 < lG ((sB A.1 b).take k) g))) (nZ (lz (sB A.1 b) k).2.1) (nZ (sU A.1 (sY A.1) (lz (sB A.1 b) k))) hC
    exact ⟨τ', by rw [a, eT, eR, lg_bits hok hk], c⟩
  by_cases hk0 : k = 0
  · obtain ⟨τ', a, c⟩ := fin τ4 c4
    refine ⟨τ', ?_, c⟩
    show j_L_holds_90 _ _ _ _ _ _ _ _ _ _ _ = _
    rw [e_L_holds_90, if_neg (by rw [z_le ⟨by omega, by omega⟩ ⟨by omega, by omega⟩]; omega), g_b1e a1, g_b1e a2, g_b1e a3, if_neg (by rw [z1, z_lt ⟨by omega, by omega⟩ ⟨by omega, by omega⟩]; omega), if_neg (by rw [z0, z_lt ⟨by omega, by omega⟩ ⟨by omega, by omega⟩]; omega), g_b1e a4, if_pos (by rw [z_le ⟨by omega, by omega⟩ ⟨by omega, by omega⟩]; exact hle), if_pos (by rw [z0, z_le ⟨by omega, by omega⟩ ⟨by omega, by omega⟩]; omega), a]
  · have hk1 : k - 1 < (sB A.1 b).length := by omega
    have ek : nZ k - 1 = nZ ((k - 1 : Nat) : Int) := by rw [z1, z_sub]; exact congrArg nZ (by omega)
    have hl' := lz_ok il hb hk1
    obtain ⟨m1, m2, m3, m4, m5⟩ := id hl'
    obtain ⟨τ5, a5, c5⟩ := u_layer0 c4 hb hk1
    by_cases hgr : (lz (sB A.1 b) k).1 = (lz (sB A.1 b) (k - 1)).1
    · obtain ⟨τ6, a6, c6⟩ := u_layer2 c5 hb hk
      obtain ⟨τ7, a7, c7⟩ := u_layer2 c6 hb hk1
      obtain ⟨τ', a, c⟩ := fin τ7 c7
      have hadj := hg.2 b hb (k - 1) (by omega)
      rw [show k - 1 + 1 = k by omega] at hadj
      refine ⟨τ', ?_, c⟩
      show j_L_holds_90 _ _ _ _ _ _ _ _ _ _ _ = _
      rw [e_L_holds_90, if_neg (by rw [z_le ⟨by omega, by omega⟩ ⟨by omega, by omega⟩]; omega), g_b1e a1, g_b1e a2, g_b1e a3, if_neg (by rw [z1, z_lt ⟨by omega, by omega⟩ ⟨by omega, by omega⟩]; omega), if_neg (by rw [z0, z_lt ⟨by omega, by omega⟩ ⟨by omega, by omega⟩]; omega), g_b1e a4, if_pos (by rw [z_le ⟨by omega, by omega⟩ ⟨by omega, by omega⟩]; exact hle), if_neg (by rw [z0, z_le ⟨by omega, by omega⟩ ⟨by omega, by omega⟩]; omega), ek, g_b1e a5, if_pos (by rw [hgr]), g_b1e a6, g_b1e a7, if_neg (by rw [z_eq ⟨by omega, by omega⟩ ⟨by omega, by omega⟩]; exact fun e => hadj ⟨hgr.symm, e.symm⟩), a]
    · obtain ⟨τ', a, c⟩ := fin τ5 c5
      refine ⟨τ', ?_, c⟩
      show j_L_holds_90 _ _ _ _ _ _ _ _ _ _ _ = _
      rw [e_L_holds_90, if_neg (by rw [z_le ⟨by omega, by omega⟩ ⟨by omega, by omega⟩]; omega), g_b1e a1, g_b1e a2, g_b1e a3, if_neg (by rw [z1, z_lt ⟨by omega, by omega⟩ ⟨by omega, by omega⟩]; omega), if_neg (by rw [z0, z_lt ⟨by omega, by omega⟩ ⟨by omega, by omega⟩]; omega), g_b1e a4, if_pos (by rw [z_le ⟨by omega, by omega⟩ ⟨by omega, by omega⟩]; exact hle), if_neg (by rw [z0, z_le ⟨by omega, by omega⟩ ⟨by omega, by omega⟩]; omega), ek, g_b1e a5, if_neg (by rw [z_eq ⟨by omega, by omega⟩ ⟨by omega, by omega⟩]; omega), a]
noncomputable abbrev hJ9 (A : gb_Ab) (b : Nat) (σ : gb_M) : gb_R := j_L_holds_9 (nZ (sm b (fun b => lV A.1 (sY A.1) (sB A.1 b)))) (nZ (sm b (fun b => lT (sB A.1 b)))) (nZ (sm b (fun b => ((sB A.1 b).length : Int)))) (nZ b) σ
theorem h_9 (hg : gdS A.1) (hX : okX A.1) {σ : gb_M} (h : CR σ A) : ∃ σ', hJ9 A 0 σ = hJ9 A 6 σ' ∧ CR σ' A := by
  have hI := hg.1
  have il := hI.2.2.2.2.2.1
  have iw := hI.1
  refine lph (n := 6) (σ := σ) (fun b τ => hJ9 A b τ) (fun _ τ => CR τ A) h (fun b hb τ hC => ?_)
  have hlen := (il b hb).1
  have hok := (il b hb).2.2
  have hT := (il b hb).2.1
  have hT0 := lT_nn (L := sB A.1 b) hok
  have hc := (hX b hb).1
  have hcr := hI.2.2.2.1 b hb
  obtain ⟨τ1, a1, c1⟩ := u_bin2 hC hb
  obtain ⟨τ2, a2, c2⟩ := u_bin1 c1 hb
  obtain ⟨τ3, a3, c3⟩ := u_bin0 c2 hb
  obtain ⟨τ4, a4, c4⟩ := h_90 hI hg hX hb (nZ (sm b (fun b => lV A.1 (sY A.1) (sB A.1 b)))) (nZ (sm b (fun b => lT (sB A.1 b)))) (nZ (sm b (fun b => ((sB A.1 b).length : Int)))) c3
  obtain ⟨τ5, a5, c5⟩ := u_value c4 hb
  obtain ⟨τ6, a6, c6⟩ := u_row c5 (i := 0) (by simp)
  obtain ⟨τ7, a7, c7⟩ := u_row c6 (i := 1) (by simp)
  obtain ⟨τ8, a8, c8⟩ := u_row c7 (i := 1) (by simp)
  obtain ⟨τ9, a9, c9⟩ := u_row c8 (i := 2) (by simp)
  obtain ⟨τ10, a10, c10⟩ := u_bin4 (CR_of c9) hb
  have hRr := lR_r (on := sY A.1) iw hok hT
  have hXr := lX_r hI hb
  have hVr := lV_r (on := sY A.1) hI hb
  have hFr := lF_r iw hok hT
  have hRF := lR_lF (on := sY A.1) iw hok
  have hV : lV A.1 (sY A.1) (sB A.1 b) = lR A.1 (sY A.1) (sB A.1 b) - lX A.1 (sB A.1 b) := rfl
  have e0 : j_L_holds_90 (nZ (sm b (fun b => lV A.1 (sY A.1) (sB A.1 b)))) (nZ (sm b (fun b => lT (sB A.1 b)))) (nZ (sm b (fun b => ((sB A.1 b).length : Int)))) (nZ b) (nZ (sB A.1 b).length) (nZ (lT (sB A.1 b))) 0 0 0 0 τ3 = hJ90 A (nZ (sm b (fun b => lV A.1 (sY A.1) (sB A.1 b)))) (nZ (sm b (fun b => lT (sB A.1 b)))) (nZ (sm b (fun b => ((sB A.1 b).length : Int)))) b 0 τ3 := rfl
  have a6' : f_X9_row [gR 0 0, gI 0] τ5 = some (some (gL (nZ (lR A.1 (sY A.1) (sB A.1 b))).toInt64), τ6) := a6
  have a7' : f_X9_row [gR 0 0, gI 1] τ6 = some (some (gL (nZ (lX A.1 (sB A.1 b))).toInt64), τ7) := a7
  have a8' : f_X9_row [gR 0 0, gI 1] τ7 = some (some (gL (nZ (lX A.1 (sB A.1 b))).toInt64), τ8) := a8
  have a9' : f_X9_row [gR 0 0, gI 2] τ8 = some (some (gL (nZ (lF A.1 (sB A.1 b))).toInt64), τ9) := a9
  have beg : hJ9 A b τ = hJ90 A (nZ (sm b (fun b => lV A.1 (sY A.1) (sB A.1 b)))) (nZ (sm b (fun b => lT (sB A.1 b)))) (nZ (sm b (fun b => ((sB A.1 b).length : Int)))) b 0 τ3 := by
    show j_L_holds_9 _ _ _ _ _ = _
    rw [e_L_holds_9, if_neg (n6 hb), g_b1e a1, g_b1e a2, g_b1e a3, if_neg (by rw [z_lt ⟨by omega, by omega⟩ ⟨by omega, by omega⟩]; omega), if_neg (by rw [z6, z_lt ⟨by omega, by omega⟩ ⟨by omega, by omega⟩]; omega)]
    by_cases h0 : (sB A.1 b).length = 0
    · have hL : sB A.1 b = [] := List.length_eq_zero_iff.mp h0
      have hT' : lT (sB A.1 b) = 0 := by rw [hL]; rfl
      rw [if_pos (by rw [h0]; rfl), if_pos (by rw [hT']; rfl), if_pos rfl, e0]
    · have hp := lT_pos hok (by omega)
      rw [if_neg (by rw [z0, z_eq ⟨by omega, by omega⟩ ⟨by omega, by omega⟩]; omega), if_neg (by rw [z0, z_eq ⟨by omega, by omega⟩ ⟨by omega, by omega⟩]; omega), if_pos rfl, e0]
  rw [beg, a4]
  have e1 : hJ90 A (nZ (sm b (fun b => lV A.1 (sY A.1) (sB A.1 b)))) (nZ (sm b (fun b => lT (sB A.1 b)))) (nZ (sm b (fun b => ((sB A.1 b).length : Int)))) b (sB A.1 b).length τ4 = j_L_holds_90 (nZ (sm b (fun b => lV A.1 (sY A.1) (sB A.1 b)))) (nZ (sm b (fun b => lT (sB A.1 b)))) (nZ (sm b (fun b => ((sB A.1 b).length : Int)))) (nZ b) (nZ (sB A.1 b).length) (nZ (lT (sB A.1 b))) (nZ (lT (sB A.1 b))) (nZ (lR A.1 (sY A.1) (sB A.1 b))) (bm 6 (fun g => decide (0 < lG (sB A.1 b) g))) (nZ (sB A.1 b).length) τ4 := by
    show j_L_holds_90 _ _ _ _ _ _ _ _ _ _ _ = _
    rw [List.take_length]
  have ev : (nZ (lV A.1 (sY A.1) (sB A.1 b))).toInt64 = (nZ (lR A.1 (sY A.1) (sB A.1 b))).toInt64 - (nZ (lX A.1 (sB A.1 b))).toInt64 := by
    rw [z64_sub ⟨by omega, by omega⟩ ⟨by omega, by omega⟩ ⟨by omega, by omega⟩, hV]
  have nx : ∀ τ, j_L_holds_9 (nZ (sm b (fun b => lV A.1 (sY A.1) (sB A.1 b))) + nZ (lV A.1 (sY A.1) (sB A.1 b))) (nZ (sm b (fun b => lT (sB A.1 b))) + nZ (lT (sB A.1 b))) (nZ (sm b (fun b => ((sB A.1 b).length : Int))) + nZ (sB A.1 b).length) (nZ b + 1) τ = hJ9 A (b + 1) τ := fun τ => by
    show _ = j_L_holds_9 _ _ _ _ _
    rw [z_add, z_add, z_add, zs, sm_s, sm_s, sm_s]
  rw [e1, e_L_holds_90, if_pos (Int32.le_refl _), g_b1e a5, if_pos rfl, g_b3e a6', if_pos ((lg_cmp_eq _ _).mpr rfl), g_b3e a7', if_neg (by rw [lg_cmp_lt, show (0 : Int64) = (nZ 0).toInt64 from rfl, z64_lt ⟨by omega, by omega⟩ ⟨by omega, by omega⟩]; omega), g_b3e a8', if_pos ((lg_cmp_eq _ _).mpr ev), g_b3e a9', if_neg (by rw [lg_cmp_lt, z64_lt ⟨by omega, by omega⟩ ⟨by omega, by omega⟩]; omega), g_b1e a10, if_pos rfl]
  by_cases h0 : (sB A.1 b).length = 0
  · obtain ⟨τ11, a11, c11⟩ := u_bottom2 c10 hb h0
    refine ⟨τ11, ?_, c11⟩
    rw [if_pos (by rw [z0, z_le ⟨by omega, by omega⟩ ⟨by omega, by omega⟩]; omega), g_b1e a11, if_pos rfl, nx]
  · have h0' : 0 < (sB A.1 b).length := by omega
    obtain ⟨τ11, a11, c11⟩ := u_bottom c10 hb h0'
    obtain ⟨l1, l2, l3, l4, l5⟩ := lz_ok il hb h0'
    have hr1 := rn_ge hok h0'
    have hr2 := rn_le (L := sB A.1 b) (g := (lz (sB A.1 b) 0).1) hok
    obtain ⟨τ12, a12, c12⟩ := t_layer0 (A := setR A _) c11.2.2 hb h0' τ11 c11
    have a12' : f_X9_layer [gR 0 0, gI (nZ b), gI 0, gI 0] τ11 = some (some (gI (nZ (lz (sB A.1 b) 0).1)), τ12) := a12
    obtain ⟨τ13, a13, c13⟩ := u_row c12 (i := 0) (by simp)
    have a13' : f_X9_row [gR 0 0, gI 0] τ12 = some (some (gL (nZ (rn (sB A.1 b) (lz (sB A.1 b) 0).1)).toInt64), τ13) := a13
    obtain ⟨τ14, a14, c14⟩ := u_layer1 (CR_of c13) hb h0'
    have a14' : f_X9_layer [gR 0 0, gI (nZ b), gI 0, gI 1] τ13 = some (some (gI (nZ (lz (sB A.1 b) 0).2.1)), τ14) := a14
    refine ⟨τ14, ?_, c14⟩
    rw [if_neg (by rw [z0, z_le ⟨by omega, by omega⟩ ⟨by omega, by omega⟩]; omega), g_b1e a11, g_b1e a12', if_pos rfl, g_b3e a13', g_b1e a14', if_pos (by rw [lg_cmp_ge, z64_le ⟨by omega, by omega⟩ ⟨by omega, by omega⟩]; exact hr1), nx]
end HP
