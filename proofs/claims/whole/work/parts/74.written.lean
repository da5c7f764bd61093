/-! WRITTEN -/
def wN (t : Int) : List Int := if t < 10 then [48 + ((t.toNat % 10 : Nat) : Int)] else [48 + ((t.toNat / 10 : Nat) : Int)] ++ [48 + ((t.toNat % 10 : Nat) : Int)]
def wL (l : gb_Ly) : List Int := [48 + (l.1 : Int)] ++ [120] ++ wN l.2.1
def wM (L : List gb_Ly) (k : Nat) : List Int := it k [] (fun i a => a ++ [if i = 0 then 58 else 44] ++ wL (lz L i))
def wC (L : List gb_Ly) (k : Nat) : List Int := it k [58] (fun i a => (if i = 0 then a else a ++ [44]) ++ wL (lz L i))
theorem wCM {L : List gb_Ly} : ∀ k, wC L (k + 1) = wM L (k + 1)
  | 0 => rfl
  | k + 1 => by
    have ih := wCM (L := L) k
    show (if k + 1 = 0 then wC L (k + 1) else wC L (k + 1) ++ [44]) ++ wL (lz L (k + 1)) = wM L (k + 1) ++ [if k + 1 = 0 then 58 else 44] ++ wL (lz L (k + 1))
    rw [if_neg (by omega), if_neg (by omega), ih]
theorem wN_len {t : Int} : (wN t).length ≤ 2 := by
  unfold wN
  split <;> simp
theorem wL_len {l : gb_Ly} : (wL l).length ≤ 4 := by
  have := wN_len (t := l.2.1)
  unfold wL
  simp
  omega
theorem wM_len {L : List gb_Ly} : ∀ k, (wM L k).length ≤ 5 * k
  | 0 => by show 0 ≤ 0; omega
  | k + 1 => by
    have ih := wM_len (L := L) k
    have := wL_len (l := lz L k)
    show (wM L k ++ [if k = 0 then 58 else 44] ++ wL (lz L k)).length ≤ 5 * (k + 1)
    simp only [List.length_append, List.length_singleton]
    omega
theorem wC_len {L : List gb_Ly} : ∀ k, (wC L k).length ≤ 5 * k + 1
  | 0 => by show 1 ≤ 1; omega
  | k + 1 => by
    have := wM_len (L := L) (k + 1)
    rw [wCM]
    omega
def wH (b : Nat) (W : List Int) : List Int := (if W.length = 0 then W else W ++ [59]) ++ [48 + (b : Int)]
def wB (s : gb_St) (b : Nat) (W : List Int) : List Int := if (sB s b).length = 0 then W else wH b W ++ wM (sB s b) (sB s b).length
def wA' (s : gb_St) (k : Nat) : List Int := it k [] (wB s)
theorem wH_len {b : Nat} {W : List Int} : (wH b W).length ≤ W.length + 2 := by
  unfold wH
  split <;> simp
theorem wA'_len {s : gb_St} (il : iL s) : ∀ k, k ≤ 6 → (wA' s k).length ≤ 32 * k
  | 0, _ => by show 0 ≤ 0; omega
  | k + 1, hk => by
    have ih := wA'_len il k (by omega)
    have h6 := (il k (by omega)).1
    have h1 := wH_len (b := k) (W := wA' s k)
    have h2 := wM_len (L := sB s k) (sB s k).length
    show (wB s k (wA' s k)).length ≤ 32 * (k + 1)
    unfold wB
    split
    · omega
    · rw [List.length_append]; omega
theorem tens : ∀ t : Fin 100, nZ (t.val : Int) / 10 = nZ ((t.val / 10 : Nat) : Int) ∧ nZ (t.val : Int) - nZ (t.val : Int) / 10 * 10 = nZ ((t.val % 10 : Nat) : Int) := by decide +kernel
theorem tens' {t : Int} (h : 0 ≤ t ∧ t ≤ 99) : nZ t / 10 = nZ ((t.toNat / 10 : Nat) : Int) ∧ nZ t - nZ t / 10 * 10 = nZ ((t.toNat % 10 : Nat) : Int) := by
  have := tens ⟨t.toNat, by omega⟩
  dsimp only at this
  rwa [show ((t.toNat : Nat) : Int) = t by omega] at this
/-! the class's page -/
def pgC (σ : gb_M) (W : List Int) : Prop := σ.1 34 0 1 = nZ W.length ∧ ∀ i, i < W.length → σ.1 35 0 i = nZ (W.getD i 0)
def pgM (σ : gb_M) (W : List Int) : Prop := σ.1 36 0 37 = nZ W.length ∧ ∀ i, i < W.length → σ.1 53 0 i = nZ (W.getD i 0)
def QC (σ0 σ : gb_M) (A : gb_Ab) (W : List Int) : Prop := KC σ0 σ A ∧ pgC σ W
def QM (σ0 σ : gb_M) (A : gb_Ab) (W : List Int) : Prop := KM σ0 σ A ∧ pgM σ W
theorem q_add {σ0 σ : gb_M} {A : gb_Ab} {W : List Int} (h : QC σ0 σ A W) (hl : W.length < 200) (x : Int) : ∃ σ', f_X6_add [gR 34 0, gI (nZ x)] σ = some (none, σ') ∧ QC σ0 σ' A (W ++ [x]) := by
  obtain ⟨hK, a, c⟩ := h
  have el : (W ++ [x]).length = W.length + 1 := by simp
  have f : gb_fP (fun k => k = 34 ∨ k = 35) σ (gb_si (gb_si σ 35 0 W.length (nZ x)) 34 0 1 (nZ (W.length + 1 : Nat))) := fP_si (fP_si fP_rf (Or.inr rfl)) (Or.inl rfl)
  refine ⟨gb_si (gb_si σ 35 0 W.length (nZ x)) 34 0 1 (nZ (W.length + 1 : Nat)), ?_, KC_fP hK f (fun k hk z => by omega) (fun k z => by omega), by rw [si_s, el], fun i hi => ?_⟩
  · rw [e_X6_add, a, if_neg (by rw [show (200 : Int32) = nZ 200 from rfl, z_le ⟨by omega, by omega⟩ ⟨by omega, by omega⟩]; omega), z_tn (by omega), Int.toNat_natCast, si_k (by omega), a, zs, g_in (by omega)]
  · rw [el] at hi
    rw [si_k (by omega)]
    by_cases e : i = W.length
    · subst e; rw [si_s, gdi_2]
    · rw [si_i e, gdi_1 (by omega)]; exact c i (by omega)
theorem q_sign {σ0 σ : gb_M} {A : gb_Ab} {W : List Int} (h : QM σ0 σ A W) (hl : W.length < 256) {x : Int} (hx : 0 ≤ x ∧ x ≤ 127) : ∃ σ', f_X10_writesSign [gR 36 0, gI (nZ x)] σ = some (none, σ') ∧ QM σ0 σ' A (W ++ [x]) := by
  obtain ⟨hK, a, c⟩ := h
  have el : (W ++ [x]).length = W.length + 1 := by simp
  have e8 : (nZ x).toInt8.toInt32.toInt8.toInt32 = nZ x := by
    rw [← Int32.toInt_inj]
    simp only [Int8.toInt_toInt32, Int32.toInt_toInt8]
    rw [nZ_ti ⟨by omega, by omega⟩, Int.bmod_def, Int.bmod_def]
    omega
  have f : gb_fX (fun k => k = 53) (fun x => x = 37) σ (gb_si (gb_si σ 53 0 W.length (nZ x)) 36 0 37 (nZ (W.length + 1 : Nat))) := fX_si (fX_si fX_rf (Or.inl ⟨by omega, rfl⟩)) (Or.inr ⟨rfl, rfl⟩)
  refine ⟨gb_si (gb_si σ 53 0 W.length (nZ x)) 36 0 37 (nZ (W.length + 1 : Nat)), ?_, KM_fX hK f ⟨by omega, by omega, by omega, by omega, by omega⟩ ⟨by omega, by omega, by omega, by omega⟩ (fun k z => by omega), by rw [si_s, el], fun i hi => ?_⟩
  · rw [e_X10_writesSign, a, z_tn (by omega), Int.toNat_natCast, si_k (by omega), a, zs, e8, g_in (by omega)]
  · rw [el] at hi
    rw [si_k (by omega)]
    by_cases e : i = W.length
    · subst e; rw [si_s, gdi_2]
    · rw [si_i e, gdi_1 (by omega)]; exact c i (by omega)
theorem z48' (x : Int) : (48 : Int32) + nZ x = nZ (48 + x) := by rw [z48, z_add]
theorem q_tons {σ0 σ : gb_M} {A : gb_Ab} {W : List Int} (h : QC σ0 σ A W) (hl : W.length + 1 < 200) {t : Int} (ht : 0 ≤ t ∧ t ≤ 99) : ∃ σ', f_X6_writeTons [gR 34 0, gI (nZ t)] σ = some (none, σ') ∧ QC σ0 σ' A (W ++ wN t) := by
  obtain ⟨d1, d2⟩ := tens' ht
  rw [e_X6_writeTons, d2, d1, z48', z48']
  unfold wN
  by_cases c : t < 10
  · obtain ⟨τ, a1, a2⟩ := q_add h (by omega) (48 + ((t.toNat % 10 : Nat) : Int))
    refine ⟨τ, ?_, by rw [if_pos c]; exact a2⟩
    rw [if_pos (by rw [z10, z_lt ⟨by omega, by omega⟩ ⟨by omega, by omega⟩]; exact c), a1, g_b0]
  · obtain ⟨τ, a1, a2⟩ := q_add h (by omega) (48 + ((t.toNat / 10 : Nat) : Int))
    obtain ⟨τ', b1, b2⟩ := q_add a2 (by simp; omega) (48 + ((t.toNat % 10 : Nat) : Int))
    refine ⟨τ', ?_, by rw [if_neg c, ← List.append_assoc]; exact b2⟩
    rw [if_neg (by rw [z10, z_lt ⟨by omega, by omega⟩ ⟨by omega, by omega⟩]; exact c), a1, g_b0, b1, g_b0]
theorem q_number {σ0 σ : gb_M} {A : gb_Ab} {W : List Int} (h : QM σ0 σ A W) (hl : W.length + 1 < 256) {t : Int} (ht : 0 ≤ t ∧ t ≤ 99) : ∃ σ', f_X10_writesNumber [gR 36 0, gI (nZ t)] σ = some (none, σ') ∧ QM σ0 σ' A (W ++ wN t) := by
  obtain ⟨d1, d2⟩ := tens' ht
  rw [e_X10_writesNumber, d2, d1, z48', z48']
  unfold wN
  by_cases c : t < 10
  · obtain ⟨τ, a1, a2⟩ := q_sign h (by omega) (x := 48 + ((t.toNat % 10 : Nat) : Int)) (by omega)
    refine ⟨τ, ?_, by rw [if_pos c]; exact a2⟩
    rw [if_pos (by rw [show (9 : Int32) = nZ 9 from rfl, z_le ⟨by omega, by omega⟩ ⟨by omega, by omega⟩]; omega), a1, g_b0]
  · obtain ⟨τ, a1, a2⟩ := q_sign h (by omega) (x := 48 + ((t.toNat / 10 : Nat) : Int)) (by omega)
    obtain ⟨τ', b1, b2⟩ := q_sign a2 (by simp; omega) (x := 48 + ((t.toNat % 10 : Nat) : Int)) (by omega)
    refine ⟨τ', ?_, by rw [if_neg c, ← List.append_assoc]; exact b2⟩
    rw [if_neg (by rw [show (9 : Int32) = nZ 9 from rfl, z_le ⟨by omega, by omega⟩ ⟨by omega, by omega⟩]; omega), a1, g_b0, b1, g_b0]
theorem wN_1 {x : Nat} (h : x < 10) : wN (x : Int) = [48 + (x : Int)] := by
  unfold wN
  rw [if_pos (by omega), Int.toNat_natCast, Nat.mod_eq_of_lt h]
/-- a layer -/
theorem q_layC {σ0 σ : gb_M} {A : gb_Ab} {W : List Int} {j v2 v3 : Int32} (hA : wfA A) {b i : Nat} (hb : b < 6) (hi : i < (sB A.1 b).length) (h : QC σ0 σ A W) (hl : W.length + 4 < 200) {F : gb_M → gb_R} : ∃ σ', gb_b1 (f_X7_place [gI (nZ b), gI (nZ i)] σ) (fun x7 s6 => gb_gd (gb_in x7 36) (gb_b0 (f_X6_add [gR 34 0, gI (48 + (s6.1 15 0 x7.toNatClampNeg))] s6) (fun s8 => gb_b0 (f_X6_add [gR 34 0, gI 120] s8) (fun s9 => gb_gd (gb_in x7 36) (gb_b0 (f_X6_writeTons [gR 34 0, gI (s9.1 16 0 x7.toNatClampNeg)] s9) (fun s10 => F s10)))))) = F σ' ∧ QC σ0 σ' A (W ++ wL (lz (sB A.1 b) i)) := by
  have hlen := (hA.1.1.2.2.2.2.2.1 b hb).1
  obtain ⟨l1, l2, l3, l4, l5⟩ := lz_ok hA.1.1.2.2.2.2.2.1 hb hi
  obtain ⟨τ, a1, a2⟩ := q_add h (by omega) (48 + ((lz (sB A.1 b) i).1 : Int))
  obtain ⟨τ', b1, b2⟩ := q_add a2 (by simp; omega) 120
  obtain ⟨τ2, c1, c2⟩ := q_tons b2 (by simp; omega) (t := (lz (sB A.1 b) i).2.1) (by omega)
  obtain ⟨g1, g2, g3⟩ := h.1.1.1.1.2.2.2.2.1 b i hb hi
  obtain ⟨k1, k2, k3⟩ := b2.1.1.1.1.2.2.2.2.1 b i hb hi
  have b1' : f_X6_add [gR 34 0, gI 120] τ = some (none, τ') := b1
  refine ⟨τ2, ?_, by unfold wL; rw [← List.append_assoc, ← List.append_assoc]; exact c2⟩
  rw [p_place, g_b1, z_tn (by omega), g1, z48', g_in (by omega), a1, g_b0, b1', g_b0, g_in (by omega), k2, c1, g_b0]
theorem q_layM {σ0 σ : gb_M} {A : gb_Ab} {W : List Int} (hA : wfA A) {b i : Nat} (hb : b < 6) (hi : i < (sB A.1 b).length) (h : QM σ0 σ A W) (hl : W.length + 4 < 256) {F : gb_M → gb_R} : ∃ σ', gb_b1 (f_X10_layerOf [gR 36 0, gI (nZ b), gI (nZ i), gI 0] σ) (fun x12 s11 => gb_b0 (f_X10_writesNumber [gR 36 0, gI x12] s11) (fun s13 => gb_b0 (f_X10_writesSign [gR 36 0, gI 120] s13) (fun s14 => gb_b1 (f_X10_layerOf [gR 36 0, gI (nZ b), gI (nZ i), gI 1] s14) (fun x16 s15 => gb_b0 (f_X10_writesNumber [gR 36 0, gI x16] s15) (fun s17 => F s17))))) = F σ' ∧ QM σ0 σ' A (W ++ wL (lz (sB A.1 b) i)) := by
  have hlen := (hA.1.1.2.2.2.2.2.1 b hb).1
  obtain ⟨l1, l2, l3, l4, l5⟩ := lz_ok hA.1.1.2.2.2.2.2.1 hb hi
  obtain ⟨τ, a1, a2⟩ := q_number h (by omega) (t := ((lz (sB A.1 b) i).1 : Int)) (by omega)
  rw [wN_1 (by omega)] at a2
  obtain ⟨τ', b1, b2⟩ := q_sign a2 (by simp; omega) (x := 120) (by omega)
  obtain ⟨τ2, c1, c2⟩ := q_number b2 (by simp; omega) (t := (lz (sB A.1 b) i).2.1) (by omega)
  have b1' : f_X10_writesSign [gR 36 0, gI 120] τ = some (none, τ') := b1
  refine ⟨τ2, ?_, by unfold wL; rw [← List.append_assoc, ← List.append_assoc]; exact c2⟩
  rw [m_L0 h.1.1.1 hb hi, g_b1, a1, g_b0, b1', g_b0, m_L1 b2.1.1.1 hb hi, g_b1, c1, g_b0]
theorem q_bin {σ0 σ : gb_M} {A : gb_Ab} {W : List Int} (hA : wfA A) {b : Nat} (hb : b < 6) (h : QC σ0 σ A W) (hl : W.length ≤ 160) (hne : (sB A.1 b).length ≠ 0) : ∃ σ', f_X6_writeBin [gR 34 0, gR 10 0, gI (nZ b)] σ = some (none, σ') ∧ QC σ0 σ' A (wH b W ++ wM (sB A.1 b) (sB A.1 b).length) := by
  have hlen := (hA.1.1.2.2.2.2.2.1 b hb).1
  have hhl := wH_len (b := b) (W := W)
  have hd : ∃ τ, f_X6_writeBin [gR 34 0, gR 10 0, gI (nZ b)] σ = j_X6_writeBin_29 0 (nZ b) 0 τ ∧ QC σ0 τ A (wH b W ++ [58]) := by
    rw [e_X6_writeBin, h.2.1, z48']
    unfold wH at hhl ⊢
    by_cases c : W.length = 0
    · rw [if_pos c] at hhl ⊢
      obtain ⟨τ1, a1, a2⟩ := q_add h (by omega) (48 + (b : Int))
      obtain ⟨τ2, b1, b2⟩ := q_add a2 (by simp; omega) 58
      have b1' : f_X6_add [gR 34 0, gI 58] τ1 = some (none, τ2) := b1
      refine ⟨τ2, ?_, b2⟩
      rw [if_pos (by rw [c]; decide), a1, g_b0, b1', g_b0]
    · rw [if_neg c] at hhl ⊢
      obtain ⟨τ0, d1, d2⟩ := q_add h (by omega) 59
      obtain ⟨τ1, a1, a2⟩ := q_add d2 (by simp; omega) (48 + (b : Int))
      obtain ⟨τ2, b1, b2⟩ := q_add a2 (by simp; omega) 58
      have b1' : f_X6_add [gR 34 0, gI 58] τ1 = some (none, τ2) := b1
      have d1' : f_X6_add [gR 34 0, gI 59] σ = some (none, τ0) := d1
      refine ⟨τ2, ?_, b2⟩
      rw [if_neg (by rw [z0, z_le ⟨by omega, by omega⟩ ⟨by omega, by omega⟩]; omega), d1', g_b0, a1, g_b0, b1', g_b0]
  obtain ⟨τ, e1, e2⟩ := hd
  obtain ⟨τ', h1, h2⟩ := lph (n := (sB A.1 b).length) (σ := τ) (fun i τ => j_X6_writeBin_29 0 (nZ b) (nZ i) τ) (fun i υ => QC σ0 υ A (wH b W ++ wC (sB A.1 b) i)) e2 (by
    intro i hi υ hq
    have cN := hq.1.1.1.1.2.2.1 b hb
    have hcl := wC_len (L := sB A.1 b) i
    show ∃ υ', j_X6_writeBin_29 _ _ _ _ = j_X6_writeBin_29 _ _ _ _ ∧ QC σ0 υ' A (wH b W ++ ((if i = 0 then wC (sB A.1 b) i else wC (sB A.1 b) i ++ [44]) ++ wL (lz (sB A.1 b) i)))
    rw [e_X6_writeBin_29, z_tn (by omega), Int.toNat_natCast, g_in (by omega), cN, if_neg (by rw [z_le ⟨by omega, by omega⟩ ⟨by omega, by omega⟩]; omega), zs]
    by_cases c : i = 0
    · rw [if_pos (by rw [z0, z_le ⟨by omega, by omega⟩ ⟨by omega, by omega⟩]; omega), if_pos c, ← List.append_assoc]
      exact q_layC (j := 0) (v2 := 0) (v3 := 0) hA hb hi hq (by rw [List.length_append]; omega)
    · rw [if_neg (by rw [z0, z_le ⟨by omega, by omega⟩ ⟨by omega, by omega⟩]; omega), if_neg c, ← List.append_assoc, ← List.append_assoc]
      obtain ⟨υ1, a1, a2⟩ := q_add hq (by rw [List.length_append]; omega) 44
      have a1' : f_X6_add [gR 34 0, gI 44] υ = some (none, υ1) := a1
      rw [a1', g_b0]
      exact q_layC (j := 0) (v2 := 0) (v3 := 0) hA hb hi a2 (by rw [List.length_append, List.length_append]; show _ + _ + 1 + 4 < 200; omega))
  have hk : ∃ k, (sB A.1 b).length = k + 1 := ⟨(sB A.1 b).length - 1, by omega⟩
  refine ⟨τ', ?_, ?_⟩
  · have h1' : j_X6_writeBin_29 0 (nZ b) 0 τ = j_X6_writeBin_29 0 (nZ b) (nZ (sB A.1 b).length) τ' := h1
    have cN := h2.1.1.1.1.2.2.1 b hb
    rw [e1, h1', e_X6_writeBin_29, z_tn (by omega), Int.toNat_natCast, g_in (by omega), cN, if_pos (Int32.le_refl _)]
  · obtain ⟨k, hk⟩ := hk
    rw [hk, wCM] at h2
    rw [hk]
    exact h2
theorem q_write {σ0 σ : gb_M} {A : gb_Ab} (hA : wfA A) (h : KC σ0 σ A) : ∃ σ', f_X6_write [gR 34 0, gR 10 0] σ = some (none, σ') ∧ QC σ0 σ' A (wA' A.1 6) := by
  have f0 : gb_fP (fun k => k = 34 ∨ k = 35) σ (gb_si σ 34 0 1 0) := fP_si fP_rf (Or.inl rfl)
  have h0 : QC σ0 (gb_si σ 34 0 1 0) A [] := ⟨KC_fP h f0 (fun k hk z => by omega) (fun k z => by omega), by rw [si_s]; rfl, fun i hi => by cases hi⟩
  obtain ⟨τ, h1, h2⟩ := lph (n := 6) (σ := gb_si σ 34 0 1 0) (fun b τ => j_X6_write_7 0 (nZ b) τ) (fun b υ => QC σ0 υ A (wA' A.1 b)) h0 (by
    intro b hb υ hq
    have cN := hq.1.1.1.1.2.2.1 b hb
    have hlen := (hA.1.1.2.2.2.2.2.1 b hb).1
    have hwl := wA'_len hA.1.1.2.2.2.2.2.1 b (by omega)
    show ∃ υ', j_X6_write_7 _ _ _ = j_X6_write_7 _ _ _ ∧ QC σ0 υ' A (wB A.1 b (wA' A.1 b))
    rw [e_X6_write_7, if_neg (n6 hb), z_tn (by omega), Int.toNat_natCast, g_in (by omega), cN, zs]
    unfold wB
    by_cases c : (sB A.1 b).length = 0
    · rw [if_pos c]
      exact ⟨υ, by rw [if_pos (by rw [c]; decide)], hq⟩
    · rw [if_neg c]
      obtain ⟨υ', a1, a2⟩ := q_bin hA hb hq (by omega) c
      exact ⟨υ', by rw [if_neg (by rw [z0, z_le ⟨by omega, by omega⟩ ⟨by omega, by omega⟩]; omega), a1, g_b0], a2⟩)
  have h1' : j_X6_write_7 0 0 (gb_si σ 34 0 1 0) = j_X6_write_7 0 (nZ (6 : Nat)) τ := h1
  exact ⟨τ, by rw [e_X6_write, h1', e_X6_write_7, if_pos y6], h2⟩
theorem q_mod {σ0 σ : gb_M} {A : gb_Ab} (hA : wfA A) (h : KM σ0 σ A) (v : Int32) : ∃ σ', j_X10_written_12 v 0 (gb_si σ 36 0 37 0) = j_X10_written_12 v (nZ (6 : Nat)) σ' ∧ QM σ0 σ' A (wA' A.1 6) := by
  have f0 : gb_fX (fun k => k = 53) (fun x => x = 37) σ (gb_si σ 36 0 37 0) := fX_si fX_rf (Or.inr ⟨rfl, rfl⟩)
  have h0 : QM σ0 (gb_si σ 36 0 37 0) A [] := ⟨KM_fX h f0 ⟨by omega, by omega, by omega, by omega, by omega⟩ ⟨by omega, by omega, by omega, by omega⟩ (fun k z => by omega), by rw [si_s]; rfl, fun i hi => by cases hi⟩
  refine lph (n := 6) (σ := gb_si σ 36 0 37 0) (fun b τ => j_X10_written_12 v (nZ b) τ) (fun b υ => QM σ0 υ A (wA' A.1 b)) h0 (by
    intro b hb υ hq
    have hlen := (hA.1.1.2.2.2.2.2.1 b hb).1
    have hwl := wA'_len hA.1.1.2.2.2.2.2.1 b (by omega)
    have hhl := wH_len (b := b) (W := wA' A.1 b)
    show ∃ υ', j_X10_written_12 _ _ _ = j_X10_written_12 _ _ _ ∧ QM σ0 υ' A (wB A.1 b (wA' A.1 b))
    rw [e_X10_written_12, if_neg (n6 hb), m_many hq.1.1.1 hb, g_b1, zs]
    unfold wB
    by_cases c : (sB A.1 b).length = 0
    · rw [if_pos c]
      exact ⟨υ, by rw [if_pos (by rw [c]; decide)], hq⟩
    · rw [if_neg c, if_neg (by rw [z0, z_eq ⟨by omega, by omega⟩ ⟨by omega, by omega⟩]; omega), hq.2.1]
      have hd : ∃ τ, (if nZ (wA' A.1 b).length ≤ 0 then
        gb_b0 (f_X10_writesNumber [gR 36 0, gI (nZ b)] υ) (fun s5 => j_X10_written_49 v (nZ b) 0 s5)
      else
        gb_b0 (f_X10_writesSign [gR 36 0, gI 59] υ) (fun s6 => gb_b0 (f_X10_writesNumber [gR 36 0, gI (nZ b)] s6) (fun s7 => j_X10_written_49 v (nZ b) 0 s7))) = j_X10_written_49 v (nZ b) 0 τ ∧ QM σ0 τ A (wH b (wA' A.1 b)) := by
        unfold wH
        by_cases c2 : (wA' A.1 b).length = 0
        · rw [if_pos c2]
          obtain ⟨τ1, a1, a2⟩ := q_number hq (by omega) (t := (b : Int)) (by omega)
          rw [wN_1 (by omega)] at a2
          exact ⟨τ1, by rw [if_pos (by rw [c2]; decide), a1, g_b0], a2⟩
        · rw [if_neg c2]
          obtain ⟨τ0, d1, d2⟩ := q_sign hq (by omega) (x := 59) (by omega)
          obtain ⟨τ1, a1, a2⟩ := q_number d2 (by simp; omega) (t := (b : Int)) (by omega)
          rw [wN_1 (by omega)] at a2
          have d1' : f_X10_writesSign [gR 36 0, gI 59] υ = some (none, τ0) := d1
          exact ⟨τ1, by rw [if_neg (by rw [z0, z_le ⟨by omega, by omega⟩ ⟨by omega, by omega⟩]; omega), d1', g_b0, a1, g_b0], a2⟩
      obtain ⟨τ, e1, e2⟩ := hd
      rw [e1]
      have e2' : QM σ0 τ A (wH b (wA' A.1 b) ++ wM (sB A.1 b) 0) := by
        show QM σ0 τ A (wH b (wA' A.1 b) ++ [])
        rw [List.append_nil]; exact e2
      obtain ⟨τ', h1, h2⟩ := lph (n := (sB A.1 b).length) (σ := τ) (fun i τ => j_X10_written_49 v (nZ b) (nZ i) τ) (fun i υ => QM σ0 υ A (wH b (wA' A.1 b) ++ wM (sB A.1 b) i)) e2' (by
        intro i hi υ hq
        have hml := wM_len (L := sB A.1 b) i
        show ∃ υ', j_X10_written_49 _ _ _ _ = j_X10_written_49 _ _ _ _ ∧ QM σ0 υ' A (wH b (wA' A.1 b) ++ (wM (sB A.1 b) i ++ [if i = 0 then 58 else 44] ++ wL (lz (sB A.1 b) i)))
        rw [e_X10_written_49, m_many hq.1.1.1 hb, g_b1, if_neg (by rw [z_le ⟨by omega, by omega⟩ ⟨by omega, by omega⟩]; omega), zs, ← List.append_assoc, ← List.append_assoc]
        by_cases c : i = 0
        · obtain ⟨υ1, a1, a2⟩ := q_sign hq (by rw [List.length_append]; omega) (x := 58) (by omega)
          have a1' : f_X10_writesSign [gR 36 0, gI 58] υ = some (none, υ1) := a1
          rw [if_pos (by rw [z0, z_eq ⟨by omega, by omega⟩ ⟨by omega, by omega⟩]; omega), if_pos c, a1', g_b0]
          exact q_layM hA hb hi a2 (by rw [List.length_append, List.length_append]; show _ + _ + 1 + 4 < 256; omega)
        · obtain ⟨υ1, a1, a2⟩ := q_sign hq (by rw [List.length_append]; omega) (x := 44) (by omega)
          have a1' : f_X10_writesSign [gR 36 0, gI 44] υ = some (none, υ1) := a1
          rw [if_neg (by rw [z0, z_eq ⟨by omega, by omega⟩ ⟨by omega, by omega⟩]; omega), if_neg c, a1', g_b0]
          exact q_layM hA hb hi a2 (by rw [List.length_append, List.length_append]; show _ + _ + 1 + 4 < 256; omega))
      have h1' : j_X10_written_49 v (nZ b) 0 τ = j_X10_written_49 v (nZ b) (nZ (sB A.1 b).length) τ' := h1
      exact ⟨τ', by rw [h1', e_X10_written_49, m_many h2.1.1.1 hb, g_b1, if_pos (Int32.le_refl _), zs], h2⟩)
theorem th_written {A : gb_Ab} (hA : wfA A) (a : Int32) : gb_T2 f_X9_written f_X10_written [gR 0 0, gI a] [gR 36 0, gI a] A := by
  have hx := nZ_rz a
  rw [nZ_of a]
  generalize a.toInt = y at hx
  have hl := wA'_len hA.1.1.2.2.2.2.2.1 6 (Nat.le_refl 6)
  have i0 : (0 : Int64).toInt = 0 := by decide
  generalize hW : wA' A.1 6 = W at hl
  refine T2_K (some (gI (if y = -1 then nZ W.length else if 0 ≤ y ∧ y < W.length then nZ (W.getD y.toNat 0) else -1))) A hA (fun σ hC => ?_) (fun σ hM => ?_)
  · obtain ⟨τ, a1, a2⟩ := q_write hA hC
    rw [hW] at a2
    refine ⟨τ, ?_, a2.1⟩
    rw [e_X9_written, a1, g_b0, a2.2.1]
    by_cases c : y = -1
    · rw [if_pos (by rw [zm1, z_eq hx ⟨by omega, by omega⟩]; exact c), if_pos c]
    rw [if_neg (by rw [zm1, z_eq hx ⟨by omega, by omega⟩]; exact c), if_neg c, e_X6_signAt, a2.2.1]
    by_cases c2 : 0 ≤ y ∧ y < W.length
    · rw [if_neg (by rw [z0, z_lt hx ⟨by omega, by omega⟩]; omega), if_neg (by rw [z_le ⟨by omega, by omega⟩ hx]; omega), z_tn (by omega), a2.2.2 _ (by omega), g_in (by omega), g_b1, if_pos c2]
    · rw [if_neg c2]
      by_cases c3 : y < 0
      · rw [if_pos (by rw [z0, z_lt hx ⟨by omega, by omega⟩]; omega), g_b1]
      · rw [if_neg (by rw [z0, z_lt hx ⟨by omega, by omega⟩]; omega), if_pos (by rw [z_le ⟨by omega, by omega⟩ hx]; omega), g_b1]
  · obtain ⟨τ, a1, a2⟩ := q_mod hA hM (nZ y)
    rw [hW] at a2
    refine ⟨τ, ?_, a2.1⟩
    rw [e_X10_written, a1, e_X10_written_12, if_pos y6, a2.2.1]
    by_cases c : y = -1
    · rw [if_pos (by rw [zm1, z_eq hx ⟨by omega, by omega⟩]; exact c), if_pos c]
    rw [if_neg (by rw [zm1, z_eq hx ⟨by omega, by omega⟩]; exact c), if_neg c]
    have el : (nZ W.length - 1).toInt64.toInt = (W.length : Int) - 1 := by rw [z1, z_sub, nz64 ⟨by omega, by omega⟩]
    by_cases c2 : 0 ≤ y ∧ y < W.length
    · rw [m_in_t hx (by rw [i0, el]; omega), g_b1, e10, if_pos c2, z_tn (by omega), a2.2.2 _ (by omega), g_in (by omega)]
    · rw [m_in_f hx (by rw [i0, el]; omega), g_b1, e00, if_neg c2]
