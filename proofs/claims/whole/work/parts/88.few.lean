/-! LAYING: the fewest bins, the class -/
def oE (a : Option Nat) : Int := match a with
  | none => -1
  | some v => v
def oR (a : Option Nat) : Prop := ∀ v, a = some v → v < 64
theorem pc_r (x : Nat) : pc x ≤ 6 := by
  unfold pc
  omega
theorem p_isFewer {σ : gb_M} {a : Option Nat} (ha : oR a) (h : σ.1 27 0 6 = nZ (oE a)) {u : Nat} (hu : u < 64) : f_X1_isFewer [gR 27 0, gI (nZ u)] σ = some (some (gI (if fwr u a = true then 1 else 0)), σ) := by
  rw [e_X1_isFewer, h]
  cases a with
  | none =>
    rw [if_neg (show ¬ (0 : Int32) ≤ nZ (oE none) by decide)]
    rfl
  | some v =>
    have hv := ha v rfl
    have h1 := pc_r u
    have h2 := pc_r v
    have ef : fwr u (some v) = decide (pc u < pc v ∨ (pc u = pc v ∧ u < v)) := rfl
    have eo : oE (some v) = (v : Int) := rfl
    rw [eo, if_pos (by rw [z0, z_le ⟨by omega, by omega⟩ ⟨by omega, by omega⟩]; omega), p_bit σ hu, g_b1, h, eo, p_bit σ hv, g_b1, z_sub, ef, h, eo]
    by_cases c1 : pc u < pc v
    · rw [if_pos (by rw [z0, z_lt ⟨by omega, by omega⟩ ⟨by omega, by omega⟩]; omega), if_pos (decide_eq_true (Or.inl c1))]
    · rw [if_neg (by rw [z0, z_lt ⟨by omega, by omega⟩ ⟨by omega, by omega⟩]; omega)]
      by_cases c2 : pc u = pc v
      · rw [if_pos (by rw [z0, z_eq ⟨by omega, by omega⟩ ⟨by omega, by omega⟩]; omega)]
        by_cases c3 : u < v
        · rw [if_neg (by rw [z_le ⟨by omega, by omega⟩ ⟨by omega, by omega⟩]; omega), if_pos (decide_eq_true (Or.inr ⟨c2, c3⟩))]
        · rw [if_pos (by rw [z_le ⟨by omega, by omega⟩ ⟨by omega, by omega⟩]; omega), if_neg (fun z => by have := of_decide_eq_true z; omega)]
      · rw [if_neg (by rw [z0, z_eq ⟨by omega, by omega⟩ ⟨by omega, by omega⟩]; omega), if_neg (fun z => by have := of_decide_eq_true z; omega)]
theorem p_lf {Ls : List gb_Ly} (hok : okLs Ls) : ∀ (ls : List gb_Ly) (d : Nat), ls.length < d → ∀ (st : gb_St) (k u : Nat) (acc : Option Nat) (σ : gb_M), k ≤ Ls.length → Ls.drop k = ls → u < 64 → oR acc → gb_SC σ 10 st → ldC σ Ls → σ.1 27 0 4 = nZ (-1) → σ.1 27 0 6 = nZ (oE acc) → ∃ σ', g_X1_layFewest d [gR 27 0, gI (nZ k), gI (nZ u)] σ = some (none, σ') ∧ gb_SC σ' 10 st ∧ σ'.1 27 0 6 = nZ (oE (lf ls st u acc)) ∧ σ'.1 27 0 4 = nZ (-1) ∧ oR (lf ls st u acc) ∧ yF σ σ'
  | ls, 0, hd, _, _, _, _, _, _, _, _, _, _, _, _, _ => absurd hd (by omega)
  | ls, d + 1, hd, st, k, u, acc, σ, hwl, hdr, hu, ha, hC, hL, hsk, hj => by
    have h6 := hok.1
    rw [e_X1_layFewest, p_isFewer ha hj hu, g_b1]
    by_cases c : fwr u acc = true
    rotate_left
    · have e0 : lf ls st u acc = acc := by cases ls <;> exact if_neg c
      rw [e0, if_neg c, e00]
      exact ⟨σ, rfl, hC, hj, hsk, ha, yF_rf⟩
    rw [if_pos c, e10, hL.1, if_pos (by rw [z_le ⟨by omega, by omega⟩ ⟨by omega, by omega⟩]; omega)]
    cases ls with
    | nil =>
      have hn := drop_n hwl hdr
      have e0 : lf [] st u acc = some u := if_pos c
      rw [e0, if_pos (by rw [hn])]
      exact ⟨_, rfl, SC_fP (P := fun k => k = 27) (fP_si fP_rf rfl) (fun k _ _ => by omega) hC, si_s, by rw [si_i (by omega)]; exact hsk, fun v hv => by cases hv; exact hu, yF_si yF_rf (by omega)⟩
    | cons l ls =>
      obtain ⟨k1, k2, k3, k4⟩ := drop_c hdr
      have hl := hok.2 l k4
      have e0 : lf (l :: ls) st u acc = it 6 acc (fun b a => if mlb (-1) st b l = true then lf ls (lyS st b l) (orb u b) a else a) := if_pos c
      rw [e0, if_neg (by rw [z_eq ⟨by omega, by omega⟩ ⟨by omega, by omega⟩]; omega)]
      generalize hF : (fun (b : Nat) (a : Option Nat) => if mlb (-1) st b l = true then lf ls (lyS st b l) (orb u b) a else a) = F
      obtain ⟨τ, h1, h2, h3, h4, h5, h6'⟩ := lph (n := 6) (σ := σ) (fun i τ => j_X1_layFewest_39 (g_X1_layFewest d) (nZ k) (nZ u) (nZ i) τ) (fun i τ => gb_SC τ 10 st ∧ τ.1 27 0 6 = nZ (oE (it i acc F)) ∧ τ.1 27 0 4 = nZ (-1) ∧ oR (it i acc F) ∧ yF σ τ) ⟨hC, hj, hsk, ha, yF_rf⟩ (by
        intro b hb τ ⟨h2, h3, h4, h5, h6'⟩
        show ∃ τ', _ = _ ∧ gb_SC τ' 10 st ∧ τ'.1 27 0 6 = nZ (oE (F b (it b acc F))) ∧ τ'.1 27 0 4 = nZ (-1) ∧ oR (F b (it b acc F)) ∧ yF σ τ'
        generalize it b acc F = a at h3 h5 ⊢
        have hLt := ldC_yF h6' hL
        have eF : F b a = if mlb (-1) st b l = true then lf ls (lyS st b l) (orb u b) a else a := by rw [← hF]
        rw [eF]
        have hm := p_mayLie h2 hLt hok h4 (by omega) hb k1
        rw [k2] at hm
        by_cases c2 : mlb (-1) st b l = true
        · rw [if_pos c2]
          obtain ⟨o1, o2, o3, o4⟩ := orb_r hu hb
          obtain ⟨τ2, u1, u2, u3⟩ := p_layX (skip := -1) h2 hLt hok hb k1 (by rw [k2]; exact c2)
          rw [k2] at u2
          have f2 : yF τ τ2 := yF_tr (yF_si yF_rf (by omega)) (yF_S u3)
          obtain ⟨τ3, v1, v2, v3, v4, v5, v6⟩ := p_lf hok ls d (by simp at hd; omega) (lyS st b l) (k + 1) (orb u b) a τ2 (by omega) k3 o1 h5 u2 (ldC_yF f2 hLt) (by rw [u3.1 27 0 4 (by omega), si_k (by omega)]; exact h4) (by rw [u3.1 27 0 6 (by omega), si_k (by omega)]; exact h3)
          obtain ⟨τ4, w1, w2, w3⟩ := p_unlay h2.2.2 hb hl v2
          refine ⟨τ4, ?_, w2, by rw [w3.1 27 0 6 (by omega)]; exact v3, by rw [w3.1 27 0 4 (by omega)]; exact v4, v5, yF_tr h6' (yF_tr f2 (yF_tr v6 (yF_S w3)))⟩
          obtain ⟨q1, q2, q3⟩ := hLt.2 k k1
          rw [k2] at q1 q2 q3
          have q2' : τ3.1 25 0 k = nZ l.2.1 := by rw [(yF_tr f2 v6).1 25 0 _ (by omega) (by omega)]; exact q2
          rw [e_X1_layFewest_39, if_neg (n6 hb), hm.1 c2, g_b1, e10, u1, g_b0, zs, o4, v1, g_b0, z_tn (by omega), Int.toNat_natCast, q2', w1, g_b0, g_in (by omega), zs]
        · rw [if_neg c2]
          refine ⟨τ, ?_, h2, h3, h4, h5, h6'⟩
          rw [e_X1_layFewest_39, if_neg (n6 hb), hm.2 c2, g_b1, e00, zs])
      refine ⟨τ, ?_, h2, h3, h4, h5, h6'⟩
      have h1' : j_X1_layFewest_39 (g_X1_layFewest d) (nZ k) (nZ u) 0 σ = j_X1_layFewest_39 (g_X1_layFewest d) (nZ k) (nZ u) (nZ (6 : Nat)) τ := h1
      rw [h1', e_X1_layFewest_39, if_pos y6]
def fmA (s : gb_St) (Ls : List gb_Ly) : Option Nat := fm Ls s 0 none
theorem p_fewestBins {σ0 σ : gb_M} {A : gb_Ab} (h : KC σ0 σ A) {Ls : List gb_Ly} (hok : okLs Ls) (hL : ldC σ Ls) : ∃ σ', f_X1_fewestBins [gR 27 0, gR 10 0] σ = some (some (gI (nZ (oE (fmA A.1 Ls)))), σ') ∧ oR (fmA A.1 Ls) ∧ KC σ0 σ' A := by
  obtain ⟨τ1, a1, a2, a3⟩ := p_copy (σ := σ) (j := 10) (j1 := 0) h.1.1 (by omega)
  generalize hs2 : gb_si (gb_si τ1 27 0 4 (nZ (-1))) 27 0 6 (nZ (-1)) = τ2
  have fs : gb_fP (fun k => k = 27) τ1 τ2 := by rw [← hs2]; exact fP_si (fP_si fP_rf rfl) rfl
  have f2 : yF σ τ2 := by rw [← hs2]; exact yF_si (yF_si (yF_S a3) (by omega)) (by omega)
  have hC2 : gb_SC τ2 10 A.1 := SC_fP fs (fun k _ _ => by omega) a2
  have e4 : τ2.1 27 0 4 = nZ (-1) := by rw [← hs2, si_i (by omega), si_s]
  have e6 : τ2.1 27 0 6 = nZ (oE none) := by rw [← hs2, si_s]; rfl
  have beg : f_X1_fewestBins [gR 27 0, gR 10 0] σ = gb_b1 (f_X1_mightLie [gR 27 0] τ2) (fun x3 s2 => if x3 = 0 then
    some (some (gI (s2.1 27 0 6)), s2)
  else
    gb_b0 (f_X1_layFewest [gR 27 0, gI 0, gI 0] s2) (fun s4 => some (some (gI (s4.1 27 0 6)), s4))) := by
    rw [e_X1_fewestBins, e_X1_start, a1, g_b0, g_b0, nZm1, hs2]
  rcases p_might hC2 (ldC_yF f2 hL) hok e4 (by omega) with hm | ⟨hm, hbad⟩
  · obtain ⟨τ3, b1, b2, b3, b4, b5, b6⟩ := p_lf hok Ls 8 (by have := hok.1; omega) A.1 0 0 none τ2 (by omega) rfl (by omega) (fun v hv => by cases hv) hC2 (ldC_yF f2 hL) e4 e6
    rw [lf_fm Ls A.1 0 none (by omega)] at b3 b5
    have b1' : f_X1_layFewest [gR 27 0, gI 0, gI 0] τ2 = some (none, τ3) := (gb_hide_at _ _ _).trans b1
    refine ⟨τ3, ?_, b5, KC_yF h (yF_tr f2 b6)⟩
    rw [beg, hm, g_b1, e10, b1', g_b0, b3]
    rfl
  · have e0 : fmA A.1 Ls = none := fm_bad Ls A.1 0 none hok.2 hbad
    refine ⟨τ2, ?_, by rw [e0]; exact fun v hv => (by cases hv), KC_yF h f2⟩
    rw [beg, hm, g_b1, e00, e6, e0]
