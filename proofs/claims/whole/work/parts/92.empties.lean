/-! EMPTIES -/
theorem m_empt {Ls : List gb_Ly} (hok : okLs Ls) {k : Nat} (hk : k < 6) {had : Int} (hh : 0 ≤ had ∧ had ≤ 2117016) : ∀ (ls : List gb_Ly) (d : Nat), ls.length < d → ∀ (st : gb_St) (way : List Nat) (m : Option (Int × List Nat)) (σ : gb_M), way.length ≤ Ls.length → Ls.drop way.length = ls → sB st k = Ls → gb_MM σ st → jB σ way m → mB m → ∃ σ', g_X10_emptiesFrom d [gR 36 0, gI (nZ k), gI (nZ way.length), gI (nZ had)] σ = some (none, σ') ∧ jB σ' way (me k had ls st way m) ∧ mB (me k had ls st way m) ∧ (∀ x, x < 176 → σ'.1 37 0 x = σ.1 37 0 x) ∧ (∀ x, x < 176 * way.length → σ'.1 51 0 x = σ.1 51 0 x) ∧ wX σ σ'
  | ls, 0, hd, _, _, _, _, _, _, _, _, _, _ => absurd hd (by omega)
  | [], d + 1, hd, st, way, m, σ, hwl, hdr, hBk, hM, hB, hm => by
    have h6 := hok.1
    have hn := drop_n hwl hdr
    have hmO := mO_r hM.2 k
    have hz : rZ (mO k st - had) := ⟨by omega, by omega⟩
    have better : ∃ τ, f_X10_findsRow [gR 36 0, gI (nZ way.length)] (gb_si (gb_si σ 36 0 32 1) 36 0 33 (nZ (mO k st - had))) = some (none, τ) ∧ jB τ way (some (mO k st - had, way)) ∧ gb_fX (fun k => k = 50) (fun x => x = 32 ∨ x = 33) σ τ := by
      obtain ⟨τ, a1, a2, a3⟩ := m_found (gb_si (gb_si σ 36 0 32 1) 36 0 33 (nZ (mO k st - had))) (way := way) (fun i hi => by rw [si_k (by omega), si_k (by omega)]; exact hB.1 i hi) (by omega)
      have fa : gb_fX (fun k => k = 50) (fun x => x = 32 ∨ x = 33) σ τ := fX_tr (fX_si (fX_si fX_rf (Or.inr ⟨rfl, Or.inl rfl⟩)) (Or.inr ⟨rfl, Or.inr rfl⟩)) (fX_w a3 (fun k h => h) (fun x h => h.elim))
      exact ⟨τ, a1, ⟨fun i hi => by rw [(fa.1 49 0 i (by omega) (by omega)).1]; exact hB.1 i hi, by rw [a3.2 32 (fun z => z), si_i (by omega), si_s], by rw [a3.2 33 (fun z => z), si_s], a2⟩, fa⟩
    have wd : ∀ τ, gb_fX (fun k => k = 50) (fun x => x = 32 ∨ x = 33) σ τ → (∀ x, x < 176 → τ.1 37 0 x = σ.1 37 0 x) ∧ (∀ x, x < 176 * way.length → τ.1 51 0 x = σ.1 51 0 x) ∧ wX σ τ := fun τ f => ⟨fun x _ => (f.1 37 0 x (by omega) (by omega)).1, fun x _ => (f.1 51 0 x (by omega) (by omega)).1, fX_w f (fun k hk => by omega) (fun x hx => by omega)⟩
    rw [e_X10_emptiesFrom, m_many hM hk, g_b1, hBk, if_pos (by rw [hn]), m_mixedOfOthers hM hk, g_b1, z_sub]
    cases m with
    | none =>
      have h32 : σ.1 36 0 32 = 0 := hB.2
      have e0 : me k had [] st way none = some (mO k st - had, way) := rfl
      obtain ⟨τ, b1, b2, b3⟩ := better
      rw [if_pos h32, b1, g_b0, e0]
      obtain ⟨w1, w2, w3⟩ := wd τ b3
      exact ⟨τ, rfl, b2, fun a ha => by cases ha; exact ⟨hz, by dsimp only; omega⟩, w1, w2, w3⟩
    | some a =>
      obtain ⟨h32, h33, h50⟩ := hB.2
      obtain ⟨ha1, ha2⟩ := hm a rfl
      have n32 : ¬ σ.1 36 0 32 = 0 := by rw [h32]; decide
      have e0 : me k had [] st way (some a) = if mO k st - had < a.1 then some (mO k st - had, way) else some a := rfl
      rw [if_neg n32, h33, e0]
      by_cases c : mO k st - had < a.1
      · obtain ⟨τ, b1, b2, b3⟩ := better
        rw [if_pos (by rw [z_lt hz ha1]; exact c), if_pos c, b1, g_b0]
        obtain ⟨w1, w2, w3⟩ := wd τ b3
        exact ⟨τ, rfl, b2, fun a ha => by cases ha; exact ⟨hz, by dsimp only; omega⟩, w1, w2, w3⟩
      · rw [if_neg (by rw [z_lt hz ha1]; exact c), if_neg c]
        exact ⟨σ, rfl, hB, hm, fun _ _ => rfl, fun _ _ => rfl, fX_rf⟩
  | l :: ls, d + 1, hd, st, way, m, σ, hwl, hdr, hBk, hM, hB, hm => by
    have h6 := hok.1
    obtain ⟨k1, k2, k3, k4⟩ := drop_c hdr
    have hl := hok.2 l k4
    have em : me k had (l :: ls) st way m = it 6 m (fun b a => if mlb k st b l = true then me k had ls (lyS st b l) (way ++ [b]) a else a) := rfl
    rw [em, e_X10_emptiesFrom, m_many hM hk, g_b1, hBk, if_neg (by rw [z_eq ⟨by omega, by omega⟩ ⟨by omega, by omega⟩]; omega)]
    generalize hF : (fun (b : Nat) (a : Option (Int × List Nat)) => if mlb k st b l = true then me k had ls (lyS st b l) (way ++ [b]) a else a) = F
    obtain ⟨τ1, l1, l2, l3, l4⟩ := m_laysDown σ (k := way.length) (by omega)
    have f1 : gb_fX (fun k => k = 51) (fun _ => False) σ τ1 := fP_fX0 l2 (fun k _ h => h) (by omega)
    obtain ⟨τ, h1, h2, h4, h5, h7, h8, h9⟩ := lph (n := 6) (σ := τ1) (fun i τ => j_X10_emptiesFrom_60 (g_X10_emptiesFrom d) (nZ k) (nZ way.length) (nZ had) (nZ i) τ) (fun i τ => jB τ way (it i m F) ∧ mB (it i m F) ∧ (∀ x, x < 176 → τ.1 37 0 x = σ.1 37 0 x) ∧ (∀ x, x < 176 → τ.1 51 0 (176 * way.length + x) = σ.1 37 0 x) ∧ (∀ x, x < 176 * way.length → τ.1 51 0 x = σ.1 51 0 x) ∧ wX σ τ) ⟨jB_fX f1 ⟨by omega, by omega⟩ ⟨fun z => z, fun z => z⟩ hB, hm, fun x hx => by rw [l2.1 37 0 x (by omega)], fun x hx => by rw [l3 x hx], fun x hx => by rw [l4 x (Or.inl hx)], fX_w f1 (fun k hk => by omega) (fun x hx => hx.elim)⟩ (by
      intro b hb τ ⟨h2, h4, h5, h7, h8, h9⟩
      show ∃ τ', _ = _ ∧ jB τ' way (F b (it b m F)) ∧ mB (F b (it b m F)) ∧ (∀ x, x < 176 → τ'.1 37 0 x = σ.1 37 0 x) ∧ (∀ x, x < 176 → τ'.1 51 0 (176 * way.length + x) = σ.1 37 0 x) ∧ (∀ x, x < 176 * way.length → τ'.1 51 0 x = σ.1 51 0 x) ∧ wX σ τ'
      generalize it b m F = a at h2 h4 ⊢
      have hMt : gb_MM τ st := ⟨RM_cg hM.1 hM.2.2.2.2.2.2.1 (fun x hx => by rw [Nat.zero_add]; exact h5 x hx), hM.2⟩
      have hw := m_why hMt hb (g := l.1) (t := l.2.1) (d := l.2.2) hl.1 (by have := hl.2.1; have := hl.2.2.1; omega) ⟨hl.2.2.2.1, hl.2.2.2.2⟩
      have hwr := sWhy_r (s := st) (b := b) (g := l.1) (t := l.2.1) (d := l.2.2)
      have ki : way.length < (sB st k).length := by rw [hBk]; exact k1
      have eF : F b a = if mlb k st b l = true then me k had ls (lyS st b l) (way ++ [b]) a else a := by rw [← hF]
      rw [eF]
      have ll : ∀ (υ : gb_M), gb_MM υ st → f_X10_layerOf [gR 36 0, gI (nZ k), gI (nZ way.length), gI 0] υ = some (some (gI (nZ l.1)), υ) ∧ f_X10_layerOf [gR 36 0, gI (nZ k), gI (nZ way.length), gI 1] υ = some (some (gI (nZ l.2.1)), υ) ∧ f_X10_layerOf [gR 36 0, gI (nZ k), gI (nZ way.length), gI 2] υ = some (some (gI (nZ l.2.2)), υ) := by
        intro υ hu
        have q1 := m_L0 hu hk ki
        have q2 := m_L1 hu hk ki
        have q3 := m_L2 hu hk ki
        rw [hBk, k2] at q1 q2 q3
        exact ⟨q1, q2, q3⟩
      obtain ⟨p1, p2, p3⟩ := ll τ hMt
      by_cases cb : b = k
      · have c2 : ¬ mlb k st b l = true := fun z => (mlb_t z).1 (by rw [cb])
        rw [if_neg c2]
        refine ⟨τ, ?_, h2, h4, h5, h7, h8, h9⟩
        rw [e_X10_emptiesFrom_60, if_neg (n6 hb), if_pos (by rw [cb]), zs]
      have ncb : ¬ nZ b = nZ k := by rw [z_eq ⟨by omega, by omega⟩ ⟨by omega, by omega⟩]; omega
      have hmw : mlb k st b l = true ↔ sWhy st b l.1 l.2.1 l.2.2 = 0 := ⟨fun h => (mlb_t h).2, fun h => decide_eq_true ⟨by omega, h⟩⟩
      by_cases c2 : mlb k st b l = true
      · have w0 := hmw.mp c2
        rw [if_pos c2]
        have hlen : (way ++ [b]).length = way.length + 1 := by simp
        obtain ⟨-, hT, hroom⟩ := IV_lay hM.2 hb hl.1 hl.2.1 ⟨hl.2.2.2.1, hl.2.2.2.2⟩ w0
        have fa : gb_fP (fun k => k = 49) τ (gb_si τ 49 0 way.length (nZ b)) := fP_si fP_rf rfl
        have hMa := fP_MM fa (by omega) hMt
        obtain ⟨r1, r2, r3⟩ := ll _ hMa
        obtain ⟨τ2, u1, u2, u3, -⟩ := m_lies hMa hb (g := l.1) (t := l.2.1) (d := l.2.2) hl.1 hl.2.1 hT ⟨hl.2.2.2.1, hl.2.2.2.2⟩ hroom
        have f2 : gb_fX (fun k => k = 37) (fun _ => False) (gb_si τ 49 0 way.length (nZ b)) τ2 := fP_fX0 u3 (fun k _ h => h) (by omega)
        have f2' : wX τ τ2 := fX_tr (fX_si fX_rf (Or.inl ⟨by omega, by omega⟩)) (fX_w f2 (fun k hk => by omega) (fun x hx => hx.elim))
        obtain ⟨τ3, v1, v2, v4, v5, v6, v7⟩ := m_empt hok hk hh ls d (by simp at hd; omega) (lyS st b l) (way ++ [b]) a τ2 (by omega) (by rw [hlen]; exact k3) (by rw [show sB (lyS st b l) k = sB st k from sB_n (fun z => cb z.symm)]; exact hBk) u2 (jB_fX f2 ⟨by omega, by omega⟩ ⟨fun z => z, fun z => z⟩ (jB_way h2)) h4
        rw [hlen] at v1 v6
        obtain ⟨τ4, w1, w2, w3⟩ := m_takesUp τ3 (k := way.length) (by omega)
        have f4 : gb_fX (fun k => k = 37) (fun _ => False) τ3 τ4 := fP_fX0 w2 (fun k _ h => h) (by omega)
        have e51 : ∀ x, τ2.1 51 0 x = τ.1 51 0 x := fun x => by rw [(f2.1 51 0 x (by omega) (by omega)).1, si_k (by omega)]
        refine ⟨τ4, ?_, jB_fX f4 ⟨by omega, by omega⟩ ⟨fun z => z, fun z => z⟩ (jB_unway v2), v4, fun x hx => ?_, fun x hx => ?_, fun x hx => ?_, fX_tr h9 (fX_tr f2' (fX_tr v7 (fX_w f4 (fun k hk => Or.inl hk) (fun x hx => hx.elim))))⟩
        · rw [e_X10_emptiesFrom_60, if_neg (n6 hb), if_neg ncb, p1, g_b1, p2, g_b1, p3, g_b1, hw, g_b1, w0, if_pos (show nZ 0 = 0 from rfl), z_tn (by omega), Int.toNat_natCast, r1, g_b1, r2, g_b1, r3, g_b1, u1, g_b0, zs, v1, g_b0, w1, g_b0, g_in (by omega), zs]
        · rw [w3 x hx, v6 _ (by omega), e51]; exact h7 x hx
        · rw [w2.1 51 0 _ (by omega), v6 _ (by omega), e51]; exact h7 x hx
        · rw [w2.1 51 0 _ (by omega), v6 _ (by omega), e51]; exact h8 x hx
      · have w0 : ¬ sWhy st b l.1 l.2.1 l.2.2 = 0 := fun z => c2 (hmw.mpr z)
        rw [if_neg c2]
        refine ⟨τ, ?_, h2, h4, h5, h7, h8, h9⟩
        rw [e_X10_emptiesFrom_60, if_neg (n6 hb), if_neg ncb, p1, g_b1, p2, g_b1, p3, g_b1, hw, g_b1, if_neg (by rw [z0, z_eq ⟨by omega, by omega⟩ ⟨by omega, by omega⟩]; exact w0), zs])
    refine ⟨τ, ?_, h2, h4, h5, h8, h9⟩
    have h1' : j_X10_emptiesFrom_60 (g_X10_emptiesFrom d) (nZ k) (nZ way.length) (nZ had) 0 τ1 = j_X10_emptiesFrom_60 (g_X10_emptiesFrom d) (nZ k) (nZ way.length) (nZ had) (nZ (6 : Nat)) τ := h1
    rw [l1, g_b0, h1', e_X10_emptiesFrom_60, if_pos y6]
theorem th_empties {A : gb_Ab} (hA : wfA A) (a : Int32) : gb_T2 f_X9_empties f_X10_empties [gR 0 0, gI a] [gR 36 0, gI a] A := by
  have hx := nZ_rz a
  rw [nZ_of a]
  generalize a.toInt = x at hx
  have hI := hA.1.1
  by_cases h1 : 0 ≤ x ∧ x < 6
  rotate_left
  · refine T2_same hA (some (gI (-1))) (fun σ hC => ?_) (fun σ hM => ?_)
    · rw [e_X9_empties, cb_f hx h1, g_b1, e00]
    · rw [e_X10_empties, mb_f hx h1, g_b1, e00]
  obtain ⟨b, rfl⟩ : ∃ b : Nat, x = b := ⟨x.toNat, by omega⟩
  have hb : b < 6 := by omega
  by_cases h3 : sY A.1 < sP A.1 b
  · refine T2_same hA (some (gI (-2))) (fun σ hC => ?_) (fun σ hM => ?_)
    · rw [e_X9_empties, cb_t hb, g_b1, e10, p_closed_t hC.1 hb h3, g_b1, e10]
    · rw [e_X10_empties, mb_t hb, g_b1, e10, m_closed_t (MC_t hM).1.1 hb h3, g_b1, show nZ 1 = 1 from rfl, e10]
  have hlen := (hI.2.2.2.2.2.1 b hb).1
  have hLs : okLs (sB A.1 b) := ⟨hlen, (hI.2.2.2.2.2.1 b hb).2.2⟩
  have hmO := mO_r hI b
  have hrel : REw (lcA b A.1 (sB A.1 b)) (me b (mO b A.1) (sB A.1 b) A.1 [] none) := me_rel (sB A.1 b) A.1 [] 0 _ none hI hLs.2 (by omega) (by omega) (by omega) rfl
  have cbeg : ∀ σ, KC σ σ A → ∃ τ, KC σ τ A ∧ ldC τ (sB A.1 b) ∧ (∀ i, i < (lcA b A.1 (sB A.1 b)).2.length → τ.1 29 0 i = nZ (wz (lcA b A.1 (sB A.1 b)).2 i)) ∧ f_X9_empties [gR 0 0, gI (nZ b)] σ = (if 0 ≤ (if 1000000000 ≤ (lcA b A.1 (sB A.1 b)).1 then (-1 : Int32) else nZ (lcA b A.1 (sB A.1 b)).1) then gb_b0 (f_X4_start [gR 21 0] τ) (fun s8 => j_X9_empties_64 (if 1000000000 ≤ (lcA b A.1 (sB A.1 b)).1 then (-1 : Int32) else nZ (lcA b A.1 (sB A.1 b)).1) 0 s8) else some (some (gI (-3)), τ)) := by
    intro σ hC
    obtain ⟨τ2, b1, b2, b3⟩ := p_takeLayers hC.1.1 hb
    have c2 : KC σ τ2 A := KC_fP hC b3 (fun k hk z => by omega) (fun k z => by omega)
    obtain ⟨τ3, d1, d2, d3, d4, d5⟩ := p_leastGrowth c2 hLs b2 (skip := (b : Int)) (by omega)
    refine ⟨τ3, d4, ldC_yF d5 b2, d2, ?_⟩
    rw [e_X9_empties, cb_t hb, g_b1, e10, p_closed_f hC.1.1 hb h3, g_b1, e00, b1, g_b0, d1, g_b1]
  have mbeg : ∀ σ, KM σ (gb_si σ 36 0 10 0) A → ∃ τ, KM σ τ A ∧ jB τ [] (me b (mO b A.1) (sB A.1 b) A.1 [] none) ∧ f_X10_empties [gR 36 0, gI (nZ b)] σ = (if τ.1 36 0 32 = 0 then some (some (gI (-3)), τ) else j_X10_empties_58 (nZ b) 0 (gb_si τ 36 0 9 0)) := by
    intro σ hM
    have f0 : gb_fX (fun _ => False) (fun x => x = 32) (gb_si σ 36 0 10 0) (gb_si (gb_si σ 36 0 10 0) 36 0 32 0) := fX_si fX_rf (Or.inr ⟨rfl, rfl⟩)
    have hM0 : gb_MM (gb_si (gb_si σ 36 0 10 0) 36 0 32 0) A.1 := MM_fX f0 (fun z => z) hM.1.1
    obtain ⟨τ', a1, a2, a3, a4, a5, a6⟩ := m_empt hLs hb hmO (sB A.1 b) 8 (by omega) A.1 [] none _ (by simp) rfl rfl hM0 ⟨fun i hi => (by cases hi), si_s⟩ (fun a ha => by cases ha)
    have a1' : f_X10_emptiesFrom [gR 36 0, gI (nZ b), gI 0, gI (nZ (mO b A.1))] (gb_si (gb_si σ 36 0 10 0) 36 0 32 0) = some (none, τ') := (gb_hide_at _ _ _).trans a1
    have fa : wX (gb_si σ 36 0 10 0) τ' := fX_tr (fX_w f0 (fun k z => z.elim) (fun x hx => by omega)) a6
    refine ⟨τ', KM_back hM fa ⟨by omega, by omega, by omega, by omega⟩ ⟨by omega, by omega, by omega, by omega⟩ (fun k hk => by omega) ⟨RM_cg hM0.1 hI.2.2.2.2.2.1 (fun x hx => by rw [Nat.zero_add]; exact a4 x hx), hM0.2⟩, a2, ?_⟩
    rw [e_X10_empties, mb_t hb, g_b1, e10, m_closed_f hM.1.1 hb h3, g_b1, if_pos (show nZ 0 = 0 from rfl), m_mixedOfOthers hM0 hb, g_b1, a1', g_b0]
  have hll := lcA_len (skip := (b : Int)) (s := A.1) (Ls := sB A.1 b)
  generalize lcA b A.1 (sB A.1 b) = a at hrel cbeg hll
  generalize me b (mO b A.1) (sB A.1 b) A.1 [] none = m at hrel mbeg
  cases m with
  | none =>
    have h9 : a.1 = 1000000000 := hrel
    refine T2_K (some (gI (-3))) A hA (fun σ hC => ?_) (fun σ hM => ?_)
    · obtain ⟨τ, k1, k2, k3, k5⟩ := cbeg σ hC
      refine ⟨τ, ?_, k1⟩
      rw [k5, if_pos (show 1000000000 ≤ a.1 by omega), if_neg (by decide)]
    · obtain ⟨τ, k1, k2, k4⟩ := mbeg σ hM
      refine ⟨τ, ?_, k1⟩
      rw [k4, if_pos k2.2]
  | some x =>
    obtain ⟨r1, r3, r4⟩ := hrel
    subst r1
    have hl : a.2.length = (sB A.1 b).length := by
      rcases hll with h | h
      · omega
      · exact h
    refine T2_K (some (gI (nZ a.1))) (setR A (rowOf (sB A.1 b).length (fun i => (nZ (wz a.2 i)).toInt64))) (wf_setR hA) (fun σ hC => ?_) (fun σ hM => ?_)
    · obtain ⟨τ, k1, k2, k3, k5⟩ := cbeg σ hC
      rw [if_neg (show ¬ 1000000000 ≤ a.1 by omega)] at k5
      obtain ⟨τ1, b1, b2, b3⟩ := kc_startx k1
      obtain ⟨τ3, d1, d2, d3⟩ := kc_bins b2 (n := (sB A.1 b).length) hlen (w := a.2) (kd := 29) (by omega) (fun i τ => j_X9_empties_64 (nZ a.1) (nZ i) τ) (fun i hi => by rw [b3.1 29 0 i (by omega)]; exact k3 i (by omega)) (fun i hi τ' τ'' f h29 hadd => by
        have e3 : τ'.1 23 0 3 = nZ (sB A.1 b).length := by rw [f.1 23 0 3 (by omega), b3.1 23 0 3 (by omega)]; exact k2.1
        show j_X9_empties_64 _ _ _ = j_X9_empties_64 _ _ _
        rw [e_X9_empties_64, e3, if_neg (by rw [z_le ⟨by omega, by omega⟩ ⟨by omega, by omega⟩]; omega), z_tn (by omega), Int.toNat_natCast, g_in (by omega), h29, hadd, g_b0, zs])
      refine ⟨τ3, ?_, d2⟩
      have e3 : τ3.1 23 0 3 = nZ (sB A.1 b).length := by rw [d3.1 23 0 3 (by omega), b3.1 23 0 3 (by omega)]; exact k2.1
      have d1' : j_X9_empties_64 (nZ a.1) 0 τ1 = j_X9_empties_64 (nZ a.1) (nZ (sB A.1 b).length) τ3 := d1
      rw [k5, if_pos (by rw [z0, z_le ⟨by omega, by omega⟩ ⟨by omega, by omega⟩]; omega), b1, g_b0, d1', e_X9_empties_64, e3, if_pos (Int32.le_refl _)]
    · obtain ⟨τ, k1, k2, k4⟩ := mbeg σ hM
      obtain ⟨k32, k33, k50⟩ := k2.2
      have n32 : ¬ τ.1 36 0 32 = 0 := by rw [k32]; decide
      have b2 := km_start k1
      have jm : ∀ (τ' : gb_M), gb_MM τ' A.1 → f_X10_many [gR 36 0, gI (nZ b)] τ' = some (some (gI (nZ (sB A.1 b).length)), τ') := fun τ' h => m_many h hb
      obtain ⟨τ3, d1, d2, d3⟩ := km_bins b2 (n := (sB A.1 b).length) hlen (w := a.2) (fun i τ => j_X10_empties_58 (nZ b) (nZ i) τ) (fun i hi => by rw [si_k (by omega)]; exact k50 i (by omega)) (fun i hi τ' τ'' f h50 hadd => by
        show j_X10_empties_58 _ _ _ = j_X10_empties_58 _ _ _
        rw [e_X10_empties_58, jm τ' (MM_fX f (by omega) b2.1.1), g_b1, if_neg (by rw [z_le ⟨by omega, by omega⟩ ⟨by omega, by omega⟩]; omega), z_tn (by omega), Int.toNat_natCast, g_in (by omega), h50, hadd, g_b0, zs])
      refine ⟨τ3, ?_, d2⟩
      have e33 : τ3.1 36 0 33 = nZ a.1 := by rw [d3.2 33 (by omega), si_i (by omega)]; exact k33
      have d1' : j_X10_empties_58 (nZ b) 0 (gb_si τ 36 0 9 0) = j_X10_empties_58 (nZ b) (nZ (sB A.1 b).length) τ3 := d1
      rw [k4, if_neg n32, d1', e_X10_empties_58, jm τ3 d2.1.1, g_b1, if_pos (Int32.le_refl _), e33]
