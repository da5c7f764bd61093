/-! SERVE, PICK: by the reference -/
def gJ (s : gb_St) (G : Nat → Int) : gb_St := (s.1, fun b => tk (s.2 b) (G b))
theorem gJ_upd {s : gb_St} {G : Nat → Int} {b : Nat} {t : Int} (hok : ∀ l ∈ sB s b, okL l) (hG : 0 ≤ G b) (ht : 0 ≤ t) : setB (gJ s G) b (tk (sB (gJ s G) b) t) = gJ s (updG G b t) := by
  refine Prod.ext rfl (funext fun k => ?_)
  show (if k = b then tk (tk (sB s b) (G b)) t else tk (s.2 k) (G k)) = tk (s.2 k) (updG G b t k)
  unfold updG
  by_cases e : k = b
  · subst e
    rw [if_pos rfl, if_pos rfl, tk_tk hok hG ht]
    rfl
  · rw [if_neg e, if_neg e]
theorem gJ_0 {s : gb_St} (il : iL s) {G : Nat → Int} (h : ∀ b, G b = 0) : ∀ b, b < 6 → sB (gJ s G) b = sB s b := fun b hb => by
  show tk (s.2 b) (G b) = s.2 b
  rw [h b]
  exact tk_0 (il b hb).2.2 (Int.le_refl 0)
abbrev mX : gb_M → gb_M → Prop := gb_fX (fun k => k = 37 ∨ (43 ≤ k ∧ k ≤ 45) ∨ k = 49 ∨ k = 50 ∨ k = 51) (fun x => x = 14 ∨ x = 15 ∨ x = 29)
def jM (σ : gb_M) (way : List Nat) (m : Int) (best : List Nat) : Prop := σ.1 36 0 29 = nZ m ∧ (∀ i, i < way.length → σ.1 49 0 i = nZ (wz way i)) ∧ ∀ i, i < best.length → σ.1 50 0 i = nZ (wz best i)
theorem jM_fX {Q I : Nat → Prop} {σ σ' : gb_M} {way best : List Nat} {m : Int} (f : gb_fX Q I σ σ') (hq : ¬ Q 49 ∧ ¬ Q 50) (hi : ¬ I 29) (h : jM σ way m best) : jM σ' way m best := ⟨by rw [f.2 29 hi]; exact h.1, fun i hx => by rw [(f.1 49 0 i (by omega) hq.1).1]; exact h.2.1 i hx, fun i hx => by rw [(f.1 50 0 i (by omega) hq.2).1]; exact h.2.2 i hx⟩
theorem ordM_fX {Q I : Nat → Prop} {σ σ' : gb_M} {O : List (Nat × Int)} (f : gb_fX Q I σ σ') (hq : ¬ Q 47 ∧ ¬ Q 48) (hi : ¬ I 25) (h : ordM σ O) : ordM σ' O := ⟨by rw [f.2 25 hi]; exact h.1, fun i hx => by rw [(f.1 47 0 i (by omega) hq.1).1, (f.1 48 0 i (by omega) hq.2).1]; exact h.2 i hx⟩
theorem jM_way {σ : gb_M} {way : List Nat} {m : Int} {best : List Nat} {b : Nat} (h : jM σ way m best) : jM (gb_si σ 49 0 way.length (nZ b)) (way ++ [b]) m best := by
  obtain ⟨i1, i2, i3⟩ := h
  refine ⟨by rw [si_k (by omega)]; exact i1, fun i hi => ?_, fun i hi => by rw [si_k (by omega)]; exact i3 i hi⟩
  rw [List.length_append] at hi
  have hi : i < way.length + 1 := hi
  by_cases e : i = way.length
  · subst e; rw [si_s, wz_2]
  · rw [si_i e, wz_1 (by omega)]; exact i2 i (by omega)
theorem jM_unway {σ : gb_M} {way : List Nat} {m : Int} {best : List Nat} {b : Nat} (h : jM σ (way ++ [b]) m best) : jM σ way m best :=
  ⟨h.1, fun i hi => by rw [h.2.1 i (by rw [List.length_append]; omega), wz_1 hi], h.2.2⟩
theorem m_findsRow (σ : gb_M) {n : Nat} (hn : n ≤ 6) : ∃ σ', f_X10_findsRow [gR 36 0, gI (nZ n)] σ = some (none, σ') ∧ (∀ i, i < n → σ'.1 50 0 i = σ.1 49 0 i) ∧ gb_fP (fun k => k = 50) σ σ' := by
  rw [e_X10_findsRow]
  obtain ⟨τ, h1, h2, h3⟩ := lph (n := n) (σ := σ) (fun i τ => j_X10_findsRow_2 (nZ n) (nZ i) τ) (fun i τ => gb_fP (fun k => k = 50) σ τ ∧ ∀ k, k < i → τ.1 50 0 k = σ.1 49 0 k) ⟨fP_rf, fun k hk => by omega⟩ (by
    intro i hi τ ⟨f, h2⟩
    refine ⟨gb_si τ 50 0 i (τ.1 49 0 i), ?_, fP_si f rfl, fun k hk => ?_⟩
    · show j_X10_findsRow_2 _ _ _ = j_X10_findsRow_2 _ _ _
      rw [e_X10_findsRow_2, if_neg (by rw [z_le ⟨by omega, by omega⟩ ⟨by omega, by omega⟩]; omega), z_tn (by omega), Int.toNat_natCast, g_in (by omega), g_in (by omega), zs]
    · by_cases e : k = i
      · subst e
        rw [si_s, f.1 49 0 k (by omega)]
      · rw [si_i e]; exact h2 k (by omega))
  have h1' : j_X10_findsRow_2 (nZ n) 0 σ = j_X10_findsRow_2 (nZ n) (nZ n) τ := h1
  exact ⟨τ, by rw [h1', e_X10_findsRow_2, if_pos (Int32.le_refl _)], h3, h2⟩
/-- one order goes, and what was is put back -/
theorem m_thought {s : gb_St} {O : List (Nat × Int)} {τ : gb_M} {G : Nat → Int} (hok : okO O) (hO : ordM τ O) (hM : gb_MM τ (gJ s G)) (il : iL s) (hG : ∀ k, k < 6 → 0 ≤ G k ∧ G k ≤ lT (sB s k)) {way : List Nat} {m : Int} {best : List Nat} (hj : jM τ way m best) (hk : way.length < O.length) {b : Nat} (hb : b < 6) (hc : cvb s b (G b) (oz O way.length).1 (oz O way.length).2 = true) :
    ∃ τ2, f_X10_goes [gR 36 0, gI (nZ b), gI ((gb_si τ 49 0 way.length (nZ b)).1 48 0 way.length)] (gb_si τ 49 0 way.length (nZ b)) = some (none, τ2) ∧ gb_MM τ2 (gJ s (updG G b (oz O way.length).2)) ∧ jM τ2 (way ++ [b]) m best ∧ mX τ τ2 ∧ (∀ x, τ2.1 51 0 x = τ.1 51 0 x) ∧ ∀ k, k < 6 → 0 ≤ updG G b (oz O way.length).2 k ∧ updG G b (oz O way.length).2 k ≤ lT (sB s k) := by
  obtain ⟨o1, o2, o3⟩ := hok.2 way.length hk
  have hGb := hG b hb
  have hT := csv_T il hb hGb o2 (cvb_t hc)
  have hLok := (il b hb).2.2
  have f1 : gb_fP (fun k => k = 49) τ (gb_si τ 49 0 way.length (nZ b)) := fP_si fP_rf rfl
  have hM1 := fP_MM f1 (by omega) hM
  have eT : lT (sB (gJ s G) b) = lT (sB s b) - G b := by
    show lT (tk (sB s b) (G b)) = _
    rw [lT_tk hLok]; omega
  obtain ⟨τ2, b1, b2, b3, b4, -, -, -⟩ := m_goes hM1 hb (t := (oz O way.length).2) (by omega) (by omega)
  rw [gJ_upd hLok hGb.1 (by omega)] at b2
  have fb : gb_fX (fun k => k = 37 ∨ (43 ≤ k ∧ k ≤ 45)) (fun x => x = 14 ∨ x = 15) (gb_si τ 49 0 way.length (nZ b)) τ2 := fP_fX b3 (fun k h1 h2 => by omega) (fun x h => b4 x (fun e => h (Or.inl e)) (fun e => h (Or.inr e)))
  refine ⟨τ2, ?_, b2, jM_fX fb ⟨by omega, by omega⟩ (by omega) (jM_way hj), fX_tr (fX_si fX_rf (Or.inl ⟨by omega, by omega⟩)) (fX_w fb (fun k hk => by omega) (fun x hx => by omega)), fun x => by rw [(fb.1 51 0 x (by omega) (by omega)).1, si_k (by omega)], updG_r hG o2 hT⟩
  rw [si_k (by omega), (hO.2 way.length hk).2]
  exact b1
theorem m_sv {s : gb_St} {O : List (Nat × Int)} (hok : okO O) (il : iL s) : ∀ n d, n < d → ∀ G way best (σ : gb_M), way.length + n = O.length → best.length ≤ O.length → (∀ k, k < 6 → 0 ≤ G k ∧ G k ≤ lT (sB s k)) → ordM σ O → gb_MM σ (gJ s G) → jM σ way best.length best → ∃ σ', g_X10_servesFrom d [gR 36 0, gI (nZ way.length)] σ = some (none, σ') ∧ jM σ' way (sv s O n G way best).length (sv s O n G way best) ∧ (∀ x, x < 176 → σ'.1 37 0 x = σ.1 37 0 x) ∧ (∀ x, x < 176 * way.length → σ'.1 51 0 x = σ.1 51 0 x) ∧ mX σ σ'
  | n, 0, hd, _, _, _, _, _, _, _, _, _, _ => absurd hd (by omega)
  | n, d + 1, hd, G, way, best, σ, hn, hbl, hG, hO, hM, hi => by
    have hO6 := hok.1
    have beg : ∃ τ, g_X10_servesFrom (d + 1) [gR 36 0, gI (nZ way.length)] σ = (if nZ way.length = nZ O.length then some (none, τ) else gb_b0 (f_X10_laysDown [gR 36 0, gI (nZ way.length)] τ) (fun s1 => j_X10_servesFrom_34 (g_X10_servesFrom d) (nZ way.length) 0 s1)) ∧ jM τ way (if best.length < way.length then way else best).length (if best.length < way.length then way else best) ∧ gb_fX (fun k => k = 50) (fun x => x = 29) σ τ := by
      rw [e_X10_servesFrom, hi.1]
      by_cases c : best.length < way.length
      · obtain ⟨τ, a1, a2, a3⟩ := m_findsRow (gb_si σ 36 0 29 (nZ way.length)) (n := way.length) (by omega)
        have fa : gb_fX (fun k => k = 50) (fun x => x = 29) σ τ := fX_tr (fX_si fX_rf (Or.inr ⟨rfl, rfl⟩)) (fP_fX0 a3 (fun k _ h => h) (by omega))
        refine ⟨τ, ?_, ?_, fa⟩
        · have e3 : τ.1 36 0 25 = nZ O.length := by rw [fa.2 25 (by omega)]; exact hO.1
          rw [if_neg (by rw [z_le ⟨by omega, by omega⟩ ⟨by omega, by omega⟩]; omega), a1, g_b0, e3]
        · rw [if_pos c]
          exact ⟨by rw [a3.1 36 0 29 (by omega), si_s], fun i hx => by rw [(fa.1 49 0 i (by omega) (by omega)).1]; exact hi.2.1 i hx, fun i hx => by rw [a2 i hx, si_k (by omega)]; exact hi.2.1 i hx⟩
      · refine ⟨σ, ?_, by rw [if_neg c]; exact hi, fX_rf⟩
        rw [if_pos (by rw [z_le ⟨by omega, by omega⟩ ⟨by omega, by omega⟩]; omega), hO.1]
    obtain ⟨τ0, e0, hi0, f0⟩ := beg
    have hb0 : (if best.length < way.length then way else best).length ≤ O.length := by split <;> omega
    have f0w : mX σ τ0 := fX_w f0 (fun k hk => by omega) (fun x hx => by omega)
    cases n with
    | zero =>
      refine ⟨τ0, ?_, hi0, fun x _ => (f0.1 37 0 x (by omega) (by omega)).1, fun x _ => (f0.1 51 0 x (by omega) (by omega)).1, f0w⟩
      rw [e0, if_pos (by rw [show way.length = O.length by omega])]
    | succ n =>
      show ∃ σ', _ ∧ jM σ' way (it 6 (if best.length < way.length then way else best) (fun b acc => if acc.length < O.length ∧ cvb s b (G b) (oz O way.length).1 (oz O way.length).2 = true then sv s O n (updG G b (oz O way.length).2) (way ++ [b]) acc else acc)).length (it 6 (if best.length < way.length then way else best) (fun b acc => if acc.length < O.length ∧ cvb s b (G b) (oz O way.length).1 (oz O way.length).2 = true then sv s O n (updG G b (oz O way.length).2) (way ++ [b]) acc else acc)) ∧ (∀ x, x < 176 → σ'.1 37 0 x = σ.1 37 0 x) ∧ (∀ x, x < 176 * way.length → σ'.1 51 0 x = σ.1 51 0 x) ∧ mX σ σ'
      generalize (if best.length < way.length then way else best) = best0 at hi0 hb0 ⊢
      generalize hF : (fun (b : Nat) (acc : List Nat) => if acc.length < O.length ∧ cvb s b (G b) (oz O way.length).1 (oz O way.length).2 = true then sv s O n (updG G b (oz O way.length).2) (way ++ [b]) acc else acc) = F
      obtain ⟨τ1, l1, l2, l3, l4⟩ := m_laysDown τ0 (k := way.length) (by omega)
      have f1 : mX τ0 τ1 := fP_fX0 l2 (fun k _ h => by omega) (by omega)
      obtain ⟨τ, h1, h2, h3, h4, h5, h6, h7⟩ := lph (n := 6) (σ := τ1) (fun i τ => j_X10_servesFrom_34 (g_X10_servesFrom d) (nZ way.length) (nZ i) τ) (fun i τ => jM τ way (it i best0 F).length (it i best0 F) ∧ (∀ x, x < 176 → τ.1 37 0 x = σ.1 37 0 x) ∧ (∀ x, x < 176 → τ.1 51 0 (176 * way.length + x) = σ.1 37 0 x) ∧ (∀ x, x < 176 * way.length → τ.1 51 0 x = σ.1 51 0 x) ∧ mX σ τ ∧ (it i best0 F).length ≤ O.length) ⟨jM_fX (fP_fX0 (I := fun _ => False) l2 (fun k _ h => h) (by omega)) ⟨by omega, by omega⟩ (fun z => z) hi0, fun x hx => by rw [l2.1 37 0 x (by omega), (f0.1 37 0 x (by omega) (by omega)).1], fun x hx => by rw [l3 x hx, (f0.1 37 0 x (by omega) (by omega)).1], fun x hx => by rw [l4 x (Or.inl hx), (f0.1 51 0 x (by omega) (by omega)).1], fX_tr f0w f1, hb0⟩ (by
        intro b hb τ ⟨h2, h3, h4, h5, h6, h7⟩
        show ∃ τ', _ = _ ∧ jM τ' way (F b (it b best0 F)).length (F b (it b best0 F)) ∧ (∀ x, x < 176 → τ'.1 37 0 x = σ.1 37 0 x) ∧ (∀ x, x < 176 → τ'.1 51 0 (176 * way.length + x) = σ.1 37 0 x) ∧ (∀ x, x < 176 * way.length → τ'.1 51 0 x = σ.1 51 0 x) ∧ mX σ τ' ∧ (F b (it b best0 F)).length ≤ O.length
        generalize it b best0 F = acc at h2 h7 ⊢
        have hMt : gb_MM τ (gJ s G) := ⟨RM_cg hM.1 hM.2.2.2.2.2.2.1 (fun x hx => by rw [Nat.zero_add]; exact h3 x hx), hM.2⟩
        have hOt := ordM_fX h6 ⟨by omega, by omega⟩ (by omega) hO
        have eF : F b acc = if acc.length < O.length ∧ cvb s b (G b) (oz O way.length).1 (oz O way.length).2 = true then sv s O n (updG G b (oz O way.length).2) (way ++ [b]) acc else acc := by rw [← hF]
        rw [eF]
        have hcd := m_canServe hMt hOt hok hb (i := way.length) (by omega)
        by_cases c1 : acc.length < O.length
        · by_cases c2 : cvb s b (G b) (oz O way.length).1 (oz O way.length).2 = true
          · rw [if_pos ⟨c1, c2⟩]
            obtain ⟨τ2, u1, u2, u3, u4, u5, u6⟩ := m_thought hok hOt hMt il hG h2 (by omega) hb c2
            have hlen : (way ++ [b]).length = way.length + 1 := by simp
            obtain ⟨τ3, v1, v2, v3, v4, v5⟩ := m_sv hok il n d (by omega) _ _ acc τ2 (by omega) h7 u6 (ordM_fX u4 ⟨by omega, by omega⟩ (by omega) hOt) u2 u3
            rw [hlen] at v1 v4
            obtain ⟨τ4, w1, w2, w3⟩ := m_takesUp τ3 (k := way.length) (by omega)
            have f4 : gb_fX (fun k => k = 37) (fun _ => False) τ3 τ4 := fP_fX0 w2 (fun k _ h => h) (by omega)
            refine ⟨τ4, ?_, jM_fX f4 ⟨by omega, by omega⟩ (fun z => z) (jM_unway v2), fun x hx => ?_, fun x hx => ?_, fun x hx => ?_, fX_tr h6 (fX_tr u4 (fX_tr v5 (fX_w f4 (fun k hk => Or.inl hk) (fun x hx => hx.elim)))), sv_len n _ _ _ (by omega) h7⟩
            · rw [e_X10_servesFrom_34, if_neg (n6 hb), hOt.1, h2.1, if_neg (by rw [z_le ⟨by omega, by omega⟩ ⟨by omega, by omega⟩]; omega), hcd.1 (cvb_t c2), g_b1, e10, z_tn (by omega), Int.toNat_natCast, u1, g_b0, zs, zs, g_in (by omega), g_in (by omega), v1, g_b0, w1, g_b0]
            · rw [w3 x hx, v4 _ (by omega), u5]; exact h4 x hx
            · rw [w2.1 51 0 _ (by omega), v4 _ (by omega), u5]; exact h4 x hx
            · rw [w2.1 51 0 _ (by omega), v4 _ (by omega), u5]; exact h5 x hx
          · rw [if_neg (fun z => c2 z.2)]
            refine ⟨τ, ?_, h2, h3, h4, h5, h6, h7⟩
            rw [e_X10_servesFrom_34, if_neg (n6 hb), hOt.1, h2.1, if_neg (by rw [z_le ⟨by omega, by omega⟩ ⟨by omega, by omega⟩]; omega), hcd.2 (cvb_f c2), g_b1, e00, zs]
        · rw [if_neg (fun z => c1 z.1)]
          refine ⟨τ, ?_, h2, h3, h4, h5, h6, h7⟩
          have stop : ∀ v : Int32, j_X10_servesFrom_34 (g_X10_servesFrom d) (nZ way.length) v τ = some (none, τ) := by
            intro v
            rw [e_X10_servesFrom_34, hOt.1, h2.1]
            by_cases c6 : 6 ≤ v
            · rw [if_pos c6]
            · rw [if_neg c6, if_pos (by rw [z_le ⟨by omega, by omega⟩ ⟨by omega, by omega⟩]; omega)]
          rw [stop, stop])
      refine ⟨τ, ?_, h2, h3, h5, h6⟩
      have h1' : j_X10_servesFrom_34 (g_X10_servesFrom d) (nZ way.length) 0 τ1 = j_X10_servesFrom_34 (g_X10_servesFrom d) (nZ way.length) (nZ (6 : Nat)) τ := h1
      rw [e0, if_neg (by rw [z_eq ⟨by omega, by omega⟩ ⟨by omega, by omega⟩]; omega), l1, g_b0, h1', e_X10_servesFrom_34, if_pos y6]
theorem m_pv {s : gb_St} {O : List (Nat × Int)} (hok : okO O) (il : iL s) : ∀ n d, n < d → ∀ G way (had : Nat) best (σ : gb_M), way.length + n = O.length → had ≤ way.length → pvP O best → (∀ k, k < 6 → 0 ≤ G k ∧ G k ≤ lT (sB s k)) → ordM σ O → gb_MM σ (gJ s G) → jM σ way best.1 best.2 → ∃ σ', g_X10_picksFrom d [gR 36 0, gI (nZ way.length), gI (nZ had)] σ = some (none, σ') ∧ jM σ' way (pv s O n G way had best).1 (pv s O n G way had best).2 ∧ (∀ x, x < 176 → σ'.1 37 0 x = σ.1 37 0 x) ∧ (∀ x, x < 176 * way.length → σ'.1 51 0 x = σ.1 51 0 x) ∧ mX σ σ'
  | n, 0, hd, _, _, _, _, _, _, _, _, _, _, _, _ => absurd hd (by omega)
  | n, d + 1, hd, G, way, had, best, σ, hn, hh, hp, hG, hO, hM, hi => by
    have hO6 := hok.1
    obtain ⟨p1, p2, p3, p4⟩ := id hp
    rw [e_X10_picksFrom, hi.1, hO.1, z_add, z_sub, show (had : Int) + (O.length : Int) - (way.length : Int) = (had : Int) + (n : Int) by omega]
    cases n with
    | zero =>
      have e0 : pv s O 0 G way had best = if (had : Int) ≤ best.1 then best else ((had : Int), way) := rfl
      rw [e0]
      by_cases c : (had : Int) ≤ best.1
      · rw [if_neg (show ¬ nZ best.1 < nZ ((had : Int) + ((0 : Nat) : Int)) by rw [z_lt ⟨by omega, by omega⟩ ⟨by omega, by omega⟩]; omega), if_pos c]
        exact ⟨σ, rfl, hi, fun _ _ => rfl, fun _ _ => rfl, fX_rf⟩
      · obtain ⟨τ, a1, a2, a3⟩ := m_findsRow (gb_si σ 36 0 29 (nZ had)) (n := way.length) (by omega)
        have fa : gb_fX (fun k => k = 50) (fun x => x = 29) σ τ := fX_tr (fX_si fX_rf (Or.inr ⟨rfl, rfl⟩)) (fP_fX0 a3 (fun k _ h => h) (by omega))
        rw [if_pos (show nZ best.1 < nZ ((had : Int) + ((0 : Nat) : Int)) by rw [z_lt ⟨by omega, by omega⟩ ⟨by omega, by omega⟩]; omega), if_neg c, if_pos (show nZ way.length = nZ O.length by rw [show way.length = O.length by omega]), a1, g_b0]
        exact ⟨τ, rfl, ⟨by rw [a3.1 36 0 29 (by omega), si_s], fun i hx => by rw [(fa.1 49 0 i (by omega) (by omega)).1]; exact hi.2.1 i hx, fun i hx => by rw [a2 i hx, si_k (by omega)]; exact hi.2.1 i hx⟩, fun x _ => (fa.1 37 0 x (by omega) (by omega)).1, fun x _ => (fa.1 51 0 x (by omega) (by omega)).1, fX_w fa (fun k hk => by omega) (fun x hx => by omega)⟩
    | succ n =>
      have es : pv s O (n + 1) G way had best = if (had : Int) + (n + 1 : Nat) ≤ best.1 then best else pv s O n G (way ++ [6]) had (it 6 best (fun b acc => if cvb s b (G b) (oz O way.length).1 (oz O way.length).2 = true then pv s O n (updG G b (oz O way.length).2) (way ++ [b]) (had + 1) acc else acc)) := rfl
      rw [es]
      by_cases c : (had : Int) + (n + 1 : Nat) ≤ best.1
      · rw [if_neg (show ¬ nZ best.1 < nZ ((had : Int) + ((n + 1 : Nat) : Int)) by rw [z_lt ⟨by omega, by omega⟩ ⟨by omega, by omega⟩]; omega), if_pos c]
        exact ⟨σ, rfl, hi, fun _ _ => rfl, fun _ _ => rfl, fX_rf⟩
      rw [if_pos (show nZ best.1 < nZ ((had : Int) + ((n + 1 : Nat) : Int)) by rw [z_lt ⟨by omega, by omega⟩ ⟨by omega, by omega⟩]; omega), if_neg c, if_neg (by rw [z_eq ⟨by omega, by omega⟩ ⟨by omega, by omega⟩]; omega)]
      generalize hF : (fun (b : Nat) (acc : Int × List Nat) => if cvb s b (G b) (oz O way.length).1 (oz O way.length).2 = true then pv s O n (updG G b (oz O way.length).2) (way ++ [b]) (had + 1) acc else acc) = F
      obtain ⟨τ1, l1, l2, l3, l4⟩ := m_laysDown σ (k := way.length) (by omega)
      have f1 : mX σ τ1 := fP_fX0 l2 (fun k _ h => by omega) (by omega)
      obtain ⟨τ, h1, h2, h3, h4, h5, h6, h7⟩ := lph (n := 6) (σ := τ1) (fun i τ => j_X10_picksFrom_42 (g_X10_picksFrom d) (nZ way.length) (nZ had) (nZ i) τ) (fun i τ => jM τ way (it i best F).1 (it i best F).2 ∧ (∀ x, x < 176 → τ.1 37 0 x = σ.1 37 0 x) ∧ (∀ x, x < 176 → τ.1 51 0 (176 * way.length + x) = σ.1 37 0 x) ∧ (∀ x, x < 176 * way.length → τ.1 51 0 x = σ.1 51 0 x) ∧ mX σ τ ∧ pvP O (it i best F)) ⟨jM_fX (fP_fX0 (I := fun _ => False) l2 (fun k _ h => h) (by omega)) ⟨by omega, by omega⟩ (fun z => z) hi, fun x hx => by rw [l2.1 37 0 x (by omega)], fun x hx => by rw [l3 x hx], fun x hx => by rw [l4 x (Or.inl hx)], f1, hp⟩ (by
        intro b hb τ ⟨h2, h3, h4, h5, h6, h7⟩
        show ∃ τ', _ = _ ∧ jM τ' way (F b (it b best F)).1 (F b (it b best F)).2 ∧ (∀ x, x < 176 → τ'.1 37 0 x = σ.1 37 0 x) ∧ (∀ x, x < 176 → τ'.1 51 0 (176 * way.length + x) = σ.1 37 0 x) ∧ (∀ x, x < 176 * way.length → τ'.1 51 0 x = σ.1 51 0 x) ∧ mX σ τ' ∧ pvP O (F b (it b best F))
        generalize it b best F = acc at h2 h7 ⊢
        have hMt : gb_MM τ (gJ s G) := ⟨RM_cg hM.1 hM.2.2.2.2.2.2.1 (fun x hx => by rw [Nat.zero_add]; exact h3 x hx), hM.2⟩
        have hOt := ordM_fX h6 ⟨by omega, by omega⟩ (by omega) hO
        have eF : F b acc = if cvb s b (G b) (oz O way.length).1 (oz O way.length).2 = true then pv s O n (updG G b (oz O way.length).2) (way ++ [b]) (had + 1) acc else acc := by rw [← hF]
        rw [eF]
        have hcd := m_canServe hMt hOt hok hb (i := way.length) (by omega)
        by_cases c2 : cvb s b (G b) (oz O way.length).1 (oz O way.length).2 = true
        · rw [if_pos c2]
          obtain ⟨τ2, u1, u2, u3, u4, u5, u6⟩ := m_thought hok hOt hMt il hG h2 (by omega) hb c2
          have hlen : (way ++ [b]).length = way.length + 1 := by simp
          obtain ⟨τ3, v1, v2, v3, v4, v5⟩ := m_pv hok il n d (by omega) _ _ (had + 1) acc τ2 (by omega) (by omega) h7 u6 (ordM_fX u4 ⟨by omega, by omega⟩ (by omega) hOt) u2 u3
          rw [hlen] at v1 v4
          obtain ⟨τ4, w1, w2, w3⟩ := m_takesUp τ3 (k := way.length) (by omega)
          have f4 : gb_fX (fun k => k = 37) (fun _ => False) τ3 τ4 := fP_fX0 w2 (fun k _ h => h) (by omega)
          refine ⟨τ4, ?_, jM_fX f4 ⟨by omega, by omega⟩ (fun z => z) (jM_unway v2), fun x hx => ?_, fun x hx => ?_, fun x hx => ?_, fX_tr h6 (fX_tr u4 (fX_tr v5 (fX_w f4 (fun k hk => Or.inl hk) (fun x hx => hx.elim)))), pv_P n _ _ _ _ (by omega) (by omega) h7⟩
          · rw [e_X10_picksFrom_42, if_neg (n6 hb), hcd.1 (cvb_t c2), g_b1, e10, z_tn (by omega), Int.toNat_natCast, u1, g_b0, zs, zs, zs, g_in (by omega), g_in (by omega), v1, g_b0, w1, g_b0]
          · rw [w3 x hx, v4 _ (by omega), u5]; exact h4 x hx
          · rw [w2.1 51 0 _ (by omega), v4 _ (by omega), u5]; exact h4 x hx
          · rw [w2.1 51 0 _ (by omega), v4 _ (by omega), u5]; exact h5 x hx
        · rw [if_neg c2]
          refine ⟨τ, ?_, h2, h3, h4, h5, h6, h7⟩
          rw [e_X10_picksFrom_42, if_neg (n6 hb), hcd.2 (cvb_f c2), g_b1, e00, zs])
      have f6 : gb_fX (fun k => k = 49) (fun _ => False) τ (gb_si τ 49 0 way.length (nZ (6 : Nat))) := fX_si fX_rf (Or.inl ⟨by omega, rfl⟩)
      have hlen : (way ++ [6]).length = way.length + 1 := by simp
      have hMt : gb_MM (gb_si τ 49 0 way.length (nZ (6 : Nat))) (gJ s G) := ⟨RM_cg hM.1 hM.2.2.2.2.2.2.1 (fun x hx => by rw [Nat.zero_add, si_k (by omega)]; exact h3 x hx), hM.2⟩
      obtain ⟨σ2, v1, v2, v3, v4, v5⟩ := m_pv hok il n d (by omega) G (way ++ [6]) had (it 6 best F) _ (by omega) (by omega) h7 hG (ordM_fX f6 ⟨by omega, by omega⟩ (fun z => z) (ordM_fX h6 ⟨by omega, by omega⟩ (by omega) hO)) hMt (jM_way h2)
      rw [hlen] at v1 v4
      refine ⟨σ2, ?_, jM_unway v2, fun x hx => by rw [v3 x hx, si_k (by omega)]; exact h3 x hx, fun x hx => by rw [v4 x (by omega), si_k (by omega)]; exact h5 x hx, fX_tr h6 (fX_tr (fX_w f6 (fun k hk => by omega) (fun x hx => hx.elim)) v5)⟩
      have h1' : j_X10_picksFrom_42 (g_X10_picksFrom d) (nZ way.length) (nZ had) 0 τ1 = j_X10_picksFrom_42 (g_X10_picksFrom d) (nZ way.length) (nZ had) (nZ (6 : Nat)) τ := h1
      have v1' : g_X10_picksFrom d [gR 36 0, gI (nZ (way.length + 1 : Nat)), gI (nZ had)] (gb_si τ 49 0 way.length 6) = some (none, σ2) := v1
      rw [l1, g_b0, h1', e_X10_picksFrom_42, if_pos y6, z_tn (by omega), Int.toNat_natCast, zs, g_in (by omega), v1', g_b0]
