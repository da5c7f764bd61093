/-! PICK: some orders left out -/
def pv (s : gb_St) (O : List (Nat × Int)) : Nat → (Nat → Int) → List Nat → Nat → Int × List Nat → Int × List Nat
  | 0, _, way, had, best => if (had : Int) ≤ best.1 then best else ((had : Int), way)
  | n + 1, G, way, had, best => if (had : Int) + (n + 1 : Nat) ≤ best.1 then best else pv s O n G (way ++ [6]) had (it 6 best (fun b acc => if cvb s b (G b) (oz O way.length).1 (oz O way.length).2 = true then pv s O n (updG G b (oz O way.length).2) (way ++ [b]) (had + 1) acc else acc))
def pvP (O : List (Nat × Int)) (a : Int × List Nat) : Prop := -1 ≤ a.1 ∧ a.1 ≤ O.length ∧ (a.1 = -1 ∨ a.2.length = O.length) ∧ a.2.length ≤ O.length
theorem pv_P {s : gb_St} {O : List (Nat × Int)} : ∀ n G way had best, way.length + n = O.length → had ≤ way.length → pvP O best → pvP O (pv s O n G way had best)
  | 0, G, way, had, best, h1, h2, hp => by
    unfold pv
    split
    · exact hp
    · refine ⟨?_, ?_, Or.inr ?_, ?_⟩ <;> dsimp only <;> omega
  | n + 1, G, way, had, best, h1, h2, hp => by
    unfold pv
    split
    · exact hp
    · refine pv_P n _ _ _ _ (by simp; omega) (by simp; omega) (it_inv _ (pvP O) hp (fun b hb a ha => ?_))
      split
      · exact pv_P n _ _ _ _ (by simp; omega) (by simp; omega) ha
      · exact ha
theorem pv_ge {s : gb_St} {O : List (Nat × Int)} : ∀ n G way (had : Nat) best, (had : Int) ≤ (pv s O n G way had best).1
  | 0, G, way, had, best => by
    unfold pv
    split
    · assumption
    · exact Int.le_refl _
  | n + 1, G, way, had, best => by
    unfold pv
    split
    · omega
    · exact pv_ge n _ _ _ _
theorem jD_way {σ : gb_M} {G : Nat → Int} {way : List Nat} {m : Int} {best : List Nat} {b : Nat} (h : jD σ G way m best) : jD (gb_si σ 32 0 way.length (nZ b)) G (way ++ [b]) m best := by
  obtain ⟨i1, i2, i3, i4⟩ := h
  refine ⟨by rw [si_k (by omega)]; exact i1, fun i hi => ?_, fun i hi => by rw [si_k (by omega)]; exact i3 i hi, fun k hk => by rw [si_k (by omega)]; exact i4 k hk⟩
  rw [List.length_append] at hi
  have hi : i < way.length + 1 := hi
  by_cases e : i = way.length
  · subst e; rw [si_s, wz_2]
  · rw [si_i e, wz_1 (by omega)]; exact i2 i (by omega)
theorem jD_unway {σ : gb_M} {G : Nat → Int} {way : List Nat} {m : Int} {best : List Nat} {b : Nat} (h : jD σ G (way ++ [b]) m best) : jD σ G way m best :=
  ⟨h.1, fun i hi => by rw [h.2.1 i (by rw [List.length_append]; omega), wz_1 hi], h.2.2.1, h.2.2.2⟩
theorem p_pv {s : gb_St} {O : List (Nat × Int)} : ∀ n d, n < d → ∀ G way (had : Nat) best (σ : gb_M), way.length + n = O.length → had ≤ way.length → pvP O best → (∀ k, k < 6 → 0 ≤ G k ∧ G k ≤ lT (sB s k)) → dSt s O σ → jD σ G way best.1 best.2 → ∃ σ', g_X0_pickFrom d [gR 30 0, gI (nZ way.length), gI (nZ had)] σ = some (none, σ') ∧ jD σ' G way (pv s O n G way had best).1 (pv s O n G way had best).2 ∧ dF σ σ'
  | n, 0, hd, _, _, _, _, _, _, _, _, _, _, _ => absurd hd (by omega)
  | n, d + 1, hd, G, way, had, best, σ, hn, hh, hp, hG, hS, hi => by
    have hO6 := hS.2.2.1
    obtain ⟨p1, p2, p3, p4⟩ := id hp
    have e23 := hS.2.1.1
    rw [e_X0_pickFrom, hi.1, e23, z_add, z_sub, show (had : Int) + (O.length : Int) - (way.length : Int) = (had : Int) + (n : Int) by omega]
    cases n with
    | zero =>
      have e0 : pv s O 0 G way had best = if (had : Int) ≤ best.1 then best else ((had : Int), way) := rfl
      rw [e0]
      by_cases c : (had : Int) ≤ best.1
      · rw [if_pos (show nZ ((had : Int) + ((0 : Nat) : Int)) ≤ nZ best.1 by rw [z_le ⟨by omega, by omega⟩ ⟨by omega, by omega⟩]; omega), if_pos c]
        exact ⟨σ, rfl, hi, dF_rf⟩
      · obtain ⟨τ, a1, a2, a3, a4, a5⟩ := p_takeWay hS (nZ had)
        rw [if_neg (show ¬ nZ ((had : Int) + ((0 : Nat) : Int)) ≤ nZ best.1 by rw [z_le ⟨by omega, by omega⟩ ⟨by omega, by omega⟩]; omega), if_neg c, if_pos (by rw [z_le ⟨by omega, by omega⟩ ⟨by omega, by omega⟩]; omega), if_pos (show nZ way.length = nZ O.length by rw [show way.length = O.length by omega]), a1, g_b0]
        exact ⟨τ, rfl, ⟨a2, fun i hx => by rw [a4.1 32 0 i (by omega)]; exact hi.2.1 i hx, fun i hx => by rw [a3 i (by have hx : i < way.length := hx; omega)]; exact hi.2.1 i hx, fun k hk => by rw [a4.1 31 0 k (by omega)]; exact hi.2.2.2 k hk⟩, dF_w a4 a5⟩
    | succ n =>
      have es : pv s O (n + 1) G way had best = if (had : Int) + (n + 1 : Nat) ≤ best.1 then best else pv s O n G (way ++ [6]) had (it 6 best (fun b acc => if cvb s b (G b) (oz O way.length).1 (oz O way.length).2 = true then pv s O n (updG G b (oz O way.length).2) (way ++ [b]) (had + 1) acc else acc)) := rfl
      rw [es]
      by_cases c : (had : Int) + (n + 1 : Nat) ≤ best.1
      · rw [if_pos (show nZ ((had : Int) + ((n + 1 : Nat) : Int)) ≤ nZ best.1 by rw [z_le ⟨by omega, by omega⟩ ⟨by omega, by omega⟩]; omega), if_pos c]
        exact ⟨σ, rfl, hi, dF_rf⟩
      rw [if_neg (show ¬ nZ ((had : Int) + ((n + 1 : Nat) : Int)) ≤ nZ best.1 by rw [z_le ⟨by omega, by omega⟩ ⟨by omega, by omega⟩]; omega), if_neg c, if_pos (by rw [z_le ⟨by omega, by omega⟩ ⟨by omega, by omega⟩]; omega), if_neg (by rw [z_eq ⟨by omega, by omega⟩ ⟨by omega, by omega⟩]; omega)]
      generalize hF : (fun (b : Nat) (acc : Int × List Nat) => if cvb s b (G b) (oz O way.length).1 (oz O way.length).2 = true then pv s O n (updG G b (oz O way.length).2) (way ++ [b]) (had + 1) acc else acc) = F
      obtain ⟨τ, h1, h2, h3, h4⟩ := lph (n := 6) (σ := σ) (fun i τ => j_X0_pickFrom_49 (g_X0_pickFrom d) (nZ way.length) (nZ had) (nZ i) τ) (fun i τ => jD τ G way (it i best F).1 (it i best F).2 ∧ dF σ τ ∧ pvP O (it i best F)) ⟨hi, dF_rf, hp⟩ (by
        intro b hb τ ⟨h2, h3, h4⟩
        show ∃ τ', _ = _ ∧ jD τ' G way (F b (it b best F)).1 (F b (it b best F)).2 ∧ dF σ τ' ∧ pvP O (F b (it b best F))
        generalize it b best F = acc at h2 h4 ⊢
        have hSt := dSt_f h3.1 hS
        have hlT := lG_r hSt.1.2.2.2.2.2.2.2.1 hb 0
        have hGb := hG b hb
        have eF : F b acc = if cvb s b (G b) (oz O way.length).1 (oz O way.length).2 = true then pv s O n (updG G b (oz O way.length).2) (way ++ [b]) (had + 1) acc else acc := by rw [← hF]
        rw [eF]
        have hcd := p_canDraw hSt.1 hSt.2.1 hSt.2.2 hb (i := way.length) (by omega) (u := G b) (by omega) (h2.2.2.2 b hb)
        by_cases c2 : cvb s b (G b) (oz O way.length).1 (oz O way.length).2 = true
        · rw [if_pos c2]
          obtain ⟨u1, u2, u3⟩ := p_thought hSt h2 hG (by omega) hb c2
          have hlen : (way ++ [b]).length = way.length + 1 := by simp
          obtain ⟨σ2, v1, v2, v3⟩ := p_pv n d (by omega) _ _ (had + 1) acc _ (by omega) (by omega) h4 u3 (dSt_f u2.1 hSt) u1
          obtain ⟨w1, w2, w3⟩ := p_unthought (σ := τ) v2 hb
          refine ⟨_, ?_, w2, dF_tr h3 (dF_tr u2 (dF_tr v3 w3)), pv_P n _ _ _ _ (by omega) (by omega) h4⟩
          have e31 := h2.2.2.2 b hb
          have o2 := (hSt.2.1.2 way.length (by omega)).2
          have o2' : σ2.1 25 0 way.length = nZ (oz O way.length).2 := by rw [(dF_tr u2 v3).1.1 25 0 _ (by omega)]; exact o2
          rw [hlen] at v1
          rw [e_X0_pickFrom_49, if_neg (n6 hb), hcd.1 (cvb_t c2), g_b1, e10, z_tn (by omega), Int.toNat_natCast, z_tn (by omega), Int.toNat_natCast, si_k (by omega), e31, si_k (by omega), o2, z_add, zs, zs, g_in (by omega), g_in (by omega), g_in (by omega), g_in (by omega), v1, g_b0, w1, o2', z_sub, show G b + (oz O way.length).2 - (oz O way.length).2 = G b by omega, g_in (by omega), g_in (by omega), g_in (by omega), zs]
        · rw [if_neg c2]
          refine ⟨τ, ?_, h2, h3, h4⟩
          rw [e_X0_pickFrom_49, if_neg (n6 hb), hcd.2 (cvb_f c2), g_b1, e00, zs])
      have hSt := dSt_f h3.1 hS
      have f6 : dF τ (gb_si τ 32 0 way.length (nZ (6 : Nat))) := dF_si dF_rf ⟨by omega, by omega⟩
      have hlen : (way ++ [6]).length = way.length + 1 := by simp
      obtain ⟨σ2, v1, v2, v3⟩ := p_pv n d (by omega) G (way ++ [6]) had (it 6 best F) _ (by omega) (by omega) h4 hG (dSt_f f6.1 hSt) (jD_way h2)
      rw [hlen] at v1
      refine ⟨σ2, ?_, jD_unway v2, dF_tr h3 (dF_tr f6 v3)⟩
      have h1' : j_X0_pickFrom_49 (g_X0_pickFrom d) (nZ way.length) (nZ had) 0 σ = j_X0_pickFrom_49 (g_X0_pickFrom d) (nZ way.length) (nZ had) (nZ (6 : Nat)) τ := h1
      have v1' : g_X0_pickFrom d [gR 30 0, gI (nZ (way.length + 1 : Nat)), gI (nZ had)] (gb_si τ 32 0 way.length 6) = some (none, σ2) := v1
      rw [h1', e_X0_pickFrom_49, if_pos y6, z_tn (by omega), Int.toNat_natCast, zs, g_in (by omega), v1', g_b0]
def pvA (s : gb_St) (O : List (Nat × Int)) : Int × List Nat := pv s O O.length (fun _ => 0) [] 0 (-1, [])
theorem pvA_r {s : gb_St} {O : List (Nat × Int)} : 0 ≤ (pvA s O).1 ∧ (pvA s O).1 ≤ O.length ∧ (pvA s O).2.length = O.length := by
  have h1 := pv_ge (s := s) (O := O) O.length (fun _ => 0) [] 0 (-1, [])
  have h2 := pv_P (s := s) (O := O) O.length (fun _ => 0) [] 0 (-1, []) (by simp) (by simp) ⟨by dsimp only; omega, by dsimp only; omega, Or.inl rfl, by simp⟩
  obtain ⟨a, b, c, d⟩ := h2
  refine ⟨h1, b, ?_⟩
  rcases c with c | c
  · rw [c] at h1; omega
  · exact c
theorem p_pick {s : gb_St} {O : List (Nat × Int)} {σ : gb_M} (h : dSt s O σ) (hg : goneC σ) : ∃ σ', f_X0_pick [gR 30 0] σ = some (some (gI (nZ (pvA s O).1)), σ') ∧ (∀ i, i < O.length → σ'.1 33 0 i = nZ (wz (pvA s O).2 i)) ∧ gb_fP (fun k => k = 30 ∨ k = 32 ∨ k = 33) σ σ' := by
  have hO6 := h.2.2.1
  have f0 : dF σ (gb_si σ 30 0 5 (-1)) := dF_si dF_rf ⟨by omega, by omega⟩
  obtain ⟨σ', a, b, c⟩ := p_pv (s := s) (O := O) O.length 8 (by omega) (fun _ => 0) [] 0 (-1, []) (gb_si σ 30 0 5 (-1)) (by simp) (by simp) ⟨by dsimp only; omega, by dsimp only; omega, Or.inl rfl, by simp⟩ (G0_r h.1.2.2.2.2.2.2.2.1) (dSt_f f0.1 h) ⟨by rw [si_s]; rfl, fun i hi => (by cases hi), fun i hi => (by cases hi), fun k hk => by rw [si_k (by omega), hg k hk]; rfl⟩
  have a' : f_X0_pickFrom [gR 30 0, gI 0, gI 0] (gb_si σ 30 0 5 (-1)) = some (none, σ') := (gb_hide_at _ _ _).trans a
  have b1 : σ'.1 30 0 5 = nZ (pvA s O).1 := b.1
  have fa := dF_tr f0 c
  refine ⟨σ', by rw [e_X0_pick, a', g_b0, b1], fun i hi => b.2.2.1 i (by have := (pvA_r (s := s) (O := O)).2.2; show i < (pvA s O).2.length; omega), ⟨fun k i x hk => ?_, fun k i x hk => ?_⟩⟩
  · by_cases e : k = 31
    · subst e
      by_cases e2 : i = 0 ∧ x < 6
      · obtain ⟨rfl, e3⟩ := e2
        rw [b.2.2.2 x e3, hg x e3]; rfl
      · exact fa.2.1 i x e2
    · exact fa.1.1 k i x (by omega)
  · rw [fa.2.2]
