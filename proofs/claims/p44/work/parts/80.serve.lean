/-! SERVE: orders one behind another -/
def wz (w : List Nat) (i : Nat) : Nat := w.getD i 0
theorem wz_1 {w : List Nat} {b i : Nat} (hi : i < w.length) : wz (w ++ [b]) i = wz w i := by
  simp [wz, List.getD, List.getElem?_append_left hi]
theorem wz_2 {w : List Nat} {b : Nat} : wz (w ++ [b]) w.length = b := by
  simp [wz, List.getD]
def updG (G : Nat → Int) (b : Nat) (t : Int) : Nat → Int := fun k => if k = b then G k + t else G k
def cvb (s : gb_St) (b : Nat) (u : Int) (g : Nat) (t : Int) : Bool := decide (¬ sY s < sP s b ∧ t ≤ rn (tk (sB s b) u) g)
theorem cvb_t {s : gb_St} {b g : Nat} {u t : Int} (h : cvb s b u g t = true) : csv s b u g t := by
  have h' : ¬ sY s < sP s b ∧ t ≤ rn (tk (sB s b) u) g := of_decide_eq_true h
  exact h'
theorem cvb_f {s : gb_St} {b g : Nat} {u t : Int} (h : ¬ cvb s b u g t = true) : ¬ csv s b u g t := fun z => h (by unfold cvb; exact decide_eq_true z)
def sv (s : gb_St) (O : List (Nat × Int)) : Nat → (Nat → Int) → List Nat → List Nat → List Nat
  | 0, _, way, best => if best.length < way.length then way else best
  | n + 1, G, way, best => it 6 (if best.length < way.length then way else best) (fun b acc => if acc.length < O.length ∧ cvb s b (G b) (oz O way.length).1 (oz O way.length).2 = true then sv s O n (updG G b (oz O way.length).2) (way ++ [b]) acc else acc)
theorem sv_len {s : gb_St} {O : List (Nat × Int)} : ∀ n G way best, way.length + n = O.length → best.length ≤ O.length → (sv s O n G way best).length ≤ O.length
  | 0, G, way, best, h1, h2 => by
    unfold sv
    split <;> omega
  | n + 1, G, way, best, h1, h2 => by
    unfold sv
    refine it_inv _ (fun a : List Nat => a.length ≤ O.length) (by split <;> omega) (fun b hb a ha => ?_)
    split
    · exact sv_len n _ _ _ (by simp; omega) ha
    · exact ha
def dF (σ σ' : gb_M) : Prop := gb_fP (fun k => 30 ≤ k ∧ k ≤ 33) σ σ' ∧ (∀ i x, ¬ (i = 0 ∧ x < 6) → σ'.1 31 i x = σ.1 31 i x) ∧ σ'.2 = σ.2
theorem dF_rf {σ : gb_M} : dF σ σ := ⟨fP_rf, fun _ _ _ => rfl, rfl⟩
theorem dF_tr {σ σ' σ'' : gb_M} (h : dF σ σ') (h' : dF σ' σ'') : dF σ σ'' := ⟨fP_tr h.1 h'.1, fun i x hx => (h'.2.1 i x hx).trans (h.2.1 i x hx), h'.2.2.trans h.2.2⟩
theorem dF_si {σ σ' : gb_M} {k x : Nat} {v : Int32} (h : dF σ σ') (hk : (30 ≤ k ∧ k ≤ 33) ∧ (k = 31 → x < 6)) : dF σ (gb_si σ' k 0 x v) := by
  refine ⟨fP_si h.1 hk.1, fun i y hy => ?_, h.2.2⟩
  rw [← h.2.1 i y hy]
  simp only [gb_si]
  by_cases e : 31 = k ∧ i = 0
  · obtain ⟨e1, e2⟩ := e
    subst e2
    rw [if_pos ⟨e1, rfl⟩]
    have := hk.2 e1.symm
    have : y ≠ x := fun z => hy ⟨rfl, by omega⟩
    subst e1
    simp [upd, this]
  · rw [if_neg e]
def jD (σ : gb_M) (G : Nat → Int) (way : List Nat) (m : Int) (best : List Nat) : Prop := σ.1 30 0 5 = nZ m ∧ (∀ i, i < way.length → σ.1 32 0 i = nZ (wz way i)) ∧ (∀ i, i < best.length → σ.1 33 0 i = nZ (wz best i)) ∧ ∀ b, b < 6 → σ.1 31 0 b = nZ (G b)
def dSt (s : gb_St) (O : List (Nat × Int)) (σ : gb_M) : Prop := gb_SC σ 0 s ∧ ordC σ O ∧ okO O
theorem dSt_f {s : gb_St} {O : List (Nat × Int)} {σ σ' : gb_M} (f : gb_fP (fun k => 30 ≤ k ∧ k ≤ 33) σ σ') (h : dSt s O σ) : dSt s O σ' := ⟨SC_fP f (fun k _ _ => by omega) h.1, ⟨by rw [f.1 23 0 3 (by omega)]; exact h.2.1.1, fun i hi => by rw [f.1 24 0 i (by omega), f.1 25 0 i (by omega)]; exact h.2.1.2 i hi⟩, h.2.2⟩
theorem p_takeWay {s : gb_St} {O : List (Nat × Int)} {σ : gb_M} (h : dSt s O σ) (m : Int32) : ∃ σ', f_X0_takeWay [gR 30 0, gI m] σ = some (none, σ') ∧ σ'.1 30 0 5 = m ∧ (∀ i, i < O.length → σ'.1 33 0 i = σ.1 32 0 i) ∧ gb_fP (fun k => k = 30 ∨ k = 33) σ σ' ∧ σ'.2 = σ.2 := by
  have hO6 := h.2.2.1
  rw [e_X0_takeWay]
  obtain ⟨τ, h1, h2, h3, h4, h5⟩ := lph (n := O.length) (σ := gb_si σ 30 0 5 m) (fun i τ => j_X0_takeWay_7 (nZ i) τ) (fun i τ => gb_fP (fun k => k = 33) (gb_si σ 30 0 5 m) τ ∧ (∀ k, k < i → τ.1 33 0 k = σ.1 32 0 k) ∧ τ.1 30 0 5 = m ∧ τ.2 = σ.2) ⟨fP_rf, fun k hk => by omega, si_s, rfl⟩ (by
    intro i hi τ ⟨f, h2, h3, h5⟩
    refine ⟨gb_si τ 33 0 i (τ.1 32 0 i), ?_, fP_si f rfl, fun k hk => ?_, by rw [si_k (by omega)]; exact h3, h5⟩
    · show j_X0_takeWay_7 _ _ = j_X0_takeWay_7 _ _
      have e3 : τ.1 23 0 3 = nZ O.length := by rw [f.1 23 0 3 (by omega), si_k (by omega)]; exact h.2.1.1
      rw [e_X0_takeWay_7, e3, if_neg (by rw [z_le ⟨by omega, by omega⟩ ⟨by omega, by omega⟩]; omega), z_tn (by omega), Int.toNat_natCast, g_in (by omega), g_in (by omega), zs]
    · by_cases e : k = i
      · subst e
        rw [si_s, f.1 32 0 k (by omega), si_k (by omega)]
      · rw [si_i e]; exact h2 k (by omega))
  have e3 : τ.1 23 0 3 = nZ O.length := by rw [h2.1 23 0 3 (by omega), si_k (by omega)]; exact h.2.1.1
  have h1' : j_X0_takeWay_7 0 (gb_si σ 30 0 5 m) = j_X0_takeWay_7 (nZ O.length) τ := h1
  exact ⟨τ, by rw [h1', e_X0_takeWay_7, e3, if_pos (Int32.le_refl _)], h4, h3, fP_tr (fP_si fP_rf (Or.inl rfl)) (fP_w h2 (fun k hk => Or.inr hk)), h5⟩
theorem dF_w {σ σ' : gb_M} (f : gb_fP (fun k => k = 30 ∨ k = 33) σ σ') (h : σ'.2 = σ.2) : dF σ σ' := ⟨fP_w f (fun k hk => by omega), fun i x _ => f.1 31 i x (by omega), h⟩
theorem updG_r {s : gb_St} {G : Nat → Int} {b : Nat} {t : Int} (hG : ∀ k, k < 6 → 0 ≤ G k ∧ G k ≤ lT (sB s k)) (ht : 1 ≤ t) (h : G b + t ≤ lT (sB s b)) : ∀ k, k < 6 → 0 ≤ updG G b t k ∧ updG G b t k ≤ lT (sB s k) := by
  intro k hk
  have := hG k hk
  unfold updG
  by_cases e : k = b
  · subst e; rw [if_pos rfl]; omega
  · rw [if_neg e]; exact this
/-- one order is drawn in thought, and put back -/
theorem p_thought {s : gb_St} {O : List (Nat × Int)} {σ : gb_M} (h : dSt s O σ) {G : Nat → Int} {way : List Nat} {m : Int} {best : List Nat} (hi : jD σ G way m best) (hG : ∀ k, k < 6 → 0 ≤ G k ∧ G k ≤ lT (sB s k)) (hk : way.length < O.length) {b : Nat} (hb : b < 6) (hc : cvb s b (G b) (oz O way.length).1 (oz O way.length).2 = true) :
    jD (gb_si (gb_si σ 32 0 way.length (nZ b)) 31 0 b (nZ (G b + (oz O way.length).2))) (updG G b (oz O way.length).2) (way ++ [b]) m best ∧ dF σ (gb_si (gb_si σ 32 0 way.length (nZ b)) 31 0 b (nZ (G b + (oz O way.length).2))) ∧ (∀ k, k < 6 → 0 ≤ updG G b (oz O way.length).2 k ∧ updG G b (oz O way.length).2 k ≤ lT (sB s k)) := by
  obtain ⟨o1, o2, o3⟩ := h.2.2.2 way.length hk
  obtain ⟨i1, i2, i3, i4⟩ := hi
  refine ⟨⟨by rw [si_k (by omega), si_k (by omega)]; exact i1, fun i hi => ?_, fun i hi => by rw [si_k (by omega), si_k (by omega)]; exact i3 i hi, fun k hk => ?_⟩, dF_si (dF_si dF_rf ⟨by omega, by omega⟩) ⟨by omega, by omega⟩, updG_r hG o2 (csv_T h.1.2.2.2.2.2.2.2.1 hb (hG b hb) o2 (cvb_t hc))⟩
  · rw [List.length_append] at hi
    have hi : i < way.length + 1 := hi
    rw [si_k (by omega)]
    by_cases e : i = way.length
    · subst e; rw [si_s, wz_2]
    · rw [si_i e, wz_1 (by omega)]; exact i2 i (by omega)
  · unfold updG
    by_cases e : k = b
    · subst e; rw [si_s, if_pos rfl]
    · rw [si_i e, si_k (by omega), if_neg e]; exact i4 k hk
theorem p_unthought {σ σ2 : gb_M} {G : Nat → Int} {way : List Nat} {m : Int} {best : List Nat} {b : Nat} {t : Int} (hi : jD σ2 (updG G b t) (way ++ [b]) m best) (hb : b < 6) : σ2.1 31 0 b = nZ (G b + t) ∧ jD (gb_si σ2 31 0 b (nZ (G b))) G way m best ∧ dF σ2 (gb_si σ2 31 0 b (nZ (G b))) := by
  obtain ⟨i1, i2, i3, i4⟩ := hi
  refine ⟨?_, ⟨by rw [si_k (by omega)]; exact i1, fun i hi => ?_, fun i hi => by rw [si_k (by omega)]; exact i3 i hi, fun k hk => ?_⟩, dF_si dF_rf ⟨by omega, by omega⟩⟩
  · rw [i4 b hb]; unfold updG; rw [if_pos rfl]
  · rw [si_k (by omega), i2 i (by rw [List.length_append]; omega), wz_1 hi]
  · by_cases e : k = b
    · subst e; rw [si_s]
    · rw [si_i e, i4 k hk]; unfold updG; rw [if_neg e]
theorem p_sv {s : gb_St} {O : List (Nat × Int)} : ∀ n d, n < d → ∀ G way best (σ : gb_M), way.length + n = O.length → best.length ≤ O.length → (∀ k, k < 6 → 0 ≤ G k ∧ G k ≤ lT (sB s k)) → dSt s O σ → jD σ G way best.length best → ∃ σ', g_X0_serveFrom d [gR 30 0, gI (nZ way.length)] σ = some (none, σ') ∧ jD σ' G way (sv s O n G way best).length (sv s O n G way best) ∧ dF σ σ'
  | n, 0, hd, _, _, _, _, _, _, _, _, _ => absurd hd (by omega)
  | n, d + 1, hd, G, way, best, σ, hn, hbl, hG, hS, hi => by
    have hO6 := hS.2.2.1
    -- a better row is taken
    have beg : ∃ τ, g_X0_serveFrom (d + 1) [gR 30 0, gI (nZ way.length)] σ = (if nZ way.length < nZ O.length then j_X0_serveFrom_27 (g_X0_serveFrom d) (nZ way.length) 0 τ else some (none, τ)) ∧ jD τ G way (if best.length < way.length then way else best).length (if best.length < way.length then way else best) ∧ dF σ τ := by
      rw [e_X0_serveFrom, hi.1]
      by_cases c : best.length < way.length
      · obtain ⟨τ, a1, a2, a3, a4, a5⟩ := p_takeWay hS (nZ way.length)
        refine ⟨τ, ?_, ?_, dF_w a4 a5⟩
        · have e3 : τ.1 23 0 3 = nZ O.length := by rw [a4.1 23 0 3 (by omega)]; exact hS.2.1.1
          rw [if_neg (by rw [z_le ⟨by omega, by omega⟩ ⟨by omega, by omega⟩]; omega), a1, g_b0, e3]
        · rw [if_pos c]
          exact ⟨a2, fun i hx => by rw [a4.1 32 0 i (by omega)]; exact hi.2.1 i hx, fun i hx => by rw [a3 i (by omega)]; exact hi.2.1 i hx, fun k hk => by rw [a4.1 31 0 k (by omega)]; exact hi.2.2.2 k hk⟩
      · refine ⟨σ, ?_, by rw [if_neg c]; exact hi, dF_rf⟩
        rw [if_pos (by rw [z_le ⟨by omega, by omega⟩ ⟨by omega, by omega⟩]; omega), hS.2.1.1]
    obtain ⟨τ0, e0, hi0, f0⟩ := beg
    have hb0 : (if best.length < way.length then way else best).length ≤ O.length := by split <;> omega
    cases n with
    | zero =>
      refine ⟨τ0, ?_, hi0, f0⟩
      rw [e0, if_neg (by rw [z_lt ⟨by omega, by omega⟩ ⟨by omega, by omega⟩]; omega)]
    | succ n =>
      have hS0 := dSt_f f0.1 hS
      show ∃ σ', _ ∧ jD σ' G way (it 6 (if best.length < way.length then way else best) (fun b acc => if acc.length < O.length ∧ cvb s b (G b) (oz O way.length).1 (oz O way.length).2 = true then sv s O n (updG G b (oz O way.length).2) (way ++ [b]) acc else acc)).length (it 6 (if best.length < way.length then way else best) (fun b acc => if acc.length < O.length ∧ cvb s b (G b) (oz O way.length).1 (oz O way.length).2 = true then sv s O n (updG G b (oz O way.length).2) (way ++ [b]) acc else acc)) ∧ dF σ σ'
      generalize (if best.length < way.length then way else best) = best0 at hi0 hb0 ⊢
      generalize hF : (fun (b : Nat) (acc : List Nat) => if acc.length < O.length ∧ cvb s b (G b) (oz O way.length).1 (oz O way.length).2 = true then sv s O n (updG G b (oz O way.length).2) (way ++ [b]) acc else acc) = F
      obtain ⟨τ, h1, h2, h3, h4⟩ := lph (n := 6) (σ := τ0) (fun i τ => j_X0_serveFrom_27 (g_X0_serveFrom d) (nZ way.length) (nZ i) τ) (fun i τ => jD τ G way (it i best0 F).length (it i best0 F) ∧ dF σ τ ∧ (it i best0 F).length ≤ O.length) ⟨hi0, f0, hb0⟩ (by
        intro b hb τ ⟨h2, h3, h4⟩
        show ∃ τ', _ = _ ∧ jD τ' G way (F b (it b best0 F)).length (F b (it b best0 F)) ∧ dF σ τ' ∧ (F b (it b best0 F)).length ≤ O.length
        generalize it b best0 F = acc at h2 h4 ⊢
        have hSt := dSt_f h3.1 hS
        have hlT := lG_r hSt.1.2.2.2.2.2.2.2.1 hb 0
        have hGb := hG b hb
        have eF : F b acc = if acc.length < O.length ∧ cvb s b (G b) (oz O way.length).1 (oz O way.length).2 = true then sv s O n (updG G b (oz O way.length).2) (way ++ [b]) acc else acc := by rw [← hF]
        rw [eF]
        have hcd := p_canDraw hSt.1 hSt.2.1 hSt.2.2 hb (i := way.length) (by omega) (u := G b) (by omega) (h2.2.2.2 b hb)
        by_cases c1 : acc.length < O.length
        · by_cases c2 : cvb s b (G b) (oz O way.length).1 (oz O way.length).2 = true
          · rw [if_pos ⟨c1, c2⟩]
            obtain ⟨u1, u2, u3⟩ := p_thought hSt h2 hG (by omega) hb c2
            have hlen : (way ++ [b]).length = way.length + 1 := by simp
            obtain ⟨σ2, v1, v2, v3⟩ := p_sv n d (by omega) _ _ acc _ (by omega) h4 u3 (dSt_f u2.1 hSt) u1
            obtain ⟨w1, w2, w3⟩ := p_unthought (σ := τ) v2 hb
            refine ⟨_, ?_, w2, dF_tr h3 (dF_tr u2 (dF_tr v3 w3)), sv_len n _ _ _ (by omega) h4⟩
            have e31 := h2.2.2.2 b hb
            have o2 := (hSt.2.1.2 way.length (by omega)).2
            have o2' : σ2.1 25 0 way.length = nZ (oz O way.length).2 := by rw [(dF_tr u2 v3).1.1 25 0 _ (by omega)]; exact o2
            rw [hlen] at v1
            rw [e_X0_serveFrom_27, if_neg (n6 hb), hSt.2.1.1, h2.1, if_neg (by rw [z_le ⟨by omega, by omega⟩ ⟨by omega, by omega⟩]; omega), hcd.1 (cvb_t c2), g_b1, e10, z_tn (by omega), Int.toNat_natCast, z_tn (by omega), Int.toNat_natCast, si_k (by omega), e31, si_k (by omega), o2, z_add, zs, g_in (by omega), g_in (by omega), g_in (by omega), g_in (by omega), v1, g_b0, w1, o2', z_sub, show G b + (oz O way.length).2 - (oz O way.length).2 = G b by omega, g_in (by omega), g_in (by omega), g_in (by omega), zs]
          · rw [if_neg (fun z => c2 z.2)]
            refine ⟨τ, ?_, h2, h3, h4⟩
            rw [e_X0_serveFrom_27, if_neg (n6 hb), hSt.2.1.1, h2.1, if_neg (by rw [z_le ⟨by omega, by omega⟩ ⟨by omega, by omega⟩]; omega), hcd.2 (cvb_f c2), g_b1, e00, zs]
        · rw [if_neg (fun z => c1 z.1)]
          refine ⟨τ, ?_, h2, h3, h4⟩
          have stop : ∀ v : Int32, j_X0_serveFrom_27 (g_X0_serveFrom d) (nZ way.length) v τ = some (none, τ) := by
            intro v
            rw [e_X0_serveFrom_27, hSt.2.1.1, h2.1]
            by_cases c6 : 6 ≤ v
            · rw [if_pos c6]
            · rw [if_neg c6, if_pos (by rw [z_le ⟨by omega, by omega⟩ ⟨by omega, by omega⟩]; omega)]
          rw [stop, stop])
      refine ⟨τ, ?_, h2, h3⟩
      have h1' : j_X0_serveFrom_27 (g_X0_serveFrom d) (nZ way.length) 0 τ0 = j_X0_serveFrom_27 (g_X0_serveFrom d) (nZ way.length) (nZ (6 : Nat)) τ := h1
      rw [e0, if_pos (by rw [z_lt ⟨by omega, by omega⟩ ⟨by omega, by omega⟩]; omega), h1', e_X0_serveFrom_27, if_pos y6]
def svA (s : gb_St) (O : List (Nat × Int)) : List Nat := sv s O O.length (fun _ => 0) [] []
theorem G0_r {s : gb_St} (il : iL s) : ∀ k, k < 6 → (0 : Int) ≤ 0 ∧ (0 : Int) ≤ lT (sB s k) := fun k hk => by
  have := lG_r il hk 0
  omega
theorem p_serve {s : gb_St} {O : List (Nat × Int)} {σ : gb_M} (h : dSt s O σ) (hg : goneC σ) : ∃ σ', f_X0_serve [gR 30 0] σ = some (some (gI (nZ (svA s O).length)), σ') ∧ (∀ i, i < (svA s O).length → σ'.1 33 0 i = nZ (wz (svA s O) i)) ∧ (svA s O).length ≤ O.length ∧ gb_fP (fun k => k = 30 ∨ k = 32 ∨ k = 33) σ σ' := by
  have hO6 := h.2.2.1
  have f0 : dF σ (gb_si σ 30 0 5 0) := dF_si dF_rf ⟨by omega, by omega⟩
  obtain ⟨σ', a, b, c⟩ := p_sv (s := s) (O := O) O.length 8 (by omega) (fun _ => 0) [] [] (gb_si σ 30 0 5 0) (by simp) (by simp) (G0_r h.1.2.2.2.2.2.2.2.1) (dSt_f f0.1 h) ⟨by rw [si_s]; rfl, fun i hi => (by cases hi), fun i hi => (by cases hi), fun k hk => by rw [si_k (by omega), hg k hk]; rfl⟩
  have a' : f_X0_serveFrom [gR 30 0, gI 0] (gb_si σ 30 0 5 0) = some (none, σ') := (gb_hide_at _ _ _).trans a
  have b1 : σ'.1 30 0 5 = nZ (svA s O).length := b.1
  have fa := dF_tr f0 c
  refine ⟨σ', by rw [e_X0_serve, a', g_b0, b1], b.2.2.1, sv_len _ _ _ _ (by simp) (by simp), ⟨fun k i x hk => ?_, fun k i x hk => ?_⟩⟩
  · by_cases e : k = 31
    · subst e
      by_cases e2 : i = 0 ∧ x < 6
      · obtain ⟨rfl, e3⟩ := e2
        rw [b.2.2.2 x e3, hg x e3]; rfl
      · exact fa.2.1 i x e2
    · exact fa.1.1 k i x (by omega)
  · rw [fa.2.2]
