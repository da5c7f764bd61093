/-! SELLS: as many are picked as are served; what is gone -/
def can (s : gb_St) (O : List (Nat × Int)) : (Nat → Int) → Nat → Nat → Prop
  | _, _, 0 => True
  | G, p, m + 1 => ∃ b, b < 6 ∧ cvb s b (G b) (oz O p).1 (oz O p).2 = true ∧ can s O (updG G b (oz O p).2) (p + 1) m
theorem sv_can {s : gb_St} {O : List (Nat × Int)} : ∀ n G way best, (sv s O n G way best).length ≤ best.length ∨ ∃ m, m ≤ n ∧ can s O G way.length m ∧ (sv s O n G way best).length ≤ way.length + m
  | 0, G, way, best => by
    unfold sv
    split
    · exact Or.inr ⟨0, Nat.le_refl _, trivial, Nat.le_refl _⟩
    · exact Or.inl (Nat.le_refl _)
  | n + 1, G, way, best => by
    unfold sv
    refine it_inv _ (fun a : List Nat => a.length ≤ best.length ∨ ∃ m, m ≤ n + 1 ∧ can s O G way.length m ∧ a.length ≤ way.length + m) (by
      split
      · exact Or.inr ⟨0, by omega, trivial, Nat.le_refl _⟩
      · exact Or.inl (Nat.le_refl _)) (fun b hb a ha => ?_)
    split
    · rename_i hc
      rcases sv_can n (updG G b (oz O way.length).2) (way ++ [b]) a with h | ⟨m, h1, h2, h3⟩
      · rcases ha with ha | ⟨m, q1, q2, q3⟩
        · exact Or.inl (Nat.le_trans h ha)
        · exact Or.inr ⟨m, q1, q2, Nat.le_trans h q3⟩
      · have el : (way ++ [b]).length = way.length + 1 := by simp
        rw [el] at h2 h3
        exact Or.inr ⟨m + 1, by omega, ⟨b, hb, hc.2, h2⟩, by omega⟩
    · exact ha
theorem it_geP {n k : Nat} {f : Nat → Int × List Nat → Int × List Nat} {a : Int × List Nat} {c : Int} (hk : k < n) (hm : ∀ i a, a.1 ≤ (f i a).1) (hc : ∀ a, c ≤ (f k a).1) : c ≤ (it n a f).1 := by
  induction n with
  | zero => omega
  | succ n ih =>
    show c ≤ (f n (it n a f)).1
    by_cases e : k = n
    · subst e; exact hc _
    · exact Int.le_trans (ih (by omega)) (hm _ _)
theorem it_moP {n : Nat} {f : Nat → Int × List Nat → Int × List Nat} {a : Int × List Nat} (hm : ∀ i a, a.1 ≤ (f i a).1) : a.1 ≤ (it n a f).1 := by
  induction n with
  | zero => exact Int.le_refl _
  | succ n ih => exact Int.le_trans ih (hm _ _)
theorem pv_mono {s : gb_St} {O : List (Nat × Int)} : ∀ n G way had best, best.1 ≤ (pv s O n G way had best).1
  | 0, G, way, had, best => by
    unfold pv
    split
    · exact Int.le_refl _
    · show best.1 ≤ (had : Int); omega
  | n + 1, G, way, had, best => by
    unfold pv
    split
    · exact Int.le_refl _
    · refine Int.le_trans ?_ (pv_mono n _ _ _ _)
      refine it_moP (fun b a => ?_)
      split
      · exact pv_mono n _ _ _ _
      · exact Int.le_refl _
theorem pv_can {s : gb_St} {O : List (Nat × Int)} : ∀ n G way had best m, m ≤ n → can s O G way.length m → ((had + m : Nat) : Int) ≤ (pv s O n G way had best).1
  | n, G, way, had, best, 0, _, _ => pv_ge n G way had best
  | 0, _, _, _, _, m + 1, h, _ => by omega
  | n + 1, G, way, had, best, m + 1, h, hc => by
    obtain ⟨b, hb, hc1, hc2⟩ := hc
    unfold pv
    split
    · omega
    · refine Int.le_trans ?_ (pv_mono n _ _ _ _)
      refine it_geP hb (fun b a => ?_) (fun a => ?_)
      · split
        · exact pv_mono n _ _ _ _
        · exact Int.le_refl _
      · rw [if_pos hc1]
        have := pv_can n (updG G b (oz O way.length).2) (way ++ [b]) (had + 1) a m (by omega) (by simpa using hc2)
        omega
theorem picks_ge {s : gb_St} {O : List (Nat × Int)} : ((svA s O).length : Int) ≤ (pvA s O).1 := by
  unfold svA pvA
  rcases sv_can (s := s) (O := O) O.length (fun _ => 0) [] [] with h | ⟨m, h1, h2, h3⟩
  · have := pv_ge (s := s) (O := O) O.length (fun _ => 0) [] 0 (-1, [])
    have h' : (sv s O O.length (fun _ => 0) [] []).length ≤ 0 := h
    omega
  · have := pv_can (s := s) (O := O) O.length (fun _ => 0) [] 0 (-1, []) m h1 h2
    have h3' : (sv s O O.length (fun _ => 0) [] []).length ≤ 0 + m := h3
    omega
theorem sm_updG {G : Nat → Int} {b : Nat} {t : Int} (hb : b < 6) : sm 6 (updG G b t) = sm 6 G + t := by
  have h := sm_up (f := G) (v := G b + t) hb
  have e : sm 6 (updG G b t) = sm 6 (fun k => if k = b then G b + t else G k) := sm_c (fun k _ => by
    unfold updG
    by_cases e : k = b
    · rw [if_pos e, if_pos e, e]
    · rw [if_neg e, if_neg e])
  rw [e, h]
  omega
theorem sm_Gw {O : List (Nat × Int)} {w : List Nat} : ∀ k, (∀ i, i < k → wz w i < 6) → sm 6 (Gw O w k) = sm k (fun i => (oz O i).2)
  | 0, _ => rfl
  | k + 1, h => by
    have e : Gw O w (k + 1) = updG (Gw O w k) (wz w k) (oz O k).2 := rfl
    rw [e, sm_updG (h k (by omega)), sm_Gw k (fun i hi => h i (by omega)), sm_s]
theorem sT_sells {s : gb_St} (hg : gdS s) {O : List (Nat × Int)} (hok : okO O) : sm 6 (fun b => lT (sB (slS s O) b)) = sm 6 (fun b => lT (sB s b)) - sm (svA s O).length (fun i => (oz O i).2) ∧ (svA s O).length ≤ O.length := by
  have il := hg.1.2.2.2.2.2.1
  have hle : (svA s O).length ≤ O.length := sv_len (s := s) (O := O) O.length (fun _ => 0) [] [] (by simp) (by simp)
  have hw : vW s O (svA s O) := svA_vW
  refine ⟨?_, hle⟩
  rw [← sm_Gw (w := svA s O) _ (fun i hi => (hw i hi).1), ← sm_sub]
  refine sm_c (fun b hb => ?_)
  obtain ⟨g1, g2⟩ := Gw_r il hok hw hle (svA s O).length (Nat.le_refl _) b hb
  show lT (tk (s.2 b) (Gw O (svA s O) (svA s O).length b)) = _
  have e : lT (tk (sB s b) (Gw O (svA s O) (svA s O).length b)) = max 0 (lT (sB s b) - max 0 (Gw O (svA s O) (svA s O).length b)) := lT_tk (il b hb).2.2
  have e' : lT (tk (s.2 b) (Gw O (svA s O) (svA s O).length b)) = lT (tk (sB s b) (Gw O (svA s O) (svA s O).length b)) := rfl
  rw [e', e]
  omega
theorem okX_sells {s : gb_St} (hg : gdS s) (hX : okX s) {O : List (Nat × Int)} : okX (slS s O) := by
  have il := hg.1.2.2.2.2.2.1
  rw [okX_iff] at hX ⊢
  intro b hb
  have hok := (il b hb).2.2
  obtain ⟨h1, h2⟩ := hX b hb
  have e1 : sC (slS s O) b = sC s b := if_neg (by omega)
  have e2 : sB (slS s O) b = tk (sB s b) (Gw O (svA s O) (svA s O).length b) := rfl
  have hn := lT_nn hok
  rw [e1, e2]
  refine ⟨by rw [lT_tk hok]; omega, okM_cg (s := s) (fun l hl => (ok_tk hok l hl).1) (fun g h hg hh => ?_) (okM_sub h2 gsub_tk)⟩
  exact if_neg (by omega)
/-! the orders' text -/
def dcn (x : Nat) : List Int := if x < 10 then [48 + (x : Int)] else [48 + ((x / 10 : Nat) : Int), 48 + ((x % 10 : Nat) : Int)]
def ordT (g t g2 t2 : Nat) : List Int := dcn g ++ [58] ++ dcn t ++ [44] ++ dcn g2 ++ [58] ++ dcn t2
theorem ordT_all : ∀ (g : Fin 4) (t : Fin 16) (g2 : Fin 4) (t2 : Fin 8), (rdT (ordT g.val (t.val + 1) g2.val (t2.val + 1))).1 = some [(g.val, (t.val : Int) + 1), (g2.val, (t2.val : Int) + 1)] := by decide +kernel
theorem ordT_rd {g t g2 t2 : Nat} (h1 : g < 4) (h2 : 1 ≤ t ∧ t ≤ 16) (h3 : g2 < 4) (h4 : 1 ≤ t2 ∧ t2 ≤ 8) : (rdT (ordT g t g2 t2)).1 = some [(g, (t : Int)), (g2, (t2 : Int))] := by
  have h := ordT_all ⟨g, h1⟩ ⟨t - 1, by omega⟩ ⟨g2, h3⟩ ⟨t2 - 1, by omega⟩
  dsimp only at h
  rw [show t - 1 + 1 = t by omega, show t2 - 1 + 1 = t2 by omega, show ((t - 1 : Nat) : Int) + 1 = (t : Int) by omega, show ((t2 - 1 : Nat) : Int) + 1 = (t2 : Int) by omega] at h
  exact h
