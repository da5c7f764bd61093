/-! HOLDS: mixed, and the whole -/
theorem sm_swap (n m : Nat) (f : Nat → Nat → Int) : sm n (fun i => sm m (fun j => f i j)) = sm m (fun j => sm n (fun i => f i j)) := by
  induction n with
  | zero =>
    have : ∀ k, sm k (fun _ => (0 : Int)) = 0 := by
      intro k
      induction k with
      | zero => rfl
      | succ k ih => rw [sm_s, ih]; rfl
    exact (this m).symm
  | succ n ih =>
    rw [sm_s, ih, ← sm_add]
    exact sm_c (fun j _ => (sm_s n (fun i => f i j)).symm)
theorem sm_x2 (n : Nat) (f : Nat → Int) : sm n (fun i => 2 * f i) = 2 * sm n f := by
  induction n with
  | zero => rfl
  | succ n ih => rw [sm_s, sm_s, ih]; omega
theorem sm_sym {M : Nat → Nat → Int} (h1 : ∀ g h, g < 6 → h < 6 → M g h = M h g) (h2 : ∀ g, g < 6 → M g g = 0) : sm 6 (fun g => sm 6 (fun h => M g h)) = 2 * sm 6 (fun g => sm 6 (fun h => if g < h then M g h else 0)) := by
  simp only [sm]
  rw [h2 0 (by omega), h2 1 (by omega), h2 2 (by omega), h2 3 (by omega), h2 4 (by omega), h2 5 (by omega), h1 1 0 (by omega) (by omega), h1 2 0 (by omega) (by omega), h1 3 0 (by omega) (by omega), h1 4 0 (by omega) (by omega), h1 5 0 (by omega) (by omega), h1 2 1 (by omega) (by omega), h1 3 1 (by omega) (by omega), h1 4 1 (by omega) (by omega), h1 5 1 (by omega) (by omega), h1 3 2 (by omega) (by omega), h1 4 2 (by omega) (by omega), h1 5 2 (by omega) (by omega), h1 4 3 (by omega) (by omega), h1 5 3 (by omega) (by omega), h1 5 4 (by omega) (by omega)]
  simp
  omega
theorem lM_sy {s : gb_St} (io : iO s) {L : List gb_Ly} {g h : Nat} (hg : g < 6) (hh : h < 6) : lM s L g h = lM s L h g := by
  unfold lM
  rw [(io g h hg hh).2.2.1, Int.min_comm]
theorem lM_0 {s : gb_St} (io : iO s) {L : List gb_Ly} {g : Nat} (hg : g < 6) : lM s L g g = 0 := by
  unfold lM
  rw [(io g g hg hg).2.2.2]
  simp
theorem mx_twice {s : gb_St} (io : iO s) : sm 6 (fun g => sm 6 (mxH s g)) = 2 * sm 6 (fun b => lX s (sB s b)) := by
  have e1 : ∀ g, sm 6 (mxH s g) = sm 6 (fun b => sm 6 (fun h => lM s (sB s b) g h)) := fun g => sm_swap 6 6 (fun h b => lM s (sB s b) g h)
  rw [sm_c (fun g _ => e1 g), sm_swap 6 6 (fun g b => sm 6 (fun h => lM s (sB s b) g h)), ← sm_x2]
  exact sm_c (fun b _ => sm_sym (fun g h hg hh => lM_sy io hg hh) (fun g hg => lM_0 io hg))
/-! worst -/
theorem it_ge {n k : Nat} {f : Nat → wA → wA} {a : wA} {c : Int} (hk : k < n) (hm : ∀ i a, a.1 ≤ (f i a).1) (hc : ∀ a, c ≤ (f k a).1) : c ≤ (it n a f).1 := by
  induction n with
  | zero => omega
  | succ n ih =>
    show c ≤ (f n (it n a f)).1
    by_cases e : k = n
    · subst e; exact hc _
    · exact Int.le_trans (ih (by omega)) (hm _ _)
theorem it_mo {n : Nat} {f : Nat → wA → wA} {a : wA} (hm : ∀ i a, a.1 ≤ (f i a).1) : a.1 ≤ (it n a f).1 := by
  induction n with
  | zero => exact Int.le_refl _
  | succ n ih => exact Int.le_trans ih (hm _ _)
theorem wsF_mo {s : gb_St} {b g h : Nat} (a : wA) : a.1 ≤ (wsF s b g h a).1 := by
  unfold wsF
  split
  · rename_i c; show a.1 ≤ lM s (sB s b) g h; omega
  · exact Int.le_refl _
theorem wsH_mo {s : gb_St} {b g : Nat} (a : wA) : a.1 ≤ (wsH s b g a).1 := it_mo (fun _ _ => wsF_mo _)
theorem wsG_mo {s : gb_St} {b : Nat} (a : wA) : a.1 ≤ (wsG s b a).1 := it_mo (fun _ _ => wsH_mo _)
theorem wsI_ge {s : gb_St} {b g h : Nat} (hb : b < 6) (hg : g < 6) (hh : h < 6) (hgh : g < h) : lM s (sB s b) g h ≤ (wsI s).1 :=
  it_ge hb (fun _ _ => wsG_mo _) (fun _ => it_ge hg (fun _ _ => wsH_mo _) (fun _ => it_ge hh (fun _ _ => wsF_mo _) (fun a => by
    unfold wsF
    split
    · exact Int.le_refl _
    · rename_i c; omega)))
def wsQ1 (a : wA) : Prop := (a.1 = 0 ∧ a.2.1 = -2) ∨ (0 < a.1 ∧ 0 ≤ a.2.1)
def wsQ0 (a : wA) : Prop := a.1 = 0
theorem wsF_Q1 {s : gb_St} {b g h : Nat} {a : wA} (ha : wsQ1 a) : wsQ1 (wsF s b g h a) := by
  unfold wsF
  split
  · rename_i c
    refine Or.inr ⟨?_, ?_⟩
    · show 0 < lM s (sB s b) g h
      rcases ha with ha | ha <;> omega
    · show 0 ≤ 10 * (g : Int) + (h : Int)
      omega
  · exact ha
theorem wsI_or {s : gb_St} : wsQ1 (wsI s) :=
  it_inv _ wsQ1 (Or.inl ⟨rfl, rfl⟩) (fun b _ a ha => it_inv (fun g a => wsH s b g a) wsQ1 ha (fun g _ a ha => it_inv (fun h a => wsF s b g h a) wsQ1 ha (fun h _ a ha => wsF_Q1 ha)))
theorem wsI_0 {s : gb_St} (h : ∀ b g k, b < 6 → g < 6 → k < 6 → g < k → lM s (sB s b) g k = 0) : wsQ0 (wsI s) :=
  it_inv _ wsQ0 rfl (fun b hb a ha => it_inv (fun g a => wsH s b g a) wsQ0 ha (fun g hg a ha => it_inv (fun h a => wsF s b g h a) wsQ0 ha (fun k hk a ha => by
    unfold wsF
    split
    · rename_i c
      exact h b g k hb hg hk c.1
    · exact ha)))
theorem sm_z {n : Nat} {f : Nat → Int} (h : ∀ i, i < n → 0 ≤ f i) (h0 : sm n f = 0) : ∀ i, i < n → f i = 0 := fun i hi => by
  have := sm_get hi h
  have := h i hi
  omega
theorem lX_0 {s : gb_St} {b : Nat} (hI : gb_IV s) (hb : b < 6) (h0 : lX s (sB s b) = 0) {g k : Nat} (hg : g < 6) (hk : k < 6) (hgk : g < k) : lM s (sB s b) g k = 0 := by
  have nn : ∀ g k, g < 6 → k < 6 → 0 ≤ (if g < k then lM s (sB s b) g k else 0) := fun g k hg hk => by
    split
    · exact (lM_r hI hb hg hk).1
    · exact Int.le_refl _
  have h1 := sm_z (f := fun g => sm 6 (fun h => if g < h then lM s (sB s b) g h else 0)) (fun g hg => sm_nn (fun k hk => nn g k hg hk)) h0 g hg
  have h2 := sm_z (f := fun h => if g < h then lM s (sB s b) g h else 0) (fun k hk => nn g k hg hk) h1 k hk
  rwa [if_pos hgk] at h2
theorem lX_z {s : gb_St} {b : Nat} (h : ∀ g k, g < 6 → k < 6 → g < k → lM s (sB s b) g k = 0) : lX s (sB s b) = 0 := by
  unfold lX
  have z : ∀ n, sm n (fun _ => (0 : Int)) = 0 := by
    intro n
    induction n with
    | zero => rfl
    | succ n ih => rw [sm_s, ih]; rfl
  rw [sm_c (n := 6) (g := fun _ => (0 : Int)) (fun g hg => by
    rw [sm_c (n := 6) (g := fun _ => (0 : Int)) (fun k hk => by
      by_cases e : g < k
      · rw [if_pos e]; exact h g k hg hk e
      · rw [if_neg e])]
    exact z 6)]
  exact z 6
/-- nothing is mixed: worst says so -/
theorem worst_iff {s : gb_St} (hI : gb_IV s) : (wsI s).2.1 = -2 ↔ sm 6 (fun b => lX s (sB s b)) = 0 := by
  constructor
  · intro h
    have h1 : (wsI s).1 = 0 := by
      rcases wsI_or (s := s) with c | c
      · exact c.1
      · omega
    have z : ∀ b, b < 6 → lX s (sB s b) = 0 := fun b hb => lX_z (fun g k hg hk hgk => by
      have := wsI_ge (s := s) hb hg hk hgk
      have := (lM_r hI hb hg hk).1
      omega)
    have e := sm_c (n := 6) (f := fun b => lX s (sB s b)) (g := fun _ => (0 : Int)) z
    rw [e]; rfl
  · intro h
    have z := sm_z (f := fun b => lX s (sB s b)) (fun b hb => (lX_r hI hb).1) h
    have h1 : (wsI s).1 = 0 := wsI_0 (s := s) (fun b g k hb hg hk hgk => lX_0 hI hb (z b hb) hg hk hgk)
    rcases wsI_or (s := s) with c | c
    · exact c.2
    · omega
theorem b_end {v1 v2 v3 : Int32} {A : gb_Ab} {σ : gb_M} (hI : gb_IV A.1) (h : CR σ A) (e1 : v1 = nZ (lA A.1 (sY A.1))) (e2 : v2 = nZ (sm 6 (fun b => lT (sB A.1 b)))) (e3 : v3 = nZ (sm 6 (fun b => ((sB A.1 b).length : Int)))) : ∃ σ', gb_b1 (f_X9_all [gR 0 0] σ) (fun x54 s53 => if x54 = v1 then
              gb_b1 (f_X9_count [gR 0 0, gI 1] s53) (fun x56 s55 => if x56 = v2 then
                gb_b1 (f_X9_count [gR 0 0, gI 2] s55) (fun x58 s57 => if x58 = v3 then
                  gb_b1 (f_X9_then [gR 0 0, gI 0] s57) (fun x60 s59 => if x60 = v1 then
                    gb_b3 (f_X9_row [gR 0 0, gI 0] s59) (fun x62 s61 => if lg_cmp x62 0 = 0 then some (some (gI 1), s61) else some (some (gI 0), s61))
                  else
                    some (some (gI 0), s59))
                else
                  some (some (gI 0), s57))
              else
                some (some (gI 0), s55))
            else
              some (some (gI 0), s53)) = some (some (gI 1), σ') ∧ CR σ' A := by
  obtain ⟨τ1, a1, c1⟩ := u_all h
  obtain ⟨τ2, a2, c2⟩ := u_count1 c1
  obtain ⟨τ3, a3, c3⟩ := u_count2 c2
  obtain ⟨τ4, a4, c4⟩ := u_then c3 (d := 0) (by omega)
  obtain ⟨τ5, a5, c5⟩ := u_row c4 (i := 0) (by simp)
  rw [Int.add_zero] at a4
  have a4' : f_X9_then [gR 0 0, gI 0] τ3 = some (some (gI (nZ (lA A.1 (sY A.1)))), τ4) := a4
  have a5' : f_X9_row [gR 0 0, gI 0] τ4 = some (some (gL (nZ (lA A.1 (sY A.1) - lA A.1 (sY A.1 + 0))).toInt64), τ5) := a5
  refine ⟨τ5, ?_, CR_of c5⟩
  rw [g_b1e a1, if_pos e1.symm, g_b1e a2, if_pos e2.symm, g_b1e a3, if_pos e3.symm, g_b1e a4', if_pos e1.symm, g_b3e a5', Int.add_zero, Int.sub_self, if_pos ((lg_cmp_eq _ _).mpr (by decide))]
theorem u_holds {A : gb_Ab} (hg : gdS A.1) (hX : okX A.1) {σ : gb_M} (h : CR σ A) : ∃ σ', f_L_holds [gR 0 0] σ = some (some (gI 1), σ') ∧ CR σ' A := by
  have hI := hg.1
  obtain ⟨τ1, a1, c1⟩ := h_9 hg hX h
  have a1' : j_L_holds_9 0 0 0 0 σ = hJ9 A 6 τ1 := a1
  obtain ⟨v1, e1⟩ : ∃ v, v = nZ (lA A.1 (sY A.1)) := ⟨_, rfl⟩
  obtain ⟨v2, e2⟩ : ∃ v, v = nZ (sm 6 (fun b => lT (sB A.1 b))) := ⟨_, rfl⟩
  obtain ⟨v3, e3⟩ : ∃ v, v = nZ (sm 6 (fun b => ((sB A.1 b).length : Int))) := ⟨_, rfl⟩
  have b1 : hJ9 A 6 τ1 = j_L_holds_434 v1 v2 v3 0 0 0 τ1 := by
    rw [e1, e2, e3]
    show j_L_holds_9 _ _ _ _ _ = _
    rw [e_L_holds_9, if_pos y6]
    rfl
  obtain ⟨τ2, a2, c2⟩ := lph (n := 6) (σ := τ1) (fun b τ => j_L_holds_434 v1 v2 v3 (nZ (sm b (fun b => lX A.1 (sB A.1 b)))) 0 (nZ b) τ) (fun _ τ => CR τ A) c1 (fun b hb τ hC => by
    obtain ⟨τ3, a3, c3⟩ := u_value hC hb
    obtain ⟨τ4, a4, c4⟩ := u_row c3 (i := 1) (by simp)
    have a4' : f_X9_row [gR 0 0, gI 1] τ3 = some (some (gL (nZ (lX A.1 (sB A.1 b))).toInt64), τ4) := a4
    refine ⟨τ4, ?_, CR_of c4⟩
    show j_L_holds_434 _ _ _ _ _ _ _ = j_L_holds_434 _ _ _ _ _ _ _
    have hXr := lX_r hI hb
    have hS1 := sm_nn (n := b) (f := fun b => lX A.1 (sB A.1 b)) (fun i hi => (lX_r hI (by omega)).1)
    have hS2 := sm_ub (n := b) (f := fun b => lX A.1 (sB A.1 b)) (c := 352836) (fun i hi => (lX_r hI (by omega)).2)
    rw [e_L_holds_434, if_neg (n6 hb), g_b1e a3, g_b3e a4', z64_add ⟨by omega, by omega⟩ ⟨by omega, by omega⟩ ⟨by omega, by omega⟩, z64_32, zs, sm_s])
  have a2' : j_L_holds_434 v1 v2 v3 0 0 0 τ1 = j_L_holds_434 v1 v2 v3 (nZ (sm 6 (fun b => lX A.1 (sB A.1 b)))) 0 (nZ (6 : Nat)) τ2 := a2
  obtain ⟨τ3, a3, c3⟩ := lph (n := 6) (σ := τ2) (fun g τ => j_L_holds_469 v1 v2 v3 (nZ (sm 6 (fun b => lX A.1 (sB A.1 b)))) (nZ (sm g (fun g => sm 6 (mxH A.1 g)))) (nZ g) τ) (fun _ τ => CR τ A) c2 (fun g hg τ hC => by
    obtain ⟨τ4, a4, c4⟩ := u_mixed hC hg
    refine ⟨τ4, ?_, c4⟩
    show j_L_holds_469 _ _ _ _ _ _ _ = j_L_holds_469 _ _ _ _ _ _ _
    rw [e_L_holds_469, if_neg (n6 hg), g_b1e a4, z_add, zs, sm_s g])
  have a3' : j_L_holds_469 v1 v2 v3 (nZ (sm 6 (fun b => lX A.1 (sB A.1 b)))) 0 0 τ2 = j_L_holds_469 v1 v2 v3 (nZ (sm 6 (fun b => lX A.1 (sB A.1 b)))) (nZ (sm 6 (fun g => sm 6 (mxH A.1 g)))) (nZ (6 : Nat)) τ3 := a3
  obtain ⟨τ4, a4, c4⟩ := u_worst c3
  have hw := worst_iff hI
  have hS1 := sm_nn (n := 6) (f := fun b => lX A.1 (sB A.1 b)) (fun i hi => (lX_r hI hi).1)
  have hS2 := sm_ub (n := 6) (f := fun b => lX A.1 (sB A.1 b)) (c := 352836) (fun i hi => (lX_r hI hi).2)
  have pc : wsP ((0, -2, -1) : wA) := by refine ⟨?_, ?_, ?_, ?_, ?_, ?_⟩ <;> dsimp only <;> omega
  obtain ⟨p1, p2, p3, p4, p5, p6⟩ : wsP (wsI A.1) := it_inv _ wsP pc (fun b hb a ha => wsG_P hI hb ha)
  obtain ⟨τ5, a5, c5⟩ := b_end hI c4 e1 e2 e3
  refine ⟨τ5, ?_, c5⟩
  rw [e_L_holds, a1', b1, a2', e_L_holds_434, if_pos y6, a3', e_L_holds_469, if_pos y6, if_pos (by rw [mx_twice hI.2.2.1, z2, z_mul]), g_b1e a4]
  by_cases hz : sm 6 (fun b => lX A.1 (sB A.1 b)) = 0
  · rw [if_pos (by rw [hw.mpr hz]; rfl), if_pos (by rw [hz]; rfl), if_pos rfl]
    exact a5
  · rw [if_neg (by rw [zm2, z_eq ⟨by omega, by omega⟩ ⟨by omega, by omega⟩]; exact fun e => hz (hw.mp e)), if_neg (by rw [z0, z_eq ⟨by omega, by omega⟩ ⟨by omega, by omega⟩]; exact hz), if_pos rfl]
    exact a5
