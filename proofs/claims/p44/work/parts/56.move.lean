/-! MOVE: lists, and the class -/
def lays (A P : List gb_Ly) : List gb_Ly := P.foldl (fun a l => lay1 a l.1 l.2.1 l.2.2) A
def adj (L : List gb_Ly) : Prop := ∀ i, i + 1 < L.length → ¬ ((lz L i).1 = (lz L (i + 1)).1 ∧ (lz L i).2.2 = (lz L (i + 1)).2.2)
theorem adj_t {l : gb_Ly} {L : List gb_Ly} (h : adj (l :: L)) : adj L := fun i hi => h (i + 1) (by show i + 1 + 1 < L.length + 1; omega)
theorem lay1_top {L : List gb_Ly} {g : Nat} {t d : Int} : 0 < (lay1 L g t d).length ∧ (lz (lay1 L g t d) ((lay1 L g t d).length - 1)).1 = g ∧ (lz (lay1 L g t d) ((lay1 L g t d).length - 1)).2.2 = d := by
  have key : ∀ (A : List gb_Ly) (x : Int), 0 < (A ++ [(g, x, d)]).length ∧ (lz (A ++ [(g, x, d)]) ((A ++ [(g, x, d)]).length - 1)).1 = g ∧ (lz (A ++ [(g, x, d)]) ((A ++ [(g, x, d)]).length - 1)).2.2 = d := by
    intro A x
    have e : (A ++ [(g, x, d)]).length - 1 = A.length := by simp
    rw [e, lz_app2]
    exact ⟨by simp, rfl, rfl⟩
  unfold lay1
  split
  · exact key _ _
  · exact key _ _
theorem onB_lay {L : List gb_Ly} {g k : Nat} {t d e : Int} : onB (lay1 L g t d) k e = decide (g = k ∧ d = e) := by
  obtain ⟨h1, h2, h3⟩ := lay1_top (L := L) (g := g) (t := t) (d := d)
  unfold onB
  rw [h2, h3]
  by_cases h : g = k ∧ d = e
  · rw [decide_eq_true h, decide_eq_true ⟨h1, h⟩]
  · rw [decide_eq_false h, decide_eq_false (fun z => h z.2)]
theorem lays_len {P : List gb_Ly} : ∀ {A : List gb_Ly}, adj P → (lays A P).length + (if 0 < P.length ∧ onB A (lz P 0).1 (lz P 0).2.2 = true then 1 else 0) = A.length + P.length := by
  induction P with
  | nil => intro A _; rw [if_neg (fun h => absurd h.1 (by simp))]; rfl
  | cons p P ih =>
    intro A h
    have h1 := ih (A := lay1 A p.1 p.2.1 p.2.2) (adj_t h)
    have e0 : lz (p :: P) 0 = p := rfl
    have e1 : (lays A (p :: P)) = lays (lay1 A p.1 p.2.1 p.2.2) P := rfl
    rw [e0, e1]
    have hnot : ¬ (0 < P.length ∧ onB (lay1 A p.1 p.2.1 p.2.2) (lz P 0).1 (lz P 0).2.2 = true) := by
      rintro ⟨z1, z2⟩
      rw [onB_lay] at z2
      have := of_decide_eq_true z2
      exact h 0 (by show 0 + 1 < P.length + 1; omega) this
    rw [if_neg hnot, lay1_len] at h1
    have e2 : (p :: P).length = P.length + 1 := rfl
    rw [e2]
    by_cases ho : onB A p.1 p.2.2 = true
    · rw [if_pos ⟨by omega, ho⟩]
      rw [if_pos ho] at h1
      omega
    · rw [if_neg (fun z => ho z.2)]
      rw [if_neg ho] at h1
      omega
theorem lays_mono {P : List gb_Ly} : ∀ {A : List gb_Ly}, A.length ≤ (lays A P).length := by
  induction P with
  | nil => intro A; exact Nat.le_refl _
  | cons p P ih =>
    intro A
    have h := ih (A := lay1 A p.1 p.2.1 p.2.2)
    rw [lay1_len] at h
    have e1 : (lays A (p :: P)) = lays (lay1 A p.1 p.2.1 p.2.2) P := rfl
    rw [e1]
    split at h <;> omega
theorem lays_take {A P : List gb_Ly} {i : Nat} (hi : i < P.length) : lays A (P.take (i + 1)) = lay1 (lays A (P.take i)) (lz P i).1 (lz P i).2.1 (lz P i).2.2 := by
  unfold lays
  rw [lz_take hi, List.foldl_append]
  rfl
theorem lays_T {P : List gb_Ly} : ∀ {A : List gb_Ly}, lT (lays A P) = lT A + lT P := by
  induction P with
  | nil => intro A; show lT A = lT A + 0; omega
  | cons p P ih =>
    intro A
    have e1 : (lays A (p :: P)) = lays (lay1 A p.1 p.2.1 p.2.2) P := rfl
    rw [e1, ih, lT_lay, lT_c]; omega
theorem lays_ok {P : List gb_Ly} : ∀ {A : List gb_Ly}, (∀ l ∈ A, okL l) → (∀ l ∈ P, okL l) → lT A + lT P ≤ 99 → ∀ l ∈ lays A P, okL l := by
  induction P with
  | nil => intro A h _ _; exact h
  | cons p P ih =>
    intro A h hP hT
    have hp := hP p List.mem_cons_self
    have hPn := lT_nn (fun x hx => hP x (List.mem_cons_of_mem p hx))
    rw [lT_c] at hT
    exact ih (A := lay1 A p.1 p.2.1 p.2.2) (ok_lay h (by omega) hp.1 hp.2.1 hp.2.2.2) (fun x hx => hP x (List.mem_cons_of_mem _ hx)) (by rw [lT_lay]; omega)
theorem pB_s {l : gb_Ly} {L : List gb_Ly} {i : Nat} {t : Int} : pB (l :: L) (i + 1) t = pB L i (t - l.2.1) := by
  unfold pB
  rw [List.take_succ_cons, lT_c, show t - (l.2.1 + lT (L.take i)) = t - l.2.1 - lT (L.take i) by omega]
  rfl
theorem pk_at {L : List gb_Ly} : ∀ {t : Int} {i : Nat}, (∀ l ∈ L, okL l) → i < L.length → ((0 < pB L i t) ↔ i < (pk L t).length) ∧ (i < (pk L t).length → lz (pk L t) i = ((lz L i).1, pB L i t, (lz L i).2.2)) := by
  induction L with
  | nil => intro t i _ hi; cases hi
  | cons l L ih =>
    intro t i h hi
    have hl := (h l List.mem_cons_self).2.1
    have hT : ∀ n, 0 ≤ lT (L.take n) := fun n => lT_nn (fun x hx => h x (List.mem_cons_of_mem _ (List.mem_of_mem_take hx)))
    by_cases ht : t ≤ 0
    · have e : pk (l :: L) t = [] := by show (if t ≤ 0 then [] else _) = _; rw [if_pos ht]
      rw [e]
      have : pB (l :: L) i t = 0 := by
        have h1 : 0 ≤ lT ((l :: L).take i) := lT_nn (fun x hx => h x (List.mem_of_mem_take hx))
        unfold pB; omega
      rw [this]
      exact ⟨⟨fun z => by omega, fun z => by cases z⟩, fun z => by cases z⟩
    · have e : pk (l :: L) t = (l.1, min t l.2.1, l.2.2) :: pk L (t - l.2.1) := by show (if t ≤ 0 then [] else _) = _; rw [if_neg ht]
      rw [e]
      cases i with
      | zero =>
        have e0 : pB (l :: L) 0 t = max 0 (min l.2.1 (t - 0)) := rfl
        rw [e0]
        refine ⟨⟨fun _ => by simp, fun _ => by omega⟩, fun _ => ?_⟩
        show (l.1, min t l.2.1, l.2.2) = (l.1, max 0 (min l.2.1 (t - 0)), l.2.2)
        rw [show max 0 (min l.2.1 (t - 0)) = min t l.2.1 by omega]
      | succ i =>
        have hi' : i < L.length := by have : i + 1 < L.length + 1 := hi; omega
        obtain ⟨a, b⟩ := ih (t := t - l.2.1) (i := i) (fun x hx => h x (List.mem_cons_of_mem _ hx)) hi'
        rw [pB_s]
        have el : ((l.1, min t l.2.1, l.2.2) :: pk L (t - l.2.1)).length = (pk L (t - l.2.1)).length + 1 := rfl
        rw [el]
        refine ⟨⟨fun z => by have := a.mp z; omega, fun z => a.mpr (by omega)⟩, fun z => ?_⟩
        exact b (by omega)
theorem pk_len {L : List gb_Ly} : ∀ {t : Int}, (pk L t).length ≤ L.length := by
  induction L with
  | nil => intro t; exact Nat.le_refl _
  | cons l L ih =>
    intro t
    show (if t ≤ 0 then [] else _).length ≤ _
    split
    · exact Nat.zero_le _
    · exact Nat.succ_le_succ ih
theorem pk_adj {L : List gb_Ly} {t : Int} (h : ∀ l ∈ L, okL l) (ha : adj L) : adj (pk L t) := by
  intro i hi
  have hl := pk_len (L := L) (t := t)
  rw [(pk_at (t := t) h (show i < L.length by omega)).2 (by omega), (pk_at (t := t) h (show i + 1 < L.length by omega)).2 hi]
  exact ha i (by omega)
theorem pk_ok {L : List gb_Ly} {t : Int} (h : ∀ l ∈ L, okL l) : ∀ l ∈ pk L t, okL l := by
  intro l hl
  obtain ⟨i, hi, rfl⟩ := lz_of_mem hl
  have hle := pk_len (L := L) (t := t)
  obtain ⟨a, b⟩ := pk_at (t := t) h (show i < L.length by omega)
  have hp := a.mpr hi
  rw [b hi]
  have ho := h _ (lz_mem (L := L) (i := i) (by omega))
  have hx : pB L i t ≤ (lz L i).2.1 := by
    have := ho.2.1
    unfold pB at hp ⊢; omega
  have h99 := ho.2.2.1
  exact ⟨ho.1, by show 1 ≤ pB L i t; omega, by show pB L i t ≤ 99; omega, ho.2.2.2⟩
theorem pk_T {L : List gb_Ly} : ∀ {t : Int}, (∀ l ∈ L, okL l) → 0 ≤ t → lT (pk L t) = min t (lT L) := by
  induction L with
  | nil => intro t _ ht; show (0 : Int) = min t 0; omega
  | cons l L ih =>
    intro t h ht
    have hl := (h l List.mem_cons_self).2.1
    have hT := lT_nn (fun x hx => h x (List.mem_cons_of_mem l hx))
    by_cases h0 : t ≤ 0
    · have e : pk (l :: L) t = [] := by show (if t ≤ 0 then [] else _) = _; rw [if_pos h0]
      rw [e, lT_c]; show (0 : Int) = _; omega
    · have e : pk (l :: L) t = (l.1, min t l.2.1, l.2.2) :: pk L (t - l.2.1) := by show (if t ≤ 0 then [] else _) = _; rw [if_neg h0]
      rw [e, lT_c, lT_c]
      by_cases hc : t - l.2.1 ≤ 0
      · have e2 : pk L (t - l.2.1) = [] := by
          cases L with
          | nil => rfl
          | cons a A => show (if _ ≤ 0 then [] else _) = _; rw [if_pos hc]
        rw [e2]; show min t l.2.1 + 0 = _; omega
      · rw [ih (fun x hx => h x (List.mem_cons_of_mem _ hx)) (by omega)]; simp only []; omega
def apP (s : gb_St) (A P : List gb_Ly) : Bool := P.any (fun l => ap s A l.1)
def mvW (s : gb_St) (f t : Nat) (n : Int) : Int := if sY s < sP s f then -2 else if sY s < sP s t then -2 else if lT (sB s f) < n then -3 else if sC s t < lT (sB s t) + n then -4 else if apP s (sB s t) (pk (sB s f) n) = true then -5 else if 6 < (lays (sB s t) (pk (sB s f) n)).length then -6 else 0
def inB (L A : List gb_Ly) (n : Int) (k : Nat) : Int := if 0 < pB L k n ∧ ¬ (k = 0 ∧ onB A (lz L 0).1 (lz L 0).2.2 = true) then 1 else 0
section MOVE
variable {σ : gb_M} {j : Nat} {s : gb_St} {f t : Nat}
theorem p_layersWith (hC : gb_SC σ j s) (hf : f < 6) (ht : t < 6) {n : Int} (hn : 1 ≤ n ∧ n ≤ 99) (hadj : adj (sB s f)) : f_X7_layersWith [gR 10 j, gI (nZ f), gI (nZ t), gI (nZ n)] σ = some (some (gI (nZ (lays (sB s t) (pk (sB s f) n)).length)), σ) := by
  obtain ⟨⟨cW, cP, cN, cT, cL, cH, cY, cQ⟩, ⟨rK, rC, rO, rA⟩, iw, ik, io, ic, ip, il, id⟩ := id hC
  obtain ⟨y1, y2, q1, q2⟩ := id
  have hlf := (il f hf).1
  have hlt := (il t ht).1
  have hokf := (il f hf).2.2
  have hll := lays_len (A := sB s t) (pk_adj (t := n) hokf hadj)
  have hpl := pk_len (L := sB s f) (t := n)
  have hn' : 0 ≤ n ∧ n ≤ 99 := by omega
  rw [e_X7_layersWith]
  simp (disch := omega) only [g_in, z_tn, Int.toNat_natCast, cN]
  have st : ∀ i, i < (sB s f).length → j_X7_layersWith_11 j (nZ f) (nZ t) (nZ n) (nZ ((sB s t).length + sm i (inB (sB s f) (sB s t) n))) (nZ i) σ = j_X7_layersWith_11 j (nZ f) (nZ t) (nZ n) (nZ ((sB s t).length + sm (i + 1) (inB (sB s f) (sB s t) n))) (nZ (i + 1 : Nat)) σ := by
    intro i hi
    have hpr := pB_r (t := n) il hf hi
    have hokl := lz_ok il hf hi
    have hl99 := hokl.2.2.1
    rw [e_X7_layersWith_11, sm_s]
    by_cases e0 : i = 0
    · subst e0
      obtain ⟨g1, g2, g3⟩ := cL f 0 hf hi
      obtain ⟨l1, l2, l3, l4, l5⟩ := lz_ok il hf hi
      have ep : f_X7_place [gI (nZ f), gI (nZ 0)] σ = some (some (gI (nZ ((f : Int) * 6 + ((0 : Nat) : Int)))), σ) := p_place f 0
      have epB : f_X7_partBelow [gR 10 j, gI (nZ f), gI (nZ 0), gI (nZ n)] σ = some (some (gI (nZ (pB (sB s f) 0 n))), σ) := p_partBelow hC hf hi hn'
      rw [show ((0 : Nat) : Int) = 0 from rfl] at *
      have g1' := g1
      have g3' := g3
      simp only [Int.add_zero] at g1' g3'
      cases ho : onB (sB s t) (lz (sB s f) 0).1 (lz (sB s f) 0).2.2 with
      | true =>
        have ei : inB (sB s f) (sB s t) n 0 = 0 := if_neg (fun z => z.2 ⟨rfl, ho⟩)
        rw [ei]
        have ho' := p_onTop_t hC ht ho
        by_cases hp : 0 < pB (sB s f) 0 n
        · simp (disch := omega) only [z0, z1, z2, z3, z4, z5, z6, z12, z18, z48, z54, z60, z66, z174, z175, z_neg, z_add, z_sub, z_mul, z_tn, g_in, g_b0, g_b1, Int.toNat_natCast, z_le, z_lt, z_eq, z_mx, z_mn, if_pos, if_neg, if_true, if_false, cN, ep, g1, g3, g1', g3', ho', epB, Int.natCast_add, Int.natCast_one, show ((0 : Nat) : Int) = 0 from rfl, Int.add_zero]
        · simp (disch := omega) only [z0, z1, z2, z3, z4, z5, z6, z12, z18, z48, z54, z60, z66, z174, z175, z_neg, z_add, z_sub, z_mul, z_tn, g_in, g_b0, g_b1, Int.toNat_natCast, z_le, z_lt, z_eq, z_mx, z_mn, if_pos, if_neg, if_true, if_false, cN, ep, g1, g3, g1', g3', ho', epB, Int.natCast_add, Int.natCast_one, show ((0 : Nat) : Int) = 0 from rfl, Int.add_zero]
      | false =>
        have ho' := p_onTop_f hC ht l1 ⟨by omega, by omega⟩ ho
        by_cases hp : 0 < pB (sB s f) 0 n
        · have ei : inB (sB s f) (sB s t) n 0 = 1 := if_pos ⟨hp, fun z => by rw [ho] at z; cases z.2⟩
          rw [ei]
          simp (disch := omega) only [z0, z1, z2, z3, z4, z5, z6, z12, z18, z48, z54, z60, z66, z174, z175, z_neg, z_add, z_sub, z_mul, z_tn, g_in, g_b0, g_b1, Int.toNat_natCast, z_le, z_lt, z_eq, z_mx, z_mn, if_pos, if_neg, if_true, if_false, cN, ep, g1, g3, g1', g3', ho', epB, Int.natCast_add, Int.natCast_one, show ((0 : Nat) : Int) = 0 from rfl, Int.add_assoc]
        · have ei : inB (sB s f) (sB s t) n 0 = 0 := if_neg (fun z => hp z.1)
          rw [ei]
          simp (disch := omega) only [z0, z1, z2, z3, z4, z5, z6, z12, z18, z48, z54, z60, z66, z174, z175, z_neg, z_add, z_sub, z_mul, z_tn, g_in, g_b0, g_b1, Int.toNat_natCast, z_le, z_lt, z_eq, z_mx, z_mn, if_pos, if_neg, if_true, if_false, cN, ep, g1, g3, g1', g3', ho', epB, Int.natCast_add, Int.natCast_one, show ((0 : Nat) : Int) = 0 from rfl, Int.add_zero]
    · by_cases hp : 0 < pB (sB s f) i n
      · have ei : inB (sB s f) (sB s t) n i = 1 := if_pos ⟨hp, fun z => e0 z.1⟩
        rw [ei]
        simp (disch := omega) only [z0, z1, z2, z3, z4, z5, z6, z12, z18, z48, z54, z60, z66, z174, z175, z_neg, z_add, z_sub, z_mul, z_tn, g_in, g_b0, g_b1, Int.toNat_natCast, z_le, z_lt, z_eq, z_mx, z_mn, if_pos, if_neg, if_true, if_false, cN, p_partBelow hC hf hi hn', Int.natCast_add, Int.natCast_one, Int.add_assoc]
      · have ei : inB (sB s f) (sB s t) n i = 0 := if_neg (fun z => hp z.1)
        rw [ei]
        simp (disch := omega) only [z0, z1, z2, z3, z4, z5, z6, z12, z18, z48, z54, z60, z66, z174, z175, z_neg, z_add, z_sub, z_mul, z_tn, g_in, g_b0, g_b1, Int.toNat_natCast, z_le, z_lt, z_eq, z_mx, z_mn, if_pos, if_neg, if_true, if_false, cN, p_partBelow hC hf hi hn', Int.natCast_add, Int.natCast_one, Int.add_zero]
  have hJ := lp (n := (sB s f).length) (fun i => j_X7_layersWith_11 j (nZ f) (nZ t) (nZ n) (nZ ((sB s t).length + sm i (inB (sB s f) (sB s t) n))) (nZ i) σ) st
  have hcount : ∀ N, N ≤ (sB s f).length → sm N (inB (sB s f) (sB s t) n) = ((min N (pk (sB s f) n).length : Nat) : Int) - (if 0 < min N (pk (sB s f) n).length ∧ onB (sB s t) (lz (sB s f) 0).1 (lz (sB s f) 0).2.2 = true then 1 else 0) := by
    intro N
    induction N with
    | zero => intro _; rw [if_neg (fun z => by have := z.1; omega)]; rfl
    | succ N ih =>
      intro hN
      have pa := (pk_at (t := n) hokf (show N < (sB s f).length by omega)).1
      rw [sm_s, ih (by omega)]
      have ec : ∀ M : Nat, (if 0 < M ∧ onB (sB s t) (lz (sB s f) 0).1 (lz (sB s f) 0).2.2 = true then (1 : Int) else 0) = if onB (sB s t) (lz (sB s f) 0).1 (lz (sB s f) 0).2.2 = true then min 1 (M : Int) else 0 := by
        intro M
        by_cases hq : onB (sB s t) (lz (sB s f) 0).1 (lz (sB s f) 0).2.2 = true
        · rw [if_pos hq]
          by_cases hM : 0 < M
          · rw [if_pos ⟨hM, hq⟩]; omega
          · rw [if_neg (fun z => hM z.1)]; omega
        · rw [if_neg hq, if_neg (fun z => hq z.2)]
      rw [ec, ec]
      by_cases hp : 0 < pB (sB s f) N n
      · have hlt := pa.mp hp
        by_cases hq : onB (sB s t) (lz (sB s f) 0).1 (lz (sB s f) 0).2.2 = true
        · rw [if_pos hq, if_pos hq]
          by_cases e0 : N = 0
          · have ei : inB (sB s f) (sB s t) n N = 0 := if_neg (fun z => z.2 ⟨e0, hq⟩)
            rw [ei]; omega
          · have ei : inB (sB s f) (sB s t) n N = 1 := if_pos ⟨hp, fun z => e0 z.1⟩
            rw [ei]; omega
        · rw [if_neg hq, if_neg hq]
          have ei : inB (sB s f) (sB s t) n N = 1 := if_pos ⟨hp, fun z => hq z.2⟩
          rw [ei]; omega
      · have hge : ¬ N < (pk (sB s f) n).length := fun z => hp (pa.mpr z)
        have ei : inB (sB s f) (sB s t) n N = 0 := if_neg (fun z => hp z.1)
        rw [ei, show min (N + 1) (pk (sB s f) n).length = min N (pk (sB s f) n).length by omega]; omega
  rw [hcount _ (Nat.le_refl _), show min (sB s f).length (pk (sB s f) n).length = (pk (sB s f) n).length by omega] at hJ
  have hlast : ((sB s t).length : Int) + (((pk (sB s f) n).length : Nat) - (if 0 < (pk (sB s f) n).length ∧ onB (sB s t) (lz (sB s f) 0).1 (lz (sB s f) 0).2.2 = true then 1 else 0)) = ((lays (sB s t) (pk (sB s f) n)).length : Int) := by
    by_cases h0 : 0 < (pk (sB s f) n).length
    · have h1 := (pk_at (t := n) hokf (show 0 < (sB s f).length by omega)).2 h0
      rw [h1] at hll
      simp only [] at hll
      by_cases hq : onB (sB s t) (lz (sB s f) 0).1 (lz (sB s f) 0).2.2 = true
      · rw [if_pos ⟨h0, hq⟩] at hll ⊢; omega
      · rw [if_neg (fun z => hq z.2)] at hll ⊢; omega
    · rw [if_neg (fun z => h0 z.1)] at hll ⊢; omega
  rw [hlast] at hJ
  have h00 : nZ (((sB s t).length : Int) + sm 0 (inB (sB s f) (sB s t) n)) = nZ (sB s t).length := congrArg nZ (Int.add_zero _)
  rw [h00] at hJ
  refine hJ.trans ?_
  rw [e_X7_layersWith_11]
  simp (disch := omega) only [z0, z1, z2, z3, z4, z5, z6, z12, z18, z48, z54, z60, z66, z174, z175, z_neg, z_add, z_sub, z_mul, z_tn, g_in, g_b0, g_b1, Int.toNat_natCast, z_le, z_lt, z_eq, z_mx, z_mn, if_pos, if_neg, if_true, if_false, cN]
theorem ap_g {s : gb_St} {A : List gb_Ly} {g : Nat} (h : ∀ l ∈ A, okL l) : (bm 6 (fun k => decide (0 < lG A k)) &&& bm 6 (fun k => decide (sO s g k < 0)) = 0) = (ap s A g = false) := ap_and h
theorem apP_i {s : gb_St} {A P : List gb_Ly} : apP s A P = true ↔ ∃ i, i < P.length ∧ ap s A (lz P i).1 = true := by
  unfold apP
  rw [List.any_eq_true]
  constructor
  · rintro ⟨l, hl, h⟩
    obtain ⟨i, hi, rfl⟩ := lz_of_mem hl
    exact ⟨i, hi, h⟩
  · rintro ⟨i, hi, h⟩
    exact ⟨_, lz_mem hi, h⟩
theorem p_whyNotMove (hC : gb_SC σ j s) (hf : f < 6) (ht : t < 6) {n : Int} (hn : 1 ≤ n ∧ n ≤ 99) (hadj : adj (sB s f)) : f_X7_whyNotMove [gR 10 j, gI (nZ f), gI (nZ t), gI (nZ n)] σ = some (some (gI (nZ (mvW s f t n))), σ) := by
  obtain ⟨⟨cW, cP, cN, cT, cL, cH, cY, cQ⟩, ⟨rK, rC, rO, rA⟩, iw, ik, io, ic, ip, il, id⟩ := id hC
  obtain ⟨y1, y2, q1, q2⟩ := id
  have hlf := (il f hf).1
  have hokf := (il f hf).2.2
  have hT := lG_r il hf 0
  have hT' := lG_r il ht 0
  have hc := ic t ht
  have hpl := pk_len (L := sB s f) (t := n)
  have hn' : 0 ≤ n ∧ n ≤ 99 := by omega
  have hlw := p_layersWith hC hf ht hn hadj
  have hll := lays_len (A := sB s t) (pk_adj (t := n) hokf hadj)
  have hlt := (il t ht).1
  rw [e_X7_whyNotMove]
  unfold mvW
  by_cases h1 : sY s < sP s f
  · rw [if_pos h1]
    simp (disch := omega) only [z0, z1, z2, z3, z4, z5, z6, z12, z18, z48, z54, z60, z66, z174, z175, z_neg, z_add, z_sub, z_mul, z_tn, g_in, g_b0, g_b1, Int.toNat_natCast, z_le, z_lt, z_eq, z_mx, z_mn, if_pos, if_neg, if_true, if_false, p_closed_t hC hf h1]
  rw [if_neg h1]
  by_cases h2 : sY s < sP s t
  · rw [if_pos h2]
    simp (disch := omega) only [z0, z1, z2, z3, z4, z5, z6, z12, z18, z48, z54, z60, z66, z174, z175, z_neg, z_add, z_sub, z_mul, z_tn, g_in, g_b0, g_b1, Int.toNat_natCast, z_le, z_lt, z_eq, z_mx, z_mn, if_pos, if_neg, if_true, if_false, p_closed_f hC hf h1, p_closed_t hC ht h2]
  rw [if_neg h2]
  by_cases h3 : lT (sB s f) < n
  · rw [if_pos h3]
    simp (disch := omega) only [z0, z1, z2, z3, z4, z5, z6, z12, z18, z48, z54, z60, z66, z174, z175, z_neg, z_add, z_sub, z_mul, z_tn, g_in, g_b0, g_b1, Int.toNat_natCast, z_le, z_lt, z_eq, z_mx, z_mn, if_pos, if_neg, if_true, if_false, p_closed_f hC hf h1, p_closed_f hC ht h2, cT]
  rw [if_neg h3]
  by_cases h4 : sC s t < lT (sB s t) + n
  · rw [if_pos h4]
    simp (disch := omega) only [z0, z1, z2, z3, z4, z5, z6, z12, z18, z48, z54, z60, z66, z174, z175, z_neg, z_add, z_sub, z_mul, z_tn, g_in, g_b0, g_b1, Int.toNat_natCast, z_le, z_lt, z_eq, z_mx, z_mn, if_pos, if_neg, if_true, if_false, p_closed_f hC hf h1, p_closed_f hC ht h2, cT, rC]
  rw [if_neg h4]
  simp (disch := omega) only [z0, z1, z2, z3, z4, z5, z6, z12, z18, z48, z54, z60, z66, z174, z175, z_neg, z_add, z_sub, z_mul, z_tn, g_in, g_b0, g_b1, Int.toNat_natCast, z_le, z_lt, z_eq, z_mx, z_mn, if_pos, if_neg, if_true, if_false, p_closed_f hC hf h1, p_closed_f hC ht h2, cT, rC, p_gradesIn hC ht]
  obtain ⟨k, hk, hno, hJ, he⟩ := lp_ex (n := (sB s f).length) (fun i => j_X7_whyNotMove_65 j (nZ f) (nZ t) (nZ n) (bm 6 (fun g => decide (0 < lG (sB s t) g))) (nZ i) σ) (fun i => 0 < pB (sB s f) i n ∧ ap s (sB s t) (lz (sB s f) i).1 = true) (by
    intro i hi hp
    obtain ⟨g1, g2, g3⟩ := cL f i hf hi
    obtain ⟨l1, l2, l3, l4, l5⟩ := lz_ok il hf hi
    have hpr := pB_r (t := n) il hf hi
    have hap := ap_g (s := s) (A := sB s t) (g := (lz (sB s f) i).1) (il t ht).2.2
    rw [e_X7_whyNotMove_65]
    by_cases h0 : 0 < pB (sB s f) i n
    · have hz : ap s (sB s t) (lz (sB s f) i).1 = false := by
        cases h : ap s (sB s t) (lz (sB s f) i).1 with
        | false => rfl
        | true => exact absurd ⟨h0, h⟩ hp
      rw [hz] at hap
      have hap : (bm 6 (fun k => decide (0 < lG (sB s t) k)) &&& bm 6 (fun k => decide (sO s (lz (sB s f) i).1 k < 0)) = 0) := by rw [hap]
      have hn0 : ¬ (nZ (pB (sB s f) i n) ≤ (0 : Int32)) := by rw [show (0 : Int32) = nZ 0 from rfl, z_le (by omega) (by omega)]; omega
      simp (disch := omega) only [g_in, z_tn, Int.toNat_natCast, cN, z_le, if_neg hn0, if_neg, p_partBelow hC hf hi hn', g_b1, p_place, g1, rA, if_pos hap, z1, z_add, Int.natCast_add, Int.natCast_one]
    · simp (disch := omega) only [z0, z1, z2, z3, z4, z5, z6, z12, z18, z48, z54, z60, z66, z174, z175, z_neg, z_add, z_sub, z_mul, z_tn, g_in, g_b0, g_b1, Int.toNat_natCast, z_le, z_lt, z_eq, z_mx, z_mn, if_pos, if_neg, if_true, if_false, cN, p_partBelow hC hf hi hn', Int.natCast_add, Int.natCast_one])
  refine hJ.trans ?_
  try dsimp only
  rcases he with rfl | ⟨hi, hp0, hp1⟩
  · have hnone : apP s (sB s t) (pk (sB s f) n) = false := by
      cases h : apP s (sB s t) (pk (sB s f) n) with
      | false => rfl
      | true =>
        obtain ⟨i, hi, hz⟩ := apP_i.mp h
        obtain ⟨pa, pb⟩ := pk_at (t := n) hokf (show i < (sB s f).length by omega)
        rw [pb hi] at hz
        exact absurd ⟨pa.mpr hi, hz⟩ (hno i (by omega))
    rw [hnone, if_neg (by simp), e_X7_whyNotMove_65]
    by_cases h6 : 6 < (lays (sB s t) (pk (sB s f) n)).length
    · rw [if_pos h6]
      simp (disch := omega) only [z0, z1, z2, z3, z4, z5, z6, z12, z18, z48, z54, z60, z66, z174, z175, z_neg, z_add, z_sub, z_mul, z_tn, g_in, g_b0, g_b1, Int.toNat_natCast, z_le, z_lt, z_eq, z_mx, z_mn, if_pos, if_neg, if_true, if_false, cN, hlw]
    · rw [if_neg h6]
      simp (disch := omega) only [z0, z1, z2, z3, z4, z5, z6, z12, z18, z48, z54, z60, z66, z174, z175, z_neg, z_add, z_sub, z_mul, z_tn, g_in, g_b0, g_b1, Int.toNat_natCast, z_le, z_lt, z_eq, z_mx, z_mn, if_pos, if_neg, if_true, if_false, cN, hlw]
  · obtain ⟨g1, g2, g3⟩ := cL f k hf hi
    obtain ⟨l1, l2, l3, l4, l5⟩ := lz_ok il hf hi
    have hpr := pB_r (t := n) il hf hi
    obtain ⟨pa, pb⟩ := pk_at (t := n) hokf hi
    have hlt := pa.mp hp0
    have hsome : apP s (sB s t) (pk (sB s f) n) = true := apP_i.mpr ⟨k, hlt, by rw [pb hlt]; exact hp1⟩
    have hap := ap_g (s := s) (A := sB s t) (g := (lz (sB s f) k).1) (il t ht).2.2
    rw [hp1] at hap
    have hap : ¬ (bm 6 (fun k => decide (0 < lG (sB s t) k)) &&& bm 6 (fun k_1 => decide (sO s (lz (sB s f) k).1 k_1 < 0)) = 0) := by rw [hap]; simp
    rw [hsome, if_pos rfl, e_X7_whyNotMove_65]
    have hn0 : ¬ (nZ (pB (sB s f) k n) ≤ (0 : Int32)) := by rw [show (0 : Int32) = nZ 0 from rfl, z_le (by omega) (by omega)]; omega
    simp (disch := omega) only [g_in, z_tn, Int.toNat_natCast, cN, z_le, if_neg hn0, if_neg, p_partBelow hC hf hi hn', g_b1, p_place, g1, rA, if_neg hap]
    rfl
end MOVE
