/-! BOTTOM, REACHES -/
/-- how many layers from below on are of one grade -/
def hl (L : List gb_Ly) (g : Nat) : Nat := match L with
  | [] => 0
  | l :: t => if l.1 = g then hl t g + 1 else 0
def rn (L : List gb_Ly) (g : Nat) : Int := lT (L.take (hl L g))
theorem hl_le {g : Nat} : ∀ {L : List gb_Ly}, hl L g ≤ L.length
  | [] => Nat.le_refl 0
  | l :: t => by
    have := hl_le (g := g) (L := t)
    unfold hl
    split
    · exact Nat.succ_le_succ this
    · omega
theorem lz_s {l : gb_Ly} {L : List gb_Ly} {i : Nat} : lz (l :: L) (i + 1) = lz L i := by simp [lz]
theorem lz_0 {l : gb_Ly} {L : List gb_Ly} : lz (l :: L) 0 = l := by simp [lz]
theorem hl_eq {g : Nat} : ∀ {L : List gb_Ly} {m : Nat}, m ≤ L.length → (∀ q, q < m → (lz L q).1 = g) → (m = L.length ∨ ¬ (lz L m).1 = g) → hl L g = m
  | [], m, h, _, _ => by have : m = 0 := by simpa using h
                         subst this; rfl
  | l :: t, 0, _, _, h => by
    rcases h with h | h
    · cases h
    · rw [lz_0] at h
      unfold hl
      rw [if_neg h]
  | l :: t, m + 1, h1, h2, h3 => by
    have e := h2 0 (by omega)
    rw [lz_0] at e
    have := hl_eq (g := g) (L := t) (m := m) (by simpa using h1) (fun q hq => by have := h2 (q + 1) (by omega); rwa [lz_s] at this) (by
      rcases h3 with h3 | h3
      · exact Or.inl (by simpa using h3)
      · rw [lz_s] at h3; exact Or.inr h3)
    unfold hl
    rw [if_pos e, this]
theorem lz_drop {L : List gb_Ly} {i k : Nat} : lz (L.drop i) k = lz L (i + k) := by
  unfold lz
  simp [List.getD, List.getElem?_drop]
theorem rn_c {l : gb_Ly} {L : List gb_Ly} {g : Nat} : rn (l :: L) g = if l.1 = g then l.2.1 + rn L g else 0 := by
  unfold rn
  show lT ((l :: L).take (if l.1 = g then hl L g + 1 else 0)) = _
  by_cases h : l.1 = g
  · rw [if_pos h, if_pos h]; rfl
  · rw [if_neg h, if_neg h]; rfl
theorem rn_nn {L : List gb_Ly} {g : Nat} (h : ∀ l ∈ L, okL l) : 0 ≤ rn L g := lT_nn (fun l hl => h l (List.mem_of_mem_take hl))
section BO
variable {σ : gb_M} {j : Nat} {s : gb_St} {b : Nat}
theorem p_runEnd (hC : gb_SC σ j s) (hb : b < 6) {i : Nat} (hi : i < (sB s b).length) : f_X7_runEnd [gR 10 j, gI (nZ b), gI (nZ i)] σ = some (some (gI (nZ (i + hl ((sB s b).drop i) (lz (sB s b) i).1 : Nat))), σ) := by
  obtain ⟨⟨cW, cP, cN, cT, cL, cH, cY, cQ⟩, ⟨rK, rC, rO, rA⟩, iw, ik, io, ic, ip, il, id⟩ := id hC
  obtain ⟨y1, y2, q1, q2⟩ := id
  have hlen := (il b hb).1
  have hgi := (cL b i hb hi).1
  have hli := (lz_ok il hb hi).1
  obtain ⟨k, hk, hn, hJ, he⟩ := lp_ex (n := (sB s b).length - (i + 1)) (fun k => j_X7_runEnd_9 j (nZ b) (nZ i) (nZ (i + 1 + k : Nat)) (nZ (i + 1 + k : Nat)) σ) (fun k => ¬ (lz (sB s b) (i + 1 + k)).1 = (lz (sB s b) i).1) (by
    intro k hk hp
    have hp := Classical.not_not.mp hp
    have hgk := (cL b (i + 1 + k) hb (by omega)).1
    have hlk := (lz_ok il hb (i := i + 1 + k) (by omega)).1
    try dsimp only
    rw [e_X7_runEnd_9, z_tn (by omega), Int.toNat_natCast, g_in (by omega), cN b hb, if_neg (by rw [z_le ⟨by omega, by omega⟩ ⟨by omega, by omega⟩]; omega), p_place, g_b1, z_tn (by omega), hgk, g_in (by omega), p_place, g_b1, z_tn (by omega), hgi, g_in (by omega), hp, if_pos rfl, zs]
    rfl)
  have e1 : nZ i + 1 = nZ (i + 1 + 0 : Nat) := by rw [zs]
  have hh : hl ((sB s b).drop i) (lz (sB s b) i).1 = k + 1 := by
    refine hl_eq (by rw [List.length_drop]; omega) (fun q hq => ?_) ?_
    · rw [lz_drop]
      cases q with
      | zero => rfl
      | succ q =>
        have := Classical.not_not.mp (hn q (by omega))
        rw [show i + (q + 1) = i + 1 + q by omega]
        exact this
    · rw [List.length_drop, lz_drop, show i + (k + 1) = i + 1 + k by omega]
      rcases he with he | ⟨he, hp⟩
      · exact Or.inl (by omega)
      · exact Or.inr hp
  rw [e_X7_runEnd, e1]
  refine hJ.trans ?_
  try dsimp only
  rw [hh, show i + (k + 1) = i + 1 + k by omega]
  rcases he with he | ⟨he, hp⟩
  · rw [e_X7_runEnd_9, z_tn (by omega), Int.toNat_natCast, g_in (by omega), cN b hb, if_pos (by rw [z_le ⟨by omega, by omega⟩ ⟨by omega, by omega⟩]; omega)]
  · have hgk := (cL b (i + 1 + k) hb (by omega)).1
    have hlk := (lz_ok il hb (i := i + 1 + k) (by omega)).1
    rw [e_X7_runEnd_9, z_tn (by omega), Int.toNat_natCast, g_in (by omega), cN b hb, if_neg (by rw [z_le ⟨by omega, by omega⟩ ⟨by omega, by omega⟩]; omega), p_place, g_b1, z_tn (by omega), hgk, g_in (by omega), p_place, g_b1, z_tn (by omega), hgi, g_in (by omega), if_neg (by rw [z_eq ⟨by omega, by omega⟩ ⟨by omega, by omega⟩]; omega)]
end BO
/-- tons below the first run of a grade with so many -/
def ah (L : List gb_Ly) (g : Nat) (t : Int) : Option Int := match L with
  | [] => none
  | l :: L' => if l.1 = g ∧ t ≤ rn (l :: L') g then some 0 else (ah L' g t).map (fun u => l.2.1 + u)
theorem ah_r {g : Nat} {t : Int} : ∀ {L : List gb_Ly}, (∀ l ∈ L, okL l) → ∀ u, ah L g t = some u → 0 ≤ u ∧ u ≤ lT L
  | [], _, u, h => by cases h
  | l :: L, hok, u, h => by
    have hl := (hok l List.mem_cons_self).2.1
    have hL := lT_nn (fun x hx => hok x (List.mem_cons_of_mem l hx))
    unfold ah at h
    rw [lT_c]
    by_cases e : l.1 = g ∧ t ≤ rn (l :: L) g
    · rw [if_pos e] at h
      cases h
      omega
    · rw [if_neg e] at h
      obtain ⟨v, hv, rfl⟩ := Option.map_eq_some_iff.mp h
      have := ah_r (fun x hx => hok x (List.mem_cons_of_mem l hx)) v hv
      omega
def aE (d : Int) (o : Option Int) : Int := match o with
  | none => d
  | some u => u
/-- from a layer on: what was found so far -/
theorem ah_m {g : Nat} {t : Int} (ht : 1 ≤ t) : ∀ {L : List gb_Ly}, (∀ l ∈ L, okL l) → ∀ under run : Int, 0 ≤ run → run < t → ∀ F : List gb_Ly → Int → Int → Option Int, (∀ u r, F [] u r = none) → (∀ l L u r, F (l :: L) u r = if l.1 = g then (if r + l.2.1 < t then F L u (r + l.2.1) else some u) else F L (u + (r + l.2.1)) 0) → F L under run = if t ≤ run + rn L g then some under else (ah L g t).map (fun u => under + run + u)
  | [], _, under, run, h1, h2, F, f0, f1 => by
    rw [f0, if_neg (by show ¬ t ≤ run + 0; omega)]; rfl
  | l :: L, hok, under, run, h1, h2, F, f0, f1 => by
    have hl := (hok l List.mem_cons_self).2.1
    have hok' : ∀ x ∈ L, okL x := fun x hx => hok x (List.mem_cons_of_mem l hx)
    have hrn := rn_nn (g := g) hok'
    have ih := ah_m (g := g) ht hok'
    have mm : ∀ (o : Option Int) (a c : Int), (∀ u, a + u = c + (l.2.1 + u)) → o.map (fun u => a + u) = (o.map (fun u => l.2.1 + u)).map (fun u => c + u) := by
      intro o a c h
      cases o with
      | none => rfl
      | some v => exact congrArg some (h v)
    rw [f1]
    by_cases e : l.1 = g
    · rw [if_pos e]
      have er : rn (l :: L) g = l.2.1 + rn L g := by rw [rn_c, if_pos e]
      by_cases c : run + l.2.1 < t
      · rw [if_pos c, ih under (run + l.2.1) (by omega) c F f0 f1, er]
        by_cases c2 : t ≤ run + l.2.1 + rn L g
        · rw [if_pos c2, if_pos (by omega)]
        · rw [if_neg c2, if_neg (by omega)]
          have : ah (l :: L) g t = (ah L g t).map (fun u => l.2.1 + u) := if_neg (by rw [er]; omega)
          rw [this]
          exact mm _ _ _ (fun u => by omega)
      · rw [if_neg c, if_pos (by rw [er]; omega)]
    · rw [if_neg e, ih (under + (run + l.2.1)) 0 (Int.le_refl 0) (by omega) F f0 f1]
      have er : rn (l :: L) g = 0 := by rw [rn_c, if_neg e]
      have ea : ah (l :: L) g t = (ah L g t).map (fun u => l.2.1 + u) := if_neg (fun z => e z.1)
      rw [if_neg (show ¬ t ≤ run + rn (l :: L) g by omega), ea]
      by_cases c2 : t ≤ 0 + rn L g
      · rw [if_pos c2]
        have : ah L g t = some 0 := by
          cases L with
          | nil =>
            exfalso
            have : rn [] g = 0 := rfl
            omega
          | cons l' L' =>
            have e' : l'.1 = g := by
              by_cases e' : l'.1 = g
              · exact e'
              · exfalso
                rw [rn_c, if_neg e'] at c2
                omega
            exact if_pos ⟨e', by omega⟩
        rw [this]
        exact congrArg some (by omega : under + (run + l.2.1) = under + run + (l.2.1 + 0))
      · rw [if_neg c2]
        exact mm _ _ _ (fun u => by omega)
def bF (g : Nat) (t : Int) (L : List gb_Ly) (u r : Int) : Option Int := match L with
  | [] => none
  | l :: L => if l.1 = g then (if r + l.2.1 < t then bF g t L u (r + l.2.1) else some u) else bF g t L (u + (r + l.2.1)) 0
theorem bF_ah {g : Nat} {t : Int} (ht : 1 ≤ t) {L : List gb_Ly} (h : ∀ l ∈ L, okL l) : bF g t L 0 0 = ah L g t := by
  rw [ah_m ht h 0 0 (Int.le_refl 0) (by omega) (bF g t) (fun _ _ => rfl) (fun _ _ _ _ => rfl)]
  cases L with
  | nil => rw [if_neg (by show ¬ t ≤ 0 + 0; omega)]; rfl
  | cons l L =>
    by_cases c : t ≤ 0 + rn (l :: L) g
    · rw [if_pos c]
      have e : l.1 = g := by
        by_cases e : l.1 = g
        · exact e
        · exfalso
          rw [rn_c, if_neg e] at c
          omega
      exact (if_pos ⟨e, by omega⟩).symm
    · rw [if_neg c]
      cases ah (l :: L) g t with
      | none => rfl
      | some v => exact congrArg some (by omega : 0 + 0 + v = v)
theorem dr_c {L : List gb_Ly} {i : Nat} (h : i < L.length) : L.drop i = lz L i :: L.drop (i + 1) := by
  rw [List.drop_eq_getElem_cons h]
  congr 1
  simp [lz, List.getD, h]
section RE
variable {σ : gb_M} {j : Nat} {s : gb_St} {b : Nat}
end RE
def reF (s : gb_St) (g : Nat) (t : Int) (b : Nat) (a : Option (Int × Int)) : Option (Int × Int) := if sY s < sP s b then a else match ah (sB s b) g t with
  | none => a
  | some u => match a with
    | none => some (u, (b : Int))
    | some x => if u < x.1 then some (u, (b : Int)) else a
def reP (a : Option (Int × Int)) : Prop := ∀ x, a = some x → 0 ≤ x.1 ∧ x.1 ≤ 99 ∧ 0 ≤ x.2 ∧ x.2 < 6
theorem reF_P {s : gb_St} (hI : gb_IV s) {g b : Nat} {t : Int} (hb : b < 6) {a : Option (Int × Int)} (h : reP a) : reP (reF s g t b a) := by
  have hT := lG_r hI.2.2.2.2.2.1 hb 0
  have hr := ah_r (g := g) (t := t) (hI.2.2.2.2.2.1 b hb).2.2
  unfold reF
  by_cases c : sY s < sP s b
  · rw [if_pos c]; exact h
  rw [if_neg c]
  cases hu : ah (sB s b) g t with
  | none => exact h
  | some u =>
    have := hr u hu
    have hn : reP (some (u, (b : Int))) := fun x hx => by
      cases hx
      refine ⟨?_, ?_, ?_, ?_⟩ <;> dsimp only <;> omega
    cases a with
    | none => exact hn
    | some x =>
      show reP (if u < x.1 then some (u, (b : Int)) else some x)
      split
      · exact hn
      · exact h
def reE (d e : Int) (a : Option (Int × Int)) : Int × Int := match a with
  | none => (d, e)
  | some x => x