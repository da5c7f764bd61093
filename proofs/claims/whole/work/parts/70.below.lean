/-! BOTTOM, REACHES -/
/-- how many layers from below on are of one grade -/
def hl (L : List gb_Ly) (g : Nat) : Nat := match L with
  | [] => 0
  | l :: t => if l.1 = g then hl t g + 1 else 0
def rn (L : List gb_Ly) (g : Nat) : Int := lT (L.take (hl L g))
theorem hl_le {g : Nat} : ∀ {L : List gb_Ly}, hl L g ≤ L.length
  | [] => Nat.le_refl 0
  | l :: t => by
    have := hl_le (g := g) (L := t)
    unfold hl
    split
    · exact Nat.succ_le_succ this
    · omega
theorem lz_s {l : gb_Ly} {L : List gb_Ly} {i : Nat} : lz (l :: L) (i + 1) = lz L i := by simp [lz]
theorem lz_0 {l : gb_Ly} {L : List gb_Ly} : lz (l :: L) 0 = l := by simp [lz]
theorem hl_eq {g : Nat} : ∀ {L : List gb_Ly} {m : Nat}, m ≤ L.length → (∀ q, q < m → (lz L q).1 = g) → (m = L.length ∨ ¬ (lz L m).1 = g) → hl L g = m
  | [], m, h, _, _ => by have : m = 0 := by simpa using h
                         subst this; rfl
  | l :: t, 0, _, _, h => by
    rcases h with h | h
    · cases h
    · rw [lz_0] at h
      unfold hl
      rw [if_neg h]
  | l :: t, m + 1, h1, h2, h3 => by
    have e := h2 0 (by omega)
    rw [lz_0] at e
    have := hl_eq (g := g) (L := t) (m := m) (by simpa using h1) (fun q hq => by have := h2 (q + 1) (by omega); rwa [lz_s] at this) (by
      rcases h3 with h3 | h3
      · exact Or.inl (by simpa using h3)
      · rw [lz_s] at h3; exact Or.inr h3)
    unfold hl
    rw [if_pos e, this]
theorem lz_drop {L : List gb_Ly} {i k : Nat} : lz (L.drop i) k = lz L (i + k) := by
  unfold lz
  simp [List.getD, List.getElem?_drop]
theorem rn_c {l : gb_Ly} {L : List gb_Ly} {g : Nat} : rn (l :: L) g = if l.1 = g then l.2.1 + rn L g else 0 := by
  unfold rn
  show lT ((l :: L).take (if l.1 = g then hl L g + 1 else 0)) = _
  by_cases h : l.1 = g
  · rw [if_pos h, if_pos h]; rfl
  · rw [if_neg h, if_neg h]; rfl
theorem rn_nn {L : List gb_Ly} {g : Nat} (h : ∀ l ∈ L, okL l) : 0 ≤ rn L g := lT_nn (fun l hl => h l (List.mem_of_mem_take hl))
section BO
variable {σ : gb_M} {j : Nat} {s : gb_St} {b : Nat}
theorem p_runEnd (hC : gb_SC σ j s) (hb : b < 6) {i : Nat} (hi : i < (sB s b).length) : f_X7_runEnd [gR 10 j, gI (nZ b), gI (nZ i)] σ = some (some (gI (nZ (i + hl ((sB s b).drop i) (lz (sB s b) i).1 : Nat))), σ) := by
  obtain ⟨⟨cW, cP, cN, cT, cL, cH, cY, cQ⟩, ⟨rK, rC, rO, rA⟩, iw, ik, io, ic, ip, il, id⟩ := id hC
  obtain ⟨y1, y2, q1, q2⟩ := id
  have hlen := (il b hb).1
  have hgi := (cL b i hb hi).1
  have hli := (lz_ok il hb hi).1
  obtain ⟨k, hk, hn, hJ, he⟩ := lp_ex (n := (sB s b).length - (i + 1)) (fun k => j_X7_runEnd_9 j (nZ b) (nZ i) (nZ (i + 1 + k : Nat)) (nZ (i + 1 + k : Nat)) σ) (fun k => ¬ (lz (sB s b) (i + 1 + k)).1 = (lz (sB s b) i).1) (by
    intro k hk hp
    have hp := Classical.not_not.mp hp
    have hgk := (cL b (i + 1 + k) hb (by omega)).1
    have hlk := (lz_ok il hb (i := i + 1 + k) (by omega)).1
    try dsimp only
    rw [e_X7_runEnd_9, z_tn (by omega), Int.toNat_natCast, g_in (by omega), cN b hb, if_neg (by rw [z_le ⟨by omega, by omega⟩ ⟨by omega, by omega⟩]; omega), p_place, g_b1, z_tn (by omega), hgk, g_in (by omega), p_place, g_b1, z_tn (by omega), hgi, g_in (by omega), hp, if_pos rfl, zs]
    rfl)
  have e1 : nZ i + 1 = nZ (i + 1 + 0 : Nat) := by rw [zs]
  have hh : hl ((sB s b).drop i) (lz (sB s b) i).1 = k + 1 := by
    refine hl_eq (by rw [List.length_drop]; omega) (fun q hq => ?_) ?_
    · rw [lz_drop]
      cases q with
      | zero => rfl
      | succ q =>
        have := Classical.not_not.mp (hn q (by omega))
        rw [show i + (q + 1) = i + 1 + q by omega]
        exact this
    · rw [List.length_drop, lz_drop, show i + (k + 1) = i + 1 + k by omega]
      rcases he with he | ⟨he, hp⟩
      · exact Or.inl (by omega)
      · exact Or.inr hp
  rw [e_X7_runEnd, e1]
  refine hJ.trans ?_
  try dsimp only
  rw [hh, show i + (k + 1) = i + 1 + k by omega]
  rcases he with he | ⟨he, hp⟩
  · rw [e_X7_runEnd_9, z_tn (by omega), Int.toNat_natCast, g_in (by omega), cN b hb, if_pos (by rw [z_le ⟨by omega, by omega⟩ ⟨by omega, by omega⟩]; omega)]
  · have hgk := (cL b (i + 1 + k) hb (by omega)).1
    have hlk := (lz_ok il hb (i := i + 1 + k) (by omega)).1
    rw [e_X7_runEnd_9, z_tn (by omega), Int.toNat_natCast, g_in (by omega), cN b hb, if_neg (by rw [z_le ⟨by omega, by omega⟩ ⟨by omega, by omega⟩]; omega), p_place, g_b1, z_tn (by omega), hgk, g_in (by omega), p_place, g_b1, z_tn (by omega), hgi, g_in (by omega), if_neg (by rw [z_eq ⟨by omega, by omega⟩ ⟨by omega, by omega⟩]; omega)]
theorem m_lowest (hM : gb_MM σ s) (hb : b < 6) {g : Nat} (hg : g < 6) : f_X10_lowest [gR 36 0, gI (nZ b), gI (nZ g)] σ = some (some (gI (nZ (rn (sB s b) g))), σ) := by
  obtain ⟨⟨mW, mK, mO, mC, mP, mN, mL, mY, mQ⟩, iw, ik, io, ic, ip, il, id⟩ := id hM
  obtain ⟨y1, y2, q1, q2⟩ := id
  simp only [Nat.zero_add] at mW mK mO mC mP mN mL mY mQ
  have hlen := (il b hb).1
  obtain ⟨k, hk, hn, hJ, he⟩ := lp_ex (n := (sB s b).length) (fun k => j_X10_lowest_5 (nZ b) (nZ g) (nZ (lT ((sB s b).take k))) (nZ k) σ) (fun k => ¬ (lz (sB s b) k).1 = g) (by
    intro k hk hp
    have hp := Classical.not_not.mp hp
    try dsimp only
    rw [e_X10_lowest_5, m_many hM hb, g_b1, if_neg (by rw [z_le ⟨by omega, by omega⟩ ⟨by omega, by omega⟩]; omega), z0, m_l0 hM hb hk, g_b1, hp, if_pos rfl, z1, m_l1 hM hb hk, g_b1, z_add, z_add, show lT ((sB s b).take (k + 1)) = lT ((sB s b).take k) + (lz (sB s b) k).2.1 from sL_take hk]
    rfl)
  have hh : hl (sB s b) g = k := hl_eq hk (fun q hq => Classical.not_not.mp (hn q hq)) (he.imp id (fun h => h.2))
  rw [e_X10_lowest]
  refine hJ.trans ?_
  try dsimp only
  unfold rn
  rw [hh]
  rcases he with he | ⟨he, hp⟩
  · rw [e_X10_lowest_5, m_many hM hb, g_b1, if_pos (by rw [z_le ⟨by omega, by omega⟩ ⟨by omega, by omega⟩]; omega)]
  · have hlk := (lz_ok il hb (i := k) (by omega)).1
    rw [e_X10_lowest_5, m_many hM hb, g_b1, if_neg (by rw [z_le ⟨by omega, by omega⟩ ⟨by omega, by omega⟩]; omega), z0, m_l0 hM hb he, g_b1, if_neg (by rw [z_eq ⟨by omega, by omega⟩ ⟨by omega, by omega⟩]; omega)]
end BO
theorem m_L0 {σ : gb_M} {s : gb_St} {b : Nat} (hM : gb_MM σ s) (hb : b < 6) {i : Nat} (hi : i < (sB s b).length) : f_X10_layerOf [gR 36 0, gI (nZ b), gI (nZ i), gI 0] σ = some (some (gI (nZ (lz (sB s b) i).1)), σ) := m_l0 hM hb hi
theorem m_L1 {σ : gb_M} {s : gb_St} {b : Nat} (hM : gb_MM σ s) (hb : b < 6) {i : Nat} (hi : i < (sB s b).length) : f_X10_layerOf [gR 36 0, gI (nZ b), gI (nZ i), gI 1] σ = some (some (gI (nZ (lz (sB s b) i).2.1)), σ) := m_l1 hM hb hi
theorem m_L2 {σ : gb_M} {s : gb_St} {b : Nat} (hM : gb_MM σ s) (hb : b < 6) {i : Nat} (hi : i < (sB s b).length) : f_X10_layerOf [gR 36 0, gI (nZ b), gI (nZ i), gI 2] σ = some (some (gI (nZ (lz (sB s b) i).2.2)), σ) := m_l2 hM hb hi
theorem th_bottom {A : gb_Ab} (hA : wfA A) (a : Int32) : gb_T2 f_X9_bottom f_X10_bottom [gR 0 0, gI a] [gR 36 0, gI a] A := by
  have hx := nZ_rz a
  rw [nZ_of a]
  generalize a.toInt = x at hx
  have hI := hA.1.1
  by_cases h1 : 0 ≤ x ∧ x < 6
  rotate_left
  · refine T2_same hA (some (gI (-1))) (fun σ hC => ?_) (fun σ hM => ?_)
    · rw [e_X9_bottom, cb_f hx h1, g_b1, e00]
    · rw [e_X10_bottom, mb_f hx h1, g_b1, e00]
  obtain ⟨b, rfl⟩ : ∃ b : Nat, x = b := ⟨x.toNat, by omega⟩
  have hb : b < 6 := by omega
  have hlen := (hI.2.2.2.2.2.1 b hb).1
  by_cases h2 : (sB A.1 b).length = 0
  · refine T2_same hA (some (gI (-2))) (fun σ hC => ?_) (fun σ hM => ?_)
    · have cN := hC.1.1.2.2.1 b hb
      rw [e_X9_bottom, cb_t hb, g_b1, e10, z_tn (by omega), Int.toNat_natCast, g_in (by omega), cN, h2, if_pos (by decide)]
    · rw [e_X10_bottom, mb_t hb, g_b1, e10, m_many (MC_t hM).1.1 hb, g_b1, h2, if_pos (by decide)]
  have h0 : 0 < (sB A.1 b).length := by omega
  have hl0 := (lz_ok hI.2.2.2.2.2.1 hb h0).1
  have hle := hl_le (g := (lz (sB A.1 b) 0).1) (L := sB A.1 b)
  have hLt : hl ((sB A.1 b).drop 0) (lz (sB A.1 b) 0).1 = hl (sB A.1 b) (lz (sB A.1 b) 0).1 := rfl
  refine T2_K (some (gI (nZ (lz (sB A.1 b) 0).1))) (setR A ([] ++ [(nZ (rn (sB A.1 b) (lz (sB A.1 b) 0).1)).toInt64] ++ [(nZ (hl (sB A.1 b) (lz (sB A.1 b) 0).1)).toInt64])) (wf_setR hA) (fun σ hC => ?_) (fun σ hM => ?_)
  · obtain ⟨τ1, a1, c1⟩ := kc_start hC
    obtain ⟨τ2, a2, c2⟩ := kc_add c1 (by simp) (nZ (rn (sB A.1 b) (lz (sB A.1 b) 0).1)).toInt64
    obtain ⟨τ3, a3, c3⟩ := kc_add c2 (by simp) (nZ (hl (sB A.1 b) (lz (sB A.1 b) 0).1)).toInt64
    refine ⟨τ3, ?_, c3⟩
    have cN := hC.1.1.1.2.2.1 b hb
    have g1 := (hC.1.1.1.2.2.2.2.1 b 0 hb h0).1
    have pe := p_runEnd hC.1.1 hb h0
    rw [hLt, Nat.zero_add] at pe
    have pu : f_X7_tonsUnder [gR 10 0, gI (nZ b), gI (nZ (hl (sB A.1 b) (lz (sB A.1 b) 0).1 : Nat))] τ1 = some (some (gI (nZ (rn (sB A.1 b) (lz (sB A.1 b) 0).1))), τ1) := p_tonsUnder c1.1.1 hb (n := hl (sB A.1 b) (lz (sB A.1 b) 0).1) (by omega)
    have pp : f_X7_place [gI (nZ b), gI 0] σ = some (some (gI (nZ ((b : Int) * 6 + ((0 : Nat) : Int)))), σ) := p_place b 0
    have pe' : f_X7_runEnd [gR 10 0, gI (nZ b), gI 0] σ = some (some (gI (nZ (hl (sB A.1 b) (lz (sB A.1 b) 0).1 : Nat))), σ) := pe
    rw [e_X9_bottom, cb_t hb, g_b1, e10, z_tn (by omega), Int.toNat_natCast, g_in (by omega), cN, if_neg (by rw [z0, z_eq ⟨by omega, by omega⟩ ⟨by omega, by omega⟩]; omega), pp, g_b1, z_tn (by omega), g1, g_in (by omega), pe', g_b1, a1, g_b0, pu, g_b1, a2, g_b0, a3, g_b0]
  · have hM1 := hM.1.1
    obtain ⟨k, hk, hn, hJ, he⟩ := lp_ex (n := (sB A.1 b).length) (fun k => j_X10_bottom_35 (nZ b) (nZ (lz (sB A.1 b) 0).1) (nZ k) (gb_si σ 36 0 10 0)) (fun k => ¬ (lz (sB A.1 b) k).1 = (lz (sB A.1 b) 0).1) (by
      intro k hk hp
      have hp := Classical.not_not.mp hp
      try dsimp only
      rw [e_X10_bottom_35, m_many hM1 hb, g_b1, if_neg (by rw [z_le ⟨by omega, by omega⟩ ⟨by omega, by omega⟩]; omega), m_L0 hM1 hb hk, g_b1, hp, if_pos rfl, zs])
    have hh : hl (sB A.1 b) (lz (sB A.1 b) 0).1 = k := hl_eq hk (fun q hq => Classical.not_not.mp (hn q hq)) (he.imp id (fun h => h.2))
    have c1 := km_start hM
    obtain ⟨τ2, a2, c2⟩ := km_tell c1 (by simp) (nZ (rn (sB A.1 b) (lz (sB A.1 b) 0).1)).toInt64
    obtain ⟨τ3, a3, c3⟩ := km_tell c2 (by simp) (nZ (hl (sB A.1 b) (lz (sB A.1 b) 0).1)).toInt64
    refine ⟨τ3, ?_, c3⟩
    rw [hh] at a3
    have hJ' : j_X10_bottom_35 (nZ b) (nZ (lz (sB A.1 b) 0).1) 0 (gb_si σ 36 0 10 0) = j_X10_bottom_35 (nZ b) (nZ (lz (sB A.1 b) 0).1) (nZ k) (gb_si σ 36 0 10 0) := hJ
    have pl : f_X10_lowest [gR 36 0, gI (nZ b), gI (nZ (lz (sB A.1 b) 0).1)] (gb_si (gb_si σ 36 0 10 0) 36 0 9 0) = some (some (gI (nZ (rn (sB A.1 b) (lz (sB A.1 b) 0).1))), gb_si (gb_si σ 36 0 10 0) 36 0 9 0) := m_lowest c1.1.1 hb hl0
    have p0 : f_X10_layerOf [gR 36 0, gI (nZ b), gI 0, gI 0] (gb_si σ 36 0 10 0) = some (some (gI (nZ (lz (sB A.1 b) 0).1)), gb_si σ 36 0 10 0) := m_l0 hM1 hb h0
    rw [e_X10_bottom, mb_t hb, g_b1, e10, m_many hM1 hb, g_b1, if_neg (by rw [z0, z_eq ⟨by omega, by omega⟩ ⟨by omega, by omega⟩]; omega), p0, g_b1, hJ', e_X10_bottom_35, m_many hM1 hb, g_b1]
    rcases he with he | ⟨he, hp⟩
    · rw [if_pos (by rw [z_le ⟨by omega, by omega⟩ ⟨by omega, by omega⟩]; omega), pl, g_b1, a2, g_b0, a3, g_b0]
    · have hlk := (lz_ok hI.2.2.2.2.2.1 hb he).1
      rw [if_neg (by rw [z_le ⟨by omega, by omega⟩ ⟨by omega, by omega⟩]; omega), m_L0 hM1 hb he, g_b1, if_neg (by rw [z_eq ⟨by omega, by omega⟩ ⟨by omega, by omega⟩]; omega)]
      rw [pl, g_b1, a2, g_b0, a3, g_b0]
/-- tons below the first run of a grade with so many -/
def ah (L : List gb_Ly) (g : Nat) (t : Int) : Option Int := match L with
  | [] => none
  | l :: L' => if l.1 = g ∧ t ≤ rn (l :: L') g then some 0 else (ah L' g t).map (fun u => l.2.1 + u)
theorem ah_r {g : Nat} {t : Int} : ∀ {L : List gb_Ly}, (∀ l ∈ L, okL l) → ∀ u, ah L g t = some u → 0 ≤ u ∧ u ≤ lT L
  | [], _, u, h => by cases h
  | l :: L, hok, u, h => by
    have hl := (hok l List.mem_cons_self).2.1
    have hL := lT_nn (fun x hx => hok x (List.mem_cons_of_mem l hx))
    unfold ah at h
    rw [lT_c]
    by_cases e : l.1 = g ∧ t ≤ rn (l :: L) g
    · rw [if_pos e] at h
      cases h
      omega
    · rw [if_neg e] at h
      obtain ⟨v, hv, rfl⟩ := Option.map_eq_some_iff.mp h
      have := ah_r (fun x hx => hok x (List.mem_cons_of_mem l hx)) v hv
      omega
def aE (d : Int) (o : Option Int) : Int := match o with
  | none => d
  | some u => u
/-- from a layer on: what was found so far -/
theorem ah_m {g : Nat} {t : Int} (ht : 1 ≤ t) : ∀ {L : List gb_Ly}, (∀ l ∈ L, okL l) → ∀ under run : Int, 0 ≤ run → run < t → ∀ F : List gb_Ly → Int → Int → Option Int, (∀ u r, F [] u r = none) → (∀ l L u r, F (l :: L) u r = if l.1 = g then (if r + l.2.1 < t then F L u (r + l.2.1) else some u) else F L (u + (r + l.2.1)) 0) → F L under run = if t ≤ run + rn L g then some under else (ah L g t).map (fun u => under + run + u)
  | [], _, under, run, h1, h2, F, f0, f1 => by
    rw [f0, if_neg (by show ¬ t ≤ run + 0; omega)]; rfl
  | l :: L, hok, under, run, h1, h2, F, f0, f1 => by
    have hl := (hok l List.mem_cons_self).2.1
    have hok' : ∀ x ∈ L, okL x := fun x hx => hok x (List.mem_cons_of_mem l hx)
    have hrn := rn_nn (g := g) hok'
    have ih := ah_m (g := g) ht hok'
    have mm : ∀ (o : Option Int) (a c : Int), (∀ u, a + u = c + (l.2.1 + u)) → o.map (fun u => a + u) = (o.map (fun u => l.2.1 + u)).map (fun u => c + u) := by
      intro o a c h
      cases o with
      | none => rfl
      | some v => exact congrArg some (h v)
    rw [f1]
    by_cases e : l.1 = g
    · rw [if_pos e]
      have er : rn (l :: L) g = l.2.1 + rn L g := by rw [rn_c, if_pos e]
      by_cases c : run + l.2.1 < t
      · rw [if_pos c, ih under (run + l.2.1) (by omega) c F f0 f1, er]
        by_cases c2 : t ≤ run + l.2.1 + rn L g
        · rw [if_pos c2, if_pos (by omega)]
        · rw [if_neg c2, if_neg (by omega)]
          have : ah (l :: L) g t = (ah L g t).map (fun u => l.2.1 + u) := if_neg (by rw [er]; omega)
          rw [this]
          exact mm _ _ _ (fun u => by omega)
      · rw [if_neg c, if_pos (by rw [er]; omega)]
    · rw [if_neg e, ih (under + (run + l.2.1)) 0 (Int.le_refl 0) (by omega) F f0 f1]
      have er : rn (l :: L) g = 0 := by rw [rn_c, if_neg e]
      have ea : ah (l :: L) g t = (ah L g t).map (fun u => l.2.1 + u) := if_neg (fun z => e z.1)
      rw [if_neg (show ¬ t ≤ run + rn (l :: L) g by omega), ea]
      by_cases c2 : t ≤ 0 + rn L g
      · rw [if_pos c2]
        have : ah L g t = some 0 := by
          cases L with
          | nil =>
            exfalso
            have : rn [] g = 0 := rfl
            omega
          | cons l' L' =>
            have e' : l'.1 = g := by
              by_cases e' : l'.1 = g
              · exact e'
              · exfalso
                rw [rn_c, if_neg e'] at c2
                omega
            exact if_pos ⟨e', by omega⟩
        rw [this]
        exact congrArg some (by omega : under + (run + l.2.1) = under + run + (l.2.1 + 0))
      · rw [if_neg c2]
        exact mm _ _ _ (fun u => by omega)
def bF (g : Nat) (t : Int) (L : List gb_Ly) (u r : Int) : Option Int := match L with
  | [] => none
  | l :: L => if l.1 = g then (if r + l.2.1 < t then bF g t L u (r + l.2.1) else some u) else bF g t L (u + (r + l.2.1)) 0
theorem bF_ah {g : Nat} {t : Int} (ht : 1 ≤ t) {L : List gb_Ly} (h : ∀ l ∈ L, okL l) : bF g t L 0 0 = ah L g t := by
  rw [ah_m ht h 0 0 (Int.le_refl 0) (by omega) (bF g t) (fun _ _ => rfl) (fun _ _ _ _ => rfl)]
  cases L with
  | nil => rw [if_neg (by show ¬ t ≤ 0 + 0; omega)]; rfl
  | cons l L =>
    by_cases c : t ≤ 0 + rn (l :: L) g
    · rw [if_pos c]
      have e : l.1 = g := by
        by_cases e : l.1 = g
        · exact e
        · exfalso
          rw [rn_c, if_neg e] at c
          omega
      exact (if_pos ⟨e, by omega⟩).symm
    · rw [if_neg c]
      cases ah (l :: L) g t with
      | none => rfl
      | some v => exact congrArg some (by omega : 0 + 0 + v = v)
theorem dr_c {L : List gb_Ly} {i : Nat} (h : i < L.length) : L.drop i = lz L i :: L.drop (i + 1) := by
  rw [List.drop_eq_getElem_cons h]
  congr 1
  simp [lz, List.getD, h]
section RE
variable {σ : gb_M} {j : Nat} {s : gb_St} {b : Nat}
theorem m_below (hM : gb_MM σ s) (hb : b < 6) {g : Nat} (hg : g < 6) {t : Int} (ht : 1 ≤ t ∧ t ≤ 99) : f_X10_below [gR 36 0, gI (nZ b), gI (nZ g), gI (nZ t)] σ = some (some (gI (nZ (aE (-1) (ah (sB s b) g t)))), σ) := by
  obtain ⟨⟨mW, mK, mO, mC, mP, mN, mL, mY, mQ⟩, iw, ik, io, ic, ip, il, id⟩ := id hM
  obtain ⟨y1, y2, q1, q2⟩ := id
  simp only [Nat.zero_add] at mW mK mO mC mP mN mL mY mQ
  have hlen := (il b hb).1
  have hT := lG_r il hb 0
  have key : ∀ n i : Nat, i + n = (sB s b).length → ∀ u r : Int, 0 ≤ u → 0 ≤ r → u + r = lT ((sB s b).take i) → j_X10_below_9 (nZ b) (nZ g) (nZ t) (nZ u) (nZ r) (nZ i) σ = some (some (gI (nZ (aE (-1) (bF g t ((sB s b).drop i) u r)))), σ) := by
    intro n
    induction n with
    | zero =>
      intro i hi u r hu hr hur
      rw [e_X10_below_9, m_many hM hb, g_b1, if_pos (by rw [z_le ⟨by omega, by omega⟩ ⟨by omega, by omega⟩]; omega), List.drop_of_length_le (by omega)]
      rfl
    | succ n ih =>
      intro i hi u r hu hr hur
      have hi' : i < (sB s b).length := by omega
      obtain ⟨l1, l2, l3, l4, l5⟩ := lz_ok il hb hi'
      have hts : lT ((sB s b).take (i + 1)) = lT ((sB s b).take i) + (lz (sB s b) i).2.1 := sL_take hi'
      have htr := lT_take il hb (i + 1)
      rw [dr_c hi', e_X10_below_9, m_many hM hb, g_b1, if_neg (by rw [z_le ⟨by omega, by omega⟩ ⟨by omega, by omega⟩]; omega), z1, m_l1 hM hb hi', g_b1, z0, m_l0 hM hb hi', g_b1, ← z1, zs]
      show _ = some (some (gI (nZ (aE (-1) (if (lz (sB s b) i).1 = g then (if r + (lz (sB s b) i).2.1 < t then bF g t ((sB s b).drop (i + 1)) u (r + (lz (sB s b) i).2.1) else some u) else bF g t ((sB s b).drop (i + 1)) (u + (r + (lz (sB s b) i).2.1)) 0)))), σ)
      by_cases e : (lz (sB s b) i).1 = g
      · rw [if_pos (by rw [e]), if_pos e]
        by_cases c : r + (lz (sB s b) i).2.1 < t
        · rw [z_add, if_pos (by rw [z_lt ⟨by omega, by omega⟩ ⟨by omega, by omega⟩]; exact c), if_pos c, ih (i + 1) (by omega) u _ hu (by omega) (by omega)]
        · rw [z_add, if_neg (by rw [z_lt ⟨by omega, by omega⟩ ⟨by omega, by omega⟩]; exact c), if_neg c]
          rfl
      · rw [if_neg (by rw [z_eq ⟨by omega, by omega⟩ ⟨by omega, by omega⟩]; omega), if_neg e, z_add, z_add, ih (i + 1) (by omega) _ 0 (by omega) (by omega) (by omega)]
  have h0 := key (sB s b).length 0 (by omega) 0 0 (by omega) (by omega) rfl
  rw [List.drop_zero, bF_ah ht.1 (il b hb).2.2] at h0
  rw [e_X10_below]
  exact h0
theorem p_aheadOf (hC : gb_SC σ j s) (hb : b < 6) {g : Nat} (hg : g < 6) {t : Int} (ht : 1 ≤ t ∧ t ≤ 99) : f_X7_aheadOf [gR 10 j, gI (nZ b), gI (nZ g), gI (nZ t)] σ = some (some (gI (nZ (aE (-2) (ah (sB s b) g t)))), σ) := by
  obtain ⟨⟨cW, cP, cN, cT, cL, cH, cY, cQ⟩, ⟨rK, rC, rO, rA⟩, iw, ik, io, ic, ip, il, id⟩ := id hC
  obtain ⟨y1, y2, q1, q2⟩ := id
  have hlen := (il b hb).1
  have hT := lG_r il hb 0
  have key : ∀ n i : Nat, i + n = (sB s b).length → j_X7_aheadOf_3 j (nZ b) (nZ g) (nZ t) (nZ i) σ = some (some (gI (nZ (aE (-2) ((ah ((sB s b).drop i) g t).map (fun u => lT ((sB s b).take i) + u))))), σ) := by
    intro n
    induction n with
    | zero =>
      intro i hi
      rw [e_X7_aheadOf_3, z_tn (by omega), Int.toNat_natCast, g_in (by omega), cN b hb, if_pos (by rw [z_le ⟨by omega, by omega⟩ ⟨by omega, by omega⟩]; omega), List.drop_of_length_le (by omega)]
      rfl
    | succ n ih =>
      intro i hi
      have hi' : i < (sB s b).length := by omega
      obtain ⟨l1, l2, l3, l4, l5⟩ := lz_ok il hb hi'
      obtain ⟨g1, g2, g3⟩ := cL b i hb hi'
      have hts : lT ((sB s b).take (i + 1)) = lT ((sB s b).take i) + (lz (sB s b) i).2.1 := sL_take hi'
      have nxt : ¬ ((lz (sB s b) i).1 = g ∧ t ≤ rn ((sB s b).drop i) g) → j_X7_aheadOf_3 j (nZ b) (nZ g) (nZ t) (nZ (i + 1 : Nat)) σ = some (some (gI (nZ (aE (-2) ((ah ((sB s b).drop i) g t).map (fun u => lT ((sB s b).take i) + u))))), σ) := by
        intro hn
        rw [ih (i + 1) (by omega)]
        have : ah ((sB s b).drop i) g t = (ah ((sB s b).drop (i + 1)) g t).map (fun u => (lz (sB s b) i).2.1 + u) := by
          rw [dr_c hi'] at hn ⊢
          exact if_neg hn
        rw [this, hts]
        cases ah ((sB s b).drop (i + 1)) g t with
        | none => rfl
        | some v =>
          show some (some (gI (nZ (_ + _ + v))), σ) = some (some (gI (nZ (_ + (_ + v)))), σ)
          rw [Int.add_assoc]
      rw [e_X7_aheadOf_3, z_tn (by omega), Int.toNat_natCast, g_in (by omega), cN b hb, if_neg (by rw [z_le ⟨by omega, by omega⟩ ⟨by omega, by omega⟩]; omega), p_place, g_b1, z_tn (by omega), g1, g_in (by omega), zs]
      by_cases e : (lz (sB s b) i).1 = g
      · have hle := hl_le (g := (lz (sB s b) i).1) (L := (sB s b).drop i)
        rw [List.length_drop] at hle
        have er : lT ((sB s b).take (i + hl ((sB s b).drop i) (lz (sB s b) i).1)) = lT ((sB s b).take i) + rn ((sB s b).drop i) g := by
          unfold rn
          rw [e, List.take_add]
          exact sL_app _ _ _
        have hr1 := lT_take il hb i
        have hr2 := lT_take il hb (i + hl ((sB s b).drop i) (lz (sB s b) i).1)
        rw [if_pos (by rw [e]), p_tonsUnder hC hb (n := i) (by omega), g_b1, p_runEnd hC hb hi', g_b1, p_tonsUnder hC hb (n := i + hl ((sB s b).drop i) (lz (sB s b) i).1) (by omega), g_b1, z_sub, er]
        rw [er] at hr2
        by_cases c : t ≤ rn ((sB s b).drop i) g
        · rw [if_neg (by rw [z_lt ⟨by omega, by omega⟩ ⟨by omega, by omega⟩]; omega)]
          have : ah ((sB s b).drop i) g t = some 0 := by
            rw [dr_c hi'] at c ⊢
            exact if_pos ⟨e, c⟩
          rw [this]
          show some (some (gI (nZ _)), σ) = some (some (gI (nZ (_ + 0))), σ)
          rw [Int.add_zero]
        · rw [if_pos (by rw [z_lt ⟨by omega, by omega⟩ ⟨by omega, by omega⟩]; omega)]
          exact nxt (fun z => c z.2)
      · rw [if_neg (by rw [z_eq ⟨by omega, by omega⟩ ⟨by omega, by omega⟩]; omega)]
        exact nxt (fun z => e z.1)
  have h0 := key (sB s b).length 0 (by omega)
  rw [List.drop_zero] at h0
  rw [e_X7_aheadOf]
  refine h0.trans ?_
  cases ah (sB s b) g t with
  | none => rfl
  | some v =>
    show some (some (gI (nZ (0 + v))), σ) = some (some (gI (nZ v)), σ)
    rw [Int.zero_add]
end RE
def reF (s : gb_St) (g : Nat) (t : Int) (b : Nat) (a : Option (Int × Int)) : Option (Int × Int) := if sY s < sP s b then a else match ah (sB s b) g t with
  | none => a
  | some u => match a with
    | none => some (u, (b : Int))
    | some x => if u < x.1 then some (u, (b : Int)) else a
def reP (a : Option (Int × Int)) : Prop := ∀ x, a = some x → 0 ≤ x.1 ∧ x.1 ≤ 99 ∧ 0 ≤ x.2 ∧ x.2 < 6
theorem reF_P {s : gb_St} (hI : gb_IV s) {g b : Nat} {t : Int} (hb : b < 6) {a : Option (Int × Int)} (h : reP a) : reP (reF s g t b a) := by
  have hT := lG_r hI.2.2.2.2.2.1 hb 0
  have hr := ah_r (g := g) (t := t) (hI.2.2.2.2.2.1 b hb).2.2
  unfold reF
  by_cases c : sY s < sP s b
  · rw [if_pos c]; exact h
  rw [if_neg c]
  cases hu : ah (sB s b) g t with
  | none => exact h
  | some u =>
    have := hr u hu
    have hn : reP (some (u, (b : Int))) := fun x hx => by
      cases hx
      refine ⟨?_, ?_, ?_, ?_⟩ <;> dsimp only <;> omega
    cases a with
    | none => exact hn
    | some x =>
      show reP (if u < x.1 then some (u, (b : Int)) else some x)
      split
      · exact hn
      · exact h
def reE (d e : Int) (a : Option (Int × Int)) : Int × Int := match a with
  | none => (d, e)
  | some x => x
theorem th_reaches {A : gb_Ab} (hA : wfA A) (a c : Int32) : gb_T2 f_X9_reaches f_X10_reaches [gR 0 0, gI a, gI c] [gR 36 0, gI a, gI c] A := by
  have hx := nZ_rz a
  have hy := nZ_rz c
  rw [nZ_of a, nZ_of c]
  generalize a.toInt = x at hx
  generalize c.toInt = t at hy
  have hI := hA.1.1
  by_cases h1 : 0 ≤ x ∧ x < 6
  rotate_left
  · refine T2_same hA (some (gI (-1))) (fun σ hC => ?_) (fun σ hM => ?_)
    · rw [e_X9_reaches, cg_f hx h1, g_b1, e00]
    · rw [e_X10_reaches, mg_f hx h1, g_b1, e00]
  obtain ⟨g, rfl⟩ : ∃ b : Nat, x = b := ⟨x.toNat, by omega⟩
  have hg : g < 6 := by omega
  by_cases h2 : 1 ≤ t ∧ t ≤ 99
  rotate_left
  · refine T2_same hA (some (gI (-1))) (fun σ hC => ?_) (fun σ hM => ?_)
    · rw [e_X9_reaches, cg_t hg, g_b1, e10, ct_f hy h2, g_b1, e00]
    · rw [e_X10_reaches, mg_t hg, g_b1, e10, ml_f hy h2, g_b1, e00]
  have h0 : reP none := fun x hx => by cases hx
  have hfin := it_inv (n := 6) (reF A.1 g t) reP h0 (fun i hi a ha => reF_P hI hi ha)
  have cJ : ∀ σ, CC σ A → f_X9_reaches [gR 0 0, gI (nZ g), gI (nZ t)] σ = j_X9_reaches_25 (nZ g) (nZ t) (nZ (reE (-2) (-1) (it 6 none (reF A.1 g t))).1) (nZ (reE (-2) (-1) (it 6 none (reF A.1 g t))).2) (nZ (6 : Nat)) σ := by
    intro σ hC
    obtain ⟨hJ, -⟩ := lpi (n := 6) (fun i (a : Option (Int × Int)) => j_X9_reaches_25 (nZ g) (nZ t) (nZ (reE (-2) (-1) a).1) (nZ (reE (-2) (-1) a).2) (nZ i) σ) (reF A.1 g t) reP h0 (fun i hi a ha => ⟨by
      try dsimp only
      have hT := lG_r hI.2.2.2.2.2.1 hi 0
      have hr := ah_r (g := g) (t := t) (hI.2.2.2.2.2.1 i hi).2.2
      rw [e_X9_reaches_25, if_neg (n6 hi), zs]
      unfold reF
      by_cases w : sY A.1 < sP A.1 i
      · rw [if_pos w, p_closed_t hC.1 hi w, g_b1, e10]
        exact if_pos (by decide)
      rw [if_neg w, p_closed_f hC.1 hi w, g_b1, e00, p_aheadOf hC.1 hi hg h2, g_b1]
      cases hu : ah (sB A.1 i) g t with
      | none => exact if_pos (by decide)
      | some u =>
        have hur := hr u hu
        rw [if_neg (show ¬ nZ (aE (-2) (some u)) < 0 by show ¬ nZ u < 0; rw [z0, z_lt ⟨by omega, by omega⟩ ⟨by omega, by omega⟩]; omega)]
        cases a with
        | none => exact if_pos (by decide)
        | some x =>
          obtain ⟨p1, p2, p3, p4⟩ := ha x rfl
          show (if nZ x.1 < 0 then _ else if nZ x.1 ≤ nZ u then _ else _) = _
          rw [if_neg (show ¬ nZ x.1 < 0 by rw [z0, z_lt ⟨by omega, by omega⟩ ⟨by omega, by omega⟩]; omega)]
          dsimp only
          by_cases c : u < x.1
          · rw [if_neg (by rw [z_le ⟨by omega, by omega⟩ ⟨by omega, by omega⟩]; omega), if_pos c]; rfl
          · rw [if_pos (by rw [z_le ⟨by omega, by omega⟩ ⟨by omega, by omega⟩]; omega), if_neg c], reF_P hI hi ha⟩)
    rw [e_X9_reaches, cg_t hg, g_b1, e10, ct_t h2, g_b1, e10]
    exact hJ
  have mJ : ∀ σ, KM σ (gb_si σ 36 0 10 0) A → f_X10_reaches [gR 36 0, gI (nZ g), gI (nZ t)] σ = j_X10_reaches_29 (nZ g) (nZ t) (nZ (reE 0 (-1) (it 6 none (reF A.1 g t))).2) (nZ (reE 0 (-1) (it 6 none (reF A.1 g t))).1) (nZ (6 : Nat)) (gb_si σ 36 0 10 0) := by
    intro σ hM
    obtain ⟨hJ, -⟩ := lpi (n := 6) (fun i (a : Option (Int × Int)) => j_X10_reaches_29 (nZ g) (nZ t) (nZ (reE 0 (-1) a).2) (nZ (reE 0 (-1) a).1) (nZ i) (gb_si σ 36 0 10 0)) (reF A.1 g t) reP h0 (fun i hi a ha => ⟨by
      try dsimp only
      have hT := lG_r hI.2.2.2.2.2.1 hi 0
      have hr := ah_r (g := g) (t := t) (hI.2.2.2.2.2.1 i hi).2.2
      rw [e_X10_reaches_29, if_neg (n6 hi), zs]
      unfold reF
      by_cases w : sY A.1 < sP A.1 i
      · rw [if_pos w, m_closed_t hM.1.1 hi w, g_b1, show nZ 1 = 1 from rfl, e10]
        exact if_pos (by decide)
      rw [if_neg w, m_closed_f hM.1.1 hi w, g_b1, if_pos (show nZ 0 = 0 from rfl), m_below hM.1.1 hi hg h2, g_b1]
      cases hu : ah (sB A.1 i) g t with
      | none => exact if_pos (by decide)
      | some u =>
        have hur := hr u hu
        rw [if_neg (show ¬ nZ (aE (-1) (some u)) = -1 by show ¬ nZ u = -1; rw [zm1, z_eq ⟨by omega, by omega⟩ ⟨by omega, by omega⟩]; omega)]
        cases a with
        | none => exact if_pos (by decide)
        | some x =>
          obtain ⟨p1, p2, p3, p4⟩ := ha x rfl
          show (if nZ x.2 = -1 then _ else if nZ u < nZ x.1 then _ else _) = _
          rw [if_neg (show ¬ nZ x.2 = -1 by rw [zm1, z_eq ⟨by omega, by omega⟩ ⟨by omega, by omega⟩]; omega)]
          dsimp only
          by_cases c : u < x.1
          · rw [if_pos (by rw [z_lt ⟨by omega, by omega⟩ ⟨by omega, by omega⟩]; omega), if_pos c]; rfl
          · rw [if_neg (by rw [z_lt ⟨by omega, by omega⟩ ⟨by omega, by omega⟩]; omega), if_neg c], reF_P hI hi ha⟩)
    rw [e_X10_reaches, mg_t hg, g_b1, e10, ml_t h2, g_b1, e10]
    exact hJ
  generalize it 6 none (reF A.1 g t) = z at hfin cJ mJ
  cases z with
  | none =>
    refine T2_K (some (gI (-2))) A hA (fun σ hC => ⟨σ, ?_, hC⟩) (fun σ hM => ⟨_, ?_, hM⟩)
    · rw [cJ σ hC.1, e_X9_reaches_25, if_pos y6]
      exact if_pos (by decide)
    · rw [mJ σ hM, e_X10_reaches_29, if_pos y6]
      exact if_pos (by decide)
  | some x =>
    obtain ⟨p1, p2, p3, p4⟩ := hfin x rfl
    refine T2_K (some (gI (nZ x.1))) (setR A ([] ++ [(nZ x.2).toInt64])) (wf_setR hA) (fun σ hC => ?_) (fun σ hM => ?_)
    · obtain ⟨τ1, a1, c1⟩ := kc_start hC
      obtain ⟨τ2, a2, c2⟩ := kc_add c1 (by simp) (nZ x.2).toInt64
      refine ⟨τ2, ?_, c2⟩
      have cJ' : f_X9_reaches [gR 0 0, gI (nZ g), gI (nZ t)] σ = j_X9_reaches_25 (nZ g) (nZ t) (nZ x.1) (nZ x.2) (nZ (6 : Nat)) σ := cJ σ hC.1
      rw [cJ', e_X9_reaches_25, if_pos y6, if_neg (by rw [z0, z_lt ⟨by omega, by omega⟩ ⟨by omega, by omega⟩]; omega), a1, g_b0, a2, g_b0]
    · obtain ⟨τ2, a2, c2⟩ := km_tell (km_start hM) (by simp) (nZ x.2).toInt64
      refine ⟨τ2, ?_, c2⟩
      have mJ' : f_X10_reaches [gR 36 0, gI (nZ g), gI (nZ t)] σ = j_X10_reaches_29 (nZ g) (nZ t) (nZ x.2) (nZ x.1) (nZ (6 : Nat)) (gb_si σ 36 0 10 0) := mJ σ hM
      rw [mJ', e_X10_reaches_29, if_pos y6, if_neg (by rw [zm1, z_eq ⟨by omega, by omega⟩ ⟨by omega, by omega⟩]; omega), a2, g_b0]
