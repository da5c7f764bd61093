/-! ROOM, TAKERS -/
def rmF (s : gb_St) (g b : Nat) (a : Int × Int) : Int × Int := if a.1 < sC s b - lT (sB s b) ∧ sWhy s b g (sC s b - lT (sB s b)) (sY s) = 0 then (sC s b - lT (sB s b), (b : Int)) else a
def rmP (a : Int × Int) : Prop := 0 ≤ a.1 ∧ a.1 ≤ 99 ∧ -1 ≤ a.2 ∧ a.2 < 6
theorem rmF_P {s : gb_St} (hI : gb_IV s) {g b : Nat} (hb : b < 6) {a : Int × Int} (h : rmP a) : rmP (rmF s g b a) := by
  have h1 := hI.2.2.2.1 b hb
  have h2 := lG_r hI.2.2.2.2.2.1 hb 0
  obtain ⟨p1, p2, p3, p4⟩ := h
  unfold rmF
  split
  · refine ⟨?_, ?_, ?_, ?_⟩ <;> dsimp only <;> omega
  · exact ⟨p1, p2, p3, p4⟩
theorem th_room {A : gb_Ab} (hA : wfA A) (a : Int32) : gb_T2 f_X9_room f_X10_room [gR 0 0, gI a] [gR 36 0, gI a] A := by
  have hx := nZ_rz a
  rw [nZ_of a]
  generalize a.toInt = x at hx
  have hI := hA.1.1
  obtain ⟨y1, y2, q1, q2⟩ := hI.2.2.2.2.2.2
  by_cases h1 : 0 ≤ x ∧ x < 6
  rotate_left
  · refine T2_same hA (some (gI (-1))) (fun σ hC => ?_) (fun σ hM => ?_)
    · rw [e_X9_room, cg_f hx h1, g_b1, e00]
    · rw [e_X10_room, mg_f hx h1, g_b1, e00]
  obtain ⟨g, rfl⟩ : ∃ b : Nat, x = b := ⟨x.toNat, by omega⟩
  have hg : g < 6 := by omega
  have h0 : rmP ((0, -1) : Int × Int) := by refine ⟨?_, ?_, ?_, ?_⟩ <;> dsimp only <;> omega
  have cJ : ∀ σ, CC σ A → f_X9_room [gR 0 0, gI (nZ g)] σ = j_X9_room_16 (nZ g) (nZ (it 6 ((0, -1) : Int × Int) (rmF A.1 g)).1) (nZ (it 6 ((0, -1) : Int × Int) (rmF A.1 g)).2) (nZ (6 : Nat)) σ := by
    intro σ hC
    have cY := hC.1.1.2.2.2.2.2.2.1
    obtain ⟨hJ, -⟩ := lpi (n := 6) (fun i (a : Int × Int) => j_X9_room_16 (nZ g) (nZ a.1) (nZ a.2) (nZ i) σ) (rmF A.1 g) rmP h0 (fun i hi a ha => ⟨by
      try dsimp only
      have w1 := hI.2.2.2.1 i hi
      have w2 := lG_r hI.2.2.2.2.2.1 hi 0
      have hr := sWhy_r (s := A.1) (b := i) (g := g) (t := sC A.1 i - lT (sB A.1 i)) (d := sY A.1)
      obtain ⟨p1, p2, p3, p4⟩ := ha
      have c1 := hC.1.2.1.2.1 i hi
      have c2 := hC.1.1.2.2.2.1 i hi
      rw [e_X9_room_16, if_neg (n6 hi), z_tn (by omega), Int.toNat_natCast, g_in (by omega), g_in (by omega), c1, c2, z_sub, cY, zs]
      unfold rmF
      by_cases e : a.1 < sC A.1 i - lT (sB A.1 i)
      · rw [if_neg (by rw [z_le ⟨by omega, by omega⟩ ⟨by omega, by omega⟩]; omega), p_why hC.1 hi hg (by omega) (by omega), g_b1]
        by_cases w0 : sWhy A.1 i g (sC A.1 i - lT (sB A.1 i)) (sY A.1) = 0
        · rw [w0, if_pos (show nZ 0 = 0 from rfl), if_pos ⟨e, rfl⟩]
        · rw [if_neg (by rw [z0, z_eq ⟨by omega, by omega⟩ ⟨by omega, by omega⟩]; exact w0), if_neg (fun z => w0 z.2)]
      · rw [if_pos (by rw [z_le ⟨by omega, by omega⟩ ⟨by omega, by omega⟩]; omega), if_neg (fun z => e z.1)], rmF_P hI hi ha⟩)
    rw [e_X9_room, cg_t hg, g_b1, e10]
    exact hJ
  have mJ : ∀ σ, KM σ (gb_si σ 36 0 10 0) A → f_X10_room [gR 36 0, gI (nZ g)] σ = j_X10_room_21 (nZ g) (nZ (it 6 ((0, -1) : Int × Int) (rmF A.1 g)).1) (nZ (it 6 ((0, -1) : Int × Int) (rmF A.1 g)).2) (nZ (6 : Nat)) (gb_si σ 36 0 10 0) := by
    intro σ hM
    have mY := m_DAY hM
    obtain ⟨mW, mK, mO, mC, mP, mN, mL, -, mQ⟩ := id hM.1.1.1
    simp only [Nat.zero_add] at mC
    obtain ⟨hJ, -⟩ := lpi (n := 6) (fun i (a : Int × Int) => j_X10_room_21 (nZ g) (nZ a.1) (nZ a.2) (nZ i) (gb_si σ 36 0 10 0)) (rmF A.1 g) rmP h0 (fun i hi a ha => ⟨by
      try dsimp only
      have w1 := hI.2.2.2.1 i hi
      have w2 := lG_r hI.2.2.2.2.2.1 hi 0
      have hr := sWhy_r (s := A.1) (b := i) (g := g) (t := sC A.1 i - lT (sB A.1 i)) (d := sY A.1)
      obtain ⟨p1, p2, p3, p4⟩ := ha
      rw [e_X10_room_21, if_neg (n6 hi), z48, z_add, z_tn (by omega), g_in (by omega), mC i hi, m_tonsIn hM.1.1 hi, g_b1, z_sub, g174, e174, mY, zs]
      unfold rmF
      by_cases e : a.1 < sC A.1 i - lT (sB A.1 i)
      · rw [if_neg (by rw [z_le ⟨by omega, by omega⟩ ⟨by omega, by omega⟩]; omega), m_why hM.1.1 hi hg (by omega) (by omega), g_b1]
        by_cases w0 : sWhy A.1 i g (sC A.1 i - lT (sB A.1 i)) (sY A.1) = 0
        · rw [w0, if_pos (show nZ 0 = 0 from rfl), if_pos ⟨e, rfl⟩]
        · rw [if_neg (by rw [z0, z_eq ⟨by omega, by omega⟩ ⟨by omega, by omega⟩]; exact w0), if_neg (fun z => w0 z.2)]
      · rw [if_pos (by rw [z_le ⟨by omega, by omega⟩ ⟨by omega, by omega⟩]; omega), if_neg (fun z => e z.1)], rmF_P hI hi ha⟩)
    rw [e_X10_room, mg_t hg, g_b1, e10]
    exact hJ
  generalize it 6 ((0, -1) : Int × Int) (rmF A.1 g) = z at cJ mJ
  refine T2_K (some (gI (nZ z.1))) (setR A ([] ++ [(nZ z.2).toInt64])) (wf_setR hA) (fun σ hC => ?_) (fun σ hM => ?_)
  · obtain ⟨τ1, a1, c1⟩ := kc_start hC
    obtain ⟨τ2, a2, c2⟩ := kc_add c1 (by simp) (nZ z.2).toInt64
    refine ⟨τ2, ?_, c2⟩
    rw [cJ σ hC.1, e_X9_room_16, if_pos y6, a1, g_b0, a2, g_b0]
  · obtain ⟨τ2, a2, c2⟩ := km_tell (km_start hM) (by simp) (nZ z.2).toInt64
    refine ⟨τ2, ?_, c2⟩
    rw [mJ σ hM, e_X10_room_21, if_pos y6, a2, g_b0]
def tkF (s : gb_St) (g : Nat) (t : Int) (b : Nat) (a : Int32 × Int) : Int32 × Int := if sWhy s b g t (sY s) = 0 then (a.1 ||| (1 <<< (nZ b &&& 31)), a.2 + 1) else a
def tkG (s : gb_St) (t : Int) (g : Nat) (a : Int32) : Int32 := (it 6 (a, 0) (tkF s g t)).1
def tkB (s : gb_St) (t : Int) (g : Nat) : Int32 := it g 0 (tkG s t)
def tkN (s : gb_St) (t : Int) (g : Nat) : Int := (it 6 (tkB s t g, 0) (tkF s g t)).2
theorem th_takers {A : gb_Ab} (hA : wfA A) (a : Int32) : gb_T2 f_X9_takers f_X10_takers [gR 0 0, gI a] [gR 36 0, gI a] A := by
  have hx := nZ_rz a
  rw [nZ_of a]
  generalize a.toInt = t at hx
  have hI := hA.1.1
  obtain ⟨y1, y2, q1, q2⟩ := hI.2.2.2.2.2.2
  by_cases h1 : 1 ≤ t ∧ t ≤ 99
  rotate_left
  · refine T2_same hA (some (gI (-1))) (fun σ hC => ?_) (fun σ hM => ?_)
    · rw [e_X9_takers, ct_f hx h1, g_b1, e00]
    · rw [e_X10_takers, ml_f hx h1, g_b1, e00]
  refine T2_K (some (gI (tkB A.1 t 6))) (setR A (rowOf 6 (fun g => (nZ (tkN A.1 t g)).toInt64))) (wf_setR hA) (fun σ hC => ?_) (fun σ hM => ?_)
  · obtain ⟨τ1, a1, c1⟩ := kc_start hC
    obtain ⟨τ2, a2, c2⟩ := kc_loop (n := 6) (by omega) (fun i τ => j_X9_takers_20 (nZ t) (tkB A.1 t i) (nZ i) τ) (fun g => (nZ (tkN A.1 t g)).toInt64) c1 (by
      intro g hg τ τ' hK hadd _
      show j_X9_takers_20 _ _ _ _ = j_X9_takers_20 _ _ _ _
      have cY : τ.1 10 0 9 = nZ (sY A.1) := hK.1.1.1.2.2.2.2.2.2.1
      obtain ⟨hJ, -⟩ := lpi (n := 6) (fun i (a : Int32 × Int) => j_X9_takers_32 (nZ t) a.1 (nZ g) (nZ a.2) (nZ i) τ) (tkF A.1 g t) (fun _ => True) (a := (tkB A.1 t g, 0)) trivial (fun i hi a _ => ⟨by
        try dsimp only
        have hr := sWhy_r (s := A.1) (b := i) (g := g) (t := t) (d := sY A.1)
        have hw : f_X7_why [gR 10 0, gI (nZ i), gI (nZ g), gI (nZ t), gI (nZ (sY A.1))] τ = some (some (gI (nZ (sWhy A.1 i g t (sY A.1)))), τ) := p_why hK.1.1 hi hg (by omega) (by omega)
        rw [e_X9_takers_32, if_neg (n6 hi), cY, hw, g_b1, zs]
        unfold tkF
        by_cases e : sWhy A.1 i g t (sY A.1) = 0
        · rw [e, if_pos (show nZ 0 = 0 from rfl), if_pos rfl, z1, z_add]
        · rw [if_neg (by rw [z0, z_eq ⟨by omega, by omega⟩ ⟨by omega, by omega⟩]; exact e), if_neg e], trivial⟩)
      have hJ' : j_X9_takers_32 (nZ t) (tkB A.1 t g) (nZ g) 0 0 τ = j_X9_takers_32 (nZ t) (tkB A.1 t (g + 1)) (nZ g) (nZ (tkN A.1 t g)) (nZ (6 : Nat)) τ := hJ
      rw [e_X9_takers_20, if_neg (n6 hg), hJ', e_X9_takers_32, if_pos y6, hadd, g_b0, zs])
    refine ⟨τ2, ?_, c2⟩
    have a2' : j_X9_takers_20 (nZ t) 0 0 τ1 = j_X9_takers_20 (nZ t) (tkB A.1 t 6) (nZ (6 : Nat)) τ2 := a2
    rw [e_X9_takers, ct_t h1, g_b1, e10, a1, g_b0, a2', e_X9_takers_20, if_pos y6]
  · have c1 := km_start hM
    obtain ⟨τ2, a2, c2⟩ := km_loop (n := 6) (by omega) (fun i τ => j_X10_takers_23 (nZ t) (tkB A.1 t i) (nZ i) τ) (fun g => (nZ (tkN A.1 t g)).toInt64) c1 (by
      intro g hg τ τ' hK hadd _
      show j_X10_takers_23 _ _ _ _ = j_X10_takers_23 _ _ _ _
      have mY : τ.1 37 0 174 = nZ (sY A.1) := by have := m_DAY hK; exact this
      obtain ⟨hJ, -⟩ := lpi (n := 6) (fun i (a : Int32 × Int) => j_X10_takers_35 (nZ t) a.1 (nZ g) (nZ a.2) (nZ i) τ) (tkF A.1 g t) (fun _ => True) (a := (tkB A.1 t g, 0)) trivial (fun i hi a _ => ⟨by
        try dsimp only
        have hr := sWhy_r (s := A.1) (b := i) (g := g) (t := t) (d := sY A.1)
        have hw : f_X10_whyNot [gR 36 0, gI (nZ i), gI (nZ g), gI (nZ t), gI (nZ (sY A.1))] τ = some (some (gI (nZ (sWhy A.1 i g t (sY A.1)))), τ) := m_why hK.1.1 hi hg (by omega) (by omega)
        rw [e_X10_takers_35, if_neg (n6 hi), g174, e174, mY, hw, g_b1, zs]
        unfold tkF
        by_cases e : sWhy A.1 i g t (sY A.1) = 0
        · rw [e, if_pos (show nZ 0 = 0 from rfl), if_pos rfl, z1, z_add]
        · rw [if_neg (by rw [z0, z_eq ⟨by omega, by omega⟩ ⟨by omega, by omega⟩]; exact e), if_neg e], trivial⟩)
      have hJ' : j_X10_takers_35 (nZ t) (tkB A.1 t g) (nZ g) 0 0 τ = j_X10_takers_35 (nZ t) (tkB A.1 t (g + 1)) (nZ g) (nZ (tkN A.1 t g)) (nZ (6 : Nat)) τ := hJ
      rw [e_X10_takers_23, if_neg (n6 hg), hJ', e_X10_takers_35, if_pos y6, hadd, g_b0, zs])
    refine ⟨τ2, ?_, c2⟩
    have a2' : j_X10_takers_23 (nZ t) 0 0 (gb_si (gb_si σ 36 0 10 0) 36 0 9 0) = j_X10_takers_23 (nZ t) (tkB A.1 t 6) (nZ (6 : Nat)) τ2 := a2
    rw [e_X10_takers, ml_t h1, g_b1, e10, a2', e_X10_takers_23, if_pos y6]
