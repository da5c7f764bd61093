/-! CURES -/
def cuU (s : gb_St) (n d : Int) (l : gb_Ly) : Int := max 0 (sW s l.1 - max 0 (d - n - sK s l.1))
def cuF (s : gb_St) (n d : Int) (l : gb_Ly) : Int := l.2.1 * (cuU s n d l - sU s (sY s + d) l)
def cuT (s : gb_St) (b : Nat) (n d : Int) : Int := sL (cuF s n d) (sB s b)
theorem sL_sub {f g : gb_Ly → Int} : ∀ {L : List gb_Ly}, sL (fun l => f l - g l) L = sL f L - sL g L
  | [] => rfl
  | l :: t => by
    have := sL_sub (f := f) (g := g) (L := t)
    simp only [sL]; omega
theorem cu_sub {s : gb_St} {n d : Int} {L : List gb_Ly} : sL (cuF s n d) L = sL (fun l => l.2.1 * cuU s n d l) L - lR s (sY s + d) L := by
  unfold lR
  rw [← sL_sub]
  refine sL_c (fun l _ => ?_)
  exact Int.mul_sub _ _ _
theorem cuU_r {s : gb_St} {n d : Int} {l : gb_Ly} (iw : iW s) (hl : okL l) : 0 ≤ cuU s n d l ∧ cuU s n d l ≤ 999 := by
  have := iw l.1 hl.1
  unfold cuU
  omega
theorem cu_r {s : gb_St} {n d : Int} {L : List gb_Ly} (iw : iW s) (hok : ∀ l ∈ L, okL l) (hT : lT L ≤ 99) : -98901 ≤ sL (cuF s n d) L ∧ sL (cuF s n d) L ≤ 98901 := by
  have h1 := lR_r (on := sY s + d) iw hok hT
  obtain ⟨h2, h3⟩ := sL_bd (L := L) (f := fun l => l.2.1 * cuU s n d l) (c := 999) (fun l hl => by
    obtain ⟨u1, u2⟩ := cuU_r (n := n) (d := d) iw (hok l hl)
    have ht := (hok l hl).2.1
    exact ⟨Int.mul_nonneg (by omega) u1, Int.mul_le_mul_of_nonneg_left u2 (by omega)⟩) (by omega)
  rw [cu_sub]
  omega
theorem lays_sL {f : gb_Ly → Int} (hf : ∀ g t1 t2 d, f (g, t1 + t2, d) = f (g, t1, d) + f (g, t2, d)) {P : List gb_Ly} : ∀ {A : List gb_Ly}, sL f (lays A P) = sL f A + sL f P := by
  induction P with
  | nil => intro A; show sL f A = sL f A + 0; omega
  | cons p P ih =>
    intro A
    have h1 := ih (A := lay1 A p.1 p.2.1 p.2.2)
    have h2 : sL f (lay1 A p.1 p.2.1 p.2.2) = sL f A + f (p.1, p.2.1, p.2.2) := sL_lay (fun t1 t2 => hf _ _ _ _)
    show sL f (lays (lay1 A p.1 p.2.1 p.2.2) P) = sL f A + (f p + sL f P)
    rw [h1, h2]
    show sL f A + f p + sL f P = _
    omega
theorem jn_sL {f : gb_Ly → Int} (hf : ∀ g t1 t2 d, f (g, t1 + t2, d) = f (g, t1, d) + f (g, t2, d)) {P : List gb_Ly} : sL f (jn P) = sL f P := by
  have := lays_sL hf (P := P) (A := [])
  show sL f (lays [] P) = _
  rw [this]
  show 0 + _ = _
  omega
theorem fum_sL2 {f : gb_Ly → Int} {d : Int} : ∀ {L : List gb_Ly}, sL f (fum L d) = sL (fun l => f (l.1, l.2.1, d)) L
  | [] => rfl
  | l :: t => by
    have := fum_sL2 (f := f) (d := d) (L := t)
    show f (l.1, l.2.1, d) + sL f (fum t d) = _
    rw [this]
    rfl
theorem lG_jf {L : List gb_Ly} {e : Int} {g : Nat} : lG (jn (fum L e)) g = lG L g := by
  unfold lG
  rw [jn_sL (fun k t1 t2 d => by by_cases h : k = g <;> simp [h]), fum_sL2]
theorem lX_jf {s : gb_St} {L : List gb_Ly} {e : Int} : lX s (jn (fum L e)) = lX s L := by
  unfold lX lM
  simp only [lG_jf]
theorem lR_jf {s : gb_St} {L : List gb_Ly} {n d : Int} : lR s (sY s + d) (jn (fum L (sY s + n))) = sL (fun l => l.2.1 * cuU s n d l) L := by
  unfold lR
  rw [jn_sL (fun k t1 t2 e => by
    show (t1 + t2) * sU s (sY s + d) (k, t1 + t2, e) = t1 * sU s (sY s + d) (k, t1, e) + t2 * sU s (sY s + d) (k, t2, e)
    rw [show sU s (sY s + d) (k, t1 + t2, e) = sU s (sY s + d) (k, t1, e) from rfl, show sU s (sY s + d) (k, t2, e) = sU s (sY s + d) (k, t1, e) from rfl, Int.add_mul]), fum_sL2]
  refine sL_c (fun l _ => ?_)
  have : sU s (sY s + d) (l.1, l.2.1, sY s + n) = cuU s n d l := by
    unfold sU cuU
    show max 0 (sW s l.1 - max 0 (sY s + d - (sY s + n) - sK s l.1)) = _
    rw [show sY s + d - (sY s + n) = d - n by omega]
  show l.2.1 * sU s (sY s + d) (l.1, l.2.1, sY s + n) = _
  rw [this]
theorem lV_eq {s s' : gb_St} (e : ∀ k, k < 54 → s'.1 k = s.1 k) {on : Int} {L : List gb_Ly} (hok : ∀ l ∈ L, okL l) : lV s' on L = lV s on L := by
  have h1 : lR s' on L = lR s on L := sL_c (fun l hl => by
    have h6 := (hok l hl).1
    unfold sU sW sK
    rw [e l.1 (by omega), e (6 + l.1) (by omega)])
  have h2 : lX s' L = lX s L := sm_c (fun g hg => sm_c (fun h hh => by
    unfold lM sO
    rw [e (12 + (6 * g + h)) (by omega)]))
  unfold lV
  rw [h1, h2]
theorem lA_cu {s : gb_St} (il : iL s) {b : Nat} (hb : b < 6) {n d : Int} (hd : 0 ≤ sY s + n ∧ sY s + n ≤ 10019) : lA (setB (setP s b (sY s + n)) b (jn (fum (sB s b) (sY s + n)))) (sY s + d) = lA s (sY s + d) + cuT s b n d := by
  have he : ∀ k, k < 54 → (setB (setP s b (sY s + n)) b (jn (fum (sB s b) (sY s + n)))).1 k = s.1 k := fun k hk => if_neg (by omega)
  have hfl : (fum (sB s b) (sY s + n)).length = (sB s b).length := by unfold fum; rw [List.length_map]
  have hjok : ∀ l ∈ jn (fum (sB s b) (sY s + n)), okL l := by
    have := jn_ok (L := fum (sB s b) (sY s + n)) (fum_ok (il b hb).2.2 hd) (by rw [show lT (fum (sB s b) (sY s + n)) = lT (sB s b) from fum_sL (fun _ _ _ => rfl)]; exact (il b hb).2.1) _ (Nat.le_refl _)
    rwa [jn_all] at this
  have h1 := sm_1 (n := 6) (k := b) (f := fun k => lV (setB (setP s b (sY s + n)) b (jn (fum (sB s b) (sY s + n)))) (sY s + d) (sB (setB (setP s b (sY s + n)) b (jn (fum (sB s b) (sY s + n)))) k)) (g := fun k => lV s (sY s + d) (sB s k)) hb (fun k hk hne => by
    try dsimp only
    rw [sB_n hne]
    exact lV_eq he (il k hk).2.2)
  try dsimp only at h1
  rw [sB_s] at h1
  have h2 : lV (setB (setP s b (sY s + n)) b (jn (fum (sB s b) (sY s + n)))) (sY s + d) (jn (fum (sB s b) (sY s + n))) = sL (fun l => l.2.1 * cuU s n d l) (sB s b) - lX s (sB s b) := by
    rw [lV_eq he hjok]
    unfold lV
    rw [lR_jf, lX_jf]
  rw [h2] at h1
  have h3 := cu_sub (s := s) (n := n) (d := d) (L := sB s b)
  have h4 : lV s (sY s + d) (sB s b) = lR s (sY s + d) (sB s b) - lX s (sB s b) := rfl
  unfold lA cuT
  omega
section CU
variable {σ : gb_M} {j : Nat} {s : gb_St} {b : Nat}
theorem p_cureOf (hC : gb_SC σ j s) (hb : b < 6) {n d : Int} (hn : 1 ≤ n ∧ n ≤ 20) (hd : 0 ≤ d ∧ d ≤ 999) : f_X7_cureOf [gR 10 j, gI (nZ b), gI (nZ n), gI (nZ d)] σ = some (some (gI (nZ (cuT s b n d))), σ) := by
  obtain ⟨⟨cW, cP, cN, cT, cL, cH, cY, cQ⟩, ⟨rK, rC, rO, rA⟩, iw, ik, io, ic, ip, il, id⟩ := id hC
  obtain ⟨y1, y2, q1, q2⟩ := id
  have hlen := (il b hb).1
  have h1 := lp (n := (sB s b).length) (fun i => j_X7_cureOf_6 j (nZ b) (nZ n) (nZ d) (nZ (sL (cuF s n d) ((sB s b).take i))) (nZ i) σ) (by
    intro i hi
    try dsimp only
    obtain ⟨g1, g2, g3⟩ := cL b i hb hi
    obtain ⟨l1, l2, l3, l4, l5⟩ := lz_ok il hb hi
    have hk := ik _ l1
    have hw := iw _ l1
    have pu := p_unit hC.1 hC.2.1 hC.2.2 hb hi (on := sY s + d) (by omega)
    rw [e_X7_cureOf_6, z_tn (by omega), Int.toNat_natCast, g_in (by omega), cN b hb, if_neg (by rw [z_le ⟨by omega, by omega⟩ ⟨by omega, by omega⟩]; omega), p_place, g_b1, cY, z_add, pu, g_b1, z_tn (by omega), g1, g2, g_in (by omega), z_tn (by omega), Int.toNat_natCast, g_in (by omega), cW _ l1, rK _ l1, z_sub, z_sub, zs, sL_take hi]
    have em : (if 0 < nZ (d - n - sK s (lz (sB s b) i).1) then nZ (d - n - sK s (lz (sB s b) i).1) else 0) = nZ (max 0 (d - n - sK s (lz (sB s b) i).1)) := by
      rw [z0, z_max ⟨by omega, by omega⟩ ⟨by omega, by omega⟩]
    have em2 : (if 0 < nZ (sW s (lz (sB s b) i).1 - max 0 (d - n - sK s (lz (sB s b) i).1)) then nZ (sW s (lz (sB s b) i).1 - max 0 (d - n - sK s (lz (sB s b) i).1)) else 0) = nZ (cuU s n d (lz (sB s b) i)) := by
      rw [z0, z_max ⟨by omega, by omega⟩ ⟨by omega, by omega⟩]
      rfl
    rw [em, z_sub, em2, z_sub, z_mul, z_add, g_in (by omega), g_in (by omega), g_in (by omega)]
    rfl)
  have h1' : j_X7_cureOf_6 j (nZ b) (nZ n) (nZ d) 0 0 σ = j_X7_cureOf_6 j (nZ b) (nZ n) (nZ d) (nZ (cuT s b n d)) (nZ (sB s b).length) σ := by
    rw [List.take_length] at h1
    exact h1
  rw [e_X7_cureOf, h1', e_X7_cureOf_6, z_tn (by omega), Int.toNat_natCast, g_in (by omega), cN b hb, if_pos (Int32.le_refl _)]
theorem m_cure (hM : gb_MM σ s) (hb : b < 6) {n d : Int} (hn : 1 ≤ n ∧ n ≤ 20) (hd : 0 ≤ d ∧ d ≤ 999) {F : gb_M → Int32 → gb_R} : ∃ σ', gb_b0 (f_X10_laysDown [gR 36 0, gI 0] σ) (fun s12 => gb_b0 (f_X10_fumigates [gR 36 0, gI (nZ b), gI (nZ n)] s12) (fun s13 => gb_gd (gb_in 174 176) (gb_b1 (f_X10_allOn [gR 36 0, gI ((s13.1 37 0 (174 : Int32).toNatClampNeg) + nZ d)] s13) (fun x15 s14 => gb_b0 (f_X10_takesUp [gR 36 0, gI 0] s14) (fun s16 => F s16 x15))))) = F σ' (nZ (lA s (sY s + d) + cuT s b n d)) ∧ gb_MM σ' s ∧ gb_fX (fun k => k = 37 ∨ k = 51) (fun _ => False) σ σ' := by
  obtain ⟨y1, y2, q1, q2⟩ := hM.2.2.2.2.2.2.2
  obtain ⟨τ1, a1, a2, a3, -⟩ := m_laysDown σ (k := 0) (by omega)
  have a1 : f_X10_laysDown [gR 36 0, gI 0] σ = some (none, τ1) := a1
  have hM1 : gb_MM τ1 s := fP_MM a2 (by omega) hM
  obtain ⟨τ2, b1, b2, b3⟩ := m_fumigates hM1 hb hn
  have mY2 : τ2.1 37 0 174 = nZ (sY s) := by
    have := b2.1.2.2.2.2.2.2.2.1
    rw [Nat.zero_add] at this
    rw [this]
    exact congrArg nZ (if_neg (by omega))
  have pa := m_allOn b2 (on := sY s + d) (by omega)
  rw [lA_cu hM.2.2.2.2.2.2.1 hb (by omega)] at pa
  obtain ⟨τ3, c1, c2, c3⟩ := m_takesUp τ2 (k := 0) (by omega)
  have c1 : f_X10_takesUp [gR 36 0, gI 0] τ2 = some (none, τ3) := c1
  refine ⟨τ3, ?_, ⟨RM_cg hM.1 hM.2.2.2.2.2.2.1 (fun x hx => ?_), hM.2⟩, fX_tr (fP_fX0 a2 (fun k _ h => Or.inr h) (by omega)) (fX_tr (fP_fX0 b3 (fun k _ h => Or.inl h) (by omega)) (fP_fX0 c2 (fun k _ h => Or.inl h) (by omega)))⟩
  · rw [a1, g_b0, b1, g_b0, g174, e174, mY2, z_add, pa, g_b1, c1, g_b0]
  · rw [Nat.zero_add, c3 x hx, b3.1 51 0 _ (by omega), a3 x hx]
end CU
def cvF (s : gb_St) (n d : Int) (b : Nat) (a : Int × Int) : Int × Int := if sY s < sP s b then a else if cuT s b n d ≤ a.2 then a else ((b : Int), cuT s b n d)
def cvP (a : Int × Int) : Prop := (a = (-2, 0)) ∨ (0 ≤ a.1 ∧ a.1 < 6 ∧ 0 < a.2 ∧ a.2 ≤ 98901)
theorem cuT_r {s : gb_St} {b : Nat} {n d : Int} (hI : gb_IV s) (hb : b < 6) : -98901 ≤ cuT s b n d ∧ cuT s b n d ≤ 98901 := cu_r hI.1 (hI.2.2.2.2.2.1 b hb).2.2 (hI.2.2.2.2.2.1 b hb).2.1
theorem cvP_r {a : Int × Int} (h : cvP a) : -2 ≤ a.1 ∧ a.1 < 6 ∧ 0 ≤ a.2 ∧ a.2 ≤ 98901 ∧ (a.1 = -2 ∨ 0 ≤ a.1) := by
  rcases h with rfl | h
  · refine ⟨?_, ?_, ?_, ?_, ?_⟩ <;> dsimp only <;> omega
  · omega
theorem cvF_P {s : gb_St} (hI : gb_IV s) {n d : Int} {b : Nat} (hb : b < 6) {a : Int × Int} (h : cvP a) : cvP (cvF s n d b a) := by
  have hr := cvP_r h
  have hc := cuT_r (n := n) (d := d) hI hb
  unfold cvF
  split
  · exact h
  · split
    · exact h
    · refine Or.inr ⟨?_, ?_, ?_, ?_⟩ <;> dsimp only <;> omega
theorem th_cures {A : gb_Ab} (hA : wfA A) (a c : Int32) : gb_T2 f_X9_cures f_X10_cures [gR 0 0, gI a, gI c] [gR 36 0, gI a, gI c] A := by
  have hx := nZ_rz a
  have hy := nZ_rz c
  rw [nZ_of a, nZ_of c]
  generalize a.toInt = n at hx
  generalize c.toInt = d at hy
  have hI := hA.1.1
  obtain ⟨y1, y2, q1, q2⟩ := hI.2.2.2.2.2.2
  have i0 : (0 : Int64).toInt = 0 := by decide
  have i1 : (1 : Int64).toInt = 1 := by decide
  have i20 : (20 : Int64).toInt = 20 := by decide
  have i9 : (999 : Int64).toInt = 999 := by decide
  have z999' : (999 : Int32) = nZ 999 := rfl
  by_cases h1 : 1 ≤ n ∧ n ≤ 20
  rotate_left
  · refine T2_same hA (some (gI (-1))) (fun σ hC => ?_) (fun σ hM => ?_)
    · rw [e_X9_cures]
      by_cases h2 : n < 1
      · rw [if_pos (by rw [z1, z_lt hx ⟨by omega, by omega⟩]; exact h2)]
      · rw [if_neg (by rw [z1, z_lt hx ⟨by omega, by omega⟩]; exact h2), if_pos (by rw [z20, z_lt ⟨by omega, by omega⟩ hx]; omega)]
    · rw [e_X10_cures, m_in_f hx (by omega), g_b1, e00]
  by_cases h2 : 0 ≤ d ∧ d ≤ 999
  rotate_left
  · refine T2_same hA (some (gI (-1))) (fun σ hC => ?_) (fun σ hM => ?_)
    · rw [e_X9_cures, if_neg (by rw [z1, z_lt hx ⟨by omega, by omega⟩]; omega), if_neg (by rw [z20, z_lt ⟨by omega, by omega⟩ hx]; omega)]
      by_cases h3 : d < 0
      · rw [if_pos (by rw [z0, z_lt hy ⟨by omega, by omega⟩]; exact h3)]
      · rw [if_neg (by rw [z0, z_lt hy ⟨by omega, by omega⟩]; exact h3), if_neg (by rw [z999', z_le hy ⟨by omega, by omega⟩]; omega)]
    · rw [e_X10_cures, m_in_t hx (by omega), g_b1, e10, m_in_f hy (by omega), g_b1, e00]
  have h0 : cvP ((-2, 0) : Int × Int) := Or.inl rfl
  have hfin := it_inv (n := 6) (cvF A.1 n d) cvP h0 (fun i hi a ha => cvF_P hI hi ha)
  have cJ : ∀ σ, CC σ A → f_X9_cures [gR 0 0, gI (nZ n), gI (nZ d)] σ = j_X9_cures_33 (nZ n) (nZ d) (nZ (it 6 ((-2, 0) : Int × Int) (cvF A.1 n d)).1) (nZ (it 6 ((-2, 0) : Int × Int) (cvF A.1 n d)).2) (nZ (6 : Nat)) σ := by
    intro σ hC
    obtain ⟨hJ, -⟩ := lpi (n := 6) (fun i (a : Int × Int) => j_X9_cures_33 (nZ n) (nZ d) (nZ a.1) (nZ a.2) (nZ i) σ) (cvF A.1 n d) cvP h0 (fun i hi a ha => ⟨by
      try dsimp only
      obtain ⟨p1, p2, p3, p4, p5⟩ := cvP_r ha
      have hc := cuT_r (n := n) (d := d) hI hi
      rw [e_X9_cures_33, if_neg (n6 hi), zs]
      unfold cvF
      by_cases w : sY A.1 < sP A.1 i
      · rw [if_pos w, p_closed_t hC.1 hi w, g_b1, e10, if_pos (by rw [z0, z_le ⟨by omega, by omega⟩ ⟨by omega, by omega⟩]; omega)]
      rw [if_neg w, p_closed_f hC.1 hi w, g_b1, e00, p_cureOf hC.1 hi h1 h2, g_b1]
      by_cases e : cuT A.1 i n d ≤ a.2
      · rw [if_pos (by rw [z_le ⟨by omega, by omega⟩ ⟨by omega, by omega⟩]; exact e), if_pos e]
      · rw [if_neg (by rw [z_le ⟨by omega, by omega⟩ ⟨by omega, by omega⟩]; exact e), if_neg e], cvF_P hI hi ha⟩)
    rw [e_X9_cures, if_neg (by rw [z1, z_lt hx ⟨by omega, by omega⟩]; omega), if_neg (by rw [z20, z_lt ⟨by omega, by omega⟩ hx]; omega), if_neg (by rw [z0, z_lt hy ⟨by omega, by omega⟩]; omega), if_pos (by rw [z999', z_le hy ⟨by omega, by omega⟩]; omega)]
    exact hJ
  have mJ : ∀ σ, KM σ (gb_si σ 36 0 10 0) A → ∃ τ, f_X10_cures [gR 36 0, gI (nZ n), gI (nZ d)] σ = j_X10_cures_56 (nZ n) (nZ d) (nZ (lA A.1 (sY A.1 + d))) (nZ (it 6 ((-2, 0) : Int × Int) (cvF A.1 n d)).1) (nZ (it 6 ((-2, 0) : Int × Int) (cvF A.1 n d)).2) (nZ (6 : Nat)) τ ∧ KM σ τ A := by
    intro σ hM
    have mY := m_DAY hM
    obtain ⟨τ, hJ, hK, -⟩ := lph (n := 6) (σ := gb_si σ 36 0 10 0) (fun i τ => j_X10_cures_56 (nZ n) (nZ d) (nZ (lA A.1 (sY A.1 + d))) (nZ (it i ((-2, 0) : Int × Int) (cvF A.1 n d)).1) (nZ (it i ((-2, 0) : Int × Int) (cvF A.1 n d)).2) (nZ i) τ) (fun i τ => KM σ τ A ∧ cvP (it i ((-2, 0) : Int × Int) (cvF A.1 n d))) ⟨hM, h0⟩ (by
      intro i hi τ ⟨hK, ha⟩
      have hP' := cvF_P (n := n) (d := d) hI hi ha
      show ∃ τ', j_X10_cures_56 _ _ _ _ _ _ _ = j_X10_cures_56 _ _ _ (nZ (cvF A.1 n d i (it i ((-2, 0) : Int × Int) (cvF A.1 n d))).1) (nZ (cvF A.1 n d i (it i ((-2, 0) : Int × Int) (cvF A.1 n d))).2) _ _ ∧ KM σ τ' A ∧ cvP (cvF A.1 n d i (it i ((-2, 0) : Int × Int) (cvF A.1 n d)))
      generalize it i ((-2, 0) : Int × Int) (cvF A.1 n d) = a at ha hP' ⊢
      obtain ⟨p1, p2, p3, p4, p5⟩ := cvP_r ha
      have hc := cuT_r (n := n) (d := d) hI hi
      have hlen := (hI.2.2.2.2.2.1 i hi).1
      by_cases w : sY A.1 < sP A.1 i
      · refine ⟨τ, ?_, hK, hP'⟩
        rw [e_X10_cures_56, if_neg (n6 hi), zs, m_closed_t hK.1.1 hi w, g_b1, show nZ 1 = 1 from rfl, e10]
        unfold cvF
        rw [if_pos w]
      by_cases e : (sB A.1 i).length = 0
      · refine ⟨τ, ?_, hK, hP'⟩
        have e0 : cuT A.1 i n d = 0 := by
          unfold cuT
          rw [List.length_eq_zero_iff.mp e]
          rfl
        rw [e_X10_cures_56, if_neg (n6 hi), zs, m_closed_f hK.1.1 hi w, g_b1, if_pos (show nZ 0 = 0 from rfl), m_many hK.1.1 hi, g_b1, e, if_pos (by decide)]
        unfold cvF
        rw [if_neg w, e0, if_pos p3]
      · have mcure := fun F => m_cure (σ := τ) hK.1.1 hi h1 h2 (F := F)
        rw [e_X10_cures_56, if_neg (n6 hi), zs, m_closed_f hK.1.1 hi w, g_b1, if_pos (show nZ 0 = 0 from rfl), m_many hK.1.1 hi, g_b1, if_neg (by rw [z0, z_eq ⟨by omega, by omega⟩ ⟨by omega, by omega⟩]; omega)]
        obtain ⟨τ3, b1, b2, b3⟩ := mcure (fun s16 x15 => if nZ a.2 < x15 - nZ (lA A.1 (sY A.1 + d)) then j_X10_cures_56 (nZ n) (nZ d) (nZ (lA A.1 (sY A.1 + d))) (nZ i) (x15 - nZ (lA A.1 (sY A.1 + d))) (nZ (i + 1 : Nat)) s16 else j_X10_cures_56 (nZ n) (nZ d) (nZ (lA A.1 (sY A.1 + d))) (nZ a.1) (nZ a.2) (nZ (i + 1 : Nat)) s16)
        refine ⟨τ3, ?_, KM_back hK b3 ⟨by omega, by omega, by omega, by omega⟩ ⟨fun z => z, fun z => z, fun z => z, fun z => z⟩ (fun k hk => by omega) b2, hP'⟩
        refine b1.trans ?_
        try dsimp only
        rw [z_sub, show lA A.1 (sY A.1 + d) + cuT A.1 i n d - lA A.1 (sY A.1 + d) = cuT A.1 i n d by omega]
        unfold cvF
        rw [if_neg w]
        by_cases e2 : cuT A.1 i n d ≤ a.2
        · rw [if_neg (by rw [z_lt ⟨by omega, by omega⟩ ⟨by omega, by omega⟩]; omega), if_pos e2]
        · rw [if_pos (by rw [z_lt ⟨by omega, by omega⟩ ⟨by omega, by omega⟩]; omega), if_neg e2])
    refine ⟨τ, ?_, hK⟩
    rw [e_X10_cures, m_in_t hx (by omega), g_b1, e10, m_in_t hy (by omega), g_b1, e10, g174, e174, mY, z_add, m_allOn hM.1.1 (by omega), g_b1]
    exact hJ
  generalize it 6 ((-2, 0) : Int × Int) (cvF A.1 n d) = z at hfin cJ mJ
  obtain ⟨p1, p2, p3, p4, p5⟩ := cvP_r hfin
  by_cases w : z.1 < 0
  · refine T2_K (some (gI (nZ (-2)))) A hA (fun σ hC => ⟨σ, ?_, hC⟩) (fun σ hM => ?_)
    · rw [cJ σ hC.1, e_X9_cures_33, if_pos y6, if_pos (by rw [z0, z_lt ⟨by omega, by omega⟩ ⟨by omega, by omega⟩]; exact w), show z.1 = -2 by omega]
    · obtain ⟨τ, hJ, hK⟩ := mJ σ hM
      refine ⟨τ, ?_, hK⟩
      rw [hJ, e_X10_cures_56, if_pos y6, if_pos (by rw [show z.1 = -2 by omega]; rfl)]
      rfl
  · refine T2_K (some (gI (nZ z.1))) (setR A ([] ++ [(nZ z.2).toInt64])) (wf_setR hA) (fun σ hC => ?_) (fun σ hM => ?_)
    · obtain ⟨τ1, a1, c1⟩ := kc_start hC
      obtain ⟨τ2, a2, c2⟩ := kc_add c1 (by simp) (nZ z.2).toInt64
      refine ⟨τ2, ?_, c2⟩
      rw [cJ σ hC.1, e_X9_cures_33, if_pos y6, if_neg (by rw [z0, z_lt ⟨by omega, by omega⟩ ⟨by omega, by omega⟩]; exact w), a1, g_b0, a2, g_b0]
    · obtain ⟨τ, hJ, hK⟩ := mJ σ hM
      obtain ⟨τ2, a2, c2⟩ := km_tell (km_start hK) (by simp) (nZ z.2).toInt64
      refine ⟨τ2, ?_, c2⟩
      rw [hJ, e_X10_cures_56, if_pos y6, if_neg (by rw [zm2, z_eq ⟨by omega, by omega⟩ ⟨by omega, by omega⟩]; omega), a2, g_b0]
