/-! CURES -/
def cuU (s : gb_St) (n d : Int) (l : gb_Ly) : Int := max 0 (sW s l.1 - max 0 (d - n - sK s l.1))
def cuF (s : gb_St) (n d : Int) (l : gb_Ly) : Int := l.2.1 * (cuU s n d l - sU s (sY s + d) l)
def cuT (s : gb_St) (b : Nat) (n d : Int) : Int := sL (cuF s n d) (sB s b)
theorem sL_sub {f g : gb_Ly → Int} : ∀ {L : List gb_Ly}, sL (fun l => f l - g l) L = sL f L - sL g L
  | [] => rfl
  | l :: t => by
    have := sL_sub (f := f) (g := g) (L := t)
    simp only [sL]; omega
theorem cu_sub {s : gb_St} {n d : Int} {L : List gb_Ly} : sL (cuF s n d) L = sL (fun l => l.2.1 * cuU s n d l) L - lR s (sY s + d) L := by
  unfold lR
  rw [← sL_sub]
  refine sL_c (fun l _ => ?_)
  exact Int.mul_sub _ _ _
theorem cuU_r {s : gb_St} {n d : Int} {l : gb_Ly} (iw : iW s) (hl : okL l) : 0 ≤ cuU s n d l ∧ cuU s n d l ≤ 999 := by
  have := iw l.1 hl.1
  unfold cuU
  omega
theorem cu_r {s : gb_St} {n d : Int} {L : List gb_Ly} (iw : iW s) (hok : ∀ l ∈ L, okL l) (hT : lT L ≤ 99) : -98901 ≤ sL (cuF s n d) L ∧ sL (cuF s n d) L ≤ 98901 := by
  have h1 := lR_r (on := sY s + d) iw hok hT
  obtain ⟨h2, h3⟩ := sL_bd (L := L) (f := fun l => l.2.1 * cuU s n d l) (c := 999) (fun l hl => by
    obtain ⟨u1, u2⟩ := cuU_r (n := n) (d := d) iw (hok l hl)
    have ht := (hok l hl).2.1
    exact ⟨Int.mul_nonneg (by omega) u1, Int.mul_le_mul_of_nonneg_left u2 (by omega)⟩) (by omega)
  rw [cu_sub]
  omega
theorem lays_sL {f : gb_Ly → Int} (hf : ∀ g t1 t2 d, f (g, t1 + t2, d) = f (g, t1, d) + f (g, t2, d)) {P : List gb_Ly} : ∀ {A : List gb_Ly}, sL f (lays A P) = sL f A + sL f P := by
  induction P with
  | nil => intro A; show sL f A = sL f A + 0; omega
  | cons p P ih =>
    intro A
    have h1 := ih (A := lay1 A p.1 p.2.1 p.2.2)
    have h2 : sL f (lay1 A p.1 p.2.1 p.2.2) = sL f A + f (p.1, p.2.1, p.2.2) := sL_lay (fun t1 t2 => hf _ _ _ _)
    show sL f (lays (lay1 A p.1 p.2.1 p.2.2) P) = sL f A + (f p + sL f P)
    rw [h1, h2]
    show sL f A + f p + sL f P = _
    omega
theorem jn_sL {f : gb_Ly → Int} (hf : ∀ g t1 t2 d, f (g, t1 + t2, d) = f (g, t1, d) + f (g, t2, d)) {P : List gb_Ly} : sL f (jn P) = sL f P := by
  have := lays_sL hf (P := P) (A := [])
  show sL f (lays [] P) = _
  rw [this]
  show 0 + _ = _
  omega
theorem fum_sL2 {f : gb_Ly → Int} {d : Int} : ∀ {L : List gb_Ly}, sL f (fum L d) = sL (fun l => f (l.1, l.2.1, d)) L
  | [] => rfl
  | l :: t => by
    have := fum_sL2 (f := f) (d := d) (L := t)
    show f (l.1, l.2.1, d) + sL f (fum t d) = _
    rw [this]
    rfl
theorem lG_jf {L : List gb_Ly} {e : Int} {g : Nat} : lG (jn (fum L e)) g = lG L g := by
  unfold lG
  rw [jn_sL (fun k t1 t2 d => by by_cases h : k = g <;> simp [h]), fum_sL2]
theorem lX_jf {s : gb_St} {L : List gb_Ly} {e : Int} : lX s (jn (fum L e)) = lX s L := by
  unfold lX lM
  simp only [lG_jf]
theorem lR_jf {s : gb_St} {L : List gb_Ly} {n d : Int} : lR s (sY s + d) (jn (fum L (sY s + n))) = sL (fun l => l.2.1 * cuU s n d l) L := by
  unfold lR
  rw [jn_sL (fun k t1 t2 e => by
    show (t1 + t2) * sU s (sY s + d) (k, t1 + t2, e) = t1 * sU s (sY s + d) (k, t1, e) + t2 * sU s (sY s + d) (k, t2, e)
    rw [show sU s (sY s + d) (k, t1 + t2, e) = sU s (sY s + d) (k, t1, e) from rfl, show sU s (sY s + d) (k, t2, e) = sU s (sY s + d) (k, t1, e) from rfl, Int.add_mul]), fum_sL2]
  refine sL_c (fun l _ => ?_)
  have : sU s (sY s + d) (l.1, l.2.1, sY s + n) = cuU s n d l := by
    unfold sU cuU
    show max 0 (sW s l.1 - max 0 (sY s + d - (sY s + n) - sK s l.1)) = _
    rw [show sY s + d - (sY s + n) = d - n by omega]
  show l.2.1 * sU s (sY s + d) (l.1, l.2.1, sY s + n) = _
  rw [this]
theorem lV_eq {s s' : gb_St} (e : ∀ k, k < 54 → s'.1 k = s.1 k) {on : Int} {L : List gb_Ly} (hok : ∀ l ∈ L, okL l) : lV s' on L = lV s on L := by
  have h1 : lR s' on L = lR s on L := sL_c (fun l hl => by
    have h6 := (hok l hl).1
    unfold sU sW sK
    rw [e l.1 (by omega), e (6 + l.1) (by omega)])
  have h2 : lX s' L = lX s L := sm_c (fun g hg => sm_c (fun h hh => by
    unfold lM sO
    rw [e (12 + (6 * g + h)) (by omega)]))
  unfold lV
  rw [h1, h2]
theorem lA_cu {s : gb_St} (il : iL s) {b : Nat} (hb : b < 6) {n d : Int} (hd : 0 ≤ sY s + n ∧ sY s + n ≤ 10019) : lA (setB (setP s b (sY s + n)) b (jn (fum (sB s b) (sY s + n)))) (sY s + d) = lA s (sY s + d) + cuT s b n d := by
  have he : ∀ k, k < 54 → (setB (setP s b (sY s + n)) b (jn (fum (sB s b) (sY s + n)))).1 k = s.1 k := fun k hk => if_neg (by omega)
  have hfl : (fum (sB s b) (sY s + n)).length = (sB s b).length := by unfold fum; rw [List.length_map]
  have hjok : ∀ l ∈ jn (fum (sB s b) (sY s + n)), okL l := by
    have := jn_ok (L := fum (sB s b) (sY s + n)) (fum_ok (il b hb).2.2 hd) (by rw [show lT (fum (sB s b) (sY s + n)) = lT (sB s b) from fum_sL (fun _ _ _ => rfl)]; exact (il b hb).2.1) _ (Nat.le_refl _)
    rwa [jn_all] at this
  have h1 := sm_1 (n := 6) (k := b) (f := fun k => lV (setB (setP s b (sY s + n)) b (jn (fum (sB s b) (sY s + n)))) (sY s + d) (sB (setB (setP s b (sY s + n)) b (jn (fum (sB s b) (sY s + n)))) k)) (g := fun k => lV s (sY s + d) (sB s k)) hb (fun k hk hne => by
    try dsimp only
    rw [sB_n hne]
    exact lV_eq he (il k hk).2.2)
  try dsimp only at h1
  rw [sB_s] at h1
  have h2 : lV (setB (setP s b (sY s + n)) b (jn (fum (sB s b) (sY s + n)))) (sY s + d) (jn (fum (sB s b) (sY s + n))) = sL (fun l => l.2.1 * cuU s n d l) (sB s b) - lX s (sB s b) := by
    rw [lV_eq he hjok]
    unfold lV
    rw [lR_jf, lX_jf]
  rw [h2] at h1
  have h3 := cu_sub (s := s) (n := n) (d := d) (L := sB s b)
  have h4 : lV s (sY s + d) (sB s b) = lR s (sY s + d) (sB s b) - lX s (sB s b) := rfl
  unfold lA cuT
  omega
section CU
variable {σ : gb_M} {j : Nat} {s : gb_St} {b : Nat}
end CU
def cvF (s : gb_St) (n d : Int) (b : Nat) (a : Int × Int) : Int × Int := if sY s < sP s b then a else if cuT s b n d ≤ a.2 then a else ((b : Int), cuT s b n d)
def cvP (a : Int × Int) : Prop := (a = (-2, 0)) ∨ (0 ≤ a.1 ∧ a.1 < 6 ∧ 0 < a.2 ∧ a.2 ≤ 98901)
theorem cuT_r {s : gb_St} {b : Nat} {n d : Int} (hI : gb_IV s) (hb : b < 6) : -98901 ≤ cuT s b n d ∧ cuT s b n d ≤ 98901 := cu_r hI.1 (hI.2.2.2.2.2.1 b hb).2.2 (hI.2.2.2.2.2.1 b hb).2.1
theorem cvP_r {a : Int × Int} (h : cvP a) : -2 ≤ a.1 ∧ a.1 < 6 ∧ 0 ≤ a.2 ∧ a.2 ≤ 98901 ∧ (a.1 = -2 ∨ 0 ≤ a.1) := by
  rcases h with rfl | h
  · refine ⟨?_, ?_, ?_, ?_, ?_⟩ <;> dsimp only <;> omega
  · omega
theorem cvF_P {s : gb_St} (hI : gb_IV s) {n d : Int} {b : Nat} (hb : b < 6) {a : Int × Int} (h : cvP a) : cvP (cvF s n d b a) := by
  have hr := cvP_r h
  have hc := cuT_r (n := n) (d := d) hI hb
  unfold cvF
  split
  · exact h
  · split
    · exact h
    · refine Or.inr ⟨?_, ?_, ?_, ?_⟩ <;> dsimp only <;> omega