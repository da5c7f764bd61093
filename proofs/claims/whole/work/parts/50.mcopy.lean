/-! COPIES: the reference -/
theorem cpl {n kd ks od os : Nat} {σ : gb_M} (J : Nat → gb_M → gb_R) (hne : kd ≠ ks ∨ od ≤ os) (hs : ∀ i, i < n → ∀ τ, gb_fP (fun k => k = kd) σ τ → J i τ = J (i + 1) (gb_si τ kd 0 (od + i) (τ.1 ks 0 (os + i)))) : ∃ τ, J 0 σ = J n τ ∧ gb_fP (fun k => k = kd) σ τ ∧ (∀ i, i < n → τ.1 kd 0 (od + i) = σ.1 ks 0 (os + i)) ∧ ∀ x, (x < od ∨ od + n ≤ x) → τ.1 kd 0 x = σ.1 kd 0 x := by
  have h := lph (n := n) (σ := σ) J (fun i τ => gb_fP (fun k => k = kd) σ τ ∧ (∀ k, k < i → τ.1 kd 0 (od + k) = σ.1 ks 0 (os + k)) ∧ ∀ x, (x < od ∨ od + i ≤ x) → τ.1 kd 0 x = σ.1 kd 0 x) ⟨fP_rf, fun k hk => by omega, fun x _ => rfl⟩ (by
    intro i hi τ ⟨f, t1, t2⟩
    refine ⟨_, hs i hi τ f, fP_si f rfl, fun k hk => ?_, fun x hx => ?_⟩
    · by_cases e : k = i
      · subst e
        rw [si_s]
        by_cases ek : kd = ks
        · subst ek
          exact t2 _ (by omega)
        · exact f.1 ks 0 _ (fun z => ek z.symm)
      · rw [si_i (by omega)]
        exact t1 k (by omega)
    · rw [si_i (by omega)]
      exact t2 x (by omega))
  exact h
theorem z176i (k i : Nat) : (176 * (k : Int) + (i : Int)).toNat = 176 * k + i := by omega
section MCOPY
variable {σ : gb_M} {s : gb_St}
theorem m_keepsAside (hM : gb_MM σ s) : ∃ σ', f_X10_keepsAside [gR 36 0] σ = some (none, σ') ∧ gb_fP (fun k => k = 38) σ σ' ∧ ∀ x, x < 176 → σ'.1 38 0 x = σ.1 37 0 x := by
  rw [e_X10_keepsAside]
  obtain ⟨τ, h1, h2, h3, h4⟩ := cpl (n := 176) (kd := 38) (ks := 37) (od := 0) (os := 0) (σ := σ) (fun i τ => j_X10_keepsAside_2 (nZ i) τ) (Or.inl (by omega)) (by
    intro i hi τ f
    show j_X10_keepsAside_2 _ _ = _
    rw [e_X10_keepsAside_2]
    simp (disch := omega) only [z0, z1, z2, z3, z4, z5, z6, z12, z18, z48, z54, z60, z66, z174, z175, z_neg, z_add, z_sub, z_mul, z_tn, g_in, g_b0, g_b1, Int.toNat_natCast, z_le, z_lt, z_eq, z_mx, z_mn, if_pos, if_neg, if_true, if_false, z176, Nat.zero_add, Int.natCast_add, Int.natCast_one])
  refine ⟨τ, ?_, h2, fun x hx => by have := h3 x hx; rwa [Nat.zero_add] at this⟩
  rw [show (0 : Int32) = nZ ((0 : Nat) : Int) from rfl, h1, e_X10_keepsAside_2]
  simp (disch := omega) only [z0, z1, z2, z3, z4, z5, z6, z12, z18, z48, z54, z60, z66, z174, z175, z_neg, z_add, z_sub, z_mul, z_tn, g_in, g_b0, g_b1, Int.toNat_natCast, z_le, z_lt, z_eq, z_mx, z_mn, if_pos, if_neg, if_true, if_false, z176, show ((176 : Nat) : Int) = 176 from rfl]
theorem m_putsBack (σ : gb_M) : ∃ σ', f_X10_putsBack [gR 36 0] σ = some (none, σ') ∧ gb_fP (fun k => k = 37) σ σ' ∧ ∀ x, x < 176 → σ'.1 37 0 x = σ.1 38 0 x := by
  rw [e_X10_putsBack]
  obtain ⟨τ, h1, h2, h3, h4⟩ := cpl (n := 176) (kd := 37) (ks := 38) (od := 0) (os := 0) (σ := σ) (fun i τ => j_X10_putsBack_2 (nZ i) τ) (Or.inl (by omega)) (by
    intro i hi τ f
    show j_X10_putsBack_2 _ _ = _
    rw [e_X10_putsBack_2]
    simp (disch := omega) only [z0, z1, z2, z3, z4, z5, z6, z12, z18, z48, z54, z60, z66, z174, z175, z_neg, z_add, z_sub, z_mul, z_tn, g_in, g_b0, g_b1, Int.toNat_natCast, z_le, z_lt, z_eq, z_mx, z_mn, if_pos, if_neg, if_true, if_false, z176, Nat.zero_add, Int.natCast_add, Int.natCast_one])
  refine ⟨τ, ?_, h2, fun x hx => by have := h3 x hx; rwa [Nat.zero_add] at this⟩
  rw [show (0 : Int32) = nZ ((0 : Nat) : Int) from rfl, h1, e_X10_putsBack_2]
  simp (disch := omega) only [z0, z1, z2, z3, z4, z5, z6, z12, z18, z48, z54, z60, z66, z174, z175, z_neg, z_add, z_sub, z_mul, z_tn, g_in, g_b0, g_b1, Int.toNat_natCast, z_le, z_lt, z_eq, z_mx, z_mn, if_pos, if_neg, if_true, if_false, z176, show ((176 : Nat) : Int) = 176 from rfl]
theorem m_laysDown (σ : gb_M) {k : Nat} (hk : k < 7) : ∃ σ', f_X10_laysDown [gR 36 0, gI (nZ k)] σ = some (none, σ') ∧ gb_fP (fun k => k = 51) σ σ' ∧ (∀ x, x < 176 → σ'.1 51 0 (176 * k + x) = σ.1 37 0 x) ∧ ∀ x, (x < 176 * k ∨ 176 * k + 176 ≤ x) → σ'.1 51 0 x = σ.1 51 0 x := by
  rw [e_X10_laysDown]
  obtain ⟨τ, h1, h2, h3, h4⟩ := cpl (n := 176) (kd := 51) (ks := 37) (od := 176 * k) (os := 0) (σ := σ) (fun i τ => j_X10_laysDown_2 (nZ k) (nZ i) τ) (Or.inl (by omega)) (by
    intro i hi τ f
    show j_X10_laysDown_2 _ _ _ = _
    rw [e_X10_laysDown_2]
    simp (disch := omega) only [z0, z1, z2, z3, z4, z5, z6, z12, z18, z48, z54, z60, z66, z174, z175, z_neg, z_add, z_sub, z_mul, z_tn, g_in, g_b0, g_b1, Int.toNat_natCast, z_le, z_lt, z_eq, z_mx, z_mn, if_pos, if_neg, if_true, if_false, z176, z176i, Nat.zero_add, Int.natCast_add, Int.natCast_one])
  refine ⟨τ, ?_, h2, fun x hx => by have := h3 x hx; rwa [Nat.zero_add] at this, h4⟩
  rw [show (0 : Int32) = nZ ((0 : Nat) : Int) from rfl, h1, e_X10_laysDown_2]
  simp (disch := omega) only [z0, z1, z2, z3, z4, z5, z6, z12, z18, z48, z54, z60, z66, z174, z175, z_neg, z_add, z_sub, z_mul, z_tn, g_in, g_b0, g_b1, Int.toNat_natCast, z_le, z_lt, z_eq, z_mx, z_mn, if_pos, if_neg, if_true, if_false, z176, show ((176 : Nat) : Int) = 176 from rfl]
theorem m_takesUp (σ : gb_M) {k : Nat} (hk : k < 7) : ∃ σ', f_X10_takesUp [gR 36 0, gI (nZ k)] σ = some (none, σ') ∧ gb_fP (fun k => k = 37) σ σ' ∧ ∀ x, x < 176 → σ'.1 37 0 x = σ.1 51 0 (176 * k + x) := by
  rw [e_X10_takesUp]
  obtain ⟨τ, h1, h2, h3, h4⟩ := cpl (n := 176) (kd := 37) (ks := 51) (od := 0) (os := 176 * k) (σ := σ) (fun i τ => j_X10_takesUp_2 (nZ k) (nZ i) τ) (Or.inl (by omega)) (by
    intro i hi τ f
    show j_X10_takesUp_2 _ _ _ = _
    rw [e_X10_takesUp_2]
    simp (disch := omega) only [z0, z1, z2, z3, z4, z5, z6, z12, z18, z48, z54, z60, z66, z174, z175, z_neg, z_add, z_sub, z_mul, z_tn, g_in, g_b0, g_b1, Int.toNat_natCast, z_le, z_lt, z_eq, z_mx, z_mn, if_pos, if_neg, if_true, if_false, z176, z176i, Nat.zero_add, Int.natCast_add, Int.natCast_one])
  refine ⟨τ, ?_, h2, fun x hx => by have := h3 x hx; rwa [Nat.zero_add] at this⟩
  rw [show (0 : Int32) = nZ ((0 : Nat) : Int) from rfl, h1, e_X10_takesUp_2]
  simp (disch := omega) only [z0, z1, z2, z3, z4, z5, z6, z12, z18, z48, z54, z60, z66, z174, z175, z_neg, z_add, z_sub, z_mul, z_tn, g_in, g_b0, g_b1, Int.toNat_natCast, z_le, z_lt, z_eq, z_mx, z_mn, if_pos, if_neg, if_true, if_false, z176, show ((176 : Nat) : Int) = 176 from rfl]
/-- the reference's past -/
abbrev s0 : gb_St := (fun _ => 0, fun _ => [])
def gb_PM (σ : gb_M) (h : List gb_St) : Prop := σ.1 36 0 5 = nZ h.length ∧ h.length ≤ 8 ∧ ∀ i : Nat, i < h.length → gb_RM (σ.1 40 0) (176 * i) (h.getD i s0) ∧ gb_IV (h.getD i s0)
def hAdd (h : List gb_St) (s : gb_St) : List gb_St := (if h.length = 8 then h.tail else h) ++ [s]
theorem hAdd_len {h : List gb_St} {s : gb_St} (hl : h.length ≤ 8) : (hAdd h s).length = min 8 (h.length + 1) := by
  unfold hAdd
  rw [List.length_append]
  split
  · rw [List.length_tail]; simp; omega
  · simp; omega
theorem gd_app1 {h : List gb_St} {s d : gb_St} {i : Nat} (hi : i < h.length) : (h ++ [s]).getD i d = h.getD i d := by
  simp [List.getD, List.getElem?_append_left hi]
theorem gd_app2 {h : List gb_St} {s d : gb_St} : (h ++ [s]).getD h.length d = s := by
  simp [List.getD]
theorem gd_tail {h : List gb_St} {d : gb_St} {i : Nat} : h.tail.getD i d = h.getD (i + 1) d := by
  cases h with
  | nil => simp [List.getD]
  | cons a t => simp [List.getD]
theorem m_did54 {n : Nat} (hn : n < 8) {h : List gb_St} (h5 : σ.1 36 0 5 = nZ n) (hl : h.length = n) (hh : ∀ i : Nat, i < n → gb_RM (σ.1 40 0) (176 * i) (h.getD i s0) ∧ gb_IV (h.getD i s0)) (ha : gb_RM (σ.1 38 0) 0 s) (hI : gb_IV s) : ∃ σ', j_X10_did_54 (nZ (0 : Nat)) σ = some (none, σ') ∧ gb_fP (fun k => k = 40 ∨ k = 36) σ σ' ∧ gb_PM σ' (h ++ [s]) ∧ ∀ x, x ≠ 5 → σ'.1 36 0 x = σ.1 36 0 x := by
  obtain ⟨τ, h1, h2, h3, h4⟩ := cpl (n := 176) (kd := 40) (ks := 38) (od := 176 * n) (os := 0) (σ := σ) (fun i τ => j_X10_did_54 (nZ i) τ) (Or.inl (by omega)) (by
    intro i hi τ f
    have e5 : τ.1 36 0 5 = nZ n := by rw [f.1 36 0 5 (by omega)]; exact h5
    show j_X10_did_54 _ _ = _
    rw [e_X10_did_54]
    simp (disch := omega) only [z0, z1, z2, z3, z4, z5, z6, z12, z18, z48, z54, z60, z66, z174, z175, z_neg, z_add, z_sub, z_mul, z_tn, g_in, g_b0, g_b1, Int.toNat_natCast, z_le, z_lt, z_eq, z_mx, z_mn, if_pos, if_neg, if_true, if_false, e5, z176, z176i, Nat.zero_add, Int.natCast_add, Int.natCast_one])
  have e5 : τ.1 36 0 5 = nZ n := by rw [h2.1 36 0 5 (by omega)]; exact h5
  refine ⟨gb_si τ 36 0 5 (nZ (n + 1 : Nat)), ?_, fP_si (fP_w h2 (fun k hk => Or.inl hk)) (Or.inr rfl), ⟨?_, ?_, fun i hi => ?_⟩, fun x hx => ?_⟩
  · rw [h1, e_X10_did_54]
    simp (disch := omega) only [z0, z1, z2, z3, z4, z5, z6, z12, z18, z48, z54, z60, z66, z174, z175, z_neg, z_add, z_sub, z_mul, z_tn, g_in, g_b0, g_b1, Int.toNat_natCast, z_le, z_lt, z_eq, z_mx, z_mn, if_pos, if_neg, if_true, if_false, e5, z176, show ((176 : Nat) : Int) = 176 from rfl, Int.natCast_add, Int.natCast_one]
  · rw [si_s, List.length_append, hl]; rfl
  · rw [List.length_append, hl]; simp; omega
  · rw [List.length_append, hl] at hi
    have hi : i < n + 1 := hi
    have e40 : (gb_si τ 36 0 5 (nZ (n + 1 : Nat))).1 40 0 = τ.1 40 0 := by funext x; exact si_k (by omega)
    rw [e40]
    by_cases e : i = n
    · subst e
      have := gd_app2 (h := h) (s := s) (d := s0)
      rw [hl] at this
      rw [this]
      refine ⟨RM_cg ha hI.2.2.2.2.2.1 (fun x hx => ?_), hI⟩
      rw [h3 x hx]
    · rw [gd_app1 (by omega)]
      obtain ⟨q1, q2⟩ := hh i (by omega)
      refine ⟨RM_cg q1 q2.2.2.2.2.2.1 (fun x hx => ?_), q2⟩
      rw [h4 _ (by omega)]
  · rw [si_i hx]; exact h2.1 36 0 x (by omega)
theorem m_did {h : List gb_St} (hP : gb_PM σ h) (ha : gb_RM (σ.1 38 0) 0 s) (hI : gb_IV s) : ∃ σ', f_X10_did [gR 36 0] σ = some (none, σ') ∧ gb_fP (fun k => k = 40 ∨ k = 36) σ σ' ∧ gb_PM σ' (hAdd h s) ∧ ∀ x, x ≠ 5 → σ'.1 36 0 x = σ.1 36 0 x := by
  obtain ⟨h5, h8, hh⟩ := hP
  rw [e_X10_did]
  by_cases e : h.length = 8
  · obtain ⟨τ, h1, h2, h3, h4⟩ := cpl (n := 1408 - 176) (kd := 40) (ks := 40) (od := 0) (os := 176) (σ := σ) (fun i τ => j_X10_did_13 (nZ (176 + i : Nat)) τ) (Or.inr (by omega)) (by
      intro i hi τ f
      show j_X10_did_13 _ _ = _
      rw [e_X10_did_13]
      have e1 : ((176 + i : Nat) : Int) - 176 = (i : Int) := by omega
      simp (disch := omega) only [z0, z1, z2, z3, z4, z5, z6, z12, z18, z48, z54, z60, z66, z174, z175, z_neg, z_add, z_sub, z_mul, z_tn, g_in, g_b0, g_b1, Int.toNat_natCast, z_le, z_lt, z_eq, z_mx, z_mn, if_pos, if_neg, if_true, if_false, z176, show (1408 : Int32) = nZ 1408 from rfl, e1, Nat.zero_add]
      rw [show ((176 + i : Nat) : Int) + 1 = ((176 + (i + 1) : Nat) : Int) by omega])
    have e5 : τ.1 36 0 5 = nZ h.length := by rw [h2.1 36 0 5 (by omega)]; exact h5
    have e38 : τ.1 38 0 = σ.1 38 0 := by funext x; exact h2.1 38 0 x (by omega)
    have f2 : gb_fP (fun k => k = 40 ∨ k = 36) σ (gb_si τ 36 0 5 (nZ (7 : Nat))) := fP_si (fP_w h2 (fun k hk => Or.inl hk)) (Or.inr rfl)
    obtain ⟨σ', g1, g2, g3, g4⟩ := m_did54 (σ := gb_si τ 36 0 5 (nZ (7 : Nat))) (s := s) (n := 7) (by omega) (h := h.tail) si_s (by rw [List.length_tail]; omega) (fun i hi => by
      have e40 : (gb_si τ 36 0 5 (nZ (7 : Nat))).1 40 0 = τ.1 40 0 := by funext x; exact si_k (by omega)
      rw [e40, gd_tail]
      obtain ⟨q1, q2⟩ := hh (i + 1) (by omega)
      refine ⟨RM_cg q1 q2.2.2.2.2.2.1 (fun x hx => ?_), q2⟩
      have := h3 (176 * i + x) (by omega)
      rw [Nat.zero_add] at this
      rw [this, show 176 + (176 * i + x) = 176 * (i + 1) + x by omega]) (by
      have e38' : (gb_si τ 36 0 5 (nZ (7 : Nat))).1 38 0 = τ.1 38 0 := by funext x; exact si_k (by omega)
      rw [e38', e38]; exact ha) hI
    refine ⟨σ', ?_, fP_tr f2 g2, ?_, fun x hx => ?_⟩
    · have e13 : j_X10_did_13 (nZ (176 + (1408 - 176) : Nat)) τ = j_X10_did_54 (nZ (0 : Nat)) (gb_si τ 36 0 5 (nZ (7 : Nat))) := by
        rw [e_X10_did_13]
        simp (disch := omega) only [z0, z1, z2, z3, z4, z5, z6, z12, z18, z48, z54, z60, z66, z174, z175, z_neg, z_add, z_sub, z_mul, z_tn, g_in, g_b0, g_b1, Int.toNat_natCast, z_le, z_lt, z_eq, z_mx, z_mn, if_pos, if_neg, if_true, if_false, show (1408 : Int32) = nZ 1408 from rfl, e5, e, show ((176 + (1408 - 176) : Nat) : Int) = 1408 from rfl]
        rfl
      rw [h5, e, if_pos (show nZ ((8 : Nat) : Int) = 8 from rfl), show (176 : Int32) = nZ ((176 + 0 : Nat) : Int) from rfl, h1, e13, g1]
    · unfold hAdd
      rw [if_pos e]
      exact g3
    · rw [g4 x hx, si_i hx]; exact h2.1 36 0 x (by omega)
  · obtain ⟨σ', g1, g2, g3, g4⟩ := m_did54 (σ := σ) (s := s) (n := h.length) (by omega) (h := h) h5 rfl hh ha hI
    refine ⟨σ', ?_, g2, ?_, g4⟩
    · rw [h5, if_neg (by rw [show (8 : Int32) = nZ 8 from rfl, z_eq ⟨by omega, by omega⟩ ⟨by omega, by omega⟩]; omega)]
      exact g1
    · unfold hAdd
      rw [if_neg e]
      exact g3
theorem m_does (hM : gb_MM σ s) {h : List gb_St} (hP : gb_PM σ h) : ∃ σ', f_X10_does [gR 36 0] σ = some (none, σ') ∧ gb_fP (fun k => k = 38 ∨ k = 40 ∨ k = 36) σ σ' ∧ gb_PM σ' (hAdd h s) ∧ ∀ x, x ≠ 5 → σ'.1 36 0 x = σ.1 36 0 x := by
  obtain ⟨τ, h1, h2, h3⟩ := m_keepsAside hM
  have hP' : gb_PM τ h := by
    obtain ⟨q1, q2, q3⟩ := hP
    refine ⟨by rw [h2.1 36 0 5 (by omega)]; exact q1, q2, fun i hi => ?_⟩
    have e40 : τ.1 40 0 = σ.1 40 0 := by funext x; exact h2.1 40 0 x (by omega)
    rw [e40]; exact q3 i hi
  obtain ⟨σ', g1, g2, g3, g4⟩ := m_did (σ := τ) (s := s) hP' (RM_cg hM.1 hM.2.2.2.2.2.2.1 (fun x hx => by rw [Nat.zero_add, h3 x hx])) hM.2
  refine ⟨σ', ?_, fP_tr (fP_w h2 (fun k hk => Or.inl hk)) (fP_w g2 (fun k hk => by omega)), g3, fun x hx => by rw [g4 x hx]; exact h2.1 36 0 x (by omega)⟩
  rw [e_X10_does, h1, g_b0, g1, g_b0]
end MCOPY
