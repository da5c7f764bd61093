/-! RC: what the class holds and what the reference holds, of one state -/
abbrev gb_Ab : Type := gb_St × Option gb_St × List gb_St × List Int × List Int64
def gdS (s : gb_St) : Prop := gb_IV s ∧ ∀ b, b < 6 → adj (sB s b)
def rowC (σ : gb_M) (R : List Int64) : Prop := σ.1 21 0 1 = nZ R.length ∧ R.length ≤ 8 ∧ ∀ i, i < R.length → σ.2 22 0 i = R.getD i 0
def rowM (σ : gb_M) (R : List Int64) : Prop := σ.1 36 0 9 = nZ R.length ∧ R.length ≤ 8 ∧ ∀ i, i < R.length → σ.2 42 0 i = R.getD i 0
def textC (σ : gb_M) (T : List Int) : Prop := σ.1 1 0 1 = nZ T.length ∧ T.length ≤ 200 ∧ (∀ i, i < T.length → σ.1 2 0 i = nZ (T.getD i 0)) ∧ ∀ i, i < T.length → 0 ≤ T.getD i 0 ∧ T.getD i 0 ≤ 255
def bY (c : Int) : Int32 := nZ (if c < 128 then c else c - 256)
def textM (σ : gb_M) (T : List Int) : Prop := σ.1 36 0 7 = nZ T.length ∧ T.length ≤ 200 ∧ (∀ i, i < T.length → σ.1 41 0 i = bY (T.getD i 0)) ∧ ∀ i, i < T.length → 0 ≤ T.getD i 0 ∧ T.getD i 0 ≤ 255
def kI (k : Option gb_St) : Int32 := match k with
  | none => 0
  | some _ => 1
def keptC (σ : gb_M) (k : Option gb_St) : Prop := σ.1 0 0 5 = kI k ∧ ∀ s, k = some s → gb_SC σ 1 s
def keptM (σ : gb_M) (k : Option gb_St) : Prop := σ.1 36 0 3 = kI k ∧ ∀ s, k = some s → gb_RM (σ.1 39 0) 0 s ∧ gb_IV s
def pastC (σ : gb_M) (h : List gb_St) : Prop := ∃ n : Nat, n < 8 ∧ σ.1 19 0 1 = nZ n ∧ σ.1 19 0 2 = nZ h.length ∧ h.length ≤ 8 ∧ ∀ i, i < h.length → gb_SC σ (2 + (n + 8 - h.length + i) % 8) (h.getD i s0)
def CC (σ : gb_M) (A : gb_Ab) : Prop := gb_SC σ 0 A.1 ∧ keptC σ A.2.1 ∧ pastC σ A.2.2.1 ∧ textC σ A.2.2.2.1 ∧ rowC σ A.2.2.2.2
def MC (σ : gb_M) (A : gb_Ab) : Prop := gb_MM σ A.1 ∧ keptM σ A.2.1 ∧ gb_PM σ A.2.2.1 ∧ textM σ A.2.2.2.1 ∧ rowM σ A.2.2.2.2
def wfA (A : gb_Ab) : Prop := gdS A.1 ∧ (∀ s, A.2.1 = some s → gdS s) ∧ (∀ i, i < A.2.2.1.length → gdS (A.2.2.1.getD i s0)) ∧ A.2.2.1.length ≤ 8
/-- nothing is drawn in thought -/
def goneC (σ : gb_M) : Prop := ∀ b, b < 6 → σ.1 31 0 b = 0
def gb_T2 (fc fm : gb_F) (ac am : List gb_V) (A : gb_Ab) : Prop := ∃ (r : Option gb_V) (A' : gb_Ab), wfA A' ∧ (∀ σ, CC σ A → goneC σ → ∃ σ', fc ac σ = some (r, σ') ∧ CC σ' A' ∧ gb_fP (fun k => k < 36 ∧ k ≠ 31) σ σ') ∧ (∀ σ, MC σ A → ∃ σ', fm am σ = some (r, σ') ∧ MC σ' A' ∧ gb_fP (fun k => 36 ≤ k) σ σ')
/-! the class: what stays -/
theorem SC_fP {P : Nat → Prop} {σ σ' : gb_M} {j : Nat} {s : gb_St} (h : gb_fP P σ σ') (hP : ∀ k, 3 ≤ k → k ≤ 18 → ¬ P k) (hS : gb_SC σ j s) : gb_SC σ' j s := by
  obtain ⟨⟨h1, h2, h3, h4, h5, h6, h7, h8⟩, ⟨r1, r2, r3, r4⟩, hI⟩ := hS
  have e : ∀ k i x, 3 ≤ k → k ≤ 18 → σ'.1 k i x = σ.1 k i x := fun k i x a b => h.1 k i x (hP k a b)
  refine ⟨⟨fun g hg => ?_, fun g hg => ?_, fun g hg => ?_, fun g hg => ?_, fun b i hb hi => ?_, fun b g hb hg => ?_, ?_, ?_⟩, ⟨fun g hg => ?_, fun g hg => ?_, fun g k hg hk => ?_, fun g hg => ?_⟩, hI⟩
  · rw [e _ _ _ (by omega) (by omega)]; exact h1 g hg
  · rw [e _ _ _ (by omega) (by omega)]; exact h2 g hg
  · rw [e _ _ _ (by omega) (by omega)]; exact h3 g hg
  · rw [e _ _ _ (by omega) (by omega)]; exact h4 g hg
  · rw [e _ _ _ (by omega) (by omega), e _ _ _ (by omega) (by omega), e _ _ _ (by omega) (by omega)]; exact h5 b i hb hi
  · rw [e _ _ _ (by omega) (by omega)]; exact h6 b g hb hg
  · rw [e _ _ _ (by omega) (by omega)]; exact h7
  · rw [e _ _ _ (by omega) (by omega)]; exact h8
  · rw [e _ _ _ (by omega) (by omega)]; exact r1 g hg
  · rw [e _ _ _ (by omega) (by omega)]; exact r2 g hg
  · rw [e _ _ _ (by omega) (by omega)]; exact r3 g k hg hk
  · rw [e _ _ _ (by omega) (by omega)]; exact r4 g hg
theorem SC_fS {σ σ' : gb_M} {i j : Nat} {s : gb_St} (h : gb_fS j σ σ') (hi : i ≠ j) (hS : gb_SC σ i s) : gb_SC σ' i s := ⟨fS_RS h hi hS.1, fS_RR h hS.2.1, hS.2.2⟩
theorem keptC_fP {P : Nat → Prop} {σ σ' : gb_M} {k : Option gb_St} (h : gb_fP P σ σ') (h0 : ¬ P 0) (hP : ∀ k, 3 ≤ k → k ≤ 18 → ¬ P k) (hK : keptC σ k) : keptC σ' k := ⟨by rw [h.1 0 0 5 h0]; exact hK.1, fun s hs => SC_fP h hP (hK.2 s hs)⟩
theorem pastC_fP {P : Nat → Prop} {σ σ' : gb_M} {H : List gb_St} (h : gb_fP P σ σ') (h0 : ¬ P 19) (hP : ∀ k, 3 ≤ k → k ≤ 18 → ¬ P k) (hK : pastC σ H) : pastC σ' H := by
  obtain ⟨n, a, b, c, d, e⟩ := hK
  exact ⟨n, a, by rw [h.1 19 0 1 h0]; exact b, by rw [h.1 19 0 2 h0]; exact c, d, fun i hi => SC_fP h hP (e i hi)⟩
theorem textC_fP {P : Nat → Prop} {σ σ' : gb_M} {T : List Int} (h : gb_fP P σ σ') (h1 : ¬ P 1) (h2 : ¬ P 2) (hK : textC σ T) : textC σ' T := ⟨by rw [h.1 1 0 1 h1]; exact hK.1, hK.2.1, fun i hi => by rw [h.1 2 0 i h2]; exact hK.2.2.1 i hi, hK.2.2.2⟩
theorem rowC_fP {P : Nat → Prop} {σ σ' : gb_M} {R : List Int64} (h : gb_fP P σ σ') (h1 : ¬ P 21) (h2 : ¬ P 22) (hK : rowC σ R) : rowC σ' R := ⟨by rw [h.1 21 0 1 h1]; exact hK.1, hK.2.1, fun i hi => by rw [h.2 22 0 i h2]; exact hK.2.2 i hi⟩
theorem keptC_fS {σ σ' : gb_M} {j : Nat} {k : Option gb_St} (h : gb_fS j σ σ') (hj : j ≠ 1) (hK : keptC σ k) : keptC σ' k := ⟨by rw [h.1 0 0 5 (by omega)]; exact hK.1, fun s hs => SC_fS h (fun e => hj e.symm) (hK.2 s hs)⟩
theorem pastC_fS {σ σ' : gb_M} {j : Nat} {H : List gb_St} (h : gb_fS j σ σ') (hj : j < 2 ∨ 9 < j) (hK : pastC σ H) : pastC σ' H := by
  obtain ⟨n, a, b, c, d, e⟩ := hK
  exact ⟨n, a, by rw [h.1 19 0 1 (by omega)]; exact b, by rw [h.1 19 0 2 (by omega)]; exact c, d, fun i hi => SC_fS h (by omega) (e i hi)⟩
/-! THE ROW -/
theorem gd64_1 {h : List Int64} {s d : Int64} {i : Nat} (hi : i < h.length) : (h ++ [s]).getD i d = h.getD i d := by
  simp [List.getD, List.getElem?_append_left hi]
theorem gd64_2 {h : List Int64} {s d : Int64} : (h ++ [s]).getD h.length d = s := by
  simp [List.getD]
theorem sl_s {σ : gb_M} {k j i : Nat} {v : Int64} : (gb_sl σ k j i v).2 k j i = v := by
  simp [gb_sl, vp_updL]
theorem sl_i {σ : gb_M} {k j i i' : Nat} {v : Int64} (h : i' ≠ i) : (gb_sl σ k j i v).2 k j i' = σ.2 k j i' := by
  simp [gb_sl, vp_updL, h]
theorem sl_1 {σ : gb_M} {k j i : Nat} {v : Int64} : (gb_sl σ k j i v).1 = σ.1 := rfl
theorem c_start (σ : gb_M) : ∃ σ', f_X4_start [gR 21 0] σ = some (none, σ') ∧ rowC σ' [] ∧ gb_fP (fun k => k = 21 ∨ k = 22) σ σ' :=
  ⟨gb_si σ 21 0 1 0, by rw [e_X4_start], ⟨si_s, by simp, fun i hi => by cases hi⟩, fP_si fP_rf (Or.inl rfl)⟩
theorem c_add {σ : gb_M} {R : List Int64} (h : rowC σ R) (hl : R.length < 8) (x : Int64) : ∃ σ', f_X4_add [gR 21 0, gL x] σ = some (none, σ') ∧ rowC σ' (R ++ [x]) ∧ gb_fP (fun k => k = 21 ∨ k = 22) σ σ' := by
  obtain ⟨a, b, c⟩ := h
  refine ⟨gb_si (gb_sl σ 22 0 R.length x) 21 0 1 (nZ (R.length + 1 : Nat)), ?_, ⟨?_, by rw [List.length_append]; simp; omega, fun i hi => ?_⟩, fP_si (fP_sl fP_rf (Or.inr rfl)) (Or.inl rfl)⟩
  · rw [e_X4_add]
    simp (disch := omega) only [sl_1, a, z8, z_le, if_neg, g_in, z_tn, Int.toNat_natCast, z1, z_add, Int.natCast_add, Int.natCast_one]
  · rw [si_s, List.length_append]; rfl
  · rw [si_2]
    rw [List.length_append] at hi
    have hi : i < R.length + 1 := hi
    by_cases e : i = R.length
    · subst e; rw [sl_s, gd64_2]
    · rw [sl_i e, gd64_1 (by omega)]; exact c i (by omega)
theorem m_start (σ : gb_M) : rowM (gb_si σ 36 0 9 0) [] := ⟨si_s, by simp, fun i hi => by cases hi⟩
/-- what the reference changes: kinds, and of its own numbers these -/
def gb_fX (Q I : Nat → Prop) (σ σ' : gb_M) : Prop := (∀ k i x, k ≠ 36 → ¬ Q k → σ'.1 k i x = σ.1 k i x ∧ σ'.2 k i x = σ.2 k i x) ∧ ∀ x, ¬ I x → σ'.1 36 0 x = σ.1 36 0 x
theorem fX_rf {Q I : Nat → Prop} {σ : gb_M} : gb_fX Q I σ σ := ⟨fun _ _ _ _ _ => ⟨rfl, rfl⟩, fun _ _ => rfl⟩
theorem fX_tr {Q I : Nat → Prop} {σ σ' σ'' : gb_M} (h : gb_fX Q I σ σ') (h' : gb_fX Q I σ' σ'') : gb_fX Q I σ σ'' := ⟨fun k i x a b => ⟨(h'.1 k i x a b).1.trans (h.1 k i x a b).1, (h'.1 k i x a b).2.trans (h.1 k i x a b).2⟩, fun x a => (h'.2 x a).trans (h.2 x a)⟩
theorem fX_w {Q I Q' I' : Nat → Prop} {σ σ' : gb_M} (h : gb_fX Q I σ σ') (hQ : ∀ k, Q k → Q' k) (hI : ∀ x, I x → I' x) : gb_fX Q' I' σ σ' := ⟨fun k i x a b => h.1 k i x a (fun z => b (hQ k z)), fun x a => h.2 x (fun z => a (hI x z))⟩
theorem fX_si {Q I : Nat → Prop} {σ σ' : gb_M} {k j i : Nat} {v : Int32} (h : gb_fX Q I σ σ') (hk : (k ≠ 36 ∧ Q k) ∨ (k = 36 ∧ I i)) : gb_fX Q I σ (gb_si σ' k j i v) := by
  refine ⟨fun k' i' x a b => ⟨?_, (h.1 k' i' x a b).2⟩, fun x a => ?_⟩
  · rw [← (h.1 k' i' x a b).1]
    simp only [gb_si]
    rw [if_neg (fun e => by rcases hk with z | z; exact b (e.1 ▸ z.2); exact a (e.1.trans z.1))]
  · rw [← h.2 x a]
    by_cases e : 36 = k ∧ 0 = j
    · obtain ⟨e1, e2⟩ := e
      subst e1; subst e2
      by_cases ex : x = i
      · subst ex
        rcases hk with z | z
        · exact absurd rfl z.1
        · exact absurd z.2 a
      · exact si_i ex
    · simp only [gb_si]
      rw [if_neg (fun z => e ⟨z.1, z.2⟩)]
theorem fX_sl {Q I : Nat → Prop} {σ σ' : gb_M} {k j i : Nat} {v : Int64} (h : gb_fX Q I σ σ') (hk : k = 36 ∨ Q k) : gb_fX Q I σ (gb_sl σ' k j i v) := by
  refine ⟨fun k' i' x a b => ⟨(h.1 k' i' x a b).1, ?_⟩, h.2⟩
  rw [← (h.1 k' i' x a b).2]
  simp only [gb_sl]
  rw [if_neg (fun e => by rcases hk with z | z; exact a (e.1.trans z); exact b (e.1 ▸ z))]
theorem fP_fX {P Q I : Nat → Prop} {σ σ' : gb_M} (h : gb_fP P σ σ') (hP : ∀ k, k ≠ 36 → P k → Q k) (h36 : ∀ x, ¬ I x → σ'.1 36 0 x = σ.1 36 0 x) : gb_fX Q I σ σ' := ⟨fun k i x a b => ⟨h.1 k i x (fun z => b (hP k a z)), h.2 k i x (fun z => b (hP k a z))⟩, h36⟩
theorem fP_fX0 {P Q I : Nat → Prop} {σ σ' : gb_M} (h : gb_fP P σ σ') (hP : ∀ k, k ≠ 36 → P k → Q k) (h36 : ¬ P 36) : gb_fX Q I σ σ' := fP_fX h hP (fun x _ => h.1 36 0 x h36)
theorem fX_fP {Q I : Nat → Prop} {σ σ' : gb_M} (h : gb_fX Q I σ σ') (hQ : ∀ k, Q k → 36 ≤ k) : gb_fP (fun k => 36 ≤ k) σ σ' := ⟨fun k i x a => (h.1 k i x (by omega) (fun z => a (hQ k z))).1, fun k i x a => (h.1 k i x (by omega) (fun z => a (hQ k z))).2⟩
theorem MM_fX {Q I : Nat → Prop} {σ σ' : gb_M} {s : gb_St} (h : gb_fX Q I σ σ') (hq : ¬ Q 37) (hM : gb_MM σ s) : gb_MM σ' s := ⟨RM_cg hM.1 hM.2.2.2.2.2.2.1 (fun x _ => (h.1 37 0 _ (by omega) hq).1), hM.2⟩
theorem keptM_fX {Q I : Nat → Prop} {σ σ' : gb_M} {k : Option gb_St} (h : gb_fX Q I σ σ') (hq : ¬ Q 39) (hi : ¬ I 3) (hM : keptM σ k) : keptM σ' k := ⟨by rw [h.2 3 hi]; exact hM.1, fun s hs => ⟨RM_cg (hM.2 s hs).1 (hM.2 s hs).2.2.2.2.2.2.1 (fun x _ => (h.1 39 0 _ (by omega) hq).1), (hM.2 s hs).2⟩⟩
theorem PM_fX {Q I : Nat → Prop} {σ σ' : gb_M} {H : List gb_St} (h : gb_fX Q I σ σ') (hq : ¬ Q 40) (hi : ¬ I 5) (hM : gb_PM σ H) : gb_PM σ' H := ⟨by rw [h.2 5 hi]; exact hM.1, hM.2.1, fun i hi => ⟨RM_cg (hM.2.2 i hi).1 (hM.2.2 i hi).2.2.2.2.2.2.1 (fun x _ => (h.1 40 0 _ (by omega) hq).1), (hM.2.2 i hi).2⟩⟩
theorem textM_fX {Q I : Nat → Prop} {σ σ' : gb_M} {T : List Int} (h : gb_fX Q I σ σ') (hq : ¬ Q 41) (hi : ¬ I 7) (hM : textM σ T) : textM σ' T := ⟨by rw [h.2 7 hi]; exact hM.1, hM.2.1, fun i hi => by rw [(h.1 41 0 i (by omega) hq).1]; exact hM.2.2.1 i hi, hM.2.2.2⟩
theorem rowM_fX {Q I : Nat → Prop} {σ σ' : gb_M} {R : List Int64} (h : gb_fX Q I σ σ') (hq : ¬ Q 42) (hi : ¬ I 9) (hM : rowM σ R) : rowM σ' R := ⟨by rw [h.2 9 hi]; exact hM.1, hM.2.1, fun i hi => by rw [(h.1 42 0 i (by omega) hq).2]; exact hM.2.2 i hi⟩
theorem tell_fX {Q I : Nat → Prop} {σ : gb_M} {n : Nat} {x : Int64} {v : Int32} (hq : Q 42) (hi : I 9) : gb_fX Q I σ (gb_si (gb_sl σ 42 0 n x) 36 0 9 v) := fX_si (fX_sl fX_rf (Or.inr hq)) (Or.inr ⟨rfl, hi⟩)
/-- whatever is read only: thrown is put to 0 -/
theorem MC_t {σ : gb_M} {A : gb_Ab} {v : Int32} (h : MC σ A) : MC (gb_si σ 36 0 10 v) A ∧ gb_fX (fun _ => False) (fun x => x = 10) σ (gb_si σ 36 0 10 v) := by
  have f : gb_fX (fun _ => False) (fun x => x = 10) σ (gb_si σ 36 0 10 v) := fX_si fX_rf (Or.inr ⟨rfl, rfl⟩)
  exact ⟨⟨MM_fX f (fun z => z) h.1, keptM_fX f (fun z => z) (by omega) h.2.1, PM_fX f (fun z => z) (by omega) h.2.2.1, textM_fX f (fun z => z) (by omega) h.2.2.2.1, rowM_fX f (fun z => z) (by omega) h.2.2.2.2⟩, f⟩
/-- what a search or a question may touch: all but the state -/
theorem MC_fX {Q I : Nat → Prop} {σ σ' : gb_M} {A : gb_Ab} (h : gb_fX Q I σ σ') (hq : ¬ Q 37 ∧ ¬ Q 39 ∧ ¬ Q 40 ∧ ¬ Q 41 ∧ ¬ Q 42) (hi : ¬ I 3 ∧ ¬ I 5 ∧ ¬ I 7 ∧ ¬ I 9) (hM : MC σ A) : MC σ' A := ⟨MM_fX h hq.1 hM.1, keptM_fX h hq.2.1 hi.1 hM.2.1, PM_fX h hq.2.2.1 hi.2.1 hM.2.2.1, textM_fX h hq.2.2.2.1 hi.2.2.1 hM.2.2.2.1, rowM_fX h hq.2.2.2.2 hi.2.2.2 hM.2.2.2.2⟩
theorem CC_fP {P : Nat → Prop} {σ σ' : gb_M} {A : gb_Ab} (h : gb_fP P σ σ') (hP : ∀ k, k ≤ 22 → ¬ P k) (hC : CC σ A) : CC σ' A := ⟨SC_fP h (fun k _ _ => hP k (by omega)) hC.1, keptC_fP h (hP 0 (by omega)) (fun k _ _ => hP k (by omega)) hC.2.1, pastC_fP h (hP 19 (by omega)) (fun k _ _ => hP k (by omega)) hC.2.2.1, textC_fP h (hP 1 (by omega)) (hP 2 (by omega)) hC.2.2.2.1, rowC_fP h (hP 21 (by omega)) (hP 22 (by omega)) hC.2.2.2.2⟩
/-- another ROW -/
def setR (A : gb_Ab) (R : List Int64) : gb_Ab := (A.1, A.2.1, A.2.2.1, A.2.2.2.1, R)
theorem CC_row {P : Nat → Prop} {σ σ' : gb_M} {A : gb_Ab} {R : List Int64} (h : gb_fP P σ σ') (hP : ∀ k, k ≤ 20 → ¬ P k) (hC : CC σ A) (hR : rowC σ' R) : CC σ' (setR A R) := ⟨SC_fP h (fun k _ _ => hP k (by omega)) hC.1, keptC_fP h (hP 0 (by omega)) (fun k _ _ => hP k (by omega)) hC.2.1, pastC_fP h (hP 19 (by omega)) (fun k _ _ => hP k (by omega)) hC.2.2.1, textC_fP h (hP 1 (by omega)) (hP 2 (by omega)) hC.2.2.2.1, hR⟩
theorem MC_row {Q I : Nat → Prop} {σ σ' : gb_M} {A : gb_Ab} {R : List Int64} (h : gb_fX Q I σ σ') (hq : ¬ Q 37 ∧ ¬ Q 39 ∧ ¬ Q 40 ∧ ¬ Q 41) (hi : ¬ I 3 ∧ ¬ I 5 ∧ ¬ I 7) (hM : MC σ A) (hR : rowM σ' R) : MC σ' (setR A R) := ⟨MM_fX h hq.1 hM.1, keptM_fX h hq.2.1 hi.1 hM.2.1, PM_fX h hq.2.2.1 hi.2.1 hM.2.2.1, textM_fX h hq.2.2.2 hi.2.2 hM.2.2.2.1, hR⟩
/-! the past of the class -/
theorem md8 {n : Nat} (hn : n < 16) : nZ n - nZ n / 8 * 8 = nZ (n % 8 : Nat) := by
  have : n = 0 ∨ n = 1 ∨ n = 2 ∨ n = 3 ∨ n = 4 ∨ n = 5 ∨ n = 6 ∨ n = 7 ∨ n = 8 ∨ n = 9 ∨ n = 10 ∨ n = 11 ∨ n = 12 ∨ n = 13 ∨ n = 14 ∨ n = 15 := by omega
  rcases this with rfl | rfl | rfl | rfl | rfl | rfl | rfl | rfl | rfl | rfl | rfl | rfl | rfl | rfl | rfl | rfl <;> decide +kernel
theorem p_past {σ : gb_M} {s : gb_St} {H : List gb_St} (hS : gb_SC σ 0 s) (hP : pastC σ H) : ∃ σ', f_X3_add [gR 19 0, gR 10 0] σ = some (none, σ') ∧ pastC σ' (hAdd H s) ∧ gb_SC σ' 0 s ∧ (∀ K, keptC σ K → keptC σ' K) ∧ (∀ T, textC σ T → textC σ' T) ∧ (∀ R, rowC σ R → rowC σ' R) ∧ gb_fP (fun k => 10 ≤ k ∧ k ≤ 19) σ σ' := by
  obtain ⟨n, hn, h1, h2, hl, hh⟩ := hP
  obtain ⟨τ, a1, a2, a3⟩ := p_copy (σ := σ) (j := 2 + n) (j1 := 0) hS (by omega)
  have t1 : τ.1 19 0 1 = nZ n := by rw [a3.1 19 0 1 (by omega)]; exact h1
  have t2 : τ.1 19 0 2 = nZ H.length := by rw [a3.1 19 0 2 (by omega)]; exact h2
  have hm := md8 (n := n + 1) (by omega)
  have f2 : gb_fP (fun k => k = 19) τ (gb_si (gb_si τ 19 0 1 (nZ ((n + 1) % 8 : Nat))) 19 0 2 (nZ (min 8 (H.length + 1) : Nat))) := fP_si (fP_si fP_rf rfl) rfl
  refine ⟨gb_si (gb_si τ 19 0 1 (nZ ((n + 1) % 8 : Nat))) 19 0 2 (nZ (min 8 (H.length + 1) : Nat)), ?_, ⟨(n + 1) % 8, by omega, by simp (disch := omega) only [si_i, si_s], by rw [si_s, hAdd_len hl], by rw [hAdd_len hl]; omega, fun i hi => ?_⟩, SC_fP f2 (fun k a b => by omega) (SC_fS a3 (by omega) hS), fun K hK => keptC_fP f2 (by omega) (fun k a b => by omega) (keptC_fS a3 (by omega) hK), fun T hT => textC_fP f2 (by omega) (by omega) (textC_fP (fS_fP a3) (by omega) (by omega) hT), fun R hR => rowC_fP f2 (by omega) (by omega) (rowC_fP (fS_fP a3) (by omega) (by omega) hR), fP_tr (fP_w (fS_fP a3) (fun k hk => by omega)) (fP_w f2 (fun k hk => by omega))⟩
  · rw [e_X3_add]
    simp (disch := omega) only [h1, g_in, z_tn, Int.toNat_natCast, a1, g_b0, t1, z1, z_add, si_i, t2]
    rw [show ((n : Int) + 1) = ((n + 1 : Nat) : Int) from rfl, hm]
    by_cases e : H.length < 7
    · rw [if_pos (by rw [z8, z_lt ⟨by omega, by omega⟩ ⟨by omega, by omega⟩]; omega), show (min 8 (H.length + 1)) = H.length + 1 by omega]
      rfl
    · rw [if_neg (by rw [z8, z_lt ⟨by omega, by omega⟩ ⟨by omega, by omega⟩]; omega), show (min 8 (H.length + 1)) = 8 by omega]
      rfl
  · rw [hAdd_len hl] at hi ⊢
    refine SC_fP f2 (fun k a b => by omega) ?_
    unfold hAdd
    by_cases e : H.length = 8
    · rw [if_pos e]
      have etl : H.tail.length = 7 := by rw [List.length_tail]; omega
      by_cases e7 : i = 7
      · subst e7
        have := gd_app2 (h := H.tail) (s := s) (d := s0)
        rw [etl] at this
        rw [this, show 2 + ((n + 1) % 8 + 8 - min 8 (H.length + 1) + 7) % 8 = 2 + n by omega]
        exact a2
      · rw [gd_app1 (by omega), gd_tail]
        have := hh (i + 1) (by omega)
        rw [show 2 + (n + 8 - H.length + (i + 1)) % 8 = 2 + ((n + 1) % 8 + 8 - min 8 (H.length + 1) + i) % 8 by omega] at this
        exact SC_fS a3 (by omega) this
    · rw [if_neg e]
      by_cases e7 : i = H.length
      · subst e7
        rw [gd_app2, show 2 + ((n + 1) % 8 + 8 - min 8 (H.length + 1) + H.length) % 8 = 2 + n by omega]
        exact a2
      · rw [gd_app1 (by omega)]
        have := hh i (by omega)
        rw [show 2 + (n + 8 - H.length + i) % 8 = 2 + ((n + 1) % 8 + 8 - min 8 (H.length + 1) + i) % 8 by omega] at this
        exact SC_fS a3 (by omega) this
