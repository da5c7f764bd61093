/-! what the methods are asked; and the first of them -/
theorem nz64 {z : Int} (h : rZ z) : (nZ z).toInt64.toInt = z := by rw [Int32.toInt_toInt64, nZ_ti h]
theorem gd1 {r : gb_R} : gb_gd (decide ((1 : Int32) &&& 1 = 1)) r = r := g_gd (by decide)
theorem gd0 {r : gb_R} : gb_gd (decide ((0 : Int32) &&& 1 = 0)) r = r := g_gd (by decide)
section ARG
variable {σ : gb_M}
theorem cg_t {g : Nat} (h : g < 6) : f_X9_isGrade [gI (nZ g)] σ = some (some (gI 1), σ) := by
  rw [e_X9_isGrade]
  simp (disch := omega) only [z0, z6, z_lt, z_le, if_neg]
theorem cg_f {z : Int} (hz : rZ z) (h : ¬ (0 ≤ z ∧ z < 6)) : f_X9_isGrade [gI (nZ z)] σ = some (some (gI 0), σ) := by
  rw [e_X9_isGrade]
  by_cases h1 : z < 0
  · simp (disch := omega) only [z0, z6, z_lt, z_le, if_pos]
  · simp (disch := omega) only [z0, z6, z_lt, z_le, if_neg, if_pos]
theorem cb_t {g : Nat} (h : g < 6) : f_X9_isBin [gI (nZ g)] σ = some (some (gI 1), σ) := by
  rw [e_X9_isBin]
  simp (disch := omega) only [z0, z6, z_lt, z_le, if_neg]
theorem cb_f {z : Int} (hz : rZ z) (h : ¬ (0 ≤ z ∧ z < 6)) : f_X9_isBin [gI (nZ z)] σ = some (some (gI 0), σ) := by
  rw [e_X9_isBin]
  by_cases h1 : z < 0
  · simp (disch := omega) only [z0, z6, z_lt, z_le, if_pos]
  · simp (disch := omega) only [z0, z6, z_lt, z_le, if_neg, if_pos]
theorem ct_t {z : Int} (h : 1 ≤ z ∧ z ≤ 99) : f_X9_isTons [gI (nZ z)] σ = some (some (gI 1), σ) := by
  rw [e_X9_isTons]
  simp (disch := omega) only [z1, z99, z_lt, z_le, if_neg]
theorem ct_f {z : Int} (hz : rZ z) (h : ¬ (1 ≤ z ∧ z ≤ 99)) : f_X9_isTons [gI (nZ z)] σ = some (some (gI 0), σ) := by
  rw [e_X9_isTons]
  by_cases h1 : z < 1
  · simp (disch := omega) only [z0, z1, z99, z_lt, z_le, if_pos]
  · simp (disch := omega) only [z0, z1, z99, z_lt, z_le, if_neg, if_pos]
end ARG
theorem e10 {α : Type} {a b : α} : (if (1 : Int32) = 0 then a else b) = b := if_neg (by decide)
theorem e00 {α : Type} {a b : α} : (if (0 : Int32) = 0 then a else b) = a := if_pos rfl
/-- refused, or asked only: nothing changes -/
theorem T2_same {fc fm : gb_F} {ac am : List gb_V} {A : gb_Ab} (hA : wfA A) (r : Option gb_V) (hc : ∀ σ, CC σ A → fc ac σ = some (r, σ)) (hm : ∀ σ, MC σ A → fm am σ = some (r, gb_si σ 36 0 10 0)) : gb_T2 fc fm ac am A :=
  ⟨r, A, hA, fun σ hC _ => ⟨σ, hc σ hC, hC, fP_rf⟩, fun σ hM => ⟨_, hm σ hM, (MC_t hM).1, fX_fP (MC_t hM).2 (fun k z => z.elim)⟩⟩
def setS (A : gb_Ab) (s : gb_St) : gb_Ab := (s, A.2.1, hAdd A.2.2.1 A.1, A.2.2.2.1, A.2.2.2.2)
theorem wf_hAdd {A : gb_Ab} (hA : wfA A) : ∀ i, i < (hAdd A.2.2.1 A.1).length → gdS ((hAdd A.2.2.1 A.1).getD i s0) := by
  intro i hi
  have hl := hA.2.2.2
  rw [hAdd_len hl] at hi
  unfold hAdd
  by_cases e : A.2.2.1.length = 8
  · rw [if_pos e]
    have etl : A.2.2.1.tail.length = 7 := by rw [List.length_tail]; omega
    by_cases e7 : i = 7
    · subst e7
      have := gd_app2 (h := A.2.2.1.tail) (s := A.1) (d := s0)
      rw [etl] at this
      rw [this]; exact hA.1
    · rw [gd_app1 (by omega), gd_tail]; exact hA.2.2.1 (i + 1) (by omega)
  · rw [if_neg e]
    by_cases e7 : i = A.2.2.1.length
    · subst e7; rw [gd_app2]; exact hA.1
    · rw [gd_app1 (by omega)]; exact hA.2.2.1 i (by omega)
theorem wf_setS {A : gb_Ab} {s : gb_St} (hA : wfA A) (hs : gdS s) : wfA (setS A s) := ⟨hs, hA.2.1, wf_hAdd hA, by show (hAdd _ _).length ≤ 8; rw [hAdd_len hA.2.2.2]; omega⟩
theorem CC_S {σ σ' : gb_M} {A : gb_Ab} {s : gb_St} (hC : CC σ A) (h : gb_fS 0 σ σ') (hS : gb_SC σ' 0 s) : CC σ' (s, A.2) := ⟨hS, keptC_fS h (by omega) hC.2.1, pastC_fS h (by omega) hC.2.2.1, textC_fP (fS_fP h) (by omega) (by omega) hC.2.2.2.1, rowC_fP (fS_fP h) (by omega) (by omega) hC.2.2.2.2⟩
theorem MC_S {Q I : Nat → Prop} {σ σ' : gb_M} {A : gb_Ab} {s : gb_St} (hM : MC σ A) (h : gb_fX Q I σ σ') (hq : ¬ Q 39 ∧ ¬ Q 40 ∧ ¬ Q 41 ∧ ¬ Q 42) (hi : ¬ I 3 ∧ ¬ I 5 ∧ ¬ I 7 ∧ ¬ I 9) (hS : gb_MM σ' s) : MC σ' (s, A.2) := ⟨hS, keptM_fX h hq.1 hi.1 hM.2.1, PM_fX h hq.2.1 hi.2.1 hM.2.2.1, textM_fX h hq.2.2.1 hi.2.2.1 hM.2.2.2.1, rowM_fX h hq.2.2.2 hi.2.2.2 hM.2.2.2.2⟩
/-- an act begins: all is put by -/
theorem CC_pastx {σ : gb_M} {A : gb_Ab} (hC : CC σ A) : ∃ σ', f_X3_add [gR 19 0, gR 10 0] σ = some (none, σ') ∧ CC σ' (setS A A.1) ∧ gb_fP (fun k => 10 ≤ k ∧ k ≤ 19) σ σ' := by
  obtain ⟨σ', a1, a2, a3, a4, a5, a6, a7⟩ := p_past hC.1 hC.2.2.1
  exact ⟨σ', a1, ⟨a3, a4 _ hC.2.1, a2, a5 _ hC.2.2.2.1, a6 _ hC.2.2.2.2⟩, a7⟩
theorem CC_past {σ : gb_M} {A : gb_Ab} (hC : CC σ A) : ∃ σ', f_X3_add [gR 19 0, gR 10 0] σ = some (none, σ') ∧ CC σ' (setS A A.1) ∧ gb_fP (fun k => k < 36 ∧ k ≠ 31) σ σ' := by
  obtain ⟨σ', a1, a2, a3⟩ := CC_pastx hC
  exact ⟨σ', a1, a2, fP_w a3 (fun k hk => by omega)⟩
theorem RM_1 {f f' : Nat → Int32} {o a : Nat} {s : gb_St} {v : Int} (h : gb_RM f o s) (il : iL s) (ha : a < 60 ∨ a = 174 ∨ a = 175) (h1 : f' (o + a) = nZ v) (h2 : ∀ x, x < 176 → x ≠ a → f' (o + x) = f (o + x)) : gb_RM f' o (fun k => if k = a then v else s.1 k, s.2) := by
  obtain ⟨mW, mK, mO, mC, mP, mN, mL, mY, mQ⟩ := h
  have key : ∀ x, x < 60 ∨ x = 174 ∨ x = 175 → f (o + x) = nZ (s.1 x) → f' (o + x) = nZ (if x = a then v else s.1 x) := by
    intro x hx e
    by_cases ex : x = a
    · subst ex; rw [if_pos rfl]; exact h1
    · rw [if_neg ex, h2 x (by omega) ex]; exact e
  refine ⟨fun g hg => key g (by omega) (mW g hg), fun g hg => ?_, fun g k hg hk => ?_, fun k hk => ?_, fun k hk => ?_, fun k hk => ?_, fun k i hk hi => ?_, key 174 (by omega) mY, key 175 (by omega) mQ⟩
  · have := mK g hg
    rw [show (6 + (g : Int)).toNat = 6 + g by omega] at this ⊢
    exact key _ (by omega) this
  · have := mO g k hg hk
    rw [show (12 + 6 * (g : Int) + (k : Int)).toNat = 12 + (6 * g + k) by omega] at this ⊢
    exact key _ (by omega) this
  · have := mC k hk
    rw [show (48 + (k : Int)).toNat = 48 + k by omega] at this ⊢
    exact key _ (by omega) this
  · have := mP k hk
    rw [show (54 + (k : Int)).toNat = 54 + k by omega] at this ⊢
    exact key _ (by omega) this
  · rw [h2 _ (by omega) (by omega)]; exact mN k hk
  · have hlen := (il k hk).1
    have hi' : i < (sB s k).length := hi
    rw [h2 _ (by omega) (by omega), h2 _ (by omega) (by omega), h2 _ (by omega) (by omega)]
    exact mL k i hk hi
theorem MM_si {σ : gb_M} {s : gb_St} {a : Nat} {v : Int} (hM : gb_MM σ s) (ha : a < 60 ∨ a = 174 ∨ a = 175) (hI : gb_IV (fun k => if k = a then v else s.1 k, s.2)) : gb_MM (gb_si σ 37 0 a (nZ v)) (fun k => if k = a then v else s.1 k, s.2) := ⟨RM_1 hM.1 hM.2.2.2.2.2.2.1 ha (by rw [Nat.zero_add, si_s]) (fun x _ hx => by rw [Nat.zero_add, si_i hx]), hI⟩