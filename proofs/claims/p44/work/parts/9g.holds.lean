/-! HOLDS: what the law says of each state -/
def okX (s : gb_St) : Prop := ∀ b, b < 6 → lT (sB s b) ≤ sC s b ∧ ∀ i k, i < (sB s b).length → k < (sB s b).length → 0 ≤ sO s (lz (sB s b) i).1 (lz (sB s b) k).1
def CR (σ : gb_M) (A : gb_Ab) : Prop := ∃ R, CA σ (setR A R)
theorem CR_of {σ : gb_M} {A : gb_Ab} {R : List Int64} (h : CA σ (setR A R)) : CR σ A := ⟨R, h⟩
theorem CR_0 {σ : gb_M} {A : gb_Ab} (h : CA σ A) : CR σ A := ⟨A.2.2.2.2, h⟩
section HO
variable {σ : gb_M} {A : gb_Ab}
theorem u_bin0 (h : CR σ A) {b : Nat} (hb : b < 6) : ∃ σ', f_X9_bin [gR 0 0, gI (nZ b), gI 0] σ = some (some (gI (nZ (sC A.1 b))), σ') ∧ CR σ' A := by
  obtain ⟨R, h⟩ := h
  obtain ⟨σ', a, b⟩ := t_bin0 h.2.2 hb σ h
  exact ⟨σ', a, R, b⟩
theorem u_bin1 (h : CR σ A) {b : Nat} (hb : b < 6) : ∃ σ', f_X9_bin [gR 0 0, gI (nZ b), gI 1] σ = some (some (gI (nZ (lT (sB A.1 b)))), σ') ∧ CR σ' A := by
  obtain ⟨R, h⟩ := h
  obtain ⟨σ', a, b⟩ := t_bin1 h.2.2 hb σ h
  exact ⟨σ', a, R, b⟩
theorem u_bin2 (h : CR σ A) {b : Nat} (hb : b < 6) : ∃ σ', f_X9_bin [gR 0 0, gI (nZ b), gI 2] σ = some (some (gI (nZ (sB A.1 b).length)), σ') ∧ CR σ' A := by
  obtain ⟨R, h⟩ := h
  obtain ⟨σ', a, b⟩ := t_bin2 h.2.2 hb σ h
  exact ⟨σ', a, R, b⟩
theorem u_bin4 (h : CR σ A) {b : Nat} (hb : b < 6) : ∃ σ', f_X9_bin [gR 0 0, gI (nZ b), gI 4] σ = some (some (gI (bm 6 (fun g => decide (0 < lG (sB A.1 b) g)))), σ') ∧ CR σ' A := by
  obtain ⟨R, h⟩ := h
  obtain ⟨σ', a, b⟩ := t_bin4 h.2.2 hb σ h
  exact ⟨σ', a, R, b⟩
theorem u_layer0 (h : CR σ A) {b i : Nat} (hb : b < 6) (hi : i < (sB A.1 b).length) : ∃ σ', f_X9_layer [gR 0 0, gI (nZ b), gI (nZ i), gI 0] σ = some (some (gI (nZ (lz (sB A.1 b) i).1)), σ') ∧ CR σ' A := by
  obtain ⟨R, h⟩ := h
  obtain ⟨σ', a, b⟩ := t_layer0 h.2.2 hb hi σ h
  exact ⟨σ', a, R, b⟩
theorem u_layer1 (h : CR σ A) {b i : Nat} (hb : b < 6) (hi : i < (sB A.1 b).length) : ∃ σ', f_X9_layer [gR 0 0, gI (nZ b), gI (nZ i), gI 1] σ = some (some (gI (nZ (lz (sB A.1 b) i).2.1)), σ') ∧ CR σ' A := by
  obtain ⟨R, h⟩ := h
  obtain ⟨σ', a, b⟩ := t_layer1 h.2.2 hb hi σ h
  exact ⟨σ', a, R, b⟩
theorem u_layer2 (h : CR σ A) {b i : Nat} (hb : b < 6) (hi : i < (sB A.1 b).length) : ∃ σ', f_X9_layer [gR 0 0, gI (nZ b), gI (nZ i), gI 2] σ = some (some (gI (nZ (lz (sB A.1 b) i).2.2)), σ') ∧ CR σ' A := by
  obtain ⟨R, h⟩ := h
  obtain ⟨σ', a, b⟩ := t_layer2 h.2.2 hb hi σ h
  exact ⟨σ', a, R, b⟩
theorem u_layer3 (h : CR σ A) {b i : Nat} (hb : b < 6) (hi : i < (sB A.1 b).length) : ∃ σ', f_X9_layer [gR 0 0, gI (nZ b), gI (nZ i), gI 3] σ = some (some (gI (nZ (sU A.1 (sY A.1) (lz (sB A.1 b) i)))), σ') ∧ CR σ' A := by
  obtain ⟨R, h⟩ := h
  obtain ⟨σ', a, b⟩ := t_layer3 h.2.2 hb hi σ h
  exact ⟨σ', a, R, b⟩
theorem u_grade0 (h : CR σ A) {g : Nat} (hg : g < 6) : ∃ σ', f_X9_grade [gR 0 0, gI (nZ g), gI 0] σ = some (some (gI (nZ (sW A.1 g))), σ') ∧ CR σ' A := by
  obtain ⟨R, h⟩ := h
  obtain ⟨σ', a, b⟩ := t_grade0 h.2.2 hg σ h
  exact ⟨σ', a, R, b⟩
theorem u_pair (h : CR σ A) {g k : Nat} (hg : g < 6) (hk : k < 6) (h0 : 0 ≤ sO A.1 g k) : ∃ σ', f_X9_pair [gR 0 0, gI (nZ g), gI (nZ k)] σ = some (some (gI (nZ (sO A.1 g k))), σ') ∧ CR σ' A := by
  obtain ⟨R, h⟩ := h
  obtain ⟨σ', a, b⟩ := t_pair h.2.2 hg hk σ h
  have e : (if 0 ≤ sO (setR A R).1 g k then sO (setR A R).1 g k else -2) = sO A.1 g k := if_pos h0
  rw [e] at a
  exact ⟨σ', a, R, b⟩
theorem u_count1 (h : CR σ A) : ∃ σ', f_X9_count [gR 0 0, gI 1] σ = some (some (gI (nZ (sm 6 (fun b => lT (sB A.1 b))))), σ') ∧ CR σ' A := by
  obtain ⟨R, h⟩ := h
  obtain ⟨σ', a, b⟩ := t_count1 h.2.2 σ h
  exact ⟨σ', a, R, b⟩
theorem u_count2 (h : CR σ A) : ∃ σ', f_X9_count [gR 0 0, gI 2] σ = some (some (gI (nZ (sm 6 (fun b => ((sB A.1 b).length : Int))))), σ') ∧ CR σ' A := by
  obtain ⟨R, h⟩ := h
  obtain ⟨σ', a, b⟩ := t_count2 h.2.2 σ h
  exact ⟨σ', a, R, b⟩
theorem u_count0 (h : CR σ A) : ∃ σ', f_X9_count [gR 0 0, gI 0] σ = some (some (gI (nZ (sY A.1))), σ') ∧ CR σ' A := by
  obtain ⟨R, h⟩ := h
  obtain ⟨σ', a, b⟩ := t_count0 h.2.2 σ h
  exact ⟨σ', a, R, b⟩
theorem u_count5 (h : CR σ A) : ∃ σ', f_X9_count [gR 0 0, gI 5] σ = some (some (gI (nZ A.2.2.1.length)), σ') ∧ CR σ' A := by
  obtain ⟨R, h⟩ := h
  obtain ⟨σ', a, b⟩ := t_count5 h.2.2 σ h
  exact ⟨σ', a, R, b⟩
theorem u_bin3 (h : CR σ A) {b : Nat} (hb : b < 6) : ∃ σ', f_X9_bin [gR 0 0, gI (nZ b), gI 3] σ = some (some (gI (nZ (max 0 (sP A.1 b - sY A.1)))), σ') ∧ CR σ' A := by
  obtain ⟨R, h⟩ := h
  obtain ⟨σ', a, b⟩ := t_bin3 h.2.2 hb σ h
  exact ⟨σ', a, R, b⟩
theorem u_worst (h : CR σ A) : ∃ σ', f_X9_worst [gR 0 0] σ = some (some (gI (nZ (wsI A.1).2.1)), σ') ∧ CR σ' A := by
  obtain ⟨R, h⟩ := h
  obtain ⟨R', t⟩ := t_worst h.2.2
  obtain ⟨σ', a, b⟩ := t σ h
  exact ⟨σ', a, R', b⟩
theorem u_mixed (h : CR σ A) {g : Nat} (hg : g < 6) : ∃ σ', f_X9_mixed [gR 0 0, gI (nZ g)] σ = some (some (gI (nZ (sm 6 (mxH A.1 g)))), σ') ∧ CR σ' A := by
  obtain ⟨R, h⟩ := h
  obtain ⟨σ', a, b⟩ := t_mixed h.2.2 hg σ h
  exact ⟨σ', a, _, b⟩
theorem u_all (h : CR σ A) : ∃ σ', f_X9_all [gR 0 0] σ = some (some (gI (nZ (lA A.1 (sY A.1)))), σ') ∧ CR σ' A := by
  obtain ⟨R, h⟩ := h
  obtain ⟨σ', a, b⟩ := t_all h.2.2 σ h
  exact ⟨σ', a, _, b⟩
theorem u_value (h : CR σ A) {b : Nat} (hb : b < 6) : ∃ σ', f_X9_value [gR 0 0, gI (nZ b)] σ = some (some (gI (nZ (lV A.1 (sY A.1) (sB A.1 b)))), σ') ∧ CA σ' (setR A [(nZ (lR A.1 (sY A.1) (sB A.1 b))).toInt64, (nZ (lX A.1 (sB A.1 b))).toInt64, (nZ (lF A.1 (sB A.1 b))).toInt64]) := by
  obtain ⟨R, h⟩ := h
  exact t_value h.2.2 hb σ h
theorem u_bottom2 (h : CR σ A) {b : Nat} (hb : b < 6) (h2 : (sB A.1 b).length = 0) : ∃ σ', f_X9_bottom [gR 0 0, gI (nZ b)] σ = some (some (gI (-2)), σ') ∧ CR σ' A := by
  obtain ⟨R, h⟩ := h
  obtain ⟨σ', a, b⟩ := t_bottom2 h.2.2 hb h2 σ h
  exact ⟨σ', a, R, b⟩
theorem u_bottom (h : CR σ A) {b : Nat} (hb : b < 6) (h0 : 0 < (sB A.1 b).length) : ∃ σ', f_X9_bottom [gR 0 0, gI (nZ b)] σ = some (some (gI (nZ (lz (sB A.1 b) 0).1)), σ') ∧ CA σ' (setR A [(nZ (rn (sB A.1 b) (lz (sB A.1 b) 0).1)).toInt64, (nZ (hl (sB A.1 b) (lz (sB A.1 b) 0).1)).toInt64]) := by
  obtain ⟨R, h⟩ := h
  exact t_bottom h.2.2 hb h0 σ h
theorem u_then (h : CR σ A) {d : Int} (h1 : 0 ≤ d ∧ d ≤ 999) : ∃ σ', f_X9_then [gR 0 0, gI (nZ d)] σ = some (some (gI (nZ (lA A.1 (sY A.1 + d)))), σ') ∧ CA σ' (setR A [(nZ (lA A.1 (sY A.1) - lA A.1 (sY A.1 + d))).toInt64, (spA A.1 (sY A.1 + d)).toInt64]) := by
  obtain ⟨R, h⟩ := h
  exact t_then h.2.2 h1 σ h
theorem u_row {R : List Int64} (h : CA σ (setR A R)) {i : Nat} (hi : i < R.length) : ∃ σ', f_X9_row [gR 0 0, gI (nZ i)] σ = some (some (gL (R.getD i 0)), σ') ∧ CA σ' (setR A R) := t_row (A := setR A R) hi σ h
end HO
theorem z64_sub {a b : Int} (ha : rZ a) (hb : rZ b) (hc : rZ (a - b)) : (nZ a).toInt64 - (nZ b).toInt64 = (nZ (a - b)).toInt64 := by
  rw [← Int64.toInt_inj, Int64.toInt_sub, nz64 ha, nz64 hb, nz64 hc, Int.bmod_def]
  omega
theorem z64_lt {a b : Int} (ha : rZ a) (hb : rZ b) : ((nZ a).toInt64 < (nZ b).toInt64) = (a < b) := by rw [Int64.lt_iff_toInt_lt, nz64 ha, nz64 hb]
theorem z64_le {a b : Int} (ha : rZ a) (hb : rZ b) : ((nZ a).toInt64 ≤ (nZ b).toInt64) = (a ≤ b) := by rw [Int64.le_iff_toInt_le, nz64 ha, nz64 hb]
theorem z64_32 (a : Int32) : a.toInt64.toInt32 = a := Int32.toInt32_toInt64 a
theorem g_b1e {f : gb_R} {x : Int32} {σ : gb_M} {k : Int32 → gb_M → gb_R} (h : f = some (some (gI x), σ)) : gb_b1 f k = k x σ := by rw [h]; rfl
theorem g_b3e {f : gb_R} {x : Int64} {σ : gb_M} {k : Int64 → gb_M → gb_R} (h : f = some (some (gL x), σ)) : gb_b3 f k = k x σ := by rw [h]; rfl
/-- no layer is worth more than it was at first -/
theorem sU_le {s : gb_St} {on : Int} {l : gb_Ly} (hw : iW s) (hl : l.1 < 6) : sU s on l ≤ sW s l.1 := by
  have := hw l.1 hl
  unfold sU
  omega
theorem lR_lF {s : gb_St} {on : Int} (hw : iW s) : ∀ {L : List gb_Ly}, (∀ l ∈ L, okL l) → lR s on L ≤ lF s L := fun h => sL_le (fun l hl => Int.mul_le_mul_of_nonneg_left (sU_le hw (h l hl).1) (by have := (h l hl).2.1; omega))
theorem lF_r {s : gb_St} (hw : iW s) {L : List gb_Ly} (h : ∀ l ∈ L, okL l) (hT : lT L ≤ 99) : 0 ≤ lF s L ∧ lF s L ≤ 98901 := by
  obtain ⟨h1, h2⟩ := sL_bd (L := L) (f := fun l => l.2.1 * sW s l.1) (c := 999) (fun l hl => by
    have hh := hw l.1 (h l hl).1
    have ht := (h l hl).2.1
    exact ⟨Int.mul_nonneg (by omega) hh.1, Int.mul_le_mul_of_nonneg_left hh.2 (by omega)⟩) (by omega)
  unfold lF
  omega
theorem lT_pos {L : List gb_Ly} (h : ∀ l ∈ L, okL l) (h0 : 0 < L.length) : 0 < lT L := by
  cases L with
  | nil => cases h0
  | cons l t =>
    have h1 := h l List.mem_cons_self
    have h2 := lT_nn (L := t) (fun x hx => h x (List.mem_cons_of_mem _ hx))
    show 0 < l.2.1 + lT t
    have := h1.2.1
    omega
theorem lg_bits {L : List gb_Ly} (hok : ∀ l ∈ L, okL l) {i : Nat} (hi : i < L.length) : bm 6 (fun g => decide (0 < lG (L.take i) g)) ||| ((1 : Int32) <<< (nZ (lz L i).1 &&& 31)) = bm 6 (fun g => decide (0 < lG (L.take (i + 1)) g)) := by
  have okt : ∀ i, ∀ l ∈ L.take i, okL l := fun i l hl => hok l (List.mem_of_mem_take hl)
  have l1 := (hok _ (lz_mem hi)).1
  rw [z1, bm_or _ l1]
  refine bm_cg (fun g hg => ?_)
  rw [Bool.eq_iff_iff]
  simp only [Bool.or_eq_true, decide_eq_true_eq]
  rw [lG_pos (okt (i + 1)), lG_pos (okt i), lz_take hi]
  simp only [List.mem_append, List.mem_singleton]
  constructor
  · rintro (⟨l, hl, e⟩ | e)
    · exact ⟨l, Or.inl hl, e⟩
    · exact ⟨_, Or.inr rfl, e.symm⟩
  · rintro ⟨l, hl | hl, e⟩
    · exact Or.inl ⟨l, hl, e⟩
    · subst hl; exact Or.inr e.symm
theorem rn_ge {L : List gb_Ly} (hok : ∀ l ∈ L, okL l) (h0 : 0 < L.length) : (lz L 0).2.1 ≤ rn L (lz L 0).1 := by
  cases L with
  | nil => cases h0
  | cons l t =>
    have h2 := rn_nn (L := t) (g := l.1) (fun x hx => hok x (List.mem_cons_of_mem _ hx))
    rw [lz_0, rn_c, if_pos rfl]
    omega
