/-! THE ACTS, whatever the row holds -/
section VAA
variable {σ : gb_M} {A : gb_Ab}
theorem CR_wf (h : CR σ A) : wfA A := by obtain ⟨R, h⟩ := h; exact h.2.2
theorem v_load (h : CR σ A) {g b : Nat} {y : Int} (hg : g < 6) (h2 : 1 ≤ y ∧ y ≤ 99) (hb : b < 6) (h4 : 0 ≤ sWhy A.1 b g y (sY A.1)) : ∃ σ', f_X9_load [gR 0 0, gI (nZ g), gI (nZ y), gI (nZ b)] σ = some (some (gI (nZ (lT (sB A.1 b) + y))), σ') ∧ CR σ' (setS A (setB A.1 b (lay1 (sB A.1 b) g y (sY A.1)))) := by
  obtain ⟨R, h⟩ := h
  obtain ⟨σ', e, hc⟩ := t_load (A := setR A R) h.2.2 hg h2 hb h4 σ h
  exact ⟨σ', e, R, hc⟩
theorem v_load_no (h : CR σ A) {g b : Nat} {y : Int} (hg : g < 6) (h2 : 1 ≤ y ∧ y ≤ 99) (hb : b < 6) (h4 : ¬ 0 ≤ sWhy A.1 b g y (sY A.1)) : ∃ σ', f_X9_load [gR 0 0, gI (nZ g), gI (nZ y), gI (nZ b)] σ = some (some (gI (nZ (sWhy A.1 b g y (sY A.1)))), σ') ∧ CR σ' A := by
  obtain ⟨R, h⟩ := h
  obtain ⟨σ', e, hc⟩ := t_load_no (A := setR A R) h.2.2 hg h2 hb h4 σ h
  exact ⟨σ', e, R, hc⟩
theorem v_would (h : CR σ A) {g b : Nat} {y : Int} (hg : g < 6) (h2 : 1 ≤ y ∧ y ≤ 99) (hb : b < 6) (h4 : sWhy A.1 b g y (sY A.1) = 0) : ∃ σ', f_X9_would [gR 0 0, gI (nZ g), gI (nZ y), gI (nZ b)] σ = some (some (gI (nZ (gA A.1 b g y))), σ') ∧ CR σ' A := by
  obtain ⟨R, h⟩ := h
  obtain ⟨σ', e, hc⟩ := t_would (A := setR A R) h.2.2 hg h2 hb h4 σ h
  exact ⟨σ', e, _, hc⟩
theorem v_would_no (h : CR σ A) {g b : Nat} {y : Int} (hg : g < 6) (h2 : 1 ≤ y ∧ y ≤ 99) (hb : b < 6) (h4 : ¬ sWhy A.1 b g y (sY A.1) = 0) : ∃ σ', f_X9_would [gR 0 0, gI (nZ g), gI (nZ y), gI (nZ b)] σ = some (some (gI (nZ (-1000000 + sWhy A.1 b g y (sY A.1)))), σ') ∧ CR σ' A := by
  obtain ⟨R, h⟩ := h
  obtain ⟨σ', e, hc⟩ := t_would_no (A := setR A R) h.2.2 hg h2 hb h4 σ h
  exact ⟨σ', e, R, hc⟩
theorem v_draw2 (h : CR σ A) {b : Nat} {t : Int} (hb : b < 6) (h2 : 1 ≤ t ∧ t ≤ 99) (h3 : sY A.1 < sP A.1 b) : ∃ σ', f_X9_draw [gR 0 0, gI (nZ b), gI (nZ t)] σ = some (some (gI (-2)), σ') ∧ CR σ' A := by
  obtain ⟨R, h⟩ := h
  obtain ⟨σ', e, hc⟩ := t_draw2 (A := setR A R) h.2.2 hb h2 h3 σ h
  exact ⟨σ', e, R, hc⟩
theorem v_draw3 (h : CR σ A) {b : Nat} {t : Int} (hb : b < 6) (h2 : 1 ≤ t ∧ t ≤ 99) (h3 : ¬ sY A.1 < sP A.1 b) (h4 : ¬ t ≤ lT (sB A.1 b)) : ∃ σ', f_X9_draw [gR 0 0, gI (nZ b), gI (nZ t)] σ = some (some (gI (-3)), σ') ∧ CR σ' A := by
  obtain ⟨R, h⟩ := h
  obtain ⟨σ', e, hc⟩ := t_draw3 (A := setR A R) h.2.2 hb h2 h3 h4 σ h
  exact ⟨σ', e, R, hc⟩
theorem v_draw (h : CR σ A) {b : Nat} {t : Int} (hb : b < 6) (h2 : 1 ≤ t ∧ t ≤ 99) (h3 : ¬ sY A.1 < sP A.1 b) (h4 : t ≤ lT (sB A.1 b)) : ∃ σ', f_X9_draw [gR 0 0, gI (nZ b), gI (nZ t)] σ = some (some (gI (nZ (t * mnU A.1 (sY A.1) (sB A.1 b) t))), σ') ∧ CA σ' (setR (setS A (dS A.1 b t)) (rowOf 6 (fun g => (nZ (lG (pk (sB A.1 b) t) g)).toInt64))) := by
  obtain ⟨R, h⟩ := h
  exact t_draw (A := setR A R) h.2.2 hb h2 h3 h4 σ h
theorem v_move1 (h : CR σ A) {f : Nat} {n : Int} (hf : f < 6) : ∃ σ', f_X9_move [gR 0 0, gI (nZ f), gI (nZ f), gI (nZ n)] σ = some (some (gI (-1)), σ') ∧ CR σ' A := by
  obtain ⟨R, h⟩ := h
  obtain ⟨σ', e, hc⟩ := t_move1 (A := setR A R) (n := n) h.2.2 hf σ h
  exact ⟨σ', e, R, hc⟩
theorem v_move_no (h : CR σ A) {f t : Nat} {n : Int} (hf : f < 6) (ht : t < 6) (h3 : f ≠ t) (h4 : 1 ≤ n ∧ n ≤ 99) (h5 : ¬ 0 ≤ mvW A.1 f t n) : ∃ σ', f_X9_move [gR 0 0, gI (nZ f), gI (nZ t), gI (nZ n)] σ = some (some (gI (nZ (mvW A.1 f t n))), σ') ∧ CR σ' A := by
  obtain ⟨R, h⟩ := h
  obtain ⟨σ', e, hc⟩ := t_move_no (A := setR A R) h.2.2 hf ht h3 h4 h5 σ h
  exact ⟨σ', e, R, hc⟩
theorem v_move (h : CR σ A) {f t : Nat} {n : Int} (hf : f < 6) (ht : t < 6) (h3 : f ≠ t) (h4 : 1 ≤ n ∧ n ≤ 99) (hm : mvW A.1 f t n = 0) : ∃ σ', f_X9_move [gR 0 0, gI (nZ f), gI (nZ t), gI (nZ n)] σ = some (some (gI (nZ (lT (sB (mvS A.1 f t n) t)))), σ') ∧ CA σ' (setR (setS A (mvS A.1 f t n)) [(nZ (lV A.1 (sY A.1) (sB A.1 f)) + nZ (lV A.1 (sY A.1) (sB A.1 t))).toInt64, (nZ (lV (mvS A.1 f t n) (sY A.1) (sB (mvS A.1 f t n) f)) + nZ (lV (mvS A.1 f t n) (sY A.1) (sB (mvS A.1 f t n) t))).toInt64]) := by
  obtain ⟨R, h⟩ := h
  exact t_move (A := setR A R) h.2.2 hf ht h3 h4 hm σ h
theorem v_days (h : CR σ A) {z : Int} (h1 : 1 ≤ z ∧ z ≤ 99) (h2 : sY A.1 + z ≤ 9999) : ∃ σ', f_X9_days [gR 0 0, gI (nZ z)] σ = some (some (gI (nZ (sY A.1 + z))), σ') ∧ CR σ' (setS A (setY A.1 (sY A.1 + z))) := by
  obtain ⟨R, h⟩ := h
  obtain ⟨σ', e, hc⟩ := t_days (A := setR A R) h.2.2 h1 h2 σ h
  exact ⟨σ', e, R, hc⟩
theorem v_price (h : CR σ A) {g : Nat} {y : Int} (hg : g < 6) (h2 : 0 ≤ y ∧ y ≤ 999) : ∃ σ', f_X9_price [gR 0 0, gI (nZ g), gI (nZ y)] σ = some (some (gI (nZ (sW A.1 g))), σ') ∧ CR σ' (setS A (setW A.1 g y)) := by
  obtain ⟨R, h⟩ := h
  obtain ⟨σ', e, hc⟩ := t_price (A := setR A R) h.2.2 hg h2 σ h
  exact ⟨σ', e, R, hc⟩
theorem v_fumes (h : CR σ A) {b : Nat} {n : Int} (hb : b < 6) (h2 : 1 ≤ n ∧ n ≤ 20) (h3 : ¬ sY A.1 < sP A.1 b) : ∃ σ', f_X9_fumes [gR 0 0, gI (nZ b), gI (nZ n)] σ = some (some (gI (nZ (sY A.1 + n))), σ') ∧ CR σ' (setS A (fmS A.1 b n)) := by
  obtain ⟨R, h⟩ := h
  obtain ⟨σ', e, hc⟩ := t_fumes (A := setR A R) h.2.2 hb h2 h3 σ h
  exact ⟨σ', e, R, hc⟩
theorem v_fumes2 (h : CR σ A) {b : Nat} {n : Int} (hb : b < 6) (h2 : 1 ≤ n ∧ n ≤ 20) (h3 : sY A.1 < sP A.1 b) : ∃ σ', f_X9_fumes [gR 0 0, gI (nZ b), gI (nZ n)] σ = some (some (gI (-2)), σ') ∧ CR σ' A := by
  obtain ⟨R, h⟩ := h
  obtain ⟨σ', e, hc⟩ := t_fumes2 (A := setR A R) h.2.2 hb h2 h3 σ h
  exact ⟨σ', e, R, hc⟩
theorem v_keeps (h : CR σ A) : ∃ σ', f_X9_keeps [gR 0 0] σ = some (some (gI (nZ (sY A.1))), σ') ∧ CR σ' (A.1, some A.1, A.2.2) := by
  obtain ⟨R, h⟩ := h
  obtain ⟨σ', e, hc⟩ := t_keeps (A := setR A R) h.2.2 σ h
  exact ⟨σ', e, R, hc⟩
theorem v_back (h : CR σ A) {s : gb_St} (hk : A.2.1 = some s) : ∃ σ', f_X9_back [gR 0 0] σ = some (some (gI (nZ (sY s))), σ') ∧ CR σ' (setS A s) := by
  obtain ⟨R, h⟩ := h
  obtain ⟨σ', e, hc⟩ := t_back (A := setR A R) h.2.2 hk σ h
  exact ⟨σ', e, R, hc⟩
theorem v_undo (h : CR σ A) {s : gb_St} (h0 : A.2.2.1.length ≠ 0) (hs : A.2.2.1.getD (A.2.2.1.length - 1) s0 = s) : ∃ σ', f_X9_undo [gR 0 0] σ = some (some (gI (nZ (A.2.2.1.length - 1 : Nat))), σ') ∧ CR σ' (s, A.2.1, A.2.2.1.dropLast, A.2.2.2) := by
  obtain ⟨R, h⟩ := h
  obtain ⟨σ', e, hc⟩ := t_undo (A := setR A R) h.2.2 h0 hs σ h
  exact ⟨σ', e, R, hc⟩
end VAA
/-! numbers at branches -/
theorem zn_lt {a b : Int} (ha : rZ a) (hb : rZ b) (h : ¬ a < b) : ¬ nZ a < nZ b := by rw [z_lt ha hb]; exact h
theorem zy_lt {a b : Int} (ha : rZ a) (hb : rZ b) (h : a < b) : nZ a < nZ b := by rw [z_lt ha hb]; exact h
theorem zn_le {a b : Int} (ha : rZ a) (hb : rZ b) (h : ¬ a ≤ b) : ¬ nZ a ≤ nZ b := by rw [z_le ha hb]; exact h
theorem zy_le {a b : Int} (ha : rZ a) (hb : rZ b) (h : a ≤ b) : nZ a ≤ nZ b := by rw [z_le ha hb]; exact h
theorem zn_eq {a b : Int} (ha : rZ a) (hb : rZ b) (h : ¬ a = b) : ¬ nZ a = nZ b := by rw [z_eq ha hb]; exact h
theorem zr {a : Int} (h1 : -2147483648 ≤ a) (h2 : a ≤ 2147483647) : rZ a := ⟨h1, by omega⟩
/-- what an act of the loop leaves -/
def jEnd (k : Nat) (A A' : gb_Ab) (d : Int32) : Prop := (d = 0 ∧ A' = A) ∨ (d = 1 ∧ ∃ s, A' = setS A s ∧ okX s ∧ sY s ≤ 16 * ((k + 1 : Nat) : Int))
theorem jT_r {A : gb_Ab} (h : wfA A) (_ : okX A.1) {j : Nat} (hj : j < 6) : 0 ≤ lT (sB A.1 j) ∧ lT (sB A.1 j) ≤ 99 := ⟨lT_nn (h.1.1.2.2.2.2.2.1 j hj).2.2, (h.1.1.2.2.2.2.2.1 j hj).2.1⟩
theorem jY_r {A : gb_Ab} (h : wfA A) : 0 ≤ sY A.1 ∧ sY A.1 ≤ 9999 := ⟨h.1.1.2.2.2.2.2.2.1, h.1.1.2.2.2.2.2.2.2.1⟩
theorem v_then {σ : gb_M} {A : gb_Ab} (h : CR σ A) {d : Int} (h1 : 0 ≤ d ∧ d ≤ 999) : ∃ σ', f_X9_then [gR 0 0, gI (nZ d)] σ = some (some (gI (nZ (lA A.1 (sY A.1 + d)))), σ') ∧ CR σ' A := by
  obtain ⟨σ', e, hc⟩ := u_then h h1
  exact ⟨σ', e, _, hc⟩
theorem jrem1000 {a : Nat} (h : a < 1024) : nI a - nI a / 1000 * 1000 = nZ ((a % 1000 : Nat) : Int) := (show nI a - nI a / nI 1000 * nI 1000 = _ from (pk_rem (by omega) (by omega) (by omega)).trans (nIZ _))
theorem jcmp {x y : Int64} (h : x = y) : lg_cmp x y = 0 := by
  subst h
  unfold lg_cmp
  simp
theorem cr_bin1 {σ : gb_M} {A : gb_Ab} (h : CA σ A) {b : Nat} (hb : b < 6) : ∃ σ', f_X9_bin [gR 0 0, gI (nZ b), gI 1] σ = some (some (gI (nZ (lT (sB A.1 b)))), σ') ∧ CA σ' A := t_bin1 h.2.2 hb σ h
theorem cr_count1 {σ : gb_M} {A : gb_Ab} (h : CA σ A) : ∃ σ', f_X9_count [gR 0 0, gI 1] σ = some (some (gI (nZ (sm 6 (fun b => lT (sB A.1 b))))), σ') ∧ CA σ' A := t_count1 h.2.2 σ h
theorem jYY {s : gb_St} {v : Int} : sY (setY s v) = v := by unfold sY setY; simp
theorem jYW {s : gb_St} {g : Nat} {v : Int} (h : g < 6) : sY (setW s g v) = sY s := by unfold sY setW; exact if_neg (by omega)
