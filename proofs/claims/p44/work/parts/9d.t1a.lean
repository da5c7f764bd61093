/-! T1: what each method of the class answers and leaves, of a state told in the abstract -/
def CA (σ : gb_M) (A : gb_Ab) : Prop := CC σ A ∧ goneC σ ∧ wfA A
def gb_T1 (fc : gb_F) (ac : List gb_V) (A : gb_Ab) (r : Option gb_V) (A' : gb_Ab) : Prop := ∀ σ, CA σ A → ∃ σ', fc ac σ = some (r, σ') ∧ CA σ' A'
theorem gone_f {P : Nat → Prop} {σ σ' : gb_M} (f : gb_fP P σ σ') (h : ¬ P 31) (hg : goneC σ) : goneC σ' := fun b hb => by rw [f.1 31 0 b h]; exact hg b hb
theorem T1_of {fc : gb_F} {ac : List gb_V} {A A' : gb_Ab} {r : Option gb_V} (hA' : wfA A → wfA A') (h : ∀ σ, CC σ A → goneC σ → ∃ σ', fc ac σ = some (r, σ') ∧ CC σ' A' ∧ gb_fP (fun k => k < 36 ∧ k ≠ 31) σ σ') : gb_T1 fc ac A r A' := fun σ ⟨h1, h2, h3⟩ => by
  obtain ⟨σ', a, b, c⟩ := h σ h1 h2
  exact ⟨σ', a, b, gone_f c (by omega) h2, hA' h3⟩
theorem T1_same {fc : gb_F} {ac : List gb_V} {A : gb_Ab} (r : Option gb_V) (h : ∀ σ, CC σ A → fc ac σ = some (r, σ)) : gb_T1 fc ac A r A := fun σ hC => ⟨σ, h σ hC.1, hC⟩
theorem T1_K {fc : gb_F} {ac : List gb_V} {A A' : gb_Ab} {r : Option gb_V} (hA' : wfA A → wfA A') (h : ∀ σ, KC σ σ A → goneC σ → ∃ σ', fc ac σ = some (r, σ') ∧ KC σ σ' A') : gb_T1 fc ac A r A' := T1_of hA' (fun σ h1 h2 => h σ ⟨h1, fP_rf⟩ h2)
section T1A
variable {A : gb_Ab}
theorem t_days (hA : wfA A) {z : Int} (h1 : 1 ≤ z ∧ z ≤ 99) (h2 : sY A.1 + z ≤ 9999) : gb_T1 f_X9_days [gR 0 0, gI (nZ z)] A (some (gI (nZ (sY A.1 + z)))) (setS A (setY A.1 (sY A.1 + z))) := by
  have hI := hA.1.1
  obtain ⟨y1, y2, q1, q2⟩ := hI.2.2.2.2.2.2
  refine T1_of (fun _ => wf_setS hA ⟨IV_Y hI (by omega), hA.1.2⟩) (fun σ hC _ => ?_)
  obtain ⟨τ, a1, a2, a3⟩ := CC_past hC
  have cY := hC.1.1.2.2.2.2.2.2.1
  have cY' := a2.1.1.2.2.2.2.2.2.1
  have f : gb_fS 0 τ (gb_si τ 10 0 9 (nZ (sY A.1 + z))) := fS_si fS_rf (by omega)
  refine ⟨gb_si τ 10 0 9 (nZ (sY A.1 + z)), ?_, CC_S a2 f ⟨RS_Y a2.1.1, RR_eq (s := A.1) (fS_RR f a2.1.2.1) (fun k _ _ => if_neg (by omega)), IV_Y hI (by omega)⟩, fP_tr a3 (fP_w (fS_fP f) (fun k hk => by omega))⟩
  rw [e_X9_days]
  have cY'' : τ.1 10 0 9 = nZ (sY A.1) := cY'
  simp (disch := omega) only [z1, z99, show (9999 : Int32) = nZ 9999 from rfl, z_lt, z_le, if_neg, cY, z_add, if_pos, a1, g_b0, cY'', si_s]
theorem t_price (hA : wfA A) {g : Nat} {y : Int} (hg : g < 6) (h2 : 0 ≤ y ∧ y ≤ 999) : gb_T1 f_X9_price [gR 0 0, gI (nZ g), gI (nZ y)] A (some (gI (nZ (sW A.1 g)))) (setS A (setW A.1 g y)) := by
  have hI := hA.1.1
  refine T1_of (fun _ => wf_setS hA ⟨IV_W hI hg h2, hA.1.2⟩) (fun σ hC _ => ?_)
  obtain ⟨τ, a1, a2, a3⟩ := CC_past hC
  have cW : τ.1 11 0 g = nZ (sW A.1 g) := a2.1.1.1 g hg
  have f : gb_fS 0 τ (gb_si τ 11 0 g (nZ y)) := fS_si fS_rf (by omega)
  refine ⟨gb_si τ 11 0 g (nZ y), ?_, CC_S a2 f ⟨RS_W hg a2.1.1, RR_eq (s := A.1) (fS_RR f a2.1.2.1) (fun k _ _ => if_neg (by omega)), IV_W hI hg h2⟩, fP_tr a3 (fP_w (fS_fP f) (fun k hk => by omega))⟩
  rw [e_X9_price, cg_t hg]
  simp (disch := omega) only [g_b1, e10, z0, z999, z_lt, z_le, if_neg, if_pos, a1, g_b0, g_in, z_tn, Int.toNat_natCast, cW, z1, z_eq]
theorem t_load (hA : wfA A) {g b : Nat} {y : Int} (hg : g < 6) (h2 : 1 ≤ y ∧ y ≤ 99) (hb : b < 6) (h4 : 0 ≤ sWhy A.1 b g y (sY A.1)) : gb_T1 f_X9_load [gR 0 0, gI (nZ g), gI (nZ y), gI (nZ b)] A (some (gI (nZ (lT (sB A.1 b) + y)))) (setS A (setB A.1 b (lay1 (sB A.1 b) g y (sY A.1)))) := by
  have hI := hA.1.1
  obtain ⟨y1, y2, q1, q2⟩ := hI.2.2.2.2.2.2
  have hr := sWhy_r (s := A.1) (b := b) (g := g) (t := y) (d := sY A.1)
  have hW : ∀ σ, CC σ A → f_X7_why [gR 10 0, gI (nZ b), gI (nZ g), gI (nZ y), gI (nZ (sY A.1))] σ = some (some (gI (nZ (sWhy A.1 b g y (sY A.1)))), σ) := fun σ hC => p_why hC.1 hb hg (by omega) (by omega)
  obtain ⟨w0, w1, w2, w3⟩ := sWhy_0 h4
  have hroom := sWhy_lay hI hb h4
  have hc := hI.2.2.2.1 b hb
  have hT : lT (sB A.1 b) + y ≤ 99 := by omega
  have hlen := (hI.2.2.2.2.2.1 b hb).1
  have hIV : gb_IV (setB A.1 b (lay1 (sB A.1 b) g y (sY A.1))) := IV_set hI (by rw [lay1_len]; rcases hroom with h | h; rw [if_pos h]; exact hlen; split <;> omega) (by rw [lT_lay]; exact hT) (ok_lay (hI.2.2.2.2.2.1 b hb).2.2 hT hg (by omega) (by omega))
  refine T1_of (fun _ => wf_setS hA ⟨hIV, gd_setB hA.1.2 (adj_lay (hA.1.2 b hb))⟩) (fun σ hC _ => ?_)
  obtain ⟨τ, a1, a2, a3⟩ := CC_past hC
  obtain ⟨τ', b1, b2, b3, -⟩ := p_lay a2.1 hb (g := g) (t := y) (d := sY A.1) hg (by omega) hT (by omega) hroom
  have cY := hC.1.1.2.2.2.2.2.2.1
  have cY' : τ.1 10 0 9 = nZ (sY A.1) := a2.1.1.2.2.2.2.2.2.1
  have cT := b2.1.2.2.2.1 b hb
  rw [sB_s, lT_lay] at cT
  refine ⟨τ', ?_, CC_S a2 b3 b2, fP_tr a3 (fP_w (fS_fP b3) (fun k hk => by omega))⟩
  have cT' : τ'.1 14 0 b = nZ (lT (sB A.1 b) + y) := cT
  rw [e_X9_load, cg_t hg, g_b1, e10, ct_t h2, g_b1, e10, cb_t hb, g_b1, e10, cY, hW σ hC, g_b1, w0]
  have h00 : (0 : Int32) ≤ nZ 0 := by decide
  rw [if_pos h00, a1, g_b0, cY', b1, g_b0]
  simp (disch := omega) only [g_in, z_tn, Int.toNat_natCast, cT']
theorem t_load_no (hA : wfA A) {g b : Nat} {y : Int} (hg : g < 6) (h2 : 1 ≤ y ∧ y ≤ 99) (hb : b < 6) (h4 : ¬ 0 ≤ sWhy A.1 b g y (sY A.1)) : gb_T1 f_X9_load [gR 0 0, gI (nZ g), gI (nZ y), gI (nZ b)] A (some (gI (nZ (sWhy A.1 b g y (sY A.1))))) A := by
  have hI := hA.1.1
  obtain ⟨y1, y2, q1, q2⟩ := hI.2.2.2.2.2.2
  have hr := sWhy_r (s := A.1) (b := b) (g := g) (t := y) (d := sY A.1)
  refine T1_same _ (fun σ hC => ?_)
  have cY := hC.1.1.2.2.2.2.2.2.1
  rw [e_X9_load, cg_t hg, g_b1, e10, ct_t h2, g_b1, e10, cb_t hb, g_b1, e10, cY, p_why hC.1 hb hg (by omega) (by omega), g_b1, if_neg (by rw [z0, z_le ⟨by omega, by omega⟩ ⟨by omega, by omega⟩]; exact h4)]
theorem t_draw2 (hA : wfA A) {b : Nat} {t : Int} (hb : b < 6) (h2 : 1 ≤ t ∧ t ≤ 99) (h3 : sY A.1 < sP A.1 b) : gb_T1 f_X9_draw [gR 0 0, gI (nZ b), gI (nZ t)] A (some (gI (-2))) A :=
  T1_same _ (fun σ hC => by rw [e_X9_draw, cb_t hb, g_b1, e10, ct_t h2, g_b1, e10, p_closed_t hC.1 hb h3, g_b1, e10])
theorem t_draw3 (hA : wfA A) {b : Nat} {t : Int} (hb : b < 6) (h2 : 1 ≤ t ∧ t ≤ 99) (h3 : ¬ sY A.1 < sP A.1 b) (h4 : ¬ t ≤ lT (sB A.1 b)) : gb_T1 f_X9_draw [gR 0 0, gI (nZ b), gI (nZ t)] A (some (gI (-3))) A := by
  have hTr := lG_r hA.1.1.2.2.2.2.2.1 hb 0
  refine T1_same _ (fun σ hC => ?_)
  have cT := hC.1.1.2.2.2.1 b hb
  rw [e_X9_draw, cb_t hb, g_b1, e10, ct_t h2, g_b1, e10, p_closed_f hC.1 hb h3, g_b1, e00]
  simp (disch := omega) only [g_in, z_tn, Int.toNat_natCast, cT, z_le, if_neg]
def dS (s : gb_St) (b : Nat) (t : Int) : gb_St := setQ (setB s b (tk (sB s b) t)) (min 2000000000 (sQ s + t * mnU s (sY s) (sB s b) t))
theorem t_draw (hA : wfA A) {b : Nat} {t : Int} (hb : b < 6) (h2 : 1 ≤ t ∧ t ≤ 99) (h3 : ¬ sY A.1 < sP A.1 b) (h4 : t ≤ lT (sB A.1 b)) : gb_T1 f_X9_draw [gR 0 0, gI (nZ b), gI (nZ t)] A (some (gI (nZ (t * mnU A.1 (sY A.1) (sB A.1 b) t)))) (setR (setS A (dS A.1 b t)) (rowOf 6 (fun g => (nZ (lG (pk (sB A.1 b) t) g)).toInt64))) := by
  have hI := hA.1.1
  obtain ⟨y1, y2, q1, q2⟩ := hI.2.2.2.2.2.2
  have hTr := lG_r hI.2.2.2.2.2.1 hb 0
  have hokb := (hI.2.2.2.2.2.1 b hb).2.2
  have hm := mnU_r (on := sY A.1) (t := t) hI.1 hokb
  have hb1 : 0 ≤ t * mnU A.1 (sY A.1) (sB A.1 b) t := Int.mul_nonneg (by omega) hm.1
  have hb2 : t * mnU A.1 (sY A.1) (sB A.1 b) t ≤ 99 * 999 := Int.mul_le_mul h2.2 hm.2 hm.1 (by omega)
  have hIV1 : gb_IV (setB A.1 b (tk (sB A.1 b) t)) := IV_set hI (Nat.le_trans tk_len (hI.2.2.2.2.2.1 b hb).1) (by rw [lT_tk hokb]; omega) (ok_tk hokb)
  have hIV : gb_IV (setQ (setB A.1 b (tk (sB A.1 b) t)) (min 2000000000 (sQ A.1 + t * mnU A.1 (sY A.1) (sB A.1 b) t))) := IV_Q hIV1 (by omega)
  refine T1_of (fun _ => wf_setS hA ⟨hIV, gd_setB hA.1.2 (adj_tk (hA.1.2 b hb))⟩) (fun σ hC _ => ?_)
  obtain ⟨τ, a1, a2, a3⟩ := CC_past hC
  obtain ⟨τ2, b1, b2, b3⟩ := c_start τ
  obtain ⟨τ3, c1, c2, c3⟩ := c_loop (n := 6) (by omega) (σ := τ2) (fun i τ => j_X9_draw_66 (nZ b) (nZ t) (nZ i) τ) (fun g => (nZ (lG (pk (sB A.1 b) t) g)).toInt64) b2 (by
    intro i hi τ' f τ'' hadd
    have hS : gb_SC τ' 0 A.1 := SC_fP f (fun k _ _ => by omega) (SC_fP b3 (fun k _ _ => by omega) a2.1)
    show j_X9_draw_66 _ _ _ _ = j_X9_draw_66 _ _ _ _
    have htb := p_tonsBelow hS hb hi (t := t) (by omega)
    rw [pk_sum hokb (by omega)] at htb
    rw [e_X9_draw_66, if_neg (by rw [z6, z_le ⟨by omega, by omega⟩ ⟨by omega, by omega⟩]; omega), htb, g_b1, hadd, g_b0, z1, z_add]
    rfl)
  have hCC3 : CC τ3 (setR (setS A A.1) (rowOf 6 (fun g => (nZ (lG (pk (sB A.1 b) t) g)).toInt64))) := CC_row (fP_tr b3 c2) (fun k hk => by omega) a2 c3
  obtain ⟨τ4, d1, d2, d3⟩ := p_drawOut hCC3.1 hb (t := t) (by omega)
  refine ⟨τ4, ?_, CC_S hCC3 d3 d2, fP_tr a3 (fP_tr (fP_w (fP_tr b3 c2) (fun k hk => by omega)) (fP_w (fS_fP d3) (fun k hk => by omega)))⟩
  have cT := hC.1.1.2.2.2.1 b hb
  rw [e_X9_draw, cb_t hb, g_b1, e10, ct_t h2, g_b1, e10, p_closed_f hC.1 hb h3, g_b1, e00]
  simp (disch := omega) only [g_in, z_tn, Int.toNat_natCast, cT, z_le, if_pos]
  rw [a1, g_b0, b1, g_b0, show (0 : Int32) = nZ ((0 : Nat) : Int) from rfl, c1, e_X9_draw_66, if_pos (by decide), d1, g_b1]
  rfl
theorem t_move1 (hA : wfA A) {f : Nat} {n : Int} (hf : f < 6) : gb_T1 f_X9_move [gR 0 0, gI (nZ f), gI (nZ f), gI (nZ n)] A (some (gI (-1))) A :=
  T1_same _ (fun σ hC => by rw [e_X9_move, cb_t hf, g_b1, e10, cb_t hf, g_b1, e10, if_pos rfl])
theorem t_move_no (hA : wfA A) {f t : Nat} {n : Int} (hf : f < 6) (ht : t < 6) (h3 : f ≠ t) (h4 : 1 ≤ n ∧ n ≤ 99) (h5 : ¬ 0 ≤ mvW A.1 f t n) : gb_T1 f_X9_move [gR 0 0, gI (nZ f), gI (nZ t), gI (nZ n)] A (some (gI (nZ (mvW A.1 f t n)))) A := by
  have hI := hA.1.1
  have hne : ¬ (nZ f = nZ t) := by rw [z_eq ⟨by omega, by omega⟩ ⟨by omega, by omega⟩]; omega
  have hr := mvW_r (s := A.1) (f := f) (t := t) (n := n)
  refine T1_same _ (fun σ hC => ?_)
  rw [e_X9_move, cb_t hf, g_b1, e10, cb_t ht, g_b1, e10, if_neg hne, ct_t h4, g_b1, e10, p_whyNotMove hC.1 hf ht h4 (hA.1.2 f hf), g_b1, if_neg (by rw [z0, z_le ⟨by omega, by omega⟩ ⟨by omega, by omega⟩]; exact h5)]
def mvS (s : gb_St) (f t : Nat) (n : Int) : gb_St := setB (setB s t (lays (sB s t) (pk (sB s f) n))) f (tk (sB s f) n)
theorem t_move (hA : wfA A) {f t : Nat} {n : Int} (hf : f < 6) (ht : t < 6) (h3 : f ≠ t) (h4 : 1 ≤ n ∧ n ≤ 99) (hm : mvW A.1 f t n = 0) : gb_T1 f_X9_move [gR 0 0, gI (nZ f), gI (nZ t), gI (nZ n)] A (some (gI (nZ (lT (sB (mvS A.1 f t n) t))))) (setR (setS A (mvS A.1 f t n)) [(nZ (lV A.1 (sY A.1) (sB A.1 f)) + nZ (lV A.1 (sY A.1) (sB A.1 t))).toInt64, (nZ (lV (mvS A.1 f t n) (sY A.1) (sB (mvS A.1 f t n) f)) + nZ (lV (mvS A.1 f t n) (sY A.1) (sB (mvS A.1 f t n) t))).toInt64]) := by
  have hI := hA.1.1
  have hne : ¬ (nZ f = nZ t) := by rw [z_eq ⟨by omega, by omega⟩ ⟨by omega, by omega⟩]; omega
  have hokf := (hI.2.2.2.2.2.1 f hf).2.2
  have hct := hI.2.2.2.1 t ht
  have hTf := lG_r hI.2.2.2.2.2.1 hf 0
  have hTt := lG_r hI.2.2.2.2.2.1 ht 0
  obtain ⟨-, c1, c2, c3, c4, c5, c6⟩ := mvW_0 (show 0 ≤ mvW A.1 f t n by omega)
  have hpok := pk_ok (t := n) hokf
  have hpT := pk_T hokf (t := n) (by omega)
  have hlf := (hI.2.2.2.2.2.1 f hf).1
  have hIV1 := IV_lays hI ht hpok (by omega) c6
  have hIV : gb_IV (mvS A.1 f t n) := IV_set hIV1 (Nat.le_trans tk_len hlf) (by rw [lT_tk hokf]; omega) (ok_tk hokf)
  have hgd : gdS (mvS A.1 f t n) := ⟨hIV, gd_setB (gd_setB hA.1.2 (adj_lays (hA.1.2 t ht))) (adj_tk (hA.1.2 f hf))⟩
  have hsT : lT (sB (mvS A.1 f t n) t) = lT (sB A.1 t) + n := by
    unfold mvS
    rw [sB_n (fun e => h3 e.symm), sB_s, lays_T]; omega
  have hsY : sY (mvS A.1 f t n) = sY A.1 := rfl
  generalize hs' : mvS A.1 f t n = s' at hIV hgd hsT hsY
  refine T1_of (fun _ => wf_setS hA hgd) (fun σ hC _ => ?_)
  obtain ⟨τ, a1, a2, a3⟩ := CC_past hC
  obtain ⟨τ2, b1, b2, b3⟩ := p_shift a2.1 hf ht h3 h4 (show lT (sB (setS A A.1).1 t) + n ≤ 99 by show lT (sB A.1 t) + n ≤ 99; omega) c6
  have b2 : gb_SC τ2 0 s' := by rw [← hs']; exact b2
  obtain ⟨τ3, c1', c2', c3'⟩ := c_start τ2
  obtain ⟨τ4, d1, d2, d3⟩ := c_add c2' (by simp) ((nZ (lV A.1 (sY A.1) (sB A.1 f)) + nZ (lV A.1 (sY A.1) (sB A.1 t))).toInt64)
  obtain ⟨τ5, e1, e2, e3⟩ := c_add d2 (by simp) ((nZ (lV s' (sY A.1) (sB s' f)) + nZ (lV s' (sY A.1) (sB s' t))).toInt64)
  have hS4 : gb_SC τ4 0 s' := SC_fP (fP_tr c3' d3) (fun k _ _ => by omega) b2
  have hS5 : gb_SC τ5 0 s' := SC_fP e3 (fun k _ _ => by omega) hS4
  have cT := hS5.1.2.2.2.1 t ht
  refine ⟨τ5, ?_, CC_row (fP_tr (fP_tr c3' d3) e3) (fun k hk => by omega) (CC_S a2 b3 b2) e2, fP_tr a3 (fP_tr (fP_w (fS_fP b3) (fun k hk => by omega)) (fP_w (fP_tr (fP_tr c3' d3) e3) (fun k hk => by omega)))⟩
  rw [e_X9_move, cb_t hf, g_b1, e10, cb_t ht, g_b1, e10, if_neg hne, ct_t h4, g_b1, e10, p_whyNotMove hC.1 hf ht h4 (hA.1.2 f hf), g_b1, hm, if_pos (by decide), a1, g_b0, p_valueOf a2.1 hf, g_b1, p_valueOf a2.1 ht, g_b1, b1, g_b0, c1', g_b0]
  have d1' : f_X4_add [gR 21 0, gL (nZ (lV (setS A A.1).1 (sY (setS A A.1).1) (sB (setS A A.1).1 f)) + nZ (lV (setS A A.1).1 (sY (setS A A.1).1) (sB (setS A A.1).1 t))).toInt64] τ3 = some (none, τ4) := d1
  rw [d1', g_b0, p_valueOf hS4 hf, g_b1, p_valueOf hS4 ht, g_b1, hsY, e1, g_b0]
  simp (disch := omega) only [g_in, z_tn, Int.toNat_natCast, cT]
theorem t_keeps (hA : wfA A) : gb_T1 f_X9_keeps [gR 0 0] A (some (gI (nZ (sY A.1)))) (A.1, some A.1, A.2.2) := by
  have hI := hA.1.1
  refine T1_of (fun _ => ⟨hA.1, fun s hs => by cases hs; exact hA.1, hA.2.2.1, hA.2.2.2⟩) (fun σ hC _ => ?_)
  obtain ⟨τ, a1, a2, a3⟩ := p_copy (σ := σ) (j := 1) (j1 := 0) hC.1 (by omega)
  have hS0 := SC_fS a3 (show 0 ≠ 1 by omega) hC.1
  have cY := hS0.1.2.2.2.2.2.2.1
  have f : gb_fP (fun k => k = 0) τ (gb_si τ 0 0 5 1) := fP_si fP_rf rfl
  refine ⟨gb_si τ 0 0 5 1, ?_, ⟨SC_fP f (fun k _ _ => by omega) hS0, ⟨si_s, fun s hs => by cases hs; exact SC_fP f (fun k _ _ => by omega) a2⟩, pastC_fP f (by omega) (fun k _ _ => by omega) (pastC_fS a3 (by omega) hC.2.2.1), textC_fP f (by omega) (by omega) (textC_fP (fS_fP a3) (by omega) (by omega) hC.2.2.2.1), rowC_fP f (by omega) (by omega) (rowC_fP (fS_fP a3) (by omega) (by omega) hC.2.2.2.2)⟩, fP_tr (fP_w (fS_fP a3) (fun k hk => by omega)) (fP_w f (fun k hk => by omega))⟩
  rw [e_X9_keeps, a1, g_b0, si_k (by omega), cY]
theorem t_back (hA : wfA A) {s : gb_St} (hk : A.2.1 = some s) : gb_T1 f_X9_back [gR 0 0] A (some (gI (nZ (sY s)))) (setS A s) := by
  have hs := hA.2.1 s hk
  refine T1_of (fun _ => wf_setS hA hs) (fun σ hC _ => ?_)
  obtain ⟨τ, a1, a2, a3⟩ := CC_past hC
  have hK : gb_SC τ 1 s := a2.2.1.2 s hk
  obtain ⟨τ', b1, b2, b3⟩ := p_copy (σ := τ) (j := 0) (j1 := 1) hK (by omega)
  refine ⟨τ', ?_, CC_S a2 b3 b2, fP_tr a3 (fP_w (fS_fP b3) (fun k hk => by omega))⟩
  rw [e_X9_back, if_neg (by rw [hC.2.1.1, hk, kI0]; simp), a1, g_b0, b1, g_b0, b2.1.2.2.2.2.2.2.1]
theorem t_undo (hA : wfA A) {s : gb_St} (h0 : A.2.2.1.length ≠ 0) (hs : A.2.2.1.getD (A.2.2.1.length - 1) s0 = s) : gb_T1 f_X9_undo [gR 0 0] A (some (gI (nZ (A.2.2.1.length - 1 : Nat)))) (s, A.2.1, A.2.2.1.dropLast, A.2.2.2) := by
  have h8 := hA.2.2.2
  have hgs : gdS s := by rw [← hs]; exact hA.2.2.1 _ (by omega)
  have hdl : A.2.2.1.dropLast.length = A.2.2.1.length - 1 := List.length_dropLast
  refine T1_of (fun _ => ⟨hgs, hA.2.1, fun i hi => ?_, by show A.2.2.1.dropLast.length ≤ 8; rw [hdl]; omega⟩) (fun σ hC _ => ?_)
  · have hi : i < A.2.2.1.dropLast.length := hi
    show gdS (A.2.2.1.dropLast.getD i s0)
    rw [gd_last (by omega)]; exact hA.2.2.1 i (by omega)
  · obtain ⟨n, hn, h1, h2, hl, hh⟩ := hC.2.2.1
    have hm := md8 (n := n + 8 - 1) (by omega)
    have f : gb_fP (fun k => k = 19) σ (gb_si σ 19 0 1 (nZ ((n + 8 - 1) % 8 : Nat))) := fP_si fP_rf rfl
    have hsl := hh (A.2.2.1.length - 1) (by omega)
    rw [hs, show 2 + (n + 8 - A.2.2.1.length + (A.2.2.1.length - 1)) % 8 = 2 + (n + 8 - 1) % 8 by omega] at hsl
    obtain ⟨τ, a1, a2, a3⟩ := p_copy (σ := gb_si σ 19 0 1 (nZ ((n + 8 - 1) % 8 : Nat))) (j := 0) (j1 := 2 + (n + 8 - 1) % 8) (SC_fP f (fun k _ _ => by omega) hsl) (by omega)
    have t2 : τ.1 19 0 2 = nZ A.2.2.1.length := by rw [a3.1 19 0 2 (by omega), si_i (by omega)]; exact h2
    have t1 : τ.1 19 0 1 = nZ ((n + 8 - 1) % 8 : Nat) := by rw [a3.1 19 0 1 (by omega), si_s]
    have f2 : gb_fP (fun k => k = 19) τ (gb_si τ 19 0 2 (nZ (A.2.2.1.length - 1 : Nat))) := fP_si fP_rf rfl
    refine ⟨gb_si τ 19 0 2 (nZ (A.2.2.1.length - 1 : Nat)), ?_, ⟨SC_fP f2 (fun k _ _ => by omega) a2, keptC_fP f2 (by omega) (fun k _ _ => by omega) (keptC_fS a3 (by omega) (keptC_fP f (by omega) (fun k _ _ => by omega) hC.2.1)), ⟨(n + 8 - 1) % 8, by omega, by rw [si_i (by omega)]; exact t1, by show _ = nZ A.2.2.1.dropLast.length; rw [si_s, hdl], by show A.2.2.1.dropLast.length ≤ 8; rw [hdl]; omega, fun i hi => ?_⟩, textC_fP f2 (by omega) (by omega) (textC_fP (fS_fP a3) (by omega) (by omega) (textC_fP f (by omega) (by omega) hC.2.2.2.1)), rowC_fP f2 (by omega) (by omega) (rowC_fP (fS_fP a3) (by omega) (by omega) (rowC_fP f (by omega) (by omega) hC.2.2.2.2))⟩, fP_tr (fP_w f (fun k hk => by omega)) (fP_tr (fP_w (fS_fP a3) (fun k hk => by omega)) (fP_w f2 (fun k hk => by omega)))⟩
    · rw [e_X9_undo, e_X3_takeBack, h2, if_neg (by rw [z0, z_eq ⟨by omega, by omega⟩ ⟨by omega, by omega⟩]; omega), h1]
      have ee : (nZ n + 8) - 1 = nZ (n + 8 - 1 : Nat) := by
        rw [z8, z1, z_add, z_sub]; exact congrArg nZ (by omega)
      rw [ee, hm, si_s]
      simp (disch := omega) only [g_in, z_tn, Int.toNat_natCast, a1, g_b0, t2]
      have e1 : nZ A.2.2.1.length - 1 = nZ (A.2.2.1.length - 1 : Nat) := by rw [z1, z_sub]; exact congrArg nZ (by omega)
      rw [e1, g_b1, e10, si_s]
    · have hi : i < A.2.2.1.dropLast.length := hi
      show gb_SC _ (2 + ((n + 8 - 1) % 8 + 8 - A.2.2.1.dropLast.length + i) % 8) (A.2.2.1.dropLast.getD i s0)
      rw [hdl] at hi ⊢
      rw [gd_last (by omega)]
      have := hh i (by omega)
      rw [show 2 + (n + 8 - A.2.2.1.length + i) % 8 = 2 + ((n + 8 - 1) % 8 + 8 - (A.2.2.1.length - 1) + i) % 8 by omega] at this
      exact SC_fP f2 (fun k _ _ => by omega) (SC_fS a3 (by omega) (SC_fP f (fun k _ _ => by omega) this))
end T1A
