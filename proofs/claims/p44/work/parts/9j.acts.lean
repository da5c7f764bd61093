/-! ACTS: what may lie together goes on to; values, tons -/
def okM (s : gb_St) (L : List gb_Ly) : Prop := ∀ l ∈ L, ∀ k ∈ L, 0 ≤ sO s l.1 k.1
def gsub (L M : List gb_Ly) : Prop := ∀ l ∈ L, ∃ k ∈ M, k.1 = l.1
theorem okX_iff {s : gb_St} : okX s ↔ ∀ b, b < 6 → lT (sB s b) ≤ sC s b ∧ okM s (sB s b) := by
  constructor
  · intro h b hb
    refine ⟨(h b hb).1, fun l hl k hk => ?_⟩
    obtain ⟨i, hi, rfl⟩ := lz_of_mem hl
    obtain ⟨j, hj, rfl⟩ := lz_of_mem hk
    exact (h b hb).2 i j hi hj
  · intro h b hb
    exact ⟨(h b hb).1, fun i k hi hk => (h b hb).2 _ (lz_mem hi) _ (lz_mem hk)⟩
theorem okM_sub {s : gb_St} {L M : List gb_Ly} (h : okM s M) (hs : gsub L M) : okM s L := fun l hl k hk => by
  obtain ⟨a, ha, e1⟩ := hs l hl
  obtain ⟨b, hb, e2⟩ := hs k hk
  rw [← e1, ← e2]
  exact h a ha b hb
theorem okM_cg {s s' : gb_St} {L : List gb_Ly} (hg : ∀ l ∈ L, l.1 < 6) (e : ∀ g h, g < 6 → h < 6 → sO s' g h = sO s g h) (h : okM s L) : okM s' L := fun l hl k hk => by
  rw [e _ _ (hg l hl) (hg k hk)]
  exact h l hl k hk
theorem gsub_rf {L : List gb_Ly} : gsub L L := fun l hl => ⟨l, hl, rfl⟩
theorem gsub_tr {L M N : List gb_Ly} (h1 : gsub L M) (h2 : gsub M N) : gsub L N := fun l hl => by
  obtain ⟨a, ha, e1⟩ := h1 l hl
  obtain ⟨b, hb, e2⟩ := h2 a ha
  exact ⟨b, hb, e2.trans e1⟩
theorem gsub_app {L M N K : List gb_Ly} (h1 : gsub L M) (h2 : gsub N K) : gsub (L ++ N) (M ++ K) := fun l hl => by
  rcases List.mem_append.mp hl with hl | hl
  · obtain ⟨a, ha, e⟩ := h1 l hl
    exact ⟨a, List.mem_append_left _ ha, e⟩
  · obtain ⟨a, ha, e⟩ := h2 l hl
    exact ⟨a, List.mem_append_right _ ha, e⟩
theorem gsub_lay {L : List gb_Ly} {g : Nat} {t d : Int} : gsub (lay1 L g t d) (L ++ [(g, t, d)]) := fun l hl => by
  unfold lay1 at hl
  split at hl
  · rcases List.mem_append.mp hl with hl | hl
    · exact ⟨l, List.mem_append_left _ ((List.dropLast_sublist L).subset hl), rfl⟩
    · rw [List.mem_singleton] at hl
      subst hl
      exact ⟨_, List.mem_append_right _ (List.mem_singleton.mpr rfl), rfl⟩
  · exact ⟨l, hl, rfl⟩
theorem gsub_lays {P : List gb_Ly} : ∀ {A : List gb_Ly}, gsub (lays A P) (A ++ P) := by
  induction P with
  | nil => intro A; rw [List.append_nil]; exact gsub_rf
  | cons p P ih =>
    intro A
    have h1 := ih (A := lay1 A p.1 p.2.1 p.2.2)
    have h2 := gsub_app (gsub_lay (L := A) (g := p.1) (t := p.2.1) (d := p.2.2)) (gsub_rf (L := P))
    rw [List.append_assoc] at h2
    exact gsub_tr h1 h2
theorem gsub_tk {L : List gb_Ly} : ∀ {t : Int}, gsub (tk L t) L := by
  induction L with
  | nil => intro t; exact gsub_rf
  | cons a L ih =>
    intro t l hl
    unfold tk at hl
    split at hl
    · rcases List.mem_cons.mp hl with rfl | hl
      · exact ⟨a, List.mem_cons_self, rfl⟩
      · exact ⟨l, List.mem_cons_of_mem _ hl, rfl⟩
    · obtain ⟨k, hk, e⟩ := ih l hl
      exact ⟨k, List.mem_cons_of_mem _ hk, e⟩
theorem gsub_pk {L : List gb_Ly} : ∀ {t : Int}, gsub (pk L t) L := by
  induction L with
  | nil => intro t; exact gsub_rf
  | cons a L ih =>
    intro t l hl
    unfold pk at hl
    split at hl
    · cases hl
    · rcases List.mem_cons.mp hl with rfl | hl
      · exact ⟨a, List.mem_cons_self, rfl⟩
      · obtain ⟨k, hk, e⟩ := ih l hl
        exact ⟨k, List.mem_cons_of_mem _ hk, e⟩
theorem gsub_jn {L : List gb_Ly} : gsub (jn L) L := by
  have h := gsub_lays (A := []) (P := L)
  exact h
theorem gsub_fum {L : List gb_Ly} {d : Int} : gsub (fum L d) L := fun l hl => by
  obtain ⟨a, ha, rfl⟩ := List.mem_map.mp hl
  exact ⟨a, ha, rfl⟩
theorem ap_f {s : gb_St} {L : List gb_Ly} {g : Nat} (h : ap s L g = false) : ∀ l ∈ L, 0 ≤ sO s g l.1 := fun l hl => by
  unfold ap at h
  rw [List.any_eq_false] at h
  have := h l hl
  simp only [decide_eq_true_eq] at this
  omega
/-- sums over the bins, one of them changed -/
theorem sm_up {f : Nat → Int} {b : Nat} {v : Int} (hb : b < 6) : sm 6 (fun k => if k = b then v else f k) = sm 6 f + (v - f b) := by
  have h := sm_1 (n := 6) (k := b) (f := fun k => if k = b then v else f k) (g := f) hb (fun i _ hi => if_neg hi)
  rw [if_pos rfl] at h
  omega
theorem lA_setB {s : gb_St} {b : Nat} {L : List gb_Ly} {on : Int} (hb : b < 6) : lA (setB s b L) on = lA s on + (lV s on L - lV s on (sB s b)) := by
  unfold lA
  rw [← sm_up hb]
  refine sm_c (fun k hk => ?_)
  show lV s on (if k = b then L else s.2 k) = if k = b then lV s on L else lV s on (sB s k)
  by_cases e : k = b
  · rw [if_pos e, if_pos e]
  · rw [if_neg e, if_neg e]; rfl
theorem sT_setB {s : gb_St} {b : Nat} {L : List gb_Ly} (hb : b < 6) : sm 6 (fun k => lT (sB (setB s b L) k)) = sm 6 (fun k => lT (sB s k)) + (lT L - lT (sB s b)) := by
  rw [← sm_up hb]
  refine sm_c (fun k hk => ?_)
  show lT (if k = b then L else s.2 k) = if k = b then lT L else lT (sB s k)
  by_cases e : k = b
  · rw [if_pos e, if_pos e]
  · rw [if_neg e, if_neg e]; rfl
/-- what hangs on the numbers alone -/
theorem lV_cg {s s' : gb_St} (e : ∀ k, k < 54 → s'.1 k = s.1 k) {on : Int} {L : List gb_Ly} (h : ∀ l ∈ L, okL l) : lV s' on L = lV s on L := by
  have hu : ∀ l ∈ L, sU s' on l = sU s on l := fun l hl => by
    have h6 := (h l hl).1
    unfold sU sW sK
    rw [e l.1 (by omega), e (6 + l.1) (by omega)]
  have hR : lR s' on L = lR s on L := sL_c (fun l hl => by rw [hu l hl])
  have hX : lX s' L = lX s L := sm_c (fun g hg => sm_c (fun k hk => by
    have : lM s' L g k = lM s L g k := by
      unfold lM sO
      rw [e (12 + (6 * g + k)) (by omega)]
    rw [this]))
  unfold lV
  rw [hR, hX]
theorem lA_cg {s s' : gb_St} (il : iL s) (e : ∀ k, k < 54 → s'.1 k = s.1 k) (h : ∀ b, b < 6 → s'.2 b = s.2 b) {on : Int} : lA s' on = lA s on :=
  sm_c (fun b hb => by
    show lV s' on (s'.2 b) = lV s on (sB s b)
    rw [h b hb]
    exact lV_cg e (il b hb).2.2)
theorem okX_cg {s s' : gb_St} (il : iL s) (e : ∀ k, 12 ≤ k → k < 54 → s'.1 k = s.1 k) (h : ∀ b, b < 6 → s'.2 b = s.2 b) (hX : okX s) : okX s' := by
  rw [okX_iff] at hX ⊢
  intro b hb
  have e1 : sB s' b = sB s b := h b hb
  have e2 : sC s' b = sC s b := e (48 + b) (by omega) (by omega)
  rw [e1, e2]
  exact ⟨(hX b hb).1, okM_cg (fun l hl => ((il b hb).2.2 l hl).1) (fun g k hg hk => e (12 + (6 * g + k)) (by omega) (by omega)) (hX b hb).2⟩
/-- one bin changed -/
theorem okX_set {s : gb_St} {b : Nat} {L : List gb_Ly} (hX : okX s) (hT : b < 6 → lT L ≤ sC s b) (hM : b < 6 → okM s L) : okX (setB s b L) := by
  rw [okX_iff] at hX ⊢
  intro k hk
  by_cases e : k = b
  · subst e
    rw [sB_s]
    exact ⟨hT hk, hM hk⟩
  · rw [sB_n e]
    exact hX k hk
section AC
variable {s : gb_St}
theorem okX_load (hg : gdS s) (hX : okX s) {b g : Nat} {t : Int} (hb : b < 6) (hgr : g < 6) (h : sWhy s b g t (sY s) = 0) : okX (setB s b (lay1 (sB s b) g t (sY s))) := by
  obtain ⟨h1, h2, h3, h4⟩ := sWhyZ h
  have io := hg.1.2.2.1
  have il := hg.1.2.2.2.2.2.1
  refine okX_set hX (fun _ => by rw [lT_lay]; exact h2) (fun _ => okM_sub ?_ gsub_lay)
  have hM := (okX_iff.mp hX b hb).2
  have hap := ap_f h3
  intro l hl k hk
  rcases List.mem_append.mp hl with hl | hl <;> rcases List.mem_append.mp hk with hk | hk
  · exact hM l hl k hk
  · rw [List.mem_singleton] at hk
    subst hk
    have h6 := ((il b hb).2.2 l hl).1
    rw [(io l.1 g h6 hgr).2.2.1]
    exact hap l hl
  · rw [List.mem_singleton] at hl
    subst hl
    exact hap k hk
  · rw [List.mem_singleton] at hl hk
    subst hl; subst hk
    show 0 ≤ sO s g g
    rw [(io g g hgr hgr).2.2.2]
    exact Int.le_refl _
theorem lA_load (hI : gb_IV s) {b g : Nat} {t : Int} (hb : b < 6) (hgr : g < 6) : lA (setB s b (lay1 (sB s b) g t (sY s))) (sY s) = lA s (sY s) + gA s b g t := by
  rw [lA_setB hb, lV_lay hI hgr]
  omega
theorem okX_draw (hg : gdS s) (hX : okX s) {b : Nat} {t : Int} (hb : b < 6) : okX (dS s b t) := by
  have il := hg.1.2.2.2.2.2.1
  have hok := (il b hb).2.2
  have h1 : okX (setB s b (tk (sB s b) t)) := okX_set hX (fun _ => by
    have := (hX b hb).1
    have hn := lT_nn hok
    rw [lT_tk hok]
    omega) (fun _ => okM_sub (okX_iff.mp hX b hb).2 gsub_tk)
  have h2 : iL (setB s b (tk (sB s b) t)) := fun k hk => by
    by_cases e : k = b
    · subst e
      rw [sB_s]
      have hn := lT_nn hok
      refine ⟨Nat.le_trans tk_len (il k hb).1, ?_, ok_tk hok⟩
      rw [lT_tk hok]
      have := (il k hb).2.1
      omega
    · rw [sB_n e]; exact il k hk
  exact okX_cg h2 (fun k _ hk => if_neg (by omega)) (fun _ _ => rfl) h1
theorem lT_draw (hg : gdS s) {b : Nat} {t : Int} (hb : b < 6) (ht : 0 ≤ t ∧ t ≤ lT (sB s b)) : lT (sB (dS s b t) b) = lT (sB s b) - t := by
  have e : sB (dS s b t) b = tk (sB s b) t := sB_s (s := s)
  rw [e, lT_tk (hg.1.2.2.2.2.2.1 b hb).2.2]
  omega
theorem lG_sum {L : List gb_Ly} (h : ∀ l ∈ L, l.1 < 6) : sm 6 (fun g => lG L g) = lT L := by
  induction L with
  | nil => rfl
  | cons l L ih =>
    have e1 := ih (fun x hx => h x (List.mem_cons_of_mem _ hx))
    have h6 := h l List.mem_cons_self
    have e2 : sm 6 (fun g => lG (l :: L) g) = sm 6 (fun g => (if g = l.1 then lG L g + l.2.1 else lG L g)) := sm_c (fun g _ => by
      show (if l.1 = g then l.2.1 else 0) + lG L g = _
      by_cases e : g = l.1
      · rw [if_pos e, if_pos e.symm]; omega
      · rw [if_neg e, if_neg (fun z => e z.symm)]; omega)
    have e3 : sm 6 (fun g => (if g = l.1 then lG L g + l.2.1 else lG L g)) = sm 6 (fun g => lG L g) + ((lG L l.1 + l.2.1) - lG L l.1) := by
      rw [← sm_up (f := fun g => lG L g) h6]
      exact sm_c (fun g _ => by
        by_cases e : g = l.1
        · rw [if_pos e, if_pos e, e]
        · rw [if_neg e, if_neg e])
    rw [e2, e3, e1]
    show lT L + (lG L l.1 + l.2.1 - lG L l.1) = l.2.1 + lT L
    omega
theorem draw_sum (hg : gdS s) {b : Nat} {t : Int} (hb : b < 6) (ht : 0 ≤ t ∧ t ≤ lT (sB s b)) : sm 6 (fun g => lG (pk (sB s b) t) g) = t := by
  have hok := (hg.1.2.2.2.2.2.1 b hb).2.2
  rw [lG_sum (fun l hl => (pk_ok hok l hl).1), pk_T hok ht.1]
  omega
theorem okX_move (hg : gdS s) (hX : okX s) {f t : Nat} {n : Int} (hf : f < 6) (ht : t < 6) (hft : f ≠ t) (h4 : 1 ≤ n) (hm : mvW s f t n = 0) : okX (mvS s f t n) := by
  have il := hg.1.2.2.2.2.2.1
  have io := hg.1.2.2.1
  obtain ⟨-, c1, c2, c3, c4, c5, c6⟩ := mvW_0 (show 0 ≤ mvW s f t n by omega)
  have hokf := (il f hf).2.2
  have hpT := pk_T hokf (t := n) (by omega)
  have hMf := (okX_iff.mp hX f hf).2
  have hMt := (okX_iff.mp hX t ht).2
  have hMp : okM s (pk (sB s f) n) := okM_sub hMf gsub_pk
  have hcr : ∀ p ∈ pk (sB s f) n, ∀ a ∈ sB s t, 0 ≤ sO s p.1 a.1 := fun p hp a ha => by
    unfold apP at c5
    rw [List.any_eq_false] at c5
    have := c5 p hp
    exact ap_f (by simpa using this) a ha
  have h1 : okX (setB s t (lays (sB s t) (pk (sB s f) n))) := okX_set hX (fun _ => by rw [lays_T]; omega) (fun _ => okM_sub (fun l hl k hk => by
    rcases List.mem_append.mp hl with hl | hl <;> rcases List.mem_append.mp hk with hk | hk
    · exact hMt l hl k hk
    · have h6 := ((il t ht).2.2 l hl).1
      have h7 := (pk_ok hokf k hk).1
      rw [(io l.1 k.1 h6 h7).2.2.1]
      exact hcr k hk l hl
    · exact hcr l hl k hk
    · exact hMp l hl k hk) gsub_lays)
  refine okX_set h1 (fun _ => ?_) (fun _ => okM_sub hMf gsub_tk)
  have := (hX f hf).1
  have hn := lT_nn hokf
  have e : sC (setB s t (lays (sB s t) (pk (sB s f) n))) f = sC s f := rfl
  rw [lT_tk hokf, e]
  omega
theorem mv_B {f t : Nat} (hft : f ≠ t) {n : Int} : sB (mvS s f t n) t = lays (sB s t) (pk (sB s f) n) ∧ sB (mvS s f t n) f = tk (sB s f) n := by
  unfold mvS
  exact ⟨by rw [sB_n (fun e => hft e.symm), sB_s], sB_s⟩
theorem lT_move (hg : gdS s) {f t : Nat} {n : Int} (hf : f < 6) (hft : f ≠ t) (hn : 0 ≤ n ∧ n ≤ lT (sB s f)) : lT (sB (mvS s f t n) t) = lT (sB s t) + n ∧ lT (sB (mvS s f t n) f) = lT (sB s f) - n := by
  have hokf := (hg.1.2.2.2.2.2.1 f hf).2.2
  obtain ⟨e1, e2⟩ := mv_B (s := s) hft (n := n)
  have hpT := pk_T hokf (t := n) hn.1
  rw [e1, e2, lays_T, lT_tk hokf]
  omega
theorem sT_move (hg : gdS s) {f t : Nat} {n : Int} (hf : f < 6) (ht : t < 6) (hft : f ≠ t) (hn : 0 ≤ n ∧ n ≤ lT (sB s f)) : sm 6 (fun k => lT (sB (mvS s f t n) k)) = sm 6 (fun k => lT (sB s k)) := by
  have hokf := (hg.1.2.2.2.2.2.1 f hf).2.2
  have hpT := pk_T hokf (t := n) hn.1
  unfold mvS
  rw [sT_setB hf, sT_setB ht, sB_n hft, lays_T, lT_tk hokf]
  omega
theorem lA_move {f t : Nat} {n : Int} {on : Int} (hf : f < 6) (ht : t < 6) (hft : f ≠ t) : lA (mvS s f t n) on - lA s on = (lV (mvS s f t n) on (sB (mvS s f t n) f) + lV (mvS s f t n) on (sB (mvS s f t n) t)) - (lV s on (sB s f) + lV s on (sB s t)) := by
  obtain ⟨e1, e2⟩ := mv_B (s := s) hft (n := n)
  rw [e1, e2]
  have e3 : ∀ L, lV (mvS s f t n) on L = lV s on L := fun L => rfl
  rw [e3, e3]
  unfold mvS
  rw [lA_setB hf, lA_setB ht, sB_n hft]
  have e4 : ∀ L, lV (setB s t (lays (sB s t) (pk (sB s f) n))) on L = lV s on L := fun L => rfl
  rw [e4, e4]
  omega
theorem okX_fumes (hg : gdS s) (hX : okX s) {b : Nat} {n : Int} (hb : b < 6) : okX (fmS s b n) := by
  have il := hg.1.2.2.2.2.2.1
  have h1 : okX (setP s b (sY s + n)) := okX_cg il (fun k _ hk => if_neg (by omega)) (fun _ _ => rfl) hX
  have eT : lT (jn (fum (sB s b) (sY s + n))) = lT (sB s b) := by
    rw [show lT (jn (fum (sB s b) (sY s + n))) = lT (fum (sB s b) (sY s + n)) from jn_sL (f := fun l => l.2.1) (fun _ _ _ _ => rfl)]
    exact fum_sL (fun _ _ _ => rfl)
  refine okX_set h1 (fun _ => ?_) (fun _ => ?_)
  · rw [eT]
    exact (h1 b hb).1
  · exact okM_sub (okX_iff.mp h1 b hb).2 (gsub_tr gsub_jn gsub_fum)
theorem sT_fumes {b : Nat} {n : Int} (hb : b < 6) : sm 6 (fun k => lT (sB (fmS s b n) k)) = sm 6 (fun k => lT (sB s k)) := by
  have eT : lT (jn (fum (sB s b) (sY s + n))) = lT (sB s b) := by
    rw [show lT (jn (fum (sB s b) (sY s + n))) = lT (fum (sB s b) (sY s + n)) from jn_sL (f := fun l => l.2.1) (fun _ _ _ _ => rfl)]
    exact fum_sL (fun _ _ _ => rfl)
  unfold fmS
  rw [sT_setB hb, eT]
  have e : ∀ k, sB (setP s b (sY s + n)) k = sB s k := fun k => rfl
  simp only [e]
  omega
theorem sP_fumes {b : Nat} {n : Int} : sP (fmS s b n) b = sY s + n ∧ ((b < 6) → sY (fmS s b n) = sY s) := ⟨if_pos rfl, fun hb => if_neg (by omega)⟩
theorem okX_days (hg : gdS s) (hX : okX s) {y : Int} : okX (setY s y) := okX_cg hg.1.2.2.2.2.2.1 (fun k _ hk => if_neg (by omega)) (fun _ _ => rfl) hX
theorem lA_days (hg : gdS s) {y on : Int} : lA (setY s y) on = lA s on := by
  have e : ∀ k, k < 54 → (setY s y).1 k = s.1 k := fun k hk => if_neg (by omega)
  have h : ∀ b, b < 6 → (setY s y).2 b = s.2 b := fun _ _ => rfl
  exact lA_cg (s := s) (s' := setY s y) hg.1.2.2.2.2.2.1 e h
theorem okX_price (hg : gdS s) (hX : okX s) {g : Nat} {y : Int} (hgr : g < 6) : okX (setW s g y) := okX_cg hg.1.2.2.2.2.2.1 (fun k h1 hk => if_neg (by omega)) (fun _ _ => rfl) hX
end AC
