/-! WRITES -/
theorem si_k {σ : gb_M} {k j i k' j' i' : Nat} {v : Int32} (h : k' ≠ k) : (gb_si σ k j i v).1 k' j' i' = σ.1 k' j' i' := by
  simp only [gb_si]
  rw [if_neg (fun e => h e.1)]
theorem si_s {σ : gb_M} {k j i : Nat} {v : Int32} : (gb_si σ k j i v).1 k j i = v := by
  simp [gb_si, upd]
theorem si_i {σ : gb_M} {k j i i' : Nat} {v : Int32} (h : i' ≠ i) : (gb_si σ k j i v).1 k j i' = σ.1 k j i' := by
  simp [gb_si, upd, h]
theorem sj_i {σ : gb_M} {k j i j' i' : Nat} {v : Int32} (h : j' ≠ j) : (gb_si σ k j i v).1 k j' i' = σ.1 k j' i' := by
  simp only [gb_si]
  rw [if_neg (fun e => h e.2)]
theorem si_2 {σ : gb_M} {k j i : Nat} {v : Int32} : (gb_si σ k j i v).2 = σ.2 := rfl
/-- nothing but the cells of one store has changed -/
def gb_fS (j : Nat) (σ σ' : gb_M) : Prop := (∀ k i x, ¬ (10 ≤ k ∧ k ≤ 18 ∧ i = j) → σ'.1 k i x = σ.1 k i x) ∧ σ'.2 = σ.2
theorem fS_rf {j : Nat} {σ : gb_M} : gb_fS j σ σ := ⟨fun _ _ _ _ => rfl, rfl⟩
theorem fS_tr {j : Nat} {σ σ' σ'' : gb_M} (h : gb_fS j σ σ') (h' : gb_fS j σ' σ'') : gb_fS j σ σ'' := ⟨fun k i x hk => (h'.1 k i x hk).trans (h.1 k i x hk), h'.2.trans h.2⟩
theorem fS_si {j k i : Nat} {σ σ' : gb_M} {v : Int32} (h : gb_fS j σ σ') (hk : 10 ≤ k ∧ k ≤ 18) : gb_fS j σ (gb_si σ' k j i v) := by
  refine ⟨fun k' i' x hk' => ?_, h.2⟩
  rw [← h.1 k' i' x hk']
  simp only [gb_si]
  rw [if_neg (fun e => hk' ⟨by omega, by omega, e.2⟩)]
theorem fS_RR {j r : Nat} {σ σ' : gb_M} {s : gb_St} (h : gb_fS j σ σ') (hR : gb_RR σ r s) : gb_RR σ' r s := by
  obtain ⟨r1, r2, r3, r4⟩ := hR
  refine ⟨fun g hg => ?_, fun b hb => ?_, fun g k hg hk => ?_, fun g hg => ?_⟩
  · rw [h.1 5 r _ (by omega), r1 g hg]
  · rw [h.1 6 r _ (by omega), r2 b hb]
  · rw [h.1 7 r _ (by omega), r3 g k hg hk]
  · rw [h.1 8 r _ (by omega), r4 g hg]
theorem fS_RS {j i : Nat} {σ σ' : gb_M} {s : gb_St} (h : gb_fS j σ σ') (hi : i ≠ j) (hS : gb_RS σ i s) : gb_RS σ' i s := by
  obtain ⟨h1, h2, h3, h4, h5, h6, h7, h8⟩ := hS
  have e : ∀ k x, σ'.1 k i x = σ.1 k i x := fun k x => h.1 k i x (fun z => hi z.2.2)
  refine ⟨fun g hg => by rw [e, h1 g hg], fun b hb => by rw [e, h2 b hb], fun b hb => by rw [e, h3 b hb], fun b hb => by rw [e, h4 b hb], fun b k hb hk => by rw [e, e, e]; exact h5 b k hb hk, fun b g hb hg => by rw [e, h6 b g hb hg], by rw [e, h7], by rw [e, h8]⟩
def setB (s : gb_St) (b : Nat) (L : List gb_Ly) : gb_St := (s.1, fun k => if k = b then L else s.2 k)
theorem sB_s {s : gb_St} {b : Nat} {L : List gb_Ly} : sB (setB s b L) b = L := if_pos rfl
theorem sB_n {s : gb_St} {b k : Nat} {L : List gb_Ly} (h : k ≠ b) : sB (setB s b L) k = sB s k := if_neg h
theorem setB2 {s : gb_St} {b : Nat} {L L' : List gb_Ly} : setB (setB s b L) b L' = setB s b L' := by
  unfold setB
  refine Prod.ext rfl (funext fun k => ?_)
  by_cases h : k = b <;> simp [h]
theorem setB_id {s : gb_St} {b : Nat} : setB s b (sB s b) = s := by
  unfold setB sB
  refine Prod.ext rfl (funext fun k => ?_)
  by_cases h : k = b <;> simp [h]
/-- the store with another pile in one bin -/
theorem RS_set {σ σ' : gb_M} {j b : Nat} {s : gb_St} {L : List gb_Ly} (hS : gb_RS σ j s) (h10 : ∀ x, σ'.1 10 j x = σ.1 10 j x) (h11 : ∀ x, σ'.1 11 j x = σ.1 11 j x) (h12 : ∀ x, σ'.1 12 j x = σ.1 12 j x) (il : iL s)
    (hN : σ'.1 13 j b = nZ L.length) (hN' : ∀ k, k < 6 → k ≠ b → σ'.1 13 j k = σ.1 13 j k) (hT : σ'.1 14 j b = nZ (lT L)) (hT' : ∀ k, k < 6 → k ≠ b → σ'.1 14 j k = σ.1 14 j k)
    (hL : ∀ i : Nat, i < L.length → σ'.1 15 j ((b : Int) * 6 + (i : Int)).toNat = nZ (lz L i).1 ∧ σ'.1 16 j ((b : Int) * 6 + (i : Int)).toNat = nZ (lz L i).2.1 ∧ σ'.1 17 j ((b : Int) * 6 + (i : Int)).toNat = nZ (lz L i).2.2)
    (hL' : ∀ k i : Nat, k < 6 → k ≠ b → i < 6 → σ'.1 15 j ((k : Int) * 6 + (i : Int)).toNat = σ.1 15 j ((k : Int) * 6 + (i : Int)).toNat ∧ σ'.1 16 j ((k : Int) * 6 + (i : Int)).toNat = σ.1 16 j ((k : Int) * 6 + (i : Int)).toNat ∧ σ'.1 17 j ((k : Int) * 6 + (i : Int)).toNat = σ.1 17 j ((k : Int) * 6 + (i : Int)).toNat)
    (hH : ∀ g : Nat, g < 6 → σ'.1 18 j ((b : Int) * 6 + (g : Int)).toNat = nZ (lG L g)) (hH' : ∀ k g : Nat, k < 6 → k ≠ b → g < 6 → σ'.1 18 j ((k : Int) * 6 + (g : Int)).toNat = σ.1 18 j ((k : Int) * 6 + (g : Int)).toNat) : gb_RS σ' j (setB s b L) := by
  obtain ⟨h1, h2, h3, h4, h5, h6, h7, h8⟩ := hS
  refine ⟨fun g hg => by rw [h11]; exact h1 g hg, fun k hk => by rw [h12]; exact h2 k hk, fun k hk => ?_, fun k hk => ?_, fun k i hk hi => ?_, fun k g hk hg => ?_, by rw [h10]; exact h7, by rw [h10]; exact h8⟩
  · by_cases e : k = b
    · subst e; rw [sB_s]; exact hN
    · rw [sB_n e, hN' k hk e]; exact h3 k hk
  · by_cases e : k = b
    · subst e; rw [sB_s]; exact hT
    · rw [sB_n e, hT' k hk e]; exact h4 k hk
  · by_cases e : k = b
    · subst e; rw [sB_s] at hi ⊢; exact hL i hi
    · rw [sB_n e] at hi ⊢
      have hlen := (il k hk).1
      obtain ⟨e1, e2, e3⟩ := hL' k i hk e (by omega)
      rw [e1, e2, e3]; exact h5 k i hk hi
  · by_cases e : k = b
    · subst e; rw [sB_s]; exact hH g hg
    · rw [sB_n e, hH' k g hk e hg]; exact h6 k g hk hg
def lay1 (L : List gb_Ly) (g : Nat) (t d : Int) : List gb_Ly := if onB L g d = true then L.dropLast ++ [(g, (lz L (L.length - 1)).2.1 + t, d)] else L ++ [(g, t, d)]
theorem lz_app1 {L : List gb_Ly} {l : gb_Ly} {i : Nat} (h : i < L.length) : lz (L ++ [l]) i = lz L i := by
  simp [lz, List.getD, List.getElem?_append_left h]
theorem lz_app2 {L : List gb_Ly} {l : gb_Ly} : lz (L ++ [l]) L.length = l := by
  simp [lz, List.getD]
theorem lz_dl {L : List gb_Ly} {i : Nat} (h : i < L.length - 1) : lz L.dropLast i = lz L i := by
  simp [lz, List.getD, List.getElem?_dropLast, h]
  rw [List.getElem?_eq_getElem (by omega)]
  rfl
theorem dl_app {L : List gb_Ly} (h : 0 < L.length) : L = L.dropLast ++ [lz L (L.length - 1)] := by
  have h1 := lz_take (L := L) (i := L.length - 1) (by omega)
  rw [show L.length - 1 + 1 = L.length by omega, List.take_length] at h1
  rw [List.dropLast_eq_take]
  exact h1
theorem sL_lay {f : gb_Ly → Int} {L : List gb_Ly} {g : Nat} {t d : Int} (hf : ∀ t1 t2, f (g, t1 + t2, d) = f (g, t1, d) + f (g, t2, d)) : sL f (lay1 L g t d) = sL f L + f (g, t, d) := by
  unfold lay1
  cases h : onB L g d with
  | true =>
    obtain ⟨h1, h2, h3⟩ := onB_t h
    rw [if_pos rfl, sL_app]
    have e := congrArg (sL f) (dl_app h1)
    rw [sL_app] at e
    have e2 : lz L (L.length - 1) = (g, (lz L (L.length - 1)).2.1, d) := by
      rw [← h2, ← h3]
    have e3 : f (lz L (L.length - 1)) = f (g, (lz L (L.length - 1)).2.1, d) := congrArg f e2
    simp only [sL] at e ⊢
    rw [hf]
    omega
  | false =>
    rw [if_neg (by simp), sL_app]
    simp only [sL]
    omega
theorem lT_lay {L : List gb_Ly} {g : Nat} {t d : Int} : lT (lay1 L g t d) = lT L + t := sL_lay (f := fun l => l.2.1) (fun _ _ => rfl)
theorem lG_lay {L : List gb_Ly} {g k : Nat} {t d : Int} : lG (lay1 L g t d) k = lG L k + (if g = k then t else 0) := by
  refine sL_lay (f := fun l => if l.1 = k then l.2.1 else 0) (fun t1 t2 => ?_)
  by_cases h : g = k <;> simp [h]
theorem lay1_len {L : List gb_Ly} {g : Nat} {t d : Int} : (lay1 L g t d).length = if onB L g d = true then L.length else L.length + 1 := by
  unfold lay1
  cases h : onB L g d with
  | true => have := (onB_t h).1; simp; omega
  | false => simp
theorem ok_lay {L : List gb_Ly} {g : Nat} {t d : Int} (hL : ∀ l ∈ L, okL l) (hT : lT L + t ≤ 99) (hg : g < 6) (ht : 1 ≤ t) (hd : 0 ≤ d ∧ d ≤ 10019) : ∀ l ∈ lay1 L g t d, okL l := by
  have hge : ∀ l ∈ L, l.2.1 ≤ lT L := by
    intro l hl
    obtain ⟨i, hi, rfl⟩ := lz_of_mem hl
    unfold lT
    rw [sL_sm]
    exact sm_get (f := fun i => (lz L i).2.1) hi (fun k hk => by have := (hL _ (lz_mem hk)).2.1; omega)
  have hnn : 0 ≤ lT L := sL_nn (fun l hl => by have := (hL l hl).2.1; omega)
  intro l hl
  unfold lay1 at hl
  cases h : onB L g d with
  | true =>
    obtain ⟨h1, h2, h3⟩ := onB_t h
    rw [h, if_pos rfl] at hl
    have hm := lz_mem (L := L) (i := L.length - 1) (by omega)
    have hq := hge _ hm
    obtain ⟨m1, m2, m3, m4, m5⟩ := hL _ hm
    rcases List.mem_append.mp hl with hl | hl
    · rw [List.dropLast_eq_take] at hl
      exact hL l (List.mem_of_mem_take hl)
    · rw [List.mem_singleton.mp hl]
      exact ⟨hg, by show 1 ≤ _ + t; omega, by show _ + t ≤ 99; omega, hd.1, hd.2⟩
  | false =>
    rw [h, if_neg (by simp)] at hl
    rcases List.mem_append.mp hl with hl | hl
    · exact hL l hl
    · rw [List.mem_singleton.mp hl]
      exact ⟨hg, ht, by show t ≤ 99; omega, hd.1, hd.2⟩
theorem IV_set {s : gb_St} {b : Nat} {L : List gb_Ly} (hI : gb_IV s) (h1 : L.length ≤ 6) (h2 : lT L ≤ 99) (h3 : ∀ l ∈ L, okL l) : gb_IV (setB s b L) := by
  obtain ⟨iw, ik, io, ic, ip, il, id⟩ := hI
  refine ⟨iw, ik, io, ic, ip, fun k hk => ?_, id⟩
  by_cases e : k = b
  · subst e; rw [sB_s]; exact ⟨h1, h2, h3⟩
  · rw [sB_n e]; exact il k hk
