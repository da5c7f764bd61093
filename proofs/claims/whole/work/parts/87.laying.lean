/-! LAYING: the class -/
def ldC (σ : gb_M) (Ls : List gb_Ly) : Prop := σ.1 23 0 3 = nZ Ls.length ∧ ∀ i, i < Ls.length → σ.1 24 0 i = nZ (lz Ls i).1 ∧ σ.1 25 0 i = nZ (lz Ls i).2.1 ∧ σ.1 26 0 i = nZ (lz Ls i).2.2
def okLs (Ls : List gb_Ly) : Prop := Ls.length ≤ 6 ∧ ∀ l ∈ Ls, okL l
def yF (σ σ' : gb_M) : Prop := (∀ k i x, ¬ (27 ≤ k ∧ k ≤ 29) → ¬ (10 ≤ k ∧ k ≤ 18 ∧ i = 10) → σ'.1 k i x = σ.1 k i x) ∧ σ'.2 = σ.2
theorem yF_rf {σ : gb_M} : yF σ σ := ⟨fun _ _ _ _ _ => rfl, rfl⟩
theorem yF_tr {σ σ' σ'' : gb_M} (h : yF σ σ') (h' : yF σ' σ'') : yF σ σ'' := ⟨fun k i x a b => (h'.1 k i x a b).trans (h.1 k i x a b), h'.2.trans h.2⟩
theorem yF_si {σ σ' : gb_M} {k x : Nat} {v : Int32} (h : yF σ σ') (hk : 27 ≤ k ∧ k ≤ 29) : yF σ (gb_si σ' k 0 x v) := by
  refine ⟨fun k' i y a b => ?_, h.2⟩
  rw [← h.1 k' i y a b]
  simp only [gb_si]
  rw [if_neg (fun e => a (by rw [e.1]; exact hk))]
theorem yF_S {σ σ' : gb_M} (h : gb_fS 10 σ σ') : yF σ σ' := ⟨fun k i x _ b => h.1 k i x (fun z => b z), h.2⟩
theorem SC_yF {σ σ' : gb_M} {j : Nat} {s : gb_St} (h : yF σ σ') (hj : j ≠ 10) (hS : gb_SC σ j s) : gb_SC σ' j s := by
  obtain ⟨⟨h1, h2, h3, h4, h5, h6, h7, h8⟩, ⟨r1, r2, r3, r4⟩, hI⟩ := hS
  have e : ∀ k x, 3 ≤ k → k ≤ 18 → σ'.1 k j x = σ.1 k j x := fun k x a b => h.1 k j x (by omega) (fun z => hj z.2.2)
  have er : ∀ k x, 3 ≤ k → k ≤ 9 → σ'.1 k 0 x = σ.1 k 0 x := fun k x a b => h.1 k 0 x (by omega) (by omega)
  refine ⟨⟨fun g hg => ?_, fun g hg => ?_, fun g hg => ?_, fun g hg => ?_, fun b i hb hi => ?_, fun b g hb hg => ?_, ?_, ?_⟩, ⟨fun g hg => ?_, fun g hg => ?_, fun g k hg hk => ?_, fun g hg => ?_⟩, hI⟩
  · rw [e _ _ (by omega) (by omega)]; exact h1 g hg
  · rw [e _ _ (by omega) (by omega)]; exact h2 g hg
  · rw [e _ _ (by omega) (by omega)]; exact h3 g hg
  · rw [e _ _ (by omega) (by omega)]; exact h4 g hg
  · rw [e _ _ (by omega) (by omega), e _ _ (by omega) (by omega), e _ _ (by omega) (by omega)]; exact h5 b i hb hi
  · rw [e _ _ (by omega) (by omega)]; exact h6 b g hb hg
  · rw [e _ _ (by omega) (by omega)]; exact h7
  · rw [e _ _ (by omega) (by omega)]; exact h8
  · rw [er _ _ (by omega) (by omega)]; exact r1 g hg
  · rw [er _ _ (by omega) (by omega)]; exact r2 g hg
  · rw [er _ _ (by omega) (by omega)]; exact r3 g k hg hk
  · rw [er _ _ (by omega) (by omega)]; exact r4 g hg
theorem KC_yF {σ0 σ σ' : gb_M} {A : gb_Ab} (h : KC σ0 σ A) (f : yF σ σ') : KC σ0 σ' A := by
  obtain ⟨⟨h1, h2, h3, h4, h5⟩, hf⟩ := h
  refine ⟨⟨SC_yF f (by omega) h1, ⟨by rw [f.1 0 0 5 (by omega) (by omega)]; exact h2.1, fun s hs => SC_yF f (by omega) (h2.2 s hs)⟩, ?_, ⟨by rw [f.1 1 0 1 (by omega) (by omega)]; exact h4.1, h4.2.1, fun i hi => by rw [f.1 2 0 i (by omega) (by omega)]; exact h4.2.2.1 i hi, h4.2.2.2⟩, ⟨by rw [f.1 21 0 1 (by omega) (by omega)]; exact h5.1, h5.2.1, fun i hi => by rw [f.2]; exact h5.2.2 i hi⟩⟩, ⟨fun k i x hk => ?_, fun k i x hk => ?_⟩⟩
  · obtain ⟨n, a, b, c, d, e⟩ := h3
    exact ⟨n, a, by rw [f.1 19 0 1 (by omega) (by omega)]; exact b, by rw [f.1 19 0 2 (by omega) (by omega)]; exact c, d, fun i hi => SC_yF f (by omega) (e i hi)⟩
  · rw [f.1 k i x (by omega) (by omega)]; exact hf.1 k i x hk
  · rw [f.2]; exact hf.2 k i x hk
theorem ldC_yF {σ σ' : gb_M} {Ls : List gb_Ly} (f : yF σ σ') (h : ldC σ Ls) : ldC σ' Ls := ⟨by rw [f.1 23 0 3 (by omega) (by omega)]; exact h.1, fun i hi => by rw [f.1 24 0 i (by omega) (by omega), f.1 25 0 i (by omega) (by omega), f.1 26 0 i (by omega) (by omega)]; exact h.2 i hi⟩
theorem ls_ok {Ls : List gb_Ly} (h : okLs Ls) {i : Nat} (hi : i < Ls.length) : okL (lz Ls i) := h.2 _ (lz_mem hi)
section LA
variable {σ : gb_M} {st : gb_St} {b : Nat} {Ls : List gb_Ly} {skip : Int}
theorem p_mayLie (hC : gb_SC σ 10 st) (hL : ldC σ Ls) (hok : okLs Ls) (hk : σ.1 27 0 4 = nZ skip) (hr : -1 ≤ skip ∧ skip < 6) (hb : b < 6) {i : Nat} (hi : i < Ls.length) : (mlb skip st b (lz Ls i) = true → f_X1_mayLie [gR 27 0, gI (nZ b), gI (nZ i)] σ = some (some (gI 1), σ)) ∧ (¬ mlb skip st b (lz Ls i) = true → f_X1_mayLie [gR 27 0, gI (nZ b), gI (nZ i)] σ = some (some (gI 0), σ)) := by
  have h6 := hok.1
  obtain ⟨l1, l2, l3, l4, l5⟩ := ls_ok hok hi
  obtain ⟨u1, u2, u3⟩ := hL.2 i hi
  have hw := p_why hC hb (g := (lz Ls i).1) (t := (lz Ls i).2.1) (d := (lz Ls i).2.2) l1 (by omega) (by omega)
  have hwr := sWhy_r (s := st) (b := b) (g := (lz Ls i).1) (t := (lz Ls i).2.1) (d := (lz Ls i).2.2)
  rw [e_X1_mayLie, hk]
  refine ⟨fun h => ?_, fun h => ?_⟩
  · obtain ⟨m1, m2⟩ := mlb_t h
    rw [if_neg (by rw [z_eq ⟨by omega, by omega⟩ ⟨by omega, by omega⟩]; exact m1), z_tn (by omega), Int.toNat_natCast, u1, u2, u3, hw, g_b1, m2, if_pos (show nZ 0 = 0 from rfl), g_in (by omega), g_in (by omega), g_in (by omega)]
  · have hn := mlb_f h
    by_cases c : (b : Int) = skip
    · rw [if_pos (by rw [c])]
    · rw [if_neg (by rw [z_eq ⟨by omega, by omega⟩ ⟨by omega, by omega⟩]; exact c), z_tn (by omega), Int.toNat_natCast, u1, u2, u3, hw, g_b1, if_neg (by rw [z0, z_eq ⟨by omega, by omega⟩ ⟨by omega, by omega⟩]; exact fun z => hn ⟨c, z⟩), g_in (by omega), g_in (by omega), g_in (by omega)]
theorem p_layX (hC : gb_SC σ 10 st) (hL : ldC σ Ls) (hok : okLs Ls) (hb : b < 6) {i : Nat} (hi : i < Ls.length) (h : mlb skip st b (lz Ls i) = true) : ∃ σ', f_X1_lay [gR 27 0, gI (nZ b), gI (nZ i)] σ = some (none, σ') ∧ gb_SC σ' 10 (lyS st b (lz Ls i)) ∧ gb_fS 10 (gb_si σ 28 0 i (nZ b)) σ' := by
  have h6 := hok.1
  obtain ⟨l1, l2, l3, l4, l5⟩ := ls_ok hok hi
  obtain ⟨u1, u2, u3⟩ := hL.2 i hi
  obtain ⟨-, hT, hn⟩ := IV_lay hC.2.2 hb l1 l2 ⟨l4, l5⟩ (mlb_t h).2
  have f : gb_fP (fun k => k = 28) σ (gb_si σ 28 0 i (nZ b)) := fP_si fP_rf rfl
  obtain ⟨σ', a1, a2, a3, -⟩ := p_lay (SC_fP f (fun k _ _ => by omega) hC) hb l1 l2 hT ⟨l4, l5⟩ hn
  refine ⟨σ', ?_, a2, a3⟩
  rw [e_X1_lay, z_tn (by omega), Int.toNat_natCast, si_k (by omega), si_k (by omega), si_k (by omega), u1, u2, u3, a1, g_b0, g_in (by omega), g_in (by omega), g_in (by omega), g_in (by omega)]
def jY (σ : gb_M) (way : List Nat) (m : Int) (best : List Nat) : Prop := σ.1 27 0 5 = nZ m ∧ (∀ i, i < way.length → σ.1 28 0 i = nZ (wz way i)) ∧ ∀ i, i < best.length → σ.1 29 0 i = nZ (wz best i)
theorem jY_S {σ σ' : gb_M} {way : List Nat} {m : Int} {best : List Nat} (f : gb_fS 10 σ σ') (h : jY σ way m best) : jY σ' way m best := ⟨by rw [f.1 27 0 5 (by omega)]; exact h.1, fun i hi => by rw [f.1 28 0 i (by omega)]; exact h.2.1 i hi, fun i hi => by rw [f.1 29 0 i (by omega)]; exact h.2.2 i hi⟩
theorem jY_way {σ : gb_M} {way : List Nat} {m : Int} {best : List Nat} {b : Nat} (h : jY σ way m best) : jY (gb_si σ 28 0 way.length (nZ b)) (way ++ [b]) m best := by
  obtain ⟨i1, i2, i3⟩ := h
  refine ⟨by rw [si_k (by omega)]; exact i1, fun i hi => ?_, fun i hi => by rw [si_k (by omega)]; exact i3 i hi⟩
  rw [List.length_append] at hi
  have hi : i < way.length + 1 := hi
  by_cases e : i = way.length
  · subst e; rw [si_s, wz_2]
  · rw [si_i e, wz_1 (by omega)]; exact i2 i (by omega)
theorem jY_unway {σ : gb_M} {way : List Nat} {m : Int} {best : List Nat} {b : Nat} (h : jY σ (way ++ [b]) m best) : jY σ way m best :=
  ⟨h.1, fun i hi => by rw [h.2.1 i (by rw [List.length_append]; omega), wz_1 hi], h.2.2⟩
theorem p_takeWayY (hL : ldC σ Ls) (h6 : Ls.length ≤ 6) : ∃ σ', f_X1_takeWay [gR 27 0] σ = some (none, σ') ∧ (∀ i, i < Ls.length → σ'.1 29 0 i = σ.1 28 0 i) ∧ gb_fP (fun k => k = 29) σ σ' ∧ σ'.2 = σ.2 := by
  rw [e_X1_takeWay]
  obtain ⟨τ, h1, h2, h3, h4⟩ := lph (n := Ls.length) (σ := σ) (fun i τ => j_X1_takeWay_2 (nZ i) τ) (fun i τ => gb_fP (fun k => k = 29) σ τ ∧ (∀ k, k < i → τ.1 29 0 k = σ.1 28 0 k) ∧ τ.2 = σ.2) ⟨fP_rf, fun k hk => by omega, rfl⟩ (by
    intro i hi τ ⟨f, h2, h3⟩
    refine ⟨gb_si τ 29 0 i (τ.1 28 0 i), ?_, fP_si f rfl, fun k hk => ?_, h3⟩
    · show j_X1_takeWay_2 _ _ = j_X1_takeWay_2 _ _
      have e3 : τ.1 23 0 3 = nZ Ls.length := by rw [f.1 23 0 3 (by omega)]; exact hL.1
      rw [e_X1_takeWay_2, e3, if_neg (by rw [z_le ⟨by omega, by omega⟩ ⟨by omega, by omega⟩]; omega), z_tn (by omega), Int.toNat_natCast, g_in (by omega), g_in (by omega), zs]
    · by_cases e : k = i
      · subst e
        rw [si_s, f.1 28 0 k (by omega)]
      · rw [si_i e]; exact h2 k (by omega))
  have e3 : τ.1 23 0 3 = nZ Ls.length := by rw [h2.1 23 0 3 (by omega)]; exact hL.1
  have h1' : j_X1_takeWay_2 0 σ = j_X1_takeWay_2 (nZ Ls.length) τ := h1
  exact ⟨τ, by rw [h1', e_X1_takeWay_2, e3, if_pos (Int32.le_refl _)], h3, h2, h4⟩
end LA
theorem drop_c {Ls : List gb_Ly} {k : Nat} {l : gb_Ly} {ls : List gb_Ly} (h : Ls.drop k = l :: ls) : k < Ls.length ∧ lz Ls k = l ∧ Ls.drop (k + 1) = ls ∧ l ∈ Ls := by
  have hk : k < Ls.length := by
    apply Classical.byContradiction
    intro hc
    rw [List.drop_of_length_le (by omega)] at h
    cases h
  rw [dr_c hk] at h
  cases h
  exact ⟨hk, rfl, rfl, lz_mem hk⟩
theorem drop_n {Ls : List gb_Ly} {k : Nat} (hk : k ≤ Ls.length) (h : Ls.drop k = []) : k = Ls.length := by
  have := congrArg List.length h
  rw [List.length_drop] at this
  simp at this
  omega
theorem p_lc {Ls : List gb_Ly} (hok : okLs Ls) {skip : Int} (hr : -1 ≤ skip ∧ skip < 6) : ∀ (ls : List gb_Ly) (d : Nat), ls.length < d → ∀ (st : gb_St) (way : List Nat) (gr : Int) (acc : Int × List Nat) (σ : gb_M), way.length ≤ Ls.length → Ls.drop way.length = ls → 0 ≤ gr → gr + 58806 * ls.length ≤ 500000000 → 0 ≤ acc.1 ∧ acc.1 ≤ 1000000000 → gb_SC σ 10 st → ldC σ Ls → σ.1 27 0 4 = nZ skip → jY σ way acc.1 acc.2 → ∃ σ', g_X1_layCheapest d [gR 27 0, gI (nZ way.length), gI (nZ gr)] σ = some (none, σ') ∧ gb_SC σ' 10 st ∧ jY σ' way (lc skip ls st way gr acc).1 (lc skip ls st way gr acc).2 ∧ σ'.1 27 0 4 = nZ skip ∧ (0 ≤ (lc skip ls st way gr acc).1 ∧ (lc skip ls st way gr acc).1 ≤ 1000000000) ∧ yF σ σ'
  | ls, 0, hd, _, _, _, _, _, _, _, _, _, _, _, _, _, _ => absurd hd (by omega)
  | ls, d + 1, hd, st, way, gr, acc, σ, hwl, hdr, hg, hgb, ha, hC, hL, hsk, hj => by
    have h6 := hok.1
    have hgb0 : gr ≤ 500000000 := by omega
    rw [e_X1_layCheapest, hj.1]
    by_cases c : acc.1 ≤ gr
    · have e0 : lc skip ls st way gr acc = acc := by cases ls <;> exact if_pos c
      rw [e0, if_pos (by rw [z_le ⟨by omega, by omega⟩ ⟨by omega, by omega⟩]; exact c)]
      exact ⟨σ, rfl, hC, hj, hsk, ha, yF_rf⟩
    rw [if_neg (by rw [z_le ⟨by omega, by omega⟩ ⟨by omega, by omega⟩]; exact c), hL.1, if_pos (by rw [z_le ⟨by omega, by omega⟩ ⟨by omega, by omega⟩]; omega)]
    cases ls with
    | nil =>
      have hn := drop_n hwl hdr
      have e0 : lc skip [] st way gr acc = (gr, way) := if_neg c
      have f0 : yF σ (gb_si σ 27 0 5 (nZ gr)) := yF_si yF_rf (by omega)
      obtain ⟨τ, a1, a2, a3, a4⟩ := p_takeWayY (ldC_yF f0 hL) h6
      have f1 : yF (gb_si σ 27 0 5 (nZ gr)) τ := ⟨fun k i x a b => a3.1 k i x (by omega), a4⟩
      rw [e0, if_pos (by rw [hn]), a1, g_b0]
      refine ⟨τ, rfl, SC_fP a3 (fun k _ _ => by omega) (SC_fP (P := fun k => k = 27) (fP_si fP_rf rfl) (fun k _ _ => by omega) hC), ⟨by rw [a3.1 27 0 5 (by omega), si_s], fun i hi => by rw [a3.1 28 0 i (by omega), si_k (by omega)]; exact hj.2.1 i hi, fun i hi => by have hi : i < way.length := hi; rw [a2 i (by omega), si_k (by omega)]; exact hj.2.1 i hi⟩, by rw [a3.1 27 0 4 (by omega), si_i (by omega)]; exact hsk, by dsimp only; omega, yF_tr f0 f1⟩
    | cons l ls =>
      obtain ⟨k1, k2, k3, k4⟩ := drop_c hdr
      have hl := hok.2 l k4
      have hls : (ls.length : Int) + way.length + 1 = Ls.length := by
        have := congrArg List.length hdr
        rw [List.length_drop] at this
        simp at this
        omega
      have hgb' : gr + 58806 * ((ls.length : Int) + 1) ≤ 500000000 := by simpa using hgb
      have e0 : lc skip (l :: ls) st way gr acc = it 6 acc (fun b a => if mlb skip st b l = true then lc skip ls (lyS st b l) (way ++ [b]) (gr + gW st (sB st b) l.1 l.2.1) a else a) := if_neg c
      rw [e0, if_neg (by rw [z_eq ⟨by omega, by omega⟩ ⟨by omega, by omega⟩]; omega)]
      generalize hF : (fun (b : Nat) (a : Int × List Nat) => if mlb skip st b l = true then lc skip ls (lyS st b l) (way ++ [b]) (gr + gW st (sB st b) l.1 l.2.1) a else a) = F
      obtain ⟨τ, h1, h2, h3, h4, h5, h6'⟩ := lph (n := 6) (σ := σ) (fun i τ => j_X1_layCheapest_43 (g_X1_layCheapest d) (nZ way.length) (nZ gr) (nZ i) τ) (fun i τ => gb_SC τ 10 st ∧ jY τ way (it i acc F).1 (it i acc F).2 ∧ τ.1 27 0 4 = nZ skip ∧ (0 ≤ (it i acc F).1 ∧ (it i acc F).1 ≤ 1000000000) ∧ yF σ τ) ⟨hC, hj, hsk, ha, yF_rf⟩ (by
        intro b hb τ ⟨h2, h3, h4, h5, h6'⟩
        show ∃ τ', _ = _ ∧ gb_SC τ' 10 st ∧ jY τ' way (F b (it b acc F)).1 (F b (it b acc F)).2 ∧ τ'.1 27 0 4 = nZ skip ∧ (0 ≤ (F b (it b acc F)).1 ∧ (F b (it b acc F)).1 ≤ 1000000000) ∧ yF σ τ'
        generalize it b acc F = a at h3 h5 ⊢
        have hLt := ldC_yF h6' hL
        have eF : F b a = if mlb skip st b l = true then lc skip ls (lyS st b l) (way ++ [b]) (gr + gW st (sB st b) l.1 l.2.1) a else a := by rw [← hF]
        rw [eF]
        have hm := p_mayLie h2 hLt hok h4 hr hb k1
        rw [k2] at hm
        by_cases c2 : mlb skip st b l = true
        · rw [if_pos c2]
          have hw := gW_r (t := l.2.1) h2.2.2 hb hl.1 (by have := hl.2.1; omega)
          have hlen : (way ++ [b]).length = way.length + 1 := by simp
          obtain ⟨τ2, u1, u2, u3⟩ := p_layX (skip := skip) h2 hLt hok hb k1 (by rw [k2]; exact c2)
          rw [k2] at u2
          have f2 : yF τ τ2 := yF_tr (yF_si yF_rf (by omega)) (yF_S u3)
          obtain ⟨τ3, v1, v2, v3, v4, v5, v6⟩ := p_lc hok hr ls d (by simp at hd; omega) (lyS st b l) (way ++ [b]) (gr + gW st (sB st b) l.1 l.2.1) a τ2 (by omega) (by rw [hlen]; exact k3) (by omega) (by omega) h5 u2 (ldC_yF f2 hLt) (by rw [u3.1 27 0 4 (by omega), si_k (by omega)]; exact h4) (jY_S u3 (jY_way h3))
          rw [hlen] at v1
          obtain ⟨τ4, w1, w2, w3⟩ := p_unlay h2.2.2 hb hl v2
          refine ⟨τ4, ?_, w2, jY_S w3 (jY_unway v3), by rw [w3.1 27 0 4 (by omega)]; exact v4, v5, yF_tr h6' (yF_tr f2 (yF_tr v6 (yF_S w3)))⟩
          obtain ⟨q1, q2, q3⟩ := hLt.2 way.length k1
          rw [k2] at q1 q2 q3
          have pg := p_growth h2 hb (g := l.1) (t := l.2.1) hl.1 ⟨hl.2.1, hl.2.2.1⟩
          have q2' : τ3.1 25 0 way.length = nZ l.2.1 := by rw [(yF_tr f2 v6).1 25 0 _ (by omega) (by omega)]; exact q2
          rw [e_X1_layCheapest_43, if_neg (n6 hb), hm.1 c2, g_b1, e10, z_tn (by omega), Int.toNat_natCast, q1, q2, pg, g_b1, u1, g_b0, zs, z_add, v1, g_b0, q2', w1, g_b0, g_in (by omega), g_in (by omega), g_in (by omega), zs]
        · rw [if_neg c2]
          refine ⟨τ, ?_, h2, h3, h4, h5, h6'⟩
          rw [e_X1_layCheapest_43, if_neg (n6 hb), hm.2 c2, g_b1, e00, zs])
      refine ⟨τ, ?_, h2, h3, h4, h5, h6'⟩
      have h1' : j_X1_layCheapest_43 (g_X1_layCheapest d) (nZ way.length) (nZ gr) 0 σ = j_X1_layCheapest_43 (g_X1_layCheapest d) (nZ way.length) (nZ gr) (nZ (6 : Nat)) τ := h1
      rw [h1', e_X1_layCheapest_43, if_pos y6]
theorem nZm1 : (-1 : Int32) = nZ (-1) := rfl
/-- some load may lie nowhere -/
theorem p_might {σ : gb_M} {st : gb_St} {Ls : List gb_Ly} {skip : Int} (hC : gb_SC σ 10 st) (hL : ldC σ Ls) (hok : okLs Ls) (hk : σ.1 27 0 4 = nZ skip) (hr : -1 ≤ skip ∧ skip < 6) : f_X1_mightLie [gR 27 0] σ = some (some (gI 1), σ) ∨ (f_X1_mightLie [gR 27 0] σ = some (some (gI 0), σ) ∧ ∃ x ∈ Ls, badL skip st x) := by
  have h6 := hok.1
  have h11 : ¬ (1 : Int32) = 0 := by decide
  have one : ∀ i, i < Ls.length → (j_X1_mightLie_17 (nZ i) 0 0 σ = j_X1_mightLie_2 (nZ (i + 1 : Nat)) σ) ∨ (j_X1_mightLie_17 (nZ i) 0 0 σ = some (some (gI 0), σ) ∧ badL skip st (lz Ls i)) := by
    intro i hi
    obtain ⟨k, hk6, hn, hJ, he⟩ := lp_ex (n := 6) (fun b => j_X1_mightLie_17 (nZ i) 0 (nZ b) σ) (fun b => mlb skip st b (lz Ls i) = true) (by
      intro b hb hc
      try dsimp only
      rw [e_X1_mightLie_17, if_neg (n6 hb), if_pos rfl, (p_mayLie hC hL hok hk hr hb hi).2 hc, g_b1, zs])
    have hJ' : j_X1_mightLie_17 (nZ i) 0 0 σ = j_X1_mightLie_17 (nZ i) 0 (nZ k) σ := hJ
    rw [hJ']
    rcases he with he | ⟨he, hp⟩
    · right
      subst he
      exact ⟨by rw [e_X1_mightLie_17, if_pos y6, if_pos rfl], fun b hb => hn b hb⟩
    · left
      rw [e_X1_mightLie_17, if_neg (n6 he), if_pos rfl, (p_mayLie hC hL hok hk hr he hi).1 hp, g_b1, zs, e_X1_mightLie_17]
      by_cases c : (6 : Int32) ≤ nZ (k + 1 : Nat)
      · rw [if_pos c, if_neg h11, zs]
      · rw [if_neg c, if_neg h11, if_neg h11, zs]
  have key : ∀ n i, i + n = Ls.length → j_X1_mightLie_2 (nZ i) σ = some (some (gI 1), σ) ∨ (j_X1_mightLie_2 (nZ i) σ = some (some (gI 0), σ) ∧ ∃ x ∈ Ls, badL skip st x) := by
    intro n
    induction n with
    | zero =>
      intro i hi
      left
      rw [e_X1_mightLie_2, hL.1, if_pos (by rw [z_le ⟨by omega, by omega⟩ ⟨by omega, by omega⟩]; omega)]
    | succ n ih =>
      intro i hi
      rw [e_X1_mightLie_2, hL.1, if_neg (by rw [z_le ⟨by omega, by omega⟩ ⟨by omega, by omega⟩]; omega)]
      rcases one i (by omega) with h | ⟨h, hb⟩
      · rw [h]; exact ih (i + 1) (by omega)
      · exact Or.inr ⟨h, _, lz_mem (by omega), hb⟩
  rw [e_X1_mightLie]
  exact key Ls.length 0 (by omega)
def lcA (skip : Int) (s : gb_St) (Ls : List gb_Ly) : Int × List Nat := lcU skip Ls s [] 0 (1000000000, [])
theorem p_leastGrowth {σ0 σ : gb_M} {A : gb_Ab} (h : KC σ0 σ A) {Ls : List gb_Ly} (hok : okLs Ls) (hL : ldC σ Ls) {skip : Int} (hr : -1 ≤ skip ∧ skip < 6) : ∃ σ', f_X1_leastGrowth [gR 27 0, gR 10 0, gI (nZ skip)] σ = some (some (gI (if 1000000000 ≤ (lcA skip A.1 Ls).1 then -1 else nZ (lcA skip A.1 Ls).1)), σ') ∧ (∀ i, i < (lcA skip A.1 Ls).2.length → σ'.1 29 0 i = nZ (wz (lcA skip A.1 Ls).2 i)) ∧ (0 ≤ (lcA skip A.1 Ls).1 ∧ (lcA skip A.1 Ls).1 ≤ 1000000000) ∧ KC σ0 σ' A ∧ yF σ σ' := by
  obtain ⟨τ1, a1, a2, a3⟩ := p_copy (σ := σ) (j := 10) (j1 := 0) h.1.1 (by omega)
  have hb9 : (1000000000 : Int32) = nZ 1000000000 := rfl
  generalize hs2 : gb_si (gb_si τ1 27 0 4 (nZ skip)) 27 0 5 (nZ 1000000000) = τ2
  have fs : gb_fP (fun k => k = 27) τ1 τ2 := by rw [← hs2]; exact fP_si (fP_si fP_rf rfl) rfl
  have f2 : yF σ τ2 := by rw [← hs2]; exact yF_si (yF_si (yF_S a3) (by omega)) (by omega)
  have hC2 : gb_SC τ2 10 A.1 := SC_fP fs (fun k _ _ => by omega) a2
  have e4 : τ2.1 27 0 4 = nZ skip := by rw [← hs2, si_i (by omega), si_s]
  have e5 : τ2.1 27 0 5 = nZ 1000000000 := by rw [← hs2, si_s]
  have fin : ∀ (τ : gb_M), yF σ τ → jY τ [] (lcA skip A.1 Ls).1 (lcA skip A.1 Ls).2 → (0 ≤ (lcA skip A.1 Ls).1 ∧ (lcA skip A.1 Ls).1 ≤ 1000000000) → f_X1_leastGrowth [gR 27 0, gR 10 0, gI (nZ skip)] σ = (if 1000000000 ≤ τ.1 27 0 5 then some (some (gI (-1)), τ) else some (some (gI (τ.1 27 0 5)), τ)) → ∃ σ', f_X1_leastGrowth [gR 27 0, gR 10 0, gI (nZ skip)] σ = some (some (gI (if 1000000000 ≤ (lcA skip A.1 Ls).1 then -1 else nZ (lcA skip A.1 Ls).1)), σ') ∧ (∀ i, i < (lcA skip A.1 Ls).2.length → σ'.1 29 0 i = nZ (wz (lcA skip A.1 Ls).2 i)) ∧ (0 ≤ (lcA skip A.1 Ls).1 ∧ (lcA skip A.1 Ls).1 ≤ 1000000000) ∧ KC σ0 σ' A ∧ yF σ σ' := by
    intro τ f hj hb e
    refine ⟨τ, ?_, hj.2.2, hb, KC_yF h f, f⟩
    rw [e, hj.1]
    by_cases c : 1000000000 ≤ (lcA skip A.1 Ls).1
    · rw [if_pos (by rw [hb9, z_le ⟨by omega, by omega⟩ ⟨by omega, by omega⟩]; exact c), if_pos c]
    · rw [if_neg (by rw [hb9, z_le ⟨by omega, by omega⟩ ⟨by omega, by omega⟩]; exact c), if_neg c]
  have beg : f_X1_leastGrowth [gR 27 0, gR 10 0, gI (nZ skip)] σ = gb_b1 (f_X1_mightLie [gR 27 0] τ2) (fun x3 s2 => if x3 = 0 then
    if 1000000000 ≤ s2.1 27 0 5 then some (some (gI (-1)), s2) else some (some (gI (s2.1 27 0 5)), s2)
  else
    gb_b0 (f_X1_layCheapest [gR 27 0, gI 0, gI 0] s2) (fun s4 => if 1000000000 ≤ s4.1 27 0 5 then some (some (gI (-1)), s4) else some (some (gI (s4.1 27 0 5)), s4))) := by
    rw [e_X1_leastGrowth, e_X1_start, a1, g_b0, g_b0, hb9, hs2]
  have hl6 : (Ls.length : Int) ≤ 6 := by have := hok.1; omega
  rcases p_might hC2 (ldC_yF f2 hL) hok e4 hr with hm | ⟨hm, hbad⟩
  · obtain ⟨τ3, b1, b2, b3, b4, b5, b6⟩ := p_lc hok hr Ls 8 (by have := hok.1; omega) A.1 [] 0 (1000000000, []) τ2 (by simp) (by simp) (by omega) (by omega) (by dsimp only; omega) hC2 (ldC_yF f2 hL) e4 ⟨e5, fun i hi => (by cases hi), fun i hi => (by cases hi)⟩
    rw [lc_U Ls A.1 [] 0 _ hC2.2.2 hok.2] at b3 b5
    have b1' : f_X1_layCheapest [gR 27 0, gI 0, gI 0] τ2 = some (none, τ3) := (gb_hide_at _ _ _).trans b1
    exact fin τ3 (yF_tr f2 b6) b3 b5 (by rw [beg, hm, g_b1, e10, b1', g_b0])
  · have e0 : lcA skip A.1 Ls = (1000000000, []) := lcU_bad Ls A.1 [] 0 _ hok.2 hbad
    exact fin τ2 f2 (by rw [e0]; exact ⟨e5, fun i hi => (by cases hi), fun i hi => (by cases hi)⟩) (by rw [e0]; dsimp only; omega) (by rw [beg, hm, g_b1, e00])
