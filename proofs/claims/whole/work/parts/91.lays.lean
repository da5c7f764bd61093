/-! LAYS, FEW, EMPTIES -/
def ldL (O : List (Nat × Int)) (d : Int) : List gb_Ly := O.map (fun o => (o.1, o.2, d))
theorem ldL_len {O : List (Nat × Int)} {d : Int} : (ldL O d).length = O.length := by unfold ldL; rw [List.length_map]
theorem ldL_lz {O : List (Nat × Int)} {d : Int} {i : Nat} (hi : i < O.length) : lz (ldL O d) i = ((oz O i).1, (oz O i).2, d) := by
  simp [lz, ldL, oz, List.getD, hi]
theorem ldL_ok {O : List (Nat × Int)} (h : okO O) {d : Int} (hd : 0 ≤ d ∧ d ≤ 10019) : okLs (ldL O d) := by
  refine ⟨by rw [ldL_len]; exact h.1, fun l hl => ?_⟩
  obtain ⟨i, hi, rfl⟩ := lz_of_mem hl
  rw [ldL_len] at hi
  rw [ldL_lz hi]
  obtain ⟨o1, o2, o3⟩ := h.2 i hi
  exact ⟨o1, o2, o3, hd.1, hd.2⟩
theorem ldL_day {O : List (Nat × Int)} {d : Int} : ∀ l ∈ ldL O d, l.2.2 = d := by
  intro l hl
  obtain ⟨o, _, rfl⟩ := List.mem_map.mp hl
  rfl
theorem p_comeOn {σ : gb_M} {O : List (Nat × Int)} (hok : okO O) (h : ordC σ O) (d : Int) : ∃ σ', f_X2_comeOn [gR 23 0, gI (nZ d)] σ = some (none, σ') ∧ ldC σ' (ldL O d) ∧ gb_fP (fun k => k = 26) σ σ' := by
  have h6 := hok.1
  rw [e_X2_comeOn]
  obtain ⟨τ, h1, h2, h3⟩ := lph (n := O.length) (σ := σ) (fun i τ => j_X2_comeOn_2 (nZ d) (nZ i) τ) (fun i τ => gb_fP (fun k => k = 26) σ τ ∧ ∀ k, k < i → τ.1 26 0 k = nZ d) ⟨fP_rf, fun k hk => by omega⟩ (by
    intro i hi τ ⟨f, h2⟩
    refine ⟨gb_si τ 26 0 i (nZ d), ?_, fP_si f rfl, fun k hk => ?_⟩
    · show j_X2_comeOn_2 _ _ _ = j_X2_comeOn_2 _ _ _
      have e3 : τ.1 23 0 3 = nZ O.length := by rw [f.1 23 0 3 (by omega)]; exact h.1
      rw [e_X2_comeOn_2, e3, if_neg (by rw [z_le ⟨by omega, by omega⟩ ⟨by omega, by omega⟩]; omega), z_tn (by omega), Int.toNat_natCast, g_in (by omega), zs]
    · by_cases e : k = i
      · subst e; rw [si_s]
      · rw [si_i e]; exact h2 k (by omega))
  have e3 : τ.1 23 0 3 = nZ O.length := by rw [h2.1 23 0 3 (by omega)]; exact h.1
  have h1' : j_X2_comeOn_2 (nZ d) 0 σ = j_X2_comeOn_2 (nZ d) (nZ O.length) τ := h1
  refine ⟨τ, by rw [h1', e_X2_comeOn_2, e3, if_pos (Int32.le_refl _)], ⟨by rw [ldL_len]; exact e3, fun i hi => ?_⟩, h2⟩
  rw [ldL_len] at hi
  rw [ldL_lz hi, h2.1 24 0 i (by omega), h2.1 25 0 i (by omega)]
  exact ⟨(h.2 i hi).1, (h.2 i hi).2, h3 i hi⟩
theorem p_worthOfLoads {σ : gb_M} {s : gb_St} {Ls : List gb_Ly} (hC : gb_SC σ 0 s) (hL : ldC σ Ls) (hok : okLs Ls) : f_X7_worthOfLoads [gR 10 0, gR 23 0] σ = some (some (gI (nZ (lF s Ls))), σ) := by
  have h6 := hok.1
  have h1 := lp (n := Ls.length) (fun i => j_X7_worthOfLoads_4 0 (nZ (sL (fun l => l.2.1 * sW s l.1) (Ls.take i))) (nZ i) σ) (by
    intro i hi
    try dsimp only
    obtain ⟨l1, l2, l3, l4, l5⟩ := ls_ok hok hi
    obtain ⟨u1, u2, u3⟩ := hL.2 i hi
    have cW := hC.1.1 (lz Ls i).1 l1
    rw [e_X7_worthOfLoads_4, hL.1, if_neg (by rw [z_le ⟨by omega, by omega⟩ ⟨by omega, by omega⟩]; omega), z_tn (by omega), Int.toNat_natCast, u1, u2, z_tn (by omega), Int.toNat_natCast, cW, z_mul, z_add, g_in (by omega), g_in (by omega), g_in (by omega), zs, sL_take hi])
  have h1' : j_X7_worthOfLoads_4 0 0 0 σ = j_X7_worthOfLoads_4 0 (nZ (lF s Ls)) (nZ Ls.length) σ := by
    rw [List.take_length] at h1
    exact h1
  rw [e_X7_worthOfLoads, h1', e_X7_worthOfLoads_4, hL.1, if_pos (Int32.le_refl _)]
theorem kc_binsR {σ0 σ : gb_M} {A : gb_Ab} {R : List Int64} (h : KC σ0 σ (setR A R)) {n : Nat} (hn : R.length + n ≤ 8) {w : List Nat} {kd : Nat} (hk : kd ≠ 21 ∧ kd ≠ 22) (J : Nat → gb_M → gb_R) (hw : ∀ i, i < n → σ.1 kd 0 i = nZ (wz w i)) (hs : ∀ i, i < n → ∀ τ τ', gb_fP (fun k => k = 21 ∨ k = 22) σ τ → τ.1 kd 0 i = nZ (wz w i) → f_X4_add [gR 21 0, gL (nZ (wz w i)).toInt64] τ = some (none, τ') → J i τ = J (i + 1) τ') : ∃ τ, J 0 σ = J n τ ∧ KC σ0 τ (setR A (R ++ rowOf n (fun i => (nZ (wz w i)).toInt64))) ∧ gb_fP (fun k => k = 21 ∨ k = 22) σ τ := by
  refine lph J (fun i τ => KC σ0 τ (setR A (R ++ rowOf i (fun i => (nZ (wz w i)).toInt64))) ∧ gb_fP (fun k => k = 21 ∨ k = 22) σ τ) ⟨by show KC σ0 σ (setR A (R ++ [])); rw [List.append_nil]; exact h, fP_rf⟩ (fun i hi τ ⟨hK, f⟩ => ?_)
  obtain ⟨τ', a1, a2, a3⟩ := kc_addx hK (by rw [List.length_append, rowOf_len]; omega) (nZ (wz w i)).toInt64
  rw [List.append_assoc] at a2
  exact ⟨τ', hs i hi τ τ' f (by rw [f.1 kd 0 i (by omega)]; exact hw i hi) a1, a2, fP_tr f a3⟩
theorem km_binsR {σ0 σ : gb_M} {A : gb_Ab} {R : List Int64} (h : KM σ0 σ (setR A R)) {n : Nat} (hn : R.length + n ≤ 8) {w : List Nat} (J : Nat → gb_M → gb_R) (hw : ∀ i, i < n → σ.1 50 0 i = nZ (wz w i)) (hs : ∀ i, i < n → ∀ τ τ', gb_fX (fun k => k = 42) (fun x => x = 9) σ τ → τ.1 50 0 i = nZ (wz w i) → f_X10_tell [gR 36 0, gL (nZ (wz w i)).toInt64] τ = some (none, τ') → J i τ = J (i + 1) τ') : ∃ τ, J 0 σ = J n τ ∧ KM σ0 τ (setR A (R ++ rowOf n (fun i => (nZ (wz w i)).toInt64))) ∧ gb_fX (fun k => k = 42) (fun x => x = 9) σ τ := by
  refine lph J (fun i τ => KM σ0 τ (setR A (R ++ rowOf i (fun i => (nZ (wz w i)).toInt64))) ∧ gb_fX (fun k => k = 42) (fun x => x = 9) σ τ) ⟨by show KM σ0 σ (setR A (R ++ [])); rw [List.append_nil]; exact h, fX_rf⟩ (fun i hi τ ⟨hK, f⟩ => ?_)
  obtain ⟨τ', a1, a2, a3⟩ := km_tellx hK (by rw [List.length_append, rowOf_len]; omega) (nZ (wz w i)).toInt64
  rw [List.append_assoc] at a2
  exact ⟨τ', hs i hi τ τ' f (by rw [(f.1 50 0 i (by omega) (by omega)).1]; exact hw i hi) a1, a2, fX_tr f a3⟩
theorem lcU_len {skip : Int} {N : Nat} : ∀ (ls : List gb_Ly) (s : gb_St) (way : List Nat) (gr : Int) (acc : Int × List Nat), way.length + ls.length = N → (acc.1 = 1000000000 ∨ acc.2.length = N) → ((lcU skip ls s way gr acc).1 = 1000000000 ∨ (lcU skip ls s way gr acc).2.length = N)
  | [], s, way, gr, acc, h, ha => by
    unfold lcU
    split
    · exact ha
    · exact Or.inr (by simpa using h)
  | l :: ls, s, way, gr, acc, h, ha => by
    unfold lcU
    refine it_inv _ (fun a : Int × List Nat => a.1 = 1000000000 ∨ a.2.length = N) ha (fun b hb a ha => ?_)
    split
    · exact lcU_len ls _ _ _ _ (by simp at h ⊢; omega) ha
    · exact ha
theorem lcA_len {skip : Int} {s : gb_St} {Ls : List gb_Ly} : (lcA skip s Ls).1 = 1000000000 ∨ (lcA skip s Ls).2.length = Ls.length := lcU_len Ls s [] 0 _ (by simp) (Or.inl rfl)
theorem m_findsWays {σ0 τ : gb_M} {A : gb_Ab} {O : List (Nat × Int)} (hA : wfA A) (h : KM σ0 τ A) (hok : okO O) (hO : ordM τ O) : ∃ τ', f_X10_findsWays [gR 36 0] τ = some (none, τ') ∧ KM σ0 τ' A ∧ jB τ' [] (ml (ldL O (sY A.1)) A.1 [] none) ∧ jQ τ' (ml (ldL O (sY A.1)) A.1 [] none) (fmA A.1 (ldL O (sY A.1))) ∧ τ'.1 36 0 25 = nZ O.length := by
  have hI := hA.1.1
  obtain ⟨y1, y2, -, -⟩ := hI.2.2.2.2.2.2
  have f0 : gb_fX (fun _ => False) (fun x => x = 32) τ (gb_si τ 36 0 32 0) := fX_si fX_rf (Or.inr ⟨rfl, rfl⟩)
  have hM0 : gb_MM (gb_si τ 36 0 32 0) A.1 := MM_fX f0 (fun z => z) h.1.1
  have hLs := ldL_ok hok (d := sY A.1) (by omega)
  have hL0 : ldM (gb_si τ 36 0 32 0) (ldL O (sY A.1)) := ⟨by rw [ldL_len, si_i (by omega)]; exact hO.1, fun i hi => by rw [ldL_len] at hi; rw [ldL_lz hi, si_k (by omega), si_k (by omega)]; exact hO.2 i hi⟩
  obtain ⟨τ', a, b, c, d, e, f, g⟩ := m_ways hLs ldL_day (ldL O (sY A.1)) 8 (by rw [ldL_len]; have := hok.1; omega) A.1 [] 0 none none (gb_si τ 36 0 32 0) (by simp) rfl rfl (by omega) hM0 hL0 ⟨fun i hi => (by cases hi), si_s⟩ rfl (fun a ha => by cases ha)
  have a' : f_X10_laysFrom [gR 36 0, gI 0, gI 0] (gb_si τ 36 0 32 0) = some (none, τ') := (gb_hide_at _ _ _).trans a
  have fa : gb_fX (fun k => k = 37 ∨ k = 49 ∨ k = 50 ∨ k = 51) (fun x => x = 32 ∨ x = 33 ∨ x = 34) τ τ' := fX_tr (fX_w f0 (fun k z => z.elim) (fun x hx => by omega)) g
  exact ⟨τ', by rw [e_X10_findsWays, a', g_b0], KM_back h fa ⟨by omega, by omega, by omega, by omega⟩ ⟨by omega, by omega, by omega, by omega⟩ (fun k hk => by omega) ⟨RM_cg hM0.1 hI.2.2.2.2.2.1 (fun x hx => by rw [Nat.zero_add]; exact e x hx), hM0.2⟩, b, c, by rw [fa.2 25 (by omega)]; exact hO.1⟩
theorem th_lays {A : gb_Ab} (hA : wfA A) : gb_T2 f_X9_lays f_X10_lays [gR 0 0] [gR 36 0] A := by
  cases hr : (rdT A.2.2.2.1).1 with
  | none =>
    refine rd_bad hA hr (fun σ τ x h1 h2 => ?_) (fun σ τ h1 h2 => ?_)
    · rw [e_X9_lays, h1, g_b1, if_neg h2]
    · rw [e_X10_lays, h1, g_b0, if_neg h2]
  | some O =>
    have hok := rdT_ok hr
    have hO6 := hok.1
    have hI := hA.1.1
    obtain ⟨y1, y2, -, -⟩ := hI.2.2.2.2.2.2
    have hLs := ldL_ok hok (d := sY A.1) (by omega)
    have hll := ldL_len (O := O) (d := sY A.1)
    have hrel : RLw (lA A.1 (sY A.1) + 0 + lF A.1 (ldL O (sY A.1))) (lcA (-1) A.1 (ldL O (sY A.1))) (ml (ldL O (sY A.1)) A.1 [] none) := ml_rel (ldL O (sY A.1)) A.1 [] 0 _ none hI (fun l hl => ⟨hLs.2 l hl, ldL_day l hl⟩) (by omega) (by omega) rfl rfl
    -- how both begin
    have cbeg : ∀ σ, KC σ σ A → ∃ τ, KC σ τ (setT A []) ∧ ldC τ (ldL O (sY A.1)) ∧ (∀ i, i < (lcA (-1) A.1 (ldL O (sY A.1))).2.length → τ.1 29 0 i = nZ (wz (lcA (-1) A.1 (ldL O (sY A.1))).2 i)) ∧ (0 ≤ (lcA (-1) A.1 (ldL O (sY A.1))).1 ∧ (lcA (-1) A.1 (ldL O (sY A.1))).1 ≤ 1000000000) ∧ f_X9_lays [gR 0 0] σ = (if 0 ≤ (if 1000000000 ≤ (lcA (-1) A.1 (ldL O (sY A.1))).1 then (-1 : Int32) else nZ (lcA (-1) A.1 (ldL O (sY A.1))).1) then
      gb_b0 (f_X4_start [gR 21 0] τ) (fun s6 => gb_b1 (f_X7_worthOfLoads [gR 10 0, gR 23 0] s6) (fun x8 s7 => gb_b0 (f_X4_add [gR 21 0, gL ((x8 - (if 1000000000 ≤ (lcA (-1) A.1 (ldL O (sY A.1))).1 then (-1 : Int32) else nZ (lcA (-1) A.1 (ldL O (sY A.1))).1)).toInt64)] s7) (fun s9 => j_X9_lays_75 (nZ O.length) 0 s9)))
    else
      some (some (gI (-2)), τ)) := by
      intro σ hC
      obtain ⟨τ1, a1, a2, a3, a4⟩ := p_readOrders hC
      have e : rdE (rdT A.2.2.2.1) = O.length := by unfold rdE; rw [hr]
      rw [e] at a1
      have cY : τ1.1 10 0 9 = nZ (sY A.1) := a2.1.1.1.2.2.2.2.2.2.1
      obtain ⟨τ2, b1, b2, b3⟩ := p_comeOn hok (a3 O hr) (sY A.1)
      have c2 : KC σ τ2 (setT A []) := KC_fP a2 b3 (fun k hk z => by omega) (fun k z => by omega)
      obtain ⟨τ3, d1, d2, d3, d4, d5⟩ := p_leastGrowth c2 hLs b2 (skip := -1) (by omega)
      refine ⟨τ3, d4, ldC_yF d5 b2, d2, d3, ?_⟩
      rw [e_X9_lays, a1, g_b1, if_pos (by rw [z0, z_le ⟨by omega, by omega⟩ ⟨by omega, by omega⟩]; omega), cY, b1, g_b0, nZm1, d1, g_b1]
      rfl
    have mbeg : ∀ σ, KM σ (gb_si σ 36 0 10 0) A → ∃ τ, KM σ τ (setT A []) ∧ jB τ [] (ml (ldL O (sY A.1)) A.1 [] none) ∧ τ.1 36 0 25 = nZ O.length ∧ f_X10_lays [gR 36 0] σ = (if τ.1 36 0 32 = 0 then
      some (some (gI (-2)), τ)
    else
      gb_b0 (f_X10_tell [gR 36 0, gL ((((gb_si τ 36 0 9 0).1 36 0 33) - nZ (lA A.1 (sY A.1))).toInt64)] (gb_si τ 36 0 9 0)) (fun s5 => j_X10_lays_62 0 s5)) := by
      intro σ hM
      obtain ⟨τ1, a1, a2, a3, a4⟩ := m_readsList hM
      unfold rdM at a3
      rw [hr] at a3
      have pA : f_X10_allNow [gR 36 0] τ1 = some (some (gI (nZ (lA A.1 (sY A.1)))), τ1) := m_allNow a2.1.1
      obtain ⟨τ2, b1, b2, b3, b4, b5⟩ := m_findsWays (A := setT A []) hA a2 hok a3.2
      exact ⟨τ2, b2, b3, b5, by rw [e_X10_lays, a1, g_b0, if_pos a3.1, pA, g_b1, b1, g_b0]⟩
    have hlen := lcA_len (skip := -1) (s := A.1) (Ls := ldL O (sY A.1))
    rw [hll] at hlen
    generalize lcA (-1) A.1 (ldL O (sY A.1)) = a at hrel cbeg hlen
    generalize ml (ldL O (sY A.1)) A.1 [] none = m at hrel mbeg
    cases m with
    | none =>
      have h9 : a.1 = 1000000000 := hrel
      refine T2_K (some (gI (-2))) (setT A []) hA (fun σ hC => ?_) (fun σ hM => ?_)
      · obtain ⟨τ, k1, k2, k3, k4, k5⟩ := cbeg σ hC
        refine ⟨τ, ?_, k1⟩
        rw [k5, if_pos (show 1000000000 ≤ a.1 by omega), if_neg (by decide)]
      · obtain ⟨τ, k1, k2, k3, k4⟩ := mbeg σ hM
        refine ⟨τ, ?_, k1⟩
        rw [k4, if_pos k2.2]
    | some x =>
      obtain ⟨r1, r2, r3, r4⟩ := hrel
      have hl : a.2.length = O.length := by
        rcases hlen with h | h
        · omega
        · exact h
      refine T2_K (some (gI (nZ O.length))) (setR (setT A []) (([] ++ [(nZ (lF A.1 (ldL O (sY A.1)) - a.1)).toInt64]) ++ rowOf O.length (fun i => (nZ (wz a.2 i)).toInt64))) hA (fun σ hC => ?_) (fun σ hM => ?_)
      · obtain ⟨τ, k1, k2, k3, k4, k5⟩ := cbeg σ hC
        rw [if_neg (show ¬ 1000000000 ≤ a.1 by omega)] at k5
        obtain ⟨τ1, b1, b2, b3⟩ := kc_startx k1
        have pw := p_worthOfLoads (σ := τ1) (s := A.1) b2.1.1 (⟨by rw [b3.1 23 0 3 (by omega)]; exact k2.1, fun i hi => by rw [b3.1 24 0 i (by omega), b3.1 25 0 i (by omega), b3.1 26 0 i (by omega)]; exact k2.2 i hi⟩ : ldC τ1 (ldL O (sY A.1))) hLs
        obtain ⟨τ2, c1, c2, c3⟩ := kc_addx b2 (by simp) (nZ (lF A.1 (ldL O (sY A.1)) - a.1)).toInt64
        obtain ⟨τ3, d1, d2, d3⟩ := kc_binsR c2 (n := O.length) (by simp; omega) (w := a.2) (kd := 29) (by omega) (fun i τ => j_X9_lays_75 (nZ O.length) (nZ i) τ) (fun i hi => by rw [c3.1 29 0 i (by omega), b3.1 29 0 i (by omega)]; exact k3 i (by omega)) (fun i hi τ τ' f h29 hadd => by
          show j_X9_lays_75 _ _ _ = j_X9_lays_75 _ _ _
          rw [e_X9_lays_75, if_neg (by rw [z_le ⟨by omega, by omega⟩ ⟨by omega, by omega⟩]; omega), z_tn (by omega), Int.toNat_natCast, g_in (by omega), h29, hadd, g_b0, zs])
        refine ⟨τ3, ?_, d2⟩
        have d1' : j_X9_lays_75 (nZ O.length) 0 τ2 = j_X9_lays_75 (nZ O.length) (nZ O.length) τ3 := d1
        rw [k5, if_pos (by rw [z0, z_le ⟨by omega, by omega⟩ ⟨by omega, by omega⟩]; omega), b1, g_b0, pw, g_b1, z_sub, c1, g_b0, d1', e_X9_lays_75, if_pos (Int32.le_refl _)]
      · obtain ⟨τ, k1, k2, k3, k4⟩ := mbeg σ hM
        obtain ⟨k32, k33, k50⟩ := k2.2
        have n32 : ¬ τ.1 36 0 32 = 0 := by rw [k32]; decide
        have b2 := km_start k1
        have e33 : (gb_si τ 36 0 9 0).1 36 0 33 - nZ (lA A.1 (sY A.1)) = nZ (lF A.1 (ldL O (sY A.1)) - a.1) := by
          rw [si_i (by omega), k33, z_sub]
          exact congrArg nZ (by omega)
        obtain ⟨τ2, c1, c2, c3⟩ := km_tellx b2 (by simp) (nZ (lF A.1 (ldL O (sY A.1)) - a.1)).toInt64
        obtain ⟨τ3, d1, d2, d3⟩ := km_binsR c2 (n := O.length) (by simp; omega) (w := a.2) (fun i τ => j_X10_lays_62 (nZ i) τ) (fun i hi => by rw [(c3.1 50 0 i (by omega) (by omega)).1, si_k (by omega), r1]; exact k50 i (by rw [← r1]; omega)) (fun i hi τ' τ'' f h50 hadd => by
          have e25 : τ'.1 36 0 25 = nZ O.length := by rw [f.2 25 (by omega), c3.2 25 (by omega), si_i (by omega)]; exact k3
          show j_X10_lays_62 _ _ = j_X10_lays_62 _ _
          rw [e_X10_lays_62, e25, if_neg (by rw [z_le ⟨by omega, by omega⟩ ⟨by omega, by omega⟩]; omega), z_tn (by omega), Int.toNat_natCast, g_in (by omega), h50, hadd, g_b0, zs])
        refine ⟨τ3, ?_, d2⟩
        have e25 : τ3.1 36 0 25 = nZ O.length := by rw [d3.2 25 (by omega), c3.2 25 (by omega), si_i (by omega)]; exact k3
        have d1' : j_X10_lays_62 0 τ2 = j_X10_lays_62 (nZ O.length) τ3 := d1
        rw [k4, if_neg n32, e33, c1, g_b0, d1', e_X10_lays_62, e25, if_pos (Int32.le_refl _)]
theorem ml_fm : ∀ (ls : List gb_Ly) (s : gb_St) way u (m : Option (Int × List Nat)) (q : Option Nat), (m = none ↔ q = none) → (ml ls s way m = none ↔ fm ls s u q = none)
  | [], s, way, u, m, q, h => by
    cases m with
    | none =>
      rw [h.mp rfl]
      have e1 : ml [] s way none = some (lA s (sY s), way) := rfl
      have e2 : fm [] s u none = some u := rfl
      rw [e1, e2]
      simp
    | some a =>
      cases q with
      | none => exact absurd (h.mpr rfl) (by simp)
      | some v =>
        have e1 : ml [] s way (some a) = if a.1 < lA s (sY s) then some (lA s (sY s), way) else some a := rfl
        have e2 : fm [] s u (some v) = if fwr u (some v) = true then some u else some v := rfl
        rw [e1, e2]
        split <;> split <;> simp
  | l :: ls, s, way, u, m, q, h => by
    unfold ml fm
    refine it_rel (fun (m : Option (Int × List Nat)) (q : Option Nat) => (m = none ↔ q = none)) h (fun b hb m q h => ?_)
    split
    · exact ml_fm ls _ _ _ _ _ h
    · exact h
theorem th_few {A : gb_Ab} (hA : wfA A) : gb_T2 f_X9_few f_X10_few [gR 0 0] [gR 36 0] A := by
  cases hr : (rdT A.2.2.2.1).1 with
  | none =>
    refine rd_bad hA hr (fun σ τ x h1 h2 => ?_) (fun σ τ h1 h2 => ?_)
    · rw [e_X9_few, h1, g_b1, if_neg h2]
    · rw [e_X10_few, h1, g_b0, if_neg h2]
  | some O =>
    have hok := rdT_ok hr
    have hO6 := hok.1
    have hI := hA.1.1
    obtain ⟨y1, y2, -, -⟩ := hI.2.2.2.2.2.2
    have hLs := ldL_ok hok (d := sY A.1) (by omega)
    have cbeg : ∀ σ, KC σ σ A → ∃ τ, KC σ τ (setT A []) ∧ oR (fmA A.1 (ldL O (sY A.1))) ∧ f_X9_few [gR 0 0] σ = (if 0 ≤ nZ (oE (fmA A.1 (ldL O (sY A.1)))) then
      gb_b0 (f_X4_start [gR 21 0] τ) (fun s6 => gb_b0 (f_X4_add [gR 21 0, gL (nZ (oE (fmA A.1 (ldL O (sY A.1))))).toInt64] s6) (fun s7 => gb_b1 (f_J6_bitCount_0f7a4 [gI (nZ (oE (fmA A.1 (ldL O (sY A.1)))))] s7) (fun x9 s8 => some (some (gI x9), s8))))
    else
      some (some (gI (-2)), τ)) := by
      intro σ hC
      obtain ⟨τ1, a1, a2, a3, a4⟩ := p_readOrders hC
      have e : rdE (rdT A.2.2.2.1) = O.length := by unfold rdE; rw [hr]
      rw [e] at a1
      have cY : τ1.1 10 0 9 = nZ (sY A.1) := a2.1.1.1.2.2.2.2.2.2.1
      obtain ⟨τ2, b1, b2, b3⟩ := p_comeOn hok (a3 O hr) (sY A.1)
      have c2 : KC σ τ2 (setT A []) := KC_fP a2 b3 (fun k hk z => by omega) (fun k z => by omega)
      obtain ⟨τ3, d1, d2, d3⟩ := p_fewestBins c2 hLs b2
      refine ⟨τ3, d3, d2, ?_⟩
      rw [e_X9_few, a1, g_b1, if_pos (by rw [z0, z_le ⟨by omega, by omega⟩ ⟨by omega, by omega⟩]; omega), cY, b1, g_b0, d1, g_b1]
      rfl
    have mbeg : ∀ σ, KM σ (gb_si σ 36 0 10 0) A → ∃ τ, KM σ τ (setT A []) ∧ jB τ [] (ml (ldL O (sY A.1)) A.1 [] none) ∧ jQ τ (ml (ldL O (sY A.1)) A.1 [] none) (fmA A.1 (ldL O (sY A.1))) ∧ f_X10_few [gR 36 0] σ = (if τ.1 36 0 32 = 0 then
      some (some (gI (-2)), τ)
    else
      gb_b0 (f_X10_tell [gR 36 0, gL (((gb_si τ 36 0 9 0).1 36 0 34).toInt64)] (gb_si τ 36 0 9 0)) (fun s3 => gb_b1 (f_X10_ones [gI (s3.1 36 0 34)] s3) (fun x5 s4 => some (some (gI x5), s4)))) := by
      intro σ hM
      obtain ⟨τ1, a1, a2, a3, a4⟩ := m_readsList hM
      unfold rdM at a3
      rw [hr] at a3
      obtain ⟨τ2, b1, b2, b3, b4, b5⟩ := m_findsWays (A := setT A []) hA a2 hok a3.2
      exact ⟨τ2, b2, b3, b4, by rw [e_X10_few, a1, g_b0, if_pos a3.1, b1, g_b0]⟩
    have hq : (ml (ldL O (sY A.1)) A.1 [] none = none ↔ fmA A.1 (ldL O (sY A.1)) = none) := ml_fm _ _ _ _ _ _ (by simp)
    generalize hv : fmA A.1 (ldL O (sY A.1)) = q at hq cbeg mbeg
    generalize ml (ldL O (sY A.1)) A.1 [] none = m at hq mbeg
    cases q with
    | none =>
      have hm := hq.mpr rfl
      subst hm
      refine T2_K (some (gI (-2))) (setT A []) hA (fun σ hC => ?_) (fun σ hM => ?_)
      · obtain ⟨τ, k1, k2, k3⟩ := cbeg σ hC
        refine ⟨τ, ?_, k1⟩
        rw [k3, if_neg (by decide)]
      · obtain ⟨τ, k1, k2, k3, k4⟩ := mbeg σ hM
        refine ⟨τ, ?_, k1⟩
        rw [k4, if_pos k2.2]
    | some v =>
      cases m with
      | none => exact absurd (hq.mp rfl) (by simp)
      | some x =>
        have eo : oE (some v) = (v : Int) := rfl
        rw [eo] at cbeg
        refine T2_K (some (gI (nZ (pc v)))) (setR (setT A []) ([] ++ [(nZ v).toInt64])) hA (fun σ hC => ?_) (fun σ hM => ?_)
        · obtain ⟨τ, k1, k2, k3⟩ := cbeg σ hC
          have hv6 := k2 v rfl
          obtain ⟨τ1, b1, b2⟩ := kc_start k1
          obtain ⟨τ2, c1, c2⟩ := kc_add b2 (by simp) (nZ v).toInt64
          refine ⟨τ2, ?_, c2⟩
          rw [k3, if_pos (by rw [z0, z_le ⟨by omega, by omega⟩ ⟨by omega, by omega⟩]; omega), b1, g_b0, c1, g_b0, p_bit τ2 hv6, g_b1]
        · obtain ⟨τ, k1, k2, k3, k4⟩ := mbeg σ hM
          obtain ⟨v', e1, hv6, e34⟩ := k3
          cases e1
          have n32 : ¬ τ.1 36 0 32 = 0 := by rw [k2.2.1]; decide
          obtain ⟨τ2, c1, c2, c3⟩ := km_tellx (km_start k1) (by simp) (nZ v).toInt64
          refine ⟨τ2, ?_, c2⟩
          have e1 : (gb_si τ 36 0 9 0).1 36 0 34 = nZ v := by rw [si_i (by omega)]; exact e34
          have e2 : τ2.1 36 0 34 = nZ v := by rw [c3.2 34 (by omega)]; exact e1
          rw [k4, if_neg n32, e1, c1, g_b0, e2, m_ones τ2 hv6, g_b1]
/-! empties -/
theorem p_takeLayers {σ : gb_M} {s : gb_St} {b : Nat} (hC : gb_SC σ 0 s) (hb : b < 6) : ∃ σ', f_X2_takeLayers [gR 23 0, gR 10 0, gI (nZ b)] σ = some (none, σ') ∧ ldC σ' (sB s b) ∧ gb_fP (fun k => 23 ≤ k ∧ k ≤ 26) σ σ' := by
  obtain ⟨⟨cW, cP, cN, cT, cL, cH, cY, cQ⟩, ⟨rK, rC, rO, rA⟩, iw, ik, io, ic, ip, il, id⟩ := id hC
  obtain ⟨y1, y2, q1, q2⟩ := id
  have hlen := (il b hb).1
  have em : (if nZ (sB s b).length < 6 then nZ (sB s b).length else 6) = nZ (sB s b).length := by
    by_cases c : (sB s b).length < 6
    · rw [if_pos (by rw [z6, z_lt ⟨by omega, by omega⟩ ⟨by omega, by omega⟩]; omega)]
    · rw [if_neg (by rw [z6, z_lt ⟨by omega, by omega⟩ ⟨by omega, by omega⟩]; omega), show (sB s b).length = 6 by omega]; rfl
  rw [e_X2_takeLayers, z_tn (by omega), Int.toNat_natCast, cN b hb, em, g_in (by omega)]
  obtain ⟨τ, h1, h2, h3, h4⟩ := lph (n := (sB s b).length) (σ := gb_si σ 23 0 3 (nZ (sB s b).length)) (fun i τ => j_X2_takeLayers_17 0 (nZ b) (nZ i) τ) (fun i τ => gb_fP (fun k => 23 ≤ k ∧ k ≤ 26) σ τ ∧ τ.1 23 0 3 = nZ (sB s b).length ∧ ∀ k, k < i → τ.1 24 0 k = nZ (lz (sB s b) k).1 ∧ τ.1 25 0 k = nZ (lz (sB s b) k).2.1 ∧ τ.1 26 0 k = nZ (lz (sB s b) k).2.2) ⟨fP_si fP_rf (by omega), si_s, fun k hk => by omega⟩ (by
    intro i hi τ ⟨f, e3, h4⟩
    obtain ⟨g1, g2, g3⟩ := cL b i hb hi
    have e15 : τ.1 15 0 ((b : Int) * 6 + (i : Int)).toNat = nZ (lz (sB s b) i).1 := by rw [f.1 15 0 _ (by omega)]; exact g1
    have e16 : τ.1 16 0 ((b : Int) * 6 + (i : Int)).toNat = nZ (lz (sB s b) i).2.1 := by rw [f.1 16 0 _ (by omega)]; exact g2
    have e17 : τ.1 17 0 ((b : Int) * 6 + (i : Int)).toNat = nZ (lz (sB s b) i).2.2 := by rw [f.1 17 0 _ (by omega)]; exact g3
    refine ⟨gb_si (gb_si (gb_si τ 24 0 i (nZ (lz (sB s b) i).1)) 25 0 i (nZ (lz (sB s b) i).2.1)) 26 0 i (nZ (lz (sB s b) i).2.2), ?_, fP_si (fP_si (fP_si f (by omega)) (by omega)) (by omega), by rw [si_k (by omega), si_k (by omega), si_k (by omega)]; exact e3, fun k hk => ?_⟩
    · show j_X2_takeLayers_17 _ _ _ _ = j_X2_takeLayers_17 _ _ _ _
      rw [e_X2_takeLayers_17, e3, if_neg (by rw [z_le ⟨by omega, by omega⟩ ⟨by omega, by omega⟩]; omega), p_place, g_b1, z_tn (by omega), z_tn (by omega), Int.toNat_natCast, e15, si_k (by omega), e16, si_k (by omega), si_k (by omega), e17, g_in (by omega), g_in (by omega), g_in (by omega), g_in (by omega), g_in (by omega), g_in (by omega), zs]
    · by_cases e : k = i
      · subst e
        simp (disch := omega) only [si_k, si_s, and_self]
      · simp (disch := omega) only [si_k, si_i]
        exact h4 k (by omega))
  have h1' : j_X2_takeLayers_17 0 (nZ b) 0 (gb_si σ 23 0 3 (nZ (sB s b).length)) = j_X2_takeLayers_17 0 (nZ b) (nZ (sB s b).length) τ := h1
  exact ⟨τ, by rw [h1', e_X2_takeLayers_17, h3, if_pos (Int32.le_refl _)], ⟨h3, h4⟩, h2⟩
theorem m_mixedOfOthers {σ : gb_M} {s : gb_St} (hM : gb_MM σ s) {k : Nat} (hk : k < 6) : f_X10_mixedOfOthers [gR 36 0, gI (nZ k)] σ = some (some (gI (nZ (mO k s))), σ) := by
  have h1 := lp (n := 6) (fun b => j_X10_mixedOfOthers_4 (nZ k) (nZ (sm b (fun b => if b = k then 0 else lX s (sB s b)))) (nZ b) σ) (by
    intro b hb
    try dsimp only
    rw [e_X10_mixedOfOthers_4, if_neg (n6 hb), sm_s, zs]
    by_cases e : b = k
    · rw [if_pos (by rw [e]), if_pos e, z0, z_add]
    · rw [if_neg (by rw [z_eq ⟨by omega, by omega⟩ ⟨by omega, by omega⟩]; omega), if_neg e, m_mixedIn hM hb, g_b1, z_add])
  have h1' : j_X10_mixedOfOthers_4 (nZ k) 0 0 σ = j_X10_mixedOfOthers_4 (nZ k) (nZ (mO k s)) (nZ (6 : Nat)) σ := h1
  rw [e_X10_mixedOfOthers, h1', e_X10_mixedOfOthers_4, if_pos y6]
theorem mO_r {s : gb_St} (hI : gb_IV s) (k : Nat) : 0 ≤ mO k s ∧ mO k s ≤ 2117016 := by
  have h1 := sm_nn (n := 6) (f := fun b => if b = k then 0 else lX s (sB s b)) (fun b hb => by
    have := lX_r hI hb
    try dsimp only
    split <;> omega)
  have h2 := sm_ub (n := 6) (f := fun b => if b = k then 0 else lX s (sB s b)) (c := 352836) (fun b hb => by
    have := lX_r hI hb
    try dsimp only
    split <;> omega)
  unfold mO
  omega
