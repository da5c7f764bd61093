/-! FUMES, DRAW, SHIFT: the class -/
def setP (s : gb_St) (b : Nat) (v : Int) : gb_St := (fun k => if k = 54 + b then v else s.1 k, s.2)
def setQ (s : gb_St) (v : Int) : gb_St := (fun k => if k = 175 then v else s.1 k, s.2)
def setY (s : gb_St) (v : Int) : gb_St := (fun k => if k = 174 then v else s.1 k, s.2)
def setW (s : gb_St) (g : Nat) (v : Int) : gb_St := (fun k => if k = g then v else s.1 k, s.2)
theorem sx_n {f : Nat → Int} {k a : Nat} {v : Int} (h : k ≠ a) : (fun k => if k = a then v else f k) k = f k := if_neg h
theorem IV_P {s : gb_St} {b : Nat} {v : Int} (hI : gb_IV s) (hb : b < 6) (hv : 0 ≤ v ∧ v ≤ 10019) : gb_IV (setP s b v) := by
  obtain ⟨iw, ik, io, ic, ip, il, id⟩ := hI
  have e : ∀ k, k ≠ 54 + b → (setP s b v).1 k = s.1 k := fun k hk => if_neg hk
  refine ⟨fun g hg => ?_, fun g hg => ?_, fun g h hg hh => ?_, fun k hk => ?_, fun k hk => ?_, il, ?_⟩
  · unfold sW; rw [e _ (by omega)]; exact iw g hg
  · unfold sK; rw [e _ (by omega)]; exact ik g hg
  · unfold sO; rw [e _ (by omega), e _ (by omega), e _ (by omega)]; exact io g h hg hh
  · unfold sC; rw [e _ (by omega)]; exact ic k hk
  · by_cases ek : k = b
    · subst ek; have : sP (setP s k v) k = v := if_pos rfl; rw [this]; exact hv
    · have := ip k hk; unfold sP at this ⊢; rw [e _ (by omega)]; exact this
  · unfold iD sY sQ; rw [e _ (by omega), e _ (by omega)]; exact id
theorem IV_Q {s : gb_St} {v : Int} (hI : gb_IV s) (hv : 0 ≤ v ∧ v ≤ 2000000000) : gb_IV (setQ s v) := by
  obtain ⟨iw, ik, io, ic, ip, il, id⟩ := hI
  have e : ∀ k, k ≠ 175 → (setQ s v).1 k = s.1 k := fun k hk => if_neg hk
  refine ⟨fun g hg => ?_, fun g hg => ?_, fun g h hg hh => ?_, fun k hk => ?_, fun k hk => ?_, il, ?_⟩
  · unfold sW; rw [e _ (by omega)]; exact iw g hg
  · unfold sK; rw [e _ (by omega)]; exact ik g hg
  · unfold sO; rw [e _ (by omega), e _ (by omega), e _ (by omega)]; exact io g h hg hh
  · unfold sC; rw [e _ (by omega)]; exact ic k hk
  · unfold sP; rw [e _ (by omega)]; exact ip k hk
  · unfold iD sY; rw [e _ (by omega), show sQ (setQ s v) = v from rfl]; exact ⟨id.1, id.2.1, hv.1, hv.2⟩
theorem IV_Y {s : gb_St} {v : Int} (hI : gb_IV s) (hv : 0 ≤ v ∧ v ≤ 9999) : gb_IV (setY s v) := by
  obtain ⟨iw, ik, io, ic, ip, il, id⟩ := hI
  have e : ∀ k, k ≠ 174 → (setY s v).1 k = s.1 k := fun k hk => if_neg hk
  refine ⟨fun g hg => ?_, fun g hg => ?_, fun g h hg hh => ?_, fun k hk => ?_, fun k hk => ?_, il, ?_⟩
  · unfold sW; rw [e _ (by omega)]; exact iw g hg
  · unfold sK; rw [e _ (by omega)]; exact ik g hg
  · unfold sO; rw [e _ (by omega), e _ (by omega), e _ (by omega)]; exact io g h hg hh
  · unfold sC; rw [e _ (by omega)]; exact ic k hk
  · unfold sP; rw [e _ (by omega)]; exact ip k hk
  · unfold iD sQ; rw [e _ (by omega), show sY (setY s v) = v from rfl]; exact ⟨hv.1, hv.2, id.2.2⟩
theorem IV_W {s : gb_St} {g : Nat} {v : Int} (hI : gb_IV s) (hg : g < 6) (hv : 0 ≤ v ∧ v ≤ 999) : gb_IV (setW s g v) := by
  obtain ⟨iw, ik, io, ic, ip, il, id⟩ := hI
  have e : ∀ k, k ≠ g → (setW s g v).1 k = s.1 k := fun k hk => if_neg hk
  refine ⟨fun k hk => ?_, fun k hk => ?_, fun k h hk hh => ?_, fun k hk => ?_, fun k hk => ?_, il, ?_⟩
  · by_cases ek : k = g
    · subst ek; have : sW (setW s k v) k = v := if_pos rfl; rw [this]; exact hv
    · have := iw k hk; unfold sW at this ⊢; rw [e _ ek]; exact this
  · unfold sK; rw [e _ (by omega)]; exact ik k hk
  · unfold sO; rw [e _ (by omega), e _ (by omega), e _ (by omega)]; exact io k h hk hh
  · unfold sC; rw [e _ (by omega)]; exact ic k hk
  · unfold sP; rw [e _ (by omega)]; exact ip k hk
  · unfold iD sY sQ; rw [e _ (by omega), e _ (by omega)]; exact id
/-- the class's store when one of its numbers changes -/
theorem RS_P {σ σ' : gb_M} {j : Nat} {s : gb_St} {b : Nat} {v : Int} (h : gb_RS σ j s) (hb : b < 6) (h12 : σ'.1 12 j b = nZ v) (h12' : ∀ x, x ≠ b → σ'.1 12 j x = σ.1 12 j x) (ho : ∀ k x, k ≠ 12 → σ'.1 k j x = σ.1 k j x) : gb_RS σ' j (setP s b v) := by
  obtain ⟨h1, h2, h3, h4, h5, h6, h7, h8⟩ := h
  have e : ∀ k, k ≠ 54 + b → (setP s b v).1 k = s.1 k := fun k hk => if_neg hk
  refine ⟨fun g hg => ?_, fun k hk => ?_, fun k hk => ?_, fun k hk => ?_, fun k i hk hi => ?_, fun k g hk hg => ?_, ?_, ?_⟩
  · rw [ho _ _ (by omega), h1 g hg]; unfold sW; rw [e _ (by omega)]
  · by_cases ek : k = b
    · subst ek; rw [h12, show sP (setP s k v) k = v from if_pos rfl]
    · rw [h12' k ek, h2 k hk]; unfold sP; rw [e _ (by omega)]
  · rw [ho _ _ (by omega)]; exact h3 k hk
  · rw [ho _ _ (by omega)]; exact h4 k hk
  · rw [ho _ _ (by omega), ho _ _ (by omega), ho _ _ (by omega)]; exact h5 k i hk hi
  · rw [ho _ _ (by omega)]; exact h6 k g hk hg
  · rw [ho _ _ (by omega), h7]; unfold sY; rw [e _ (by omega)]
  · rw [ho _ _ (by omega), h8]; unfold sQ; rw [e _ (by omega)]
theorem RS_Q {σ : gb_M} {j : Nat} {s : gb_St} {v : Int} (h : gb_RS σ j s) : gb_RS (gb_si σ 10 j 10 (nZ v)) j (setQ s v) := by
  obtain ⟨h1, h2, h3, h4, h5, h6, h7, h8⟩ := h
  have e : ∀ k, k ≠ 175 → (setQ s v).1 k = s.1 k := fun k hk => if_neg hk
  refine ⟨fun g hg => ?_, fun k hk => ?_, fun k hk => ?_, fun k hk => ?_, fun k i hk hi => ?_, fun k g hk hg => ?_, ?_, ?_⟩
  · rw [si_k (by omega), h1 g hg]; unfold sW; rw [e _ (by omega)]
  · rw [si_k (by omega), h2 k hk]; unfold sP; rw [e _ (by omega)]
  · rw [si_k (by omega)]; exact h3 k hk
  · rw [si_k (by omega)]; exact h4 k hk
  · rw [si_k (by omega), si_k (by omega), si_k (by omega)]; exact h5 k i hk hi
  · rw [si_k (by omega)]; exact h6 k g hk hg
  · rw [si_i (by omega), h7]; unfold sY; rw [e _ (by omega)]
  · rw [si_s, show sQ (setQ s v) = v from rfl]
theorem RS_Y {σ : gb_M} {j : Nat} {s : gb_St} {v : Int} (h : gb_RS σ j s) : gb_RS (gb_si σ 10 j 9 (nZ v)) j (setY s v) := by
  obtain ⟨h1, h2, h3, h4, h5, h6, h7, h8⟩ := h
  have e : ∀ k, k ≠ 174 → (setY s v).1 k = s.1 k := fun k hk => if_neg hk
  refine ⟨fun g hg => ?_, fun k hk => ?_, fun k hk => ?_, fun k hk => ?_, fun k i hk hi => ?_, fun k g hk hg => ?_, ?_, ?_⟩
  · rw [si_k (by omega), h1 g hg]; unfold sW; rw [e _ (by omega)]
  · rw [si_k (by omega), h2 k hk]; unfold sP; rw [e _ (by omega)]
  · rw [si_k (by omega)]; exact h3 k hk
  · rw [si_k (by omega)]; exact h4 k hk
  · rw [si_k (by omega), si_k (by omega), si_k (by omega)]; exact h5 k i hk hi
  · rw [si_k (by omega)]; exact h6 k g hk hg
  · rw [si_s, show sY (setY s v) = v from rfl]
  · rw [si_i (by omega), h8]; unfold sQ; rw [e _ (by omega)]
theorem RS_W {σ : gb_M} {j : Nat} {s : gb_St} {g : Nat} {v : Int} (hg : g < 6) (h : gb_RS σ j s) : gb_RS (gb_si σ 11 j g (nZ v)) j (setW s g v) := by
  obtain ⟨h1, h2, h3, h4, h5, h6, h7, h8⟩ := h
  have e : ∀ k, k ≠ g → (setW s g v).1 k = s.1 k := fun k hk => if_neg hk
  refine ⟨fun k hk => ?_, fun k hk => ?_, fun k hk => ?_, fun k hk => ?_, fun k i hk hi => ?_, fun k g hk hg => ?_, ?_, ?_⟩
  · by_cases ek : k = g
    · subst ek; rw [si_s, show sW (setW s k v) k = v from if_pos rfl]
    · rw [si_i ek, h1 k hk]; unfold sW; rw [e _ ek]
  · rw [si_k (by omega), h2 k hk]; unfold sP; rw [e _ (by omega)]
  · rw [si_k (by omega)]; exact h3 k hk
  · rw [si_k (by omega)]; exact h4 k hk
  · rw [si_k (by omega), si_k (by omega), si_k (by omega)]; exact h5 k i hk hi
  · rw [si_k (by omega)]; exact h6 k g hk hg
  · rw [si_k (by omega), h7]; unfold sY; rw [e _ (by omega)]
  · rw [si_k (by omega), h8]; unfold sQ; rw [e _ (by omega)]
theorem RR_eq {σ : gb_M} {r : Nat} {s s' : gb_St} (h : gb_RR σ r s) (e : ∀ k, 6 ≤ k → k < 54 → s'.1 k = s.1 k) : gb_RR σ r s' := by
  obtain ⟨r1, r2, r3, r4⟩ := h
  refine ⟨fun g hg => ?_, fun b hb => ?_, fun g k hg hk => ?_, fun g hg => ?_⟩
  · rw [r1 g hg]; unfold sK; rw [e _ (by omega) (by omega)]
  · rw [r2 b hb]; unfold sC; rw [e _ (by omega) (by omega)]
  · rw [r3 g k hg hk]; unfold sO; rw [e _ (by omega) (by omega)]
  · rw [r4 g hg]
    refine bm_cg (fun k hk => ?_)
    unfold sO
    rw [e _ (by omega) (by omega)]
def fum (L : List gb_Ly) (d : Int) : List gb_Ly := L.map (fun l => (l.1, l.2.1, d))
theorem fum_lz {L : List gb_Ly} {d : Int} {i : Nat} (hi : i < L.length) : lz (fum L d) i = ((lz L i).1, (lz L i).2.1, d) := by
  simp [fum, lz, List.getD, hi]
theorem fum_sL {f : gb_Ly → Int} {d : Int} (hf : ∀ g t e, f (g, t, e) = f (g, t, d)) : ∀ {L : List gb_Ly}, sL f (fum L d) = sL f L
  | [] => rfl
  | l :: t => by
    show f (l.1, l.2.1, d) + sL f (fum t d) = f l + sL f t
    rw [fum_sL hf, ← hf l.1 l.2.1 l.2.2]
theorem fum_ok {L : List gb_Ly} {d : Int} (h : ∀ l ∈ L, okL l) (hd : 0 ≤ d ∧ d ≤ 10019) : ∀ l ∈ fum L d, okL l := by
  intro l hl
  obtain ⟨a, ha, rfl⟩ := List.mem_map.mp hl
  obtain ⟨h1, h2, h3, h4⟩ := h a ha
  exact ⟨h1, h2, h3, hd.1, hd.2⟩
section DRAW
variable {σ : gb_M} {j : Nat} {s : gb_St} {b : Nat}
theorem p_fumigate (hC : gb_SC σ j s) (hb : b < 6) {n : Int} (hn : 1 ≤ n ∧ n ≤ 20) : ∃ σ', f_X7_fumigate [gR 10 j, gI (nZ b), gI (nZ n)] σ = some (none, σ') ∧ gb_SC σ' j (setB (setP s b (sY s + n)) b (jn (fum (sB s b) (sY s + n)))) ∧ gb_fS j σ σ' := by
  obtain ⟨⟨cW, cP, cN, cT, cL, cH, cY, cQ⟩, ⟨rK, rC, rO, rA⟩, iw, ik, io, ic, ip, il, id⟩ := id hC
  obtain ⟨y1, y2, q1, q2⟩ := id
  have hlen := (il b hb).1
  rw [e_X7_fumigate]
  simp (disch := omega) only [g_in, z_tn, Int.toNat_natCast, cY, z_add]
  generalize hd : sY s + n = d
  obtain ⟨τ, hJ, f, t12, t12', tk1, t17⟩ := lph (n := (sB s b).length) (σ := gb_si σ 12 j b (nZ d)) (fun i τ => j_X7_fumigate_14 j (nZ b) (nZ i) τ)
    (fun i τ => gb_fS j σ τ ∧ τ.1 12 j b = nZ d ∧ (∀ x, x ≠ b → τ.1 12 j x = σ.1 12 j x) ∧ (∀ k x, k ≠ 12 → (k ≠ 17 ∨ x < b * 6 ∨ b * 6 + i ≤ x) → τ.1 k j x = σ.1 k j x) ∧ ∀ m : Nat, m < i → τ.1 17 j ((b : Int) * 6 + (m : Int)).toNat = nZ d)
    ⟨fS_si fS_rf (by omega), si_s, fun x hx => si_i hx, fun k x hk _ => si_k hk, fun m hm => by omega⟩ (by
    intro i hi τ ⟨f, t12, t12', tk1, t17⟩
    have c13 : τ.1 13 j b = nZ (sB s b).length := by rw [tk1 13 _ (by omega) (by omega)]; exact cN b hb
    refine ⟨gb_si τ 17 j ((b : Int) * 6 + (i : Int)).toNat (nZ d), ?_, fS_si f (by omega), ?_, fun x hx => ?_, fun k x hk hx => ?_, fun m hm => ?_⟩
    · show j_X7_fumigate_14 _ _ _ _ = _
      rw [e_X7_fumigate_14]
      simp (disch := omega) only [z0, z1, z2, z3, z4, z5, z6, z12, z18, z48, z54, z60, z66, z174, z175, z_neg, z_add, z_sub, z_mul, z_tn, g_in, g_b0, g_b1, Int.toNat_natCast, z_le, z_lt, z_eq, z_mx, z_mn, if_pos, if_neg, if_true, if_false, c13, p_place, t12, Int.natCast_add, Int.natCast_one]
    · simp (disch := omega) only [si_k]; exact t12
    · simp (disch := omega) only [si_k]; exact t12' x hx
    · by_cases ek : k = 17
      · subst ek; simp (disch := omega) only [si_i]; exact tk1 17 x hk (by omega)
      · simp (disch := omega) only [si_k]; exact tk1 k x hk (by omega)
    · by_cases e : m = i
      · subst e; simp only [si_s]
      · simp (disch := omega) only [si_i]; exact t17 m (by omega))
  have c13 : τ.1 13 j b = nZ (sB s b).length := by rw [tk1 13 _ (by omega) (by omega)]; exact cN b hb
  have hd' : 0 ≤ d ∧ d ≤ 10019 := by omega
  have hSC : gb_SC τ j (setB (setP s b d) b (fum (sB s b) d)) := by
    have h1 : gb_RS (gb_si σ 12 j b (nZ d)) j (setP s b d) := RS_P hC.1 hb si_s (fun x hx => si_i hx) (fun k x hk => si_k hk)
    have t12a : ∀ x, τ.1 12 j x = (gb_si σ 12 j b (nZ d)).1 12 j x := by
      intro x
      by_cases e : x = b
      · subst e; rw [t12, si_s]
      · rw [t12' x e, si_i e]
    refine ⟨RS_set h1 (fun x => ?_) (fun x => ?_) t12a il ?_ (fun k _ hk => ?_) ?_ (fun k _ hk => ?_) (fun i hi => ?_) (fun k i hk hne hi => ?_) (fun g hg => ?_) (fun k g hk hne hg => ?_), RR_eq (s := s) (fS_RR f hC.2.1) (fun k h1 h2 => if_neg (by omega)), IV_set (IV_P hC.2.2 hb hd') (by unfold fum; rw [List.length_map]; exact hlen) (by rw [show lT (fum (sB s b) d) = lT (sB s b) from fum_sL (fun _ _ _ => rfl)]; exact (il b hb).2.1) (fum_ok (il b hb).2.2 hd')⟩
    · rw [tk1 10 _ (by omega) (by omega), si_k (by omega)]
    · rw [tk1 11 _ (by omega) (by omega), si_k (by omega)]
    · rw [c13]; unfold fum; rw [List.length_map]
    · rw [tk1 13 _ (by omega) (by omega), si_k (by omega)]
    · rw [tk1 14 _ (by omega) (by omega), cT b hb]; exact congrArg nZ (fum_sL (fun _ _ _ => rfl)).symm
    · rw [tk1 14 _ (by omega) (by omega), si_k (by omega)]
    · have hi' : i < (sB s b).length := by unfold fum at hi; rwa [List.length_map] at hi
      rw [fum_lz hi', tk1 15 _ (by omega) (by omega), tk1 16 _ (by omega) (by omega), t17 i hi']
      exact ⟨(cL b i hb hi').1, (cL b i hb hi').2.1, rfl⟩
    · rw [tk1 15 _ (by omega) (by omega), tk1 16 _ (by omega) (by omega), tk1 17 _ (by omega) (by omega), si_k (by omega), si_k (by omega), si_k (by omega)]
      exact ⟨rfl, rfl, rfl⟩
    · rw [tk1 18 _ (by omega) (by omega), cH b g hb hg]; exact congrArg nZ (fum_sL (f := fun l => if l.1 = g then l.2.1 else 0) (fun _ _ _ => rfl)).symm
    · rw [tk1 18 _ (by omega) (by omega), si_k (by omega)]
  obtain ⟨σ', a1, a2, a3⟩ := p_join hSC hb
  rw [sB_s, setB2] at a2
  refine ⟨σ', ?_, a2, fS_tr f a3⟩
  rw [show (0 : Int32) = nZ ((0 : Nat) : Int) from rfl, hJ, e_X7_fumigate_14]
  simp (disch := omega) only [z0, z1, z2, z3, z4, z5, z6, z12, z18, z48, z54, z60, z66, z174, z175, z_neg, z_add, z_sub, z_mul, z_tn, g_in, g_b0, g_b1, Int.toNat_natCast, z_le, z_lt, z_eq, z_mx, z_mn, if_pos, if_neg, if_true, if_false, c13, a1]
theorem p_drawOut (hC : gb_SC σ j s) (hb : b < 6) {t : Int} (ht : 0 ≤ t ∧ t ≤ 99) : ∃ σ', f_X7_drawOut [gR 10 j, gI (nZ b), gI (nZ t)] σ = some (some (gI (nZ (t * mnU s (sY s) (sB s b) t))), σ') ∧ gb_SC σ' j (setQ (setB s b (tk (sB s b) t)) (min 2000000000 (sQ s + t * mnU s (sY s) (sB s b) t))) ∧ gb_fS j σ σ' := by
  obtain ⟨⟨cW, cP, cN, cT, cL, cH, cY, cQ⟩, ⟨rK, rC, rO, rA⟩, iw, ik, io, ic, ip, il, id⟩ := id hC
  obtain ⟨y1, y2, q1, q2⟩ := id
  have hlen := (il b hb).1
  have hok := (il b hb).2.2
  have hT99 := (il b hb).2.1
  have okt : ∀ n, ∀ x ∈ (sB s b).take n, okL x := fun n x hx => hok x (List.mem_of_mem_take hx)
  obtain ⟨σ', a1, a2, a3⟩ := p_take hC hb ht
  rw [e_X7_drawOut]
  have st : ∀ i, i < (sB s b).length → j_X7_drawOut_7 j (nZ b) (nZ t) (nZ (mnU s (sY s) ((sB s b).take i) t)) (nZ i) σ = j_X7_drawOut_7 j (nZ b) (nZ t) (nZ (mnU s (sY s) ((sB s b).take (i + 1)) t)) (nZ (i + 1 : Nat)) σ := by
    intro i hi
    have hu := sU_r (on := sY s) iw (lz_ok il hb hi)
    have hpr := pB_r (t := t) il hb hi
    have hl := lz_ok il hb hi
    have hm := mnU_r (on := sY s) (t := t) iw (okt i)
    have happ := mnU_app (s := s) (on := sY s) (A := (sB s b).take i) (l := lz (sB s b) i) (t := t) (okt i) hu.2
    rw [← lz_take hi] at happ
    have hl2 := hl.2.1
    have hl3 := hl.2.2.1
    rw [e_X7_drawOut_7, happ]
    by_cases h : lT ((sB s b).take i) < t
    · have hp : 0 < pB (sB s b) i t := by unfold pB; omega
      rw [if_pos h]
      simp (disch := omega) only [z0, z1, z2, z3, z4, z5, z6, z12, z18, z48, z54, z60, z66, z174, z175, z_neg, z_add, z_sub, z_mul, z_tn, g_in, g_b0, g_b1, Int.toNat_natCast, z_le, z_lt, z_eq, z_mx, z_mn, if_pos, if_neg, if_true, if_false, cN, p_partBelow hC hb hi ht, p_place, cY, p_unit hC.1 hC.2.1 hC.2.2 hb hi (on := sY s) (by omega), Int.natCast_add, Int.natCast_one]
    · have hp : pB (sB s b) i t = 0 := by unfold pB; omega
      rw [if_neg h, show min (mnU s (sY s) ((sB s b).take i) t) 999 = mnU s (sY s) ((sB s b).take i) t by omega]
      simp (disch := omega) only [z0, z1, z2, z3, z4, z5, z6, z12, z18, z48, z54, z60, z66, z174, z175, z_neg, z_add, z_sub, z_mul, z_tn, g_in, g_b0, g_b1, Int.toNat_natCast, z_le, z_lt, z_eq, z_mx, z_mn, if_pos, if_neg, if_true, if_false, cN, p_partBelow hC hb hi ht, hp, Int.natCast_add, Int.natCast_one]
  have h0 : mnU s (sY s) ((sB s b).take 0) t = 999 := rfl
  have hJ := lp (n := (sB s b).length) (fun i => j_X7_drawOut_7 j (nZ b) (nZ t) (nZ (mnU s (sY s) ((sB s b).take i) t)) (nZ i) σ) st
  simp only [h0, List.take_length] at hJ
  have hm := mnU_r (on := sY s) (t := t) iw hok
  have hb1 : 0 ≤ t * mnU s (sY s) (sB s b) t := Int.mul_nonneg ht.1 hm.1
  have hb2 : t * mnU s (sY s) (sB s b) t ≤ 99 * 999 := Int.mul_le_mul ht.2 hm.2 hm.1 (by omega)
  have cQ' : σ'.1 10 j 10 = nZ (sQ s) := a2.1.2.2.2.2.2.2.2
  refine ⟨gb_si σ' 10 j 10 (nZ (min 2000000000 (sQ s + t * mnU s (sY s) (sB s b) t))), ?_, ⟨RS_Q a2.1, RR_eq (s := setB s b (tk (sB s b) t)) (fS_RR (fS_si fS_rf (by omega)) a2.2.1) (fun k h1 h2 => if_neg (by omega)), IV_Q a2.2.2 (by omega)⟩, fS_si a3 (by omega)⟩
  rw [show (999 : Int32) = nZ 999 from rfl, show (0 : Int32) = nZ ((0 : Nat) : Int) from rfl, hJ, e_X7_drawOut_7]
  simp (disch := omega) only [z0, z1, z2, z3, z4, z5, z6, z12, z18, z48, z54, z60, z66, z174, z175, z_neg, z_add, z_sub, z_mul, z_tn, g_in, g_b0, g_b1, Int.toNat_natCast, z_le, z_lt, z_eq, z_mx, z_mn, if_pos, if_neg, if_true, if_false, cN, a1, cQ', show (2000000000 : Int32) = nZ 2000000000 from rfl]
end DRAW
