/-! WAYS: the reference's searches -/
def ldM (σ : gb_M) (Ls : List gb_Ly) : Prop := σ.1 36 0 25 = nZ Ls.length ∧ ∀ i, i < Ls.length → σ.1 47 0 i = nZ (lz Ls i).1 ∧ σ.1 48 0 i = nZ (lz Ls i).2.1
abbrev wX : gb_M → gb_M → Prop := gb_fX (fun k => k = 37 ∨ k = 49 ∨ k = 50 ∨ k = 51) (fun x => x = 32 ∨ x = 33 ∨ x = 34)
theorem ldM_fX {Q I : Nat → Prop} {σ σ' : gb_M} {Ls : List gb_Ly} (f : gb_fX Q I σ σ') (hq : ¬ Q 47 ∧ ¬ Q 48) (hi : ¬ I 25) (h : ldM σ Ls) : ldM σ' Ls := ⟨by rw [f.2 25 hi]; exact h.1, fun i hx => by rw [(f.1 47 0 i (by omega) hq.1).1, (f.1 48 0 i (by omega) hq.2).1]; exact h.2 i hx⟩
/-- the best so far: VALUE (or growth) and row; the bins -/
def jB (σ : gb_M) (way : List Nat) (m : Option (Int × List Nat)) : Prop := (∀ i, i < way.length → σ.1 49 0 i = nZ (wz way i)) ∧ match m with
  | none => σ.1 36 0 32 = 0
  | some a => σ.1 36 0 32 = 1 ∧ σ.1 36 0 33 = nZ a.1 ∧ ∀ i, i < a.2.length → σ.1 50 0 i = nZ (wz a.2 i)
def jQ (σ : gb_M) (m : Option (Int × List Nat)) (q : Option Nat) : Prop := match m with
  | none => q = none
  | some _ => ∃ v, q = some v ∧ v < 64 ∧ σ.1 36 0 34 = nZ v
theorem jB_fX {Q I : Nat → Prop} {σ σ' : gb_M} {way : List Nat} {m : Option (Int × List Nat)} (f : gb_fX Q I σ σ') (hq : ¬ Q 49 ∧ ¬ Q 50) (hi : ¬ I 32 ∧ ¬ I 33) (h : jB σ way m) : jB σ' way m := by
  refine ⟨fun i hx => by rw [(f.1 49 0 i (by omega) hq.1).1]; exact h.1 i hx, ?_⟩
  have h2 := h.2
  cases m with
  | none => exact (f.2 32 hi.1).trans h2
  | some a => exact ⟨(f.2 32 hi.1).trans h2.1, (f.2 33 hi.2).trans h2.2.1, fun i hx => by rw [(f.1 50 0 i (by omega) hq.2).1]; exact h2.2.2 i hx⟩
theorem jQ_fX {Q I : Nat → Prop} {σ σ' : gb_M} {m : Option (Int × List Nat)} {q : Option Nat} (f : gb_fX Q I σ σ') (hi : ¬ I 34) (h : jQ σ m q) : jQ σ' m q := by
  cases m with
  | none => exact h
  | some a =>
    obtain ⟨v, h1, h2, h3⟩ := h
    exact ⟨v, h1, h2, (f.2 34 hi).trans h3⟩
theorem jB_way {σ : gb_M} {way : List Nat} {m : Option (Int × List Nat)} {b : Nat} (h : jB σ way m) : jB (gb_si σ 49 0 way.length (nZ b)) (way ++ [b]) m := by
  refine ⟨fun i hi => ?_, ?_⟩
  · rw [List.length_append] at hi
    have hi : i < way.length + 1 := hi
    by_cases e : i = way.length
    · subst e; rw [si_s, wz_2]
    · rw [si_i e, wz_1 (by omega)]; exact h.1 i (by omega)
  · have h2 := h.2
    cases m with
    | none => exact h2
    | some a => exact ⟨h2.1, h2.2.1, fun i hx => by rw [si_k (by omega)]; exact h2.2.2 i hx⟩
theorem jB_unway {σ : gb_M} {way : List Nat} {m : Option (Int × List Nat)} {b : Nat} (h : jB σ (way ++ [b]) m) : jB σ way m :=
  ⟨fun i hi => by rw [h.1 i (by rw [List.length_append]; omega), wz_1 hi], h.2⟩
/-- a row is found -/
theorem m_found (σ : gb_M) {way : List Nat} (hw : ∀ i, i < way.length → σ.1 49 0 i = nZ (wz way i)) (h6 : way.length ≤ 6) : ∃ σ', f_X10_findsRow [gR 36 0, gI (nZ way.length)] σ = some (none, σ') ∧ (∀ i, i < way.length → σ'.1 50 0 i = nZ (wz way i)) ∧ gb_fX (fun k => k = 50) (fun _ => False) σ σ' := by
  obtain ⟨τ, a1, a2, a3⟩ := m_findsRow σ h6
  exact ⟨τ, a1, fun i hi => by rw [a2 i hi]; exact hw i hi, fP_fX0 a3 (fun k _ h => h) (by omega)⟩
theorem lA_rz {s : gb_St} {on : Int} (hI : gb_IV s) : rZ (lA s on) := by
  have := lA_r (on := on) hI
  constructor <;> omega
def mB (m : Option (Int × List Nat)) : Prop := ∀ a, m = some a → rZ a.1 ∧ a.2.length ≤ 6
theorem m_leaf {σ : gb_M} {st : gb_St} {way : List Nat} {u : Nat} {m : Option (Int × List Nat)} {q : Option Nat} {n : Nat} (hM : gb_MM σ st) (hn : way.length ≤ 6) (h25 : σ.1 36 0 25 = nZ way.length) (hu : u < 64) (hB : jB σ way m) (hQ : jQ σ m q) (hm : mB m) : ∃ σ', g_X10_laysFrom (n + 1) [gR 36 0, gI (nZ way.length), gI (nZ u)] σ = some (none, σ') ∧ jB σ' way (ml [] st way m) ∧ jQ σ' (ml [] st way m) (fm [] st u q) ∧ mB (ml [] st way m) ∧ gb_fX (fun k => k = 50) (fun x => x = 32 ∨ x = 33 ∨ x = 34) σ σ' := by
  have hz := lA_rz (on := sY st) hM.2
  rw [e_X10_laysFrom, h25, if_pos rfl, m_allNow hM, g_b1]
  -- a better way
  have better : ∃ τ, f_X10_findsRow [gR 36 0, gI (nZ way.length)] (gb_si σ 36 0 33 (nZ (lA st (sY st)))) = some (none, τ) ∧ (∀ i, i < way.length → τ.1 50 0 i = nZ (wz way i)) ∧ gb_fX (fun k => k = 50) (fun x => x = 33) σ τ ∧ τ.1 36 0 33 = nZ (lA st (sY st)) := by
    obtain ⟨τ, a1, a2, a3⟩ := m_found (gb_si σ 36 0 33 (nZ (lA st (sY st)))) (way := way) (fun i hi => by rw [si_k (by omega)]; exact hB.1 i hi) hn
    exact ⟨τ, a1, a2, fX_tr (fX_si fX_rf (Or.inr ⟨rfl, rfl⟩)) (fX_w a3 (fun k h => h) (fun x h => h.elim)), by rw [a3.2 33 (fun z => z), si_s]⟩
  cases m with
  | none =>
    have h32 : σ.1 36 0 32 = 0 := hB.2
    have hq : q = none := hQ
    subst hq
    obtain ⟨τ, b1, b2, b3, b4⟩ := better
    rw [if_pos h32, b1, g_b0]
    have t32 : τ.1 36 0 32 = 0 := by rw [b3.2 32 (by omega)]; exact h32
    have fe : gb_fX (fun k => k = 50) (fun x => x = 32 ∨ x = 33 ∨ x = 34) σ (gb_si (gb_si τ 36 0 34 (nZ u)) 36 0 32 1) := fX_si (fX_si (fX_w b3 (fun k h => h) (fun x h => Or.inr (Or.inl h))) (Or.inr ⟨rfl, by omega⟩)) (Or.inr ⟨rfl, by omega⟩)
    refine ⟨_, m_tail0 hu t32, ⟨fun i hi => by rw [(fe.1 49 0 i (by omega) (by omega)).1]; exact hB.1 i hi, si_s, by rw [si_i (by omega), si_i (by omega)]; exact b4, fun i hi => by rw [si_k (by omega), si_k (by omega)]; exact b2 i hi⟩, ⟨u, rfl, hu, by rw [si_i (by omega), si_s]⟩, fun a ha => by cases ha; exact ⟨hz, hn⟩, fe⟩
  | some a =>
    obtain ⟨h32, h33, h50⟩ := hB.2
    obtain ⟨v, hv1, hv2, hv3⟩ := hQ
    subst hv1
    obtain ⟨ha1, ha2⟩ := hm a rfl
    have hn32 : ¬ σ.1 36 0 32 = 0 := by rw [h32]; decide
    rw [if_neg hn32, h33]
    have ef : fm [] st u (some v) = if fwr u (some v) = true then some u else some v := rfl
    have em : ml [] st way (some a) = if a.1 < lA st (sY st) then some (lA st (sY st), way) else some a := rfl
    rw [ef, em]
    -- the set, behind either
    have tl : ∀ (s : gb_M) (w : Int × List Nat), gb_fX (fun k => k = 50) (fun x => x = 33) σ s → s.1 36 0 33 = nZ w.1 → (∀ i, i < w.2.length → s.1 50 0 i = nZ (wz w.2 i)) → rZ w.1 ∧ w.2.length ≤ 6 → ∃ σ', some ((none : Option gb_V), gb_si (if fwr u (some v) = true then gb_si s 36 0 34 (nZ u) else s) 36 0 32 1) = some (none, σ') ∧ jB σ' way (some w) ∧ jQ σ' (some w) (if fwr u (some v) = true then some u else some v) ∧ mB (some w) ∧ gb_fX (fun k => k = 50) (fun x => x = 32 ∨ x = 33 ∨ x = 34) σ σ' := by
      intro s w f e33 e50 hw
      have fw : gb_fX (fun k => k = 50) (fun x => x = 32 ∨ x = 33 ∨ x = 34) σ s := fX_w f (fun k h => h) (fun x h => Or.inr (Or.inl h))
      by_cases c : fwr u (some v) = true
      · rw [if_pos c, if_pos c]
        have fe : gb_fX (fun k => k = 50) (fun x => x = 32 ∨ x = 33 ∨ x = 34) σ (gb_si (gb_si s 36 0 34 (nZ u)) 36 0 32 1) := fX_si (fX_si fw (Or.inr ⟨rfl, by omega⟩)) (Or.inr ⟨rfl, by omega⟩)
        exact ⟨_, rfl, ⟨fun i hi => by rw [(fe.1 49 0 i (by omega) (by omega)).1]; exact hB.1 i hi, si_s, by rw [si_i (by omega), si_i (by omega)]; exact e33, fun i hi => by rw [si_k (by omega), si_k (by omega)]; exact e50 i hi⟩, ⟨u, rfl, hu, by rw [si_i (by omega), si_s]⟩, fun x hx => by cases hx; exact hw, fe⟩
      · rw [if_neg c, if_neg c]
        have fe : gb_fX (fun k => k = 50) (fun x => x = 32 ∨ x = 33 ∨ x = 34) σ (gb_si s 36 0 32 1) := fX_si fw (Or.inr ⟨rfl, by omega⟩)
        exact ⟨_, rfl, ⟨fun i hi => by rw [(fe.1 49 0 i (by omega) (by omega)).1]; exact hB.1 i hi, si_s, by rw [si_i (by omega)]; exact e33, fun i hi => by rw [si_k (by omega)]; exact e50 i hi⟩, ⟨v, rfl, hv2, by rw [si_i (by omega), f.2 34 (by omega)]; exact hv3⟩, fun x hx => by cases hx; exact hw, fe⟩
    by_cases c : a.1 < lA st (sY st)
    · obtain ⟨τ, b1, b2, b3, b4⟩ := better
      rw [if_neg (by rw [z_le hz ha1]; omega), if_pos c, b1, g_b0, m_tail1 hu hv2 (by rw [b3.2 32 (by omega)]; exact h32) (by rw [b3.2 34 (by omega)]; exact hv3)]
      exact tl τ (lA st (sY st), way) b3 b4 b2 ⟨hz, hn⟩
    · rw [if_pos (by rw [z_le hz ha1]; omega), if_neg c, m_tail1 hu hv2 h32 hv3]
      exact tl σ a fX_rf h33 h50 ⟨ha1, ha2⟩
theorem m_ways {Ls : List gb_Ly} (hok : okLs Ls) {day : Int} (hday : ∀ l ∈ Ls, l.2.2 = day) : ∀ (ls : List gb_Ly) (d : Nat), ls.length < d → ∀ (st : gb_St) (way : List Nat) (u : Nat) (m : Option (Int × List Nat)) (q : Option Nat) (σ : gb_M), way.length ≤ Ls.length → Ls.drop way.length = ls → sY st = day → u < 64 → gb_MM σ st → ldM σ Ls → jB σ way m → jQ σ m q → mB m → ∃ σ', g_X10_laysFrom d [gR 36 0, gI (nZ way.length), gI (nZ u)] σ = some (none, σ') ∧ jB σ' way (ml ls st way m) ∧ jQ σ' (ml ls st way m) (fm ls st u q) ∧ mB (ml ls st way m) ∧ (∀ x, x < 176 → σ'.1 37 0 x = σ.1 37 0 x) ∧ (∀ x, x < 176 * way.length → σ'.1 51 0 x = σ.1 51 0 x) ∧ wX σ σ'
  | ls, 0, hd, _, _, _, _, _, _, _, _, _, _, _, _, _, _, _ => absurd hd (by omega)
  | [], d + 1, hd, st, way, u, m, q, σ, hwl, hdr, hY, hu, hM, hL, hB, hQ, hm => by
    have h6 := hok.1
    have hn := drop_n hwl hdr
    obtain ⟨σ', a, b, c, e, f⟩ := m_leaf (n := d) hM (by omega) (by rw [hL.1, hn]) hu hB hQ hm
    exact ⟨σ', a, b, c, e, fun x _ => (f.1 37 0 x (by omega) (by omega)).1, fun x _ => (f.1 51 0 x (by omega) (by omega)).1, fX_w f (fun k hk => by omega) (fun x hx => by omega)⟩
  | l :: ls, d + 1, hd, st, way, u, m, q, σ, hwl, hdr, hY, hu, hM, hL, hB, hQ, hm => by
    have h6 := hok.1
    obtain ⟨k1, k2, k3, k4⟩ := drop_c hdr
    have hl := hok.2 l k4
    have hld := hday l k4
    obtain ⟨y1, y2, -, -⟩ := hM.2.2.2.2.2.2.2
    have em : ml (l :: ls) st way m = it 6 m (fun b a => if mlb (-1) st b l = true then ml ls (lyS st b l) (way ++ [b]) a else a) := rfl
    have ef : fm (l :: ls) st u q = it 6 q (fun b a => if mlb (-1) st b l = true then fm ls (lyS st b l) (orb u b) a else a) := rfl
    rw [em, ef, e_X10_laysFrom, hL.1, if_neg (by rw [z_eq ⟨by omega, by omega⟩ ⟨by omega, by omega⟩]; omega)]
    generalize hF : (fun (b : Nat) (a : Option (Int × List Nat)) => if mlb (-1) st b l = true then ml ls (lyS st b l) (way ++ [b]) a else a) = F
    generalize hE : (fun (b : Nat) (a : Option Nat) => if mlb (-1) st b l = true then fm ls (lyS st b l) (orb u b) a else a) = E
    obtain ⟨τ1, l1, l2, l3, l4⟩ := m_laysDown σ (k := way.length) (by omega)
    have f1 : gb_fX (fun k => k = 51) (fun _ => False) σ τ1 := fP_fX0 l2 (fun k _ h => h) (by omega)
    obtain ⟨τ, h1, h2, h3, h4, h5, h7, h8, h9⟩ := lph (n := 6) (σ := τ1) (fun i τ => j_X10_laysFrom_111 (g_X10_laysFrom d) (nZ way.length) (nZ u) (nZ i) τ) (fun i τ => jB τ way (it i m F) ∧ jQ τ (it i m F) (it i q E) ∧ mB (it i m F) ∧ (∀ x, x < 176 → τ.1 37 0 x = σ.1 37 0 x) ∧ (∀ x, x < 176 → τ.1 51 0 (176 * way.length + x) = σ.1 37 0 x) ∧ (∀ x, x < 176 * way.length → τ.1 51 0 x = σ.1 51 0 x) ∧ wX σ τ) ⟨jB_fX f1 ⟨by omega, by omega⟩ ⟨fun z => z, fun z => z⟩ hB, jQ_fX f1 (fun z => z) hQ, hm, fun x hx => by rw [l2.1 37 0 x (by omega)], fun x hx => by rw [l3 x hx], fun x hx => by rw [l4 x (Or.inl hx)], fX_w f1 (fun k hk => by omega) (fun x hx => hx.elim)⟩ (by
      intro b hb τ ⟨h2, h3, h4, h5, h7, h8, h9⟩
      show ∃ τ', _ = _ ∧ jB τ' way (F b (it b m F)) ∧ jQ τ' (F b (it b m F)) (E b (it b q E)) ∧ mB (F b (it b m F)) ∧ (∀ x, x < 176 → τ'.1 37 0 x = σ.1 37 0 x) ∧ (∀ x, x < 176 → τ'.1 51 0 (176 * way.length + x) = σ.1 37 0 x) ∧ (∀ x, x < 176 * way.length → τ'.1 51 0 x = σ.1 51 0 x) ∧ wX σ τ'
      generalize it b m F = a at h2 h3 h4 ⊢
      generalize it b q E = c at h3 ⊢
      have hMt : gb_MM τ st := ⟨RM_cg hM.1 hM.2.2.2.2.2.2.1 (fun x hx => by rw [Nat.zero_add]; exact h5 x hx), hM.2⟩
      have hLt := ldM_fX h9 ⟨by omega, by omega⟩ (by omega) hL
      have mY : τ.1 37 0 174 = nZ (sY st) := by
        have := hMt.1.2.2.2.2.2.2.2.1
        rwa [Nat.zero_add] at this
      obtain ⟨q1, q2⟩ := hLt.2 way.length k1
      rw [k2] at q1 q2
      have hw := m_why hMt hb (g := l.1) (t := l.2.1) (d := sY st) hl.1 (by have := hl.2.1; have := hl.2.2.1; omega) (by omega)
      have hwr := sWhy_r (s := st) (b := b) (g := l.1) (t := l.2.1) (d := sY st)
      have eF : F b a = if mlb (-1) st b l = true then ml ls (lyS st b l) (way ++ [b]) a else a := by rw [← hF]
      have eE : E b c = if mlb (-1) st b l = true then fm ls (lyS st b l) (orb u b) c else c := by rw [← hE]
      rw [eF, eE]
      have hmw : mlb (-1) st b l = true ↔ sWhy st b l.1 l.2.1 (sY st) = 0 := by
        rw [hY, ← hld]
        exact ⟨fun h => (mlb_t h).2, fun h => decide_eq_true ⟨by omega, h⟩⟩
      by_cases c2 : mlb (-1) st b l = true
      · have w0 := hmw.mp c2
        rw [if_pos c2, if_pos c2]
        obtain ⟨o1, o2, o3, o4⟩ := orb_r hu hb
        have hlen : (way ++ [b]).length = way.length + 1 := by simp
        obtain ⟨-, hT, hroom⟩ := IV_lay hM.2 hb hl.1 hl.2.1 (d := sY st) (by omega) w0
        have fa : gb_fP (fun k => k = 49) τ (gb_si τ 49 0 way.length (nZ b)) := fP_si fP_rf rfl
        obtain ⟨τ2, u1, u2, u3, -⟩ := m_lies (fP_MM fa (by omega) hMt) hb (g := l.1) (t := l.2.1) (d := sY st) hl.1 hl.2.1 hT (by omega) hroom
        have e2 : setB st b (lay1 (sB st b) l.1 l.2.1 (sY st)) = lyS st b l := by unfold lyS; rw [hld, hY]
        rw [e2] at u2
        have f2 : gb_fX (fun k => k = 37) (fun _ => False) (gb_si τ 49 0 way.length (nZ b)) τ2 := fP_fX0 u3 (fun k _ h => h) (by omega)
        have f2' : wX τ τ2 := fX_tr (fX_si fX_rf (Or.inl ⟨by omega, by omega⟩)) (fX_w f2 (fun k hk => by omega) (fun x hx => hx.elim))
        obtain ⟨τ3, v1, v2, v3, v4, v5, v6, v7⟩ := m_ways hok hday ls d (by simp at hd; omega) (lyS st b l) (way ++ [b]) (orb u b) a c τ2 (by omega) (by rw [hlen]; exact k3) hY o1 u2 (ldM_fX f2' ⟨by omega, by omega⟩ (by omega) hLt) (jB_fX f2 ⟨by omega, by omega⟩ ⟨fun z => z, fun z => z⟩ (jB_way h2)) (jQ_fX f2 (fun z => z) (jQ_fX (Q := fun k => k = 49) (I := fun _ => False) (fX_si fX_rf (Or.inl ⟨by omega, rfl⟩)) (fun z => z) h3)) h4
        rw [hlen] at v1 v6
        obtain ⟨τ4, w1, w2, w3⟩ := m_takesUp τ3 (k := way.length) (by omega)
        have f4 : gb_fX (fun k => k = 37) (fun _ => False) τ3 τ4 := fP_fX0 w2 (fun k _ h => h) (by omega)
        have e51 : ∀ x, τ2.1 51 0 x = τ.1 51 0 x := fun x => by rw [(f2.1 51 0 x (by omega) (by omega)).1, si_k (by omega)]
        refine ⟨τ4, ?_, jB_fX f4 ⟨by omega, by omega⟩ ⟨fun z => z, fun z => z⟩ (jB_unway v2), jQ_fX f4 (fun z => z) v3, v4, fun x hx => ?_, fun x hx => ?_, fun x hx => ?_, fX_tr h9 (fX_tr f2' (fX_tr v7 (fX_w f4 (fun k hk => Or.inl hk) (fun x hx => hx.elim))))⟩
        · rw [e_X10_laysFrom_111, if_neg (n6 hb), z_tn (by omega), Int.toNat_natCast, q1, q2, e174, mY, hw, g_b1, w0, if_pos (show nZ 0 = 0 from rfl), si_k (by omega), si_k (by omega), si_k (by omega), q1, q2, mY, u1, g_b0, zs, o4, v1, g_b0, w1, g_b0, g174, g174, g_in (by omega), g_in (by omega), g_in (by omega), g_in (by omega), g_in (by omega), zs]
        · rw [w3 x hx, v6 _ (by omega), e51]; exact h7 x hx
        · rw [w2.1 51 0 _ (by omega), v6 _ (by omega), e51]; exact h7 x hx
        · rw [w2.1 51 0 _ (by omega), v6 _ (by omega), e51]; exact h8 x hx
      · have w0 : ¬ sWhy st b l.1 l.2.1 (sY st) = 0 := fun z => c2 (hmw.mpr z)
        rw [if_neg c2, if_neg c2]
        refine ⟨τ, ?_, h2, h3, h4, h5, h7, h8, h9⟩
        rw [e_X10_laysFrom_111, if_neg (n6 hb), z_tn (by omega), Int.toNat_natCast, q1, q2, e174, mY, hw, g_b1, if_neg (by rw [z0, z_eq ⟨by omega, by omega⟩ ⟨by omega, by omega⟩]; exact w0), g174, g_in (by omega), g_in (by omega), zs])
    refine ⟨τ, ?_, h2, h3, h4, h5, h8, h9⟩
    have h1' : j_X10_laysFrom_111 (g_X10_laysFrom d) (nZ way.length) (nZ u) 0 τ1 = j_X10_laysFrom_111 (g_X10_laysFrom d) (nZ way.length) (nZ u) (nZ (6 : Nat)) τ := h1
    rw [l1, g_b0, h1', e_X10_laysFrom_111, if_pos y6]
