/-! SELLS -/
def Gw (O : List (Nat × Int)) (w : List Nat) (k : Nat) : Nat → Int := it k (fun _ => 0) (fun i G => updG G (wz w i) (oz O i).2)
def vW (s : gb_St) (O : List (Nat × Int)) (w : List Nat) : Prop := ∀ i, i < w.length → wz w i < 6 ∧ cvb s (wz w i) (Gw O w i (wz w i)) (oz O i).1 (oz O i).2 = true
theorem Gw_app {O : List (Nat × Int)} {w : List Nat} {b : Nat} : ∀ k, k ≤ w.length → Gw O (w ++ [b]) k = Gw O w k
  | 0, _ => rfl
  | k + 1, h => by
    show updG (Gw O (w ++ [b]) k) (wz (w ++ [b]) k) _ = updG (Gw O w k) (wz w k) _
    rw [Gw_app k (by omega), wz_1 (by omega)]
theorem vW_app {s : gb_St} {O : List (Nat × Int)} {w : List Nat} {b : Nat} (h : vW s O w) (hb : b < 6) (hc : cvb s b (Gw O w w.length b) (oz O w.length).1 (oz O w.length).2 = true) : vW s O (w ++ [b]) := by
  intro i hi
  rw [List.length_append] at hi
  have hi : i < w.length + 1 := hi
  rw [Gw_app i (by omega)]
  by_cases e : i = w.length
  · subst e; rw [wz_2]; exact ⟨hb, hc⟩
  · rw [wz_1 (by omega)]; exact h i (by omega)
theorem sv_vW {s : gb_St} {O : List (Nat × Int)} : ∀ n G way best, G = Gw O way way.length → vW s O way → vW s O best → vW s O (sv s O n G way best)
  | 0, G, way, best, hG, hw, hb => by
    unfold sv
    split
    · exact hw
    · exact hb
  | n + 1, G, way, best, hG, hw, hb => by
    unfold sv
    refine it_inv _ (vW s O) (by split; exact hw; exact hb) (fun b hb6 a ha => ?_)
    split
    · rename_i hc
      refine sv_vW n _ _ _ ?_ (vW_app hw hb6 (by rw [← hG]; exact hc.2)) ha
      have hlen : (way ++ [b]).length = way.length + 1 := by simp
      rw [hlen]
      show _ = updG (Gw O (way ++ [b]) way.length) (wz (way ++ [b]) way.length) _
      rw [Gw_app _ (Nat.le_refl _), wz_2, hG]
    · exact ha
theorem svA_vW {s : gb_St} {O : List (Nat × Int)} : vW s O (svA s O) := sv_vW _ _ _ _ rfl (fun i hi => by cases hi) (fun i hi => by cases hi)
theorem Gw_r {s : gb_St} {O : List (Nat × Int)} {w : List Nat} (il : iL s) (hok : okO O) (hw : vW s O w) (hl : w.length ≤ O.length) : ∀ k, k ≤ w.length → ∀ b, b < 6 → 0 ≤ Gw O w k b ∧ Gw O w k b ≤ lT (sB s b)
  | 0, _ => G0_r il
  | k + 1, hk => by
    have ih := Gw_r il hok hw hl k (by omega)
    obtain ⟨h6, hc⟩ := hw k (by omega)
    have o2 := (hok.2 k (by omega)).2.1
    exact updG_r ih o2 (csv_T il h6 (ih _ h6) o2 (cvb_t hc))
theorem IV_gJ {s : gb_St} {G : Nat → Int} (hI : gb_IV s) : gb_IV (gJ s G) := by
  obtain ⟨iw, ik, io, ic, ip, il, id⟩ := hI
  refine ⟨iw, ik, io, ic, ip, fun b hb => ?_, id⟩
  obtain ⟨h1, h2, h3⟩ := il b hb
  have hn := lT_nn h3
  refine ⟨Nat.le_trans tk_len h1, ?_, ok_tk h3⟩
  show lT (tk (sB s b) (G b)) ≤ 99
  rw [lT_tk h3]
  omega
theorem mnU_eq {s s' : gb_St} (e : ∀ k, k < 54 → s'.1 k = s.1 k) {on : Int} : ∀ {L : List gb_Ly} {t : Int}, (∀ l ∈ L, okL l) → mnU s' on L t = mnU s on L t
  | [], _, _ => rfl
  | l :: L, t, h => by
    have ih := mnU_eq e (on := on) (L := L) (t := t - l.2.1) (fun x hx => h x (List.mem_cons_of_mem l hx))
    have h6 := (h l List.mem_cons_self).1
    have hu : sU s' on l = sU s on l := by
      unfold sU sW sK
      rw [e l.1 (by omega), e (6 + l.1) (by omega)]
    unfold mnU
    rw [ih, hu]
def mT (s : gb_St) (O : List (Nat × Int)) (w : List Nat) (i : Nat) : Int := (oz O i).2 * mnU s (sY s) (tk (sB s (wz w i)) (Gw O w i (wz w i))) (oz O i).2
theorem mT_r {s : gb_St} {O : List (Nat × Int)} {w : List Nat} (hI : gb_IV s) (hok : okO O) {i : Nat} (hi : i < O.length) (h6 : wz w i < 6) : 0 ≤ mT s O w i ∧ mT s O w i ≤ 98901 := by
  obtain ⟨o1, o2, o3⟩ := hok.2 i hi
  obtain ⟨m1, m2⟩ := mnU_r (on := sY s) (t := (oz O i).2) hI.1 (ok_tk (t := Gw O w i (wz w i)) (hI.2.2.2.2.2.1 _ h6).2.2)
  have h1 := Int.mul_nonneg (show 0 ≤ (oz O i).2 by omega) m1
  have h2 : (oz O i).2 * mnU s (sY s) (tk (sB s (wz w i)) (Gw O w i (wz w i))) (oz O i).2 ≤ 99 * 999 := Int.mul_le_mul o3 m2 m1 (by omega)
  unfold mT
  omega
theorem SC_ext {σ : gb_M} {j : Nat} {s s' : gb_St} (h1 : s'.1 = s.1) (h2 : ∀ b, b < 6 → s'.2 b = s.2 b) (h : gb_SC σ j s) : gb_SC σ j s' := by
  obtain ⟨⟨cW, cP, cN, cT, cL, cH, cY, cQ⟩, ⟨rK, rC, rO, rA⟩, iw, ik, io, ic, ip, il, id⟩ := h
  have e : ∀ b, b < 6 → sB s' b = sB s b := h2
  refine ⟨⟨fun g hg => ?_, fun b hb => ?_, fun b hb => ?_, fun b hb => ?_, fun b i hb hi => ?_, fun b g hb hg => ?_, ?_, ?_⟩, ⟨fun g hg => ?_, fun b hb => ?_, fun g k hg hk => ?_, fun g hg => ?_⟩, fun g hg => ?_, fun g hg => ?_, fun g k hg hk => ?_, fun b hb => ?_, fun b hb => ?_, fun b hb => ?_, ?_⟩
  · unfold sW; rw [h1]; exact cW g hg
  · unfold sP; rw [h1]; exact cP b hb
  · rw [e b hb]; exact cN b hb
  · rw [e b hb]; exact cT b hb
  · rw [e b hb] at hi ⊢; exact cL b i hb hi
  · rw [e b hb]; exact cH b g hb hg
  · unfold sY; rw [h1]; exact cY
  · unfold sQ; rw [h1]; exact cQ
  · unfold sK; rw [h1]; exact rK g hg
  · unfold sC; rw [h1]; exact rC b hb
  · unfold sO; rw [h1]; exact rO g k hg hk
  · unfold sO; rw [h1]; exact rA g hg
  · unfold sW; rw [h1]; exact iw g hg
  · unfold sK; rw [h1]; exact ik g hg
  · unfold sO; rw [h1]; exact io g k hg hk
  · unfold sC; rw [h1]; exact ic b hb
  · unfold sP; rw [h1]; exact ip b hb
  · rw [e b hb]; exact il b hb
  · unfold iD sY sQ; rw [h1]; exact id
def sF (s : gb_St) (O : List (Nat × Int)) (w : List Nat) (k : Nat) : gb_St := setQ (gJ s (Gw O w k)) (min 2000000000 (sQ s + sm k (mT s O w)))
theorem sF_0 {s : gb_St} (hI : gb_IV s) {O : List (Nat × Int)} {w : List Nat} : (sF s O w 0).1 = s.1 ∧ ∀ b, b < 6 → (sF s O w 0).2 b = s.2 b := by
  obtain ⟨y1, y2, q1, q2⟩ := hI.2.2.2.2.2.2
  refine ⟨funext fun k => ?_, fun b hb => gJ_0 hI.2.2.2.2.2.1 (G := Gw O w 0) (fun _ => rfl) b hb⟩
  show (if k = 175 then min 2000000000 (sQ s + 0) else s.1 k) = s.1 k
  by_cases e : k = 175
  · subst e
    rw [if_pos rfl]
    show min 2000000000 (sQ s + 0) = sQ s
    omega
  · rw [if_neg e]
theorem sF_s {s : gb_St} (hI : gb_IV s) {O : List (Nat × Int)} (hok : okO O) {w : List Nat} (hw : vW s O w) (hl : w.length ≤ O.length) {k : Nat} (hk : k < w.length) : setQ (setB (sF s O w k) (wz w k) (tk (sB (sF s O w k) (wz w k)) (oz O k).2)) (min 2000000000 (sQ (sF s O w k) + (oz O k).2 * mnU (sF s O w k) (sY (sF s O w k)) (sB (sF s O w k) (wz w k)) (oz O k).2)) = sF s O w (k + 1) ∧ (oz O k).2 * mnU (sF s O w k) (sY (sF s O w k)) (sB (sF s O w k) (wz w k)) (oz O k).2 = mT s O w k := by
  obtain ⟨h6, hc⟩ := hw k hk
  obtain ⟨o1, o2, o3⟩ := hok.2 k (by omega)
  have hG := Gw_r hI.2.2.2.2.2.1 hok hw hl k (by omega) _ h6
  have hLok := (hI.2.2.2.2.2.1 _ h6).2.2
  have hm := mT_r (w := w) hI hok (i := k) (by omega) h6
  have eY : sY (sF s O w k) = sY s := by
    show (if (174 : Nat) = 175 then min 2000000000 (sQ s + sm k (mT s O w)) else s.1 174) = _
    exact if_neg (by omega)
  have eQ : sQ (sF s O w k) = min 2000000000 (sQ s + sm k (mT s O w)) := by
    show (if (175 : Nat) = 175 then min 2000000000 (sQ s + sm k (mT s O w)) else s.1 175) = _
    exact if_pos rfl
  have eM : (oz O k).2 * mnU (sF s O w k) (sY (sF s O w k)) (sB (sF s O w k) (wz w k)) (oz O k).2 = mT s O w k := by
    rw [eY]
    unfold mT
    have := mnU_eq (s := s) (s' := sF s O w k) (fun x hx => if_neg (by omega)) (on := sY s) (L := tk (sB s (wz w k)) (Gw O w k (wz w k))) (t := (oz O k).2) (ok_tk hLok)
    rw [← this]
    rfl
  refine ⟨?_, eM⟩
  rw [eM, eQ]
  have e2 : min 2000000000 (min 2000000000 (sQ s + sm k (mT s O w)) + mT s O w k) = min 2000000000 (sQ s + sm (k + 1) (mT s O w)) := by
    rw [sm_s]; omega
  rw [e2]
  refine Prod.ext (funext fun x => ?_) (funext fun b => ?_)
  · show (if x = 175 then _ else (if x = 175 then _ else s.1 x)) = (if x = 175 then _ else s.1 x)
    by_cases e : x = 175
    · rw [if_pos e, if_pos e]
    · rw [if_neg e, if_neg e, if_neg e]
  · have := congrFun (congrArg Prod.snd (gJ_upd (s := s) (G := Gw O w k) (b := wz w k) (t := (oz O k).2) hLok hG.1 (by omega))) b
    exact this