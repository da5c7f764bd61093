/-! SELLS -/
def Gw (O : List (Nat × Int)) (w : List Nat) (k : Nat) : Nat → Int := it k (fun _ => 0) (fun i G => updG G (wz w i) (oz O i).2)
def vW (s : gb_St) (O : List (Nat × Int)) (w : List Nat) : Prop := ∀ i, i < w.length → wz w i < 6 ∧ cvb s (wz w i) (Gw O w i (wz w i)) (oz O i).1 (oz O i).2 = true
theorem Gw_app {O : List (Nat × Int)} {w : List Nat} {b : Nat} : ∀ k, k ≤ w.length → Gw O (w ++ [b]) k = Gw O w k
  | 0, _ => rfl
  | k + 1, h => by
    show updG (Gw O (w ++ [b]) k) (wz (w ++ [b]) k) _ = updG (Gw O w k) (wz w k) _
    rw [Gw_app k (by omega), wz_1 (by omega)]
theorem vW_app {s : gb_St} {O : List (Nat × Int)} {w : List Nat} {b : Nat} (h : vW s O w) (hb : b < 6) (hc : cvb s b (Gw O w w.length b) (oz O w.length).1 (oz O w.length).2 = true) : vW s O (w ++ [b]) := by
  intro i hi
  rw [List.length_append] at hi
  have hi : i < w.length + 1 := hi
  rw [Gw_app i (by omega)]
  by_cases e : i = w.length
  · subst e; rw [wz_2]; exact ⟨hb, hc⟩
  · rw [wz_1 (by omega)]; exact h i (by omega)
theorem sv_vW {s : gb_St} {O : List (Nat × Int)} : ∀ n G way best, G = Gw O way way.length → vW s O way → vW s O best → vW s O (sv s O n G way best)
  | 0, G, way, best, hG, hw, hb => by
    unfold sv
    split
    · exact hw
    · exact hb
  | n + 1, G, way, best, hG, hw, hb => by
    unfold sv
    refine it_inv _ (vW s O) (by split; exact hw; exact hb) (fun b hb6 a ha => ?_)
    split
    · rename_i hc
      refine sv_vW n _ _ _ ?_ (vW_app hw hb6 (by rw [← hG]; exact hc.2)) ha
      have hlen : (way ++ [b]).length = way.length + 1 := by simp
      rw [hlen]
      show _ = updG (Gw O (way ++ [b]) way.length) (wz (way ++ [b]) way.length) _
      rw [Gw_app _ (Nat.le_refl _), wz_2, hG]
    · exact ha
theorem svA_vW {s : gb_St} {O : List (Nat × Int)} : vW s O (svA s O) := sv_vW _ _ _ _ rfl (fun i hi => by cases hi) (fun i hi => by cases hi)
theorem Gw_r {s : gb_St} {O : List (Nat × Int)} {w : List Nat} (il : iL s) (hok : okO O) (hw : vW s O w) (hl : w.length ≤ O.length) : ∀ k, k ≤ w.length → ∀ b, b < 6 → 0 ≤ Gw O w k b ∧ Gw O w k b ≤ lT (sB s b)
  | 0, _ => G0_r il
  | k + 1, hk => by
    have ih := Gw_r il hok hw hl k (by omega)
    obtain ⟨h6, hc⟩ := hw k (by omega)
    have o2 := (hok.2 k (by omega)).2.1
    exact updG_r ih o2 (csv_T il h6 (ih _ h6) o2 (cvb_t hc))
theorem IV_gJ {s : gb_St} {G : Nat → Int} (hI : gb_IV s) : gb_IV (gJ s G) := by
  obtain ⟨iw, ik, io, ic, ip, il, id⟩ := hI
  refine ⟨iw, ik, io, ic, ip, fun b hb => ?_, id⟩
  obtain ⟨h1, h2, h3⟩ := il b hb
  have hn := lT_nn h3
  refine ⟨Nat.le_trans tk_len h1, ?_, ok_tk h3⟩
  show lT (tk (sB s b) (G b)) ≤ 99
  rw [lT_tk h3]
  omega
theorem mnU_eq {s s' : gb_St} (e : ∀ k, k < 54 → s'.1 k = s.1 k) {on : Int} : ∀ {L : List gb_Ly} {t : Int}, (∀ l ∈ L, okL l) → mnU s' on L t = mnU s on L t
  | [], _, _ => rfl
  | l :: L, t, h => by
    have ih := mnU_eq e (on := on) (L := L) (t := t - l.2.1) (fun x hx => h x (List.mem_cons_of_mem l hx))
    have h6 := (h l List.mem_cons_self).1
    have hu : sU s' on l = sU s on l := by
      unfold sU sW sK
      rw [e l.1 (by omega), e (6 + l.1) (by omega)]
    unfold mnU
    rw [ih, hu]
def mT (s : gb_St) (O : List (Nat × Int)) (w : List Nat) (i : Nat) : Int := (oz O i).2 * mnU s (sY s) (tk (sB s (wz w i)) (Gw O w i (wz w i))) (oz O i).2
theorem mT_r {s : gb_St} {O : List (Nat × Int)} {w : List Nat} (hI : gb_IV s) (hok : okO O) {i : Nat} (hi : i < O.length) (h6 : wz w i < 6) : 0 ≤ mT s O w i ∧ mT s O w i ≤ 98901 := by
  obtain ⟨o1, o2, o3⟩ := hok.2 i hi
  obtain ⟨m1, m2⟩ := mnU_r (on := sY s) (t := (oz O i).2) hI.1 (ok_tk (t := Gw O w i (wz w i)) (hI.2.2.2.2.2.1 _ h6).2.2)
  have h1 := Int.mul_nonneg (show 0 ≤ (oz O i).2 by omega) m1
  have h2 : (oz O i).2 * mnU s (sY s) (tk (sB s (wz w i)) (Gw O w i (wz w i))) (oz O i).2 ≤ 99 * 999 := Int.mul_le_mul o3 m2 m1 (by omega)
  unfold mT
  omega
theorem SC_ext {σ : gb_M} {j : Nat} {s s' : gb_St} (h1 : s'.1 = s.1) (h2 : ∀ b, b < 6 → s'.2 b = s.2 b) (h : gb_SC σ j s) : gb_SC σ j s' := by
  obtain ⟨⟨cW, cP, cN, cT, cL, cH, cY, cQ⟩, ⟨rK, rC, rO, rA⟩, iw, ik, io, ic, ip, il, id⟩ := h
  have e : ∀ b, b < 6 → sB s' b = sB s b := h2
  refine ⟨⟨fun g hg => ?_, fun b hb => ?_, fun b hb => ?_, fun b hb => ?_, fun b i hb hi => ?_, fun b g hb hg => ?_, ?_, ?_⟩, ⟨fun g hg => ?_, fun b hb => ?_, fun g k hg hk => ?_, fun g hg => ?_⟩, fun g hg => ?_, fun g hg => ?_, fun g k hg hk => ?_, fun b hb => ?_, fun b hb => ?_, fun b hb => ?_, ?_⟩
  · unfold sW; rw [h1]; exact cW g hg
  · unfold sP; rw [h1]; exact cP b hb
  · rw [e b hb]; exact cN b hb
  · rw [e b hb]; exact cT b hb
  · rw [e b hb] at hi ⊢; exact cL b i hb hi
  · rw [e b hb]; exact cH b g hb hg
  · unfold sY; rw [h1]; exact cY
  · unfold sQ; rw [h1]; exact cQ
  · unfold sK; rw [h1]; exact rK g hg
  · unfold sC; rw [h1]; exact rC b hb
  · unfold sO; rw [h1]; exact rO g k hg hk
  · unfold sO; rw [h1]; exact rA g hg
  · unfold sW; rw [h1]; exact iw g hg
  · unfold sK; rw [h1]; exact ik g hg
  · unfold sO; rw [h1]; exact io g k hg hk
  · unfold sC; rw [h1]; exact ic b hb
  · unfold sP; rw [h1]; exact ip b hb
  · rw [e b hb]; exact il b hb
  · unfold iD sY sQ; rw [h1]; exact id
def sF (s : gb_St) (O : List (Nat × Int)) (w : List Nat) (k : Nat) : gb_St := setQ (gJ s (Gw O w k)) (min 2000000000 (sQ s + sm k (mT s O w)))
theorem sF_0 {s : gb_St} (hI : gb_IV s) {O : List (Nat × Int)} {w : List Nat} : (sF s O w 0).1 = s.1 ∧ ∀ b, b < 6 → (sF s O w 0).2 b = s.2 b := by
  obtain ⟨y1, y2, q1, q2⟩ := hI.2.2.2.2.2.2
  refine ⟨funext fun k => ?_, fun b hb => gJ_0 hI.2.2.2.2.2.1 (G := Gw O w 0) (fun _ => rfl) b hb⟩
  show (if k = 175 then min 2000000000 (sQ s + 0) else s.1 k) = s.1 k
  by_cases e : k = 175
  · subst e
    rw [if_pos rfl]
    show min 2000000000 (sQ s + 0) = sQ s
    omega
  · rw [if_neg e]
theorem sF_s {s : gb_St} (hI : gb_IV s) {O : List (Nat × Int)} (hok : okO O) {w : List Nat} (hw : vW s O w) (hl : w.length ≤ O.length) {k : Nat} (hk : k < w.length) : setQ (setB (sF s O w k) (wz w k) (tk (sB (sF s O w k) (wz w k)) (oz O k).2)) (min 2000000000 (sQ (sF s O w k) + (oz O k).2 * mnU (sF s O w k) (sY (sF s O w k)) (sB (sF s O w k) (wz w k)) (oz O k).2)) = sF s O w (k + 1) ∧ (oz O k).2 * mnU (sF s O w k) (sY (sF s O w k)) (sB (sF s O w k) (wz w k)) (oz O k).2 = mT s O w k := by
  obtain ⟨h6, hc⟩ := hw k hk
  obtain ⟨o1, o2, o3⟩ := hok.2 k (by omega)
  have hG := Gw_r hI.2.2.2.2.2.1 hok hw hl k (by omega) _ h6
  have hLok := (hI.2.2.2.2.2.1 _ h6).2.2
  have hm := mT_r (w := w) hI hok (i := k) (by omega) h6
  have eY : sY (sF s O w k) = sY s := by
    show (if (174 : Nat) = 175 then min 2000000000 (sQ s + sm k (mT s O w)) else s.1 174) = _
    exact if_neg (by omega)
  have eQ : sQ (sF s O w k) = min 2000000000 (sQ s + sm k (mT s O w)) := by
    show (if (175 : Nat) = 175 then min 2000000000 (sQ s + sm k (mT s O w)) else s.1 175) = _
    exact if_pos rfl
  have eM : (oz O k).2 * mnU (sF s O w k) (sY (sF s O w k)) (sB (sF s O w k) (wz w k)) (oz O k).2 = mT s O w k := by
    rw [eY]
    unfold mT
    have := mnU_eq (s := s) (s' := sF s O w k) (fun x hx => if_neg (by omega)) (on := sY s) (L := tk (sB s (wz w k)) (Gw O w k (wz w k))) (t := (oz O k).2) (ok_tk hLok)
    rw [← this]
    rfl
  refine ⟨?_, eM⟩
  rw [eM, eQ]
  have e2 : min 2000000000 (min 2000000000 (sQ s + sm k (mT s O w)) + mT s O w k) = min 2000000000 (sQ s + sm (k + 1) (mT s O w)) := by
    rw [sm_s]; omega
  rw [e2]
  refine Prod.ext (funext fun x => ?_) (funext fun b => ?_)
  · show (if x = 175 then _ else (if x = 175 then _ else s.1 x)) = (if x = 175 then _ else s.1 x)
    by_cases e : x = 175
    · rw [if_pos e, if_pos e]
    · rw [if_neg e, if_neg e, if_neg e]
  · have := congrFun (congrArg Prod.snd (gJ_upd (s := s) (G := Gw O w k) (b := wz w k) (t := (oz O k).2) hLok hG.1 (by omega))) b
    exact this
theorem th_sells {A : gb_Ab} (hA : wfA A) : gb_T2 f_X9_sells f_X10_sells [gR 0 0] [gR 36 0] A := by
  cases hr : (rdT A.2.2.2.1).1 with
  | none =>
    refine rd_bad hA hr (fun σ τ x h1 h2 => ?_) (fun σ τ h1 h2 => ?_)
    · rw [e_X9_sells, h1, g_b1, if_neg h2]
    · rw [e_X10_sells, h1, g_b0, if_neg h2]
  | some O =>
    have hok := rdT_ok hr
    have hO6 := hok.1
    have hI := hA.1.1
    have il := hI.2.2.2.2.2.1
    obtain ⟨y1, y2, q1, q2⟩ := hI.2.2.2.2.2.2
    have hle : (svA A.1 O).length ≤ O.length := sv_len (s := A.1) (O := O) O.length (fun _ => 0) [] [] (by simp) (by simp)
    have hw : vW A.1 O (svA A.1 O) := svA_vW
    obtain ⟨w, hwd⟩ : ∃ w, svA A.1 O = w := ⟨_, rfl⟩
    rw [hwd] at hle hw
    have hm : ∀ i, i < w.length → 0 ≤ mT A.1 O w i ∧ mT A.1 O w i ≤ 98901 := fun i hi => mT_r hI hok (by omega) (hw i hi).1
    have hs1 : ∀ k, k ≤ w.length → 0 ≤ sm k (mT A.1 O w) ∧ sm k (mT A.1 O w) ≤ 593406 := fun k hk => by
      have h1 := sm_nn (n := k) (f := mT A.1 O w) (fun i hi => (hm i (by omega)).1)
      have h2 := sm_ub (n := k) (f := mT A.1 O w) (c := 98901) (fun i hi => (hm i (by omega)).2)
      omega
    have hsn := hs1 w.length (Nat.le_refl _)
    have hIF : gb_IV (sF A.1 O w w.length) := IV_Q (IV_gJ hI) (by omega)
    have hgd : gdS (sF A.1 O w w.length) := ⟨hIF, fun b hb => adj_tk (hA.1.2 b hb)⟩
    have hYF : sY (sF A.1 O w w.length) = sY A.1 := by
      show (if (174 : Nat) = 175 then min 2000000000 (sQ A.1 + sm w.length (mT A.1 O w)) else A.1.1 174) = _
      exact if_neg (by omega)
    refine T2_G (some (gI (nZ w.length))) (setR (setS (setT A []) (sF A.1 O w w.length)) ([] ++ [(nZ (sm w.length (mT A.1 O w))).toInt64] ++ [(nZ (lA A.1 (sY A.1))).toInt64] ++ [(nZ (lA (sF A.1 O w w.length) (sY A.1))).toInt64])) (wf_setR (wf_setS (A := setT A []) hA hgd)) (fun σ hC hg => ?_) (fun σ hM => ?_)
    · obtain ⟨τ1, a1, a2, a3, a4⟩ := p_readOrders hC
      have e : rdE (rdT A.2.2.2.1) = O.length := by unfold rdE; rw [hr]
      rw [e] at a1
      have hoc := a3 O hr
      obtain ⟨τ2, b1, b2, b3, b4⟩ := p_serve (s := A.1) ⟨a2.1.1, hoc, hok⟩ (goneC_K a2 hg)
      rw [hwd] at b1 b2 b3
      have c2 : KC σ τ2 (setT A []) := KC_fP a2 b4 (fun k hk z => by omega) (fun k z => by omega)
      obtain ⟨τ3, d1, d2, d3⟩ := CC_pastx c2.1
      have cY : τ3.1 10 0 9 = nZ (sY A.1) := d2.1.1.2.2.2.2.2.2.1
      have pA : f_X7_valueOfAll [gR 10 0, gI (nZ (sY A.1))] τ3 = some (some (gI (nZ (lA A.1 (sY A.1)))), τ3) := p_valueOfAll d2.1 (on := sY A.1) (by omega)
      have k33 : ∀ i, i < w.length → τ3.1 33 0 i = nZ (wz w i) := fun i hi => by rw [d3.1 33 0 i (by omega)]; exact b2 i hi
      have k25 : ∀ i, i < w.length → τ3.1 25 0 i = nZ (oz O i).2 := fun i hi => by rw [d3.1 25 0 i (by omega), b4.1 25 0 i (by omega)]; exact (hoc.2 i (by omega)).2
      have hS0 : gb_SC τ3 0 (sF A.1 O w 0) := SC_ext (sF_0 hI).1 (sF_0 hI).2 d2.1
      obtain ⟨τ4, e1, e2, e3⟩ := lph (n := w.length) (σ := τ3) (fun i τ => j_X9_sells_51 (nZ w.length) (nZ (lA A.1 (sY A.1))) (nZ (sm i (mT A.1 O w))) (nZ i) τ) (fun i τ => gb_SC τ 0 (sF A.1 O w i) ∧ gb_fS 0 τ3 τ) ⟨hS0, fS_rf⟩ (by
        intro i hi τ ⟨hS, f⟩
        obtain ⟨h6, hc⟩ := hw i hi
        obtain ⟨o1, o2, o3⟩ := hok.2 i (by omega)
        obtain ⟨s1, s2⟩ := sF_s hI hok hw hle hi
        obtain ⟨τ', u1, u2, u3⟩ := p_drawOut hS h6 (t := (oz O i).2) (by omega)
        rw [s1] at u2
        rw [s2] at u1
        refine ⟨τ', ?_, u2, fS_tr f u3⟩
        show j_X9_sells_51 _ _ _ _ _ = j_X9_sells_51 _ _ _ _ _
        have e33 : τ.1 33 0 i = nZ (wz w i) := by rw [f.1 33 0 i (by omega)]; exact k33 i hi
        have e25 : τ.1 25 0 i = nZ (oz O i).2 := by rw [f.1 25 0 i (by omega)]; exact k25 i hi
        rw [e_X9_sells_51, if_neg (by rw [z_le ⟨by omega, by omega⟩ ⟨by omega, by omega⟩]; omega), z_tn (by omega), Int.toNat_natCast, g_in (by omega), g_in (by omega), e33, e25, u1, g_b1, z_add, zs]
        rfl)
      have hCC : CC τ4 (setS (setT A []) (sF A.1 O w w.length)) := CC_S d2 e3 e2
      have hK4 : KC σ τ4 (setS (setT A []) (sF A.1 O w w.length)) := ⟨hCC, fP_tr c2.2 (fP_tr (fP_w d3 (fun k hk => by omega)) (fP_w (fS_fP e3) (fun k hk => by omega)))⟩
      obtain ⟨τ5, g1, g2⟩ := kc_start hK4
      obtain ⟨τ6, g3, g4⟩ := kc_add g2 (by simp) (nZ (sm w.length (mT A.1 O w))).toInt64
      obtain ⟨τ7, g5, g6⟩ := kc_add g4 (by simp) (nZ (lA A.1 (sY A.1))).toInt64
      obtain ⟨τ8, g7, g8⟩ := kc_add g6 (by simp) (nZ (lA (sF A.1 O w w.length) (sY A.1))).toInt64
      refine ⟨τ8, ?_, g8⟩
      have cY7 : τ7.1 10 0 9 = nZ (sY A.1) := by
        have : τ7.1 10 0 9 = nZ (sY (sF A.1 O w w.length)) := g6.1.1.1.2.2.2.2.2.2.1
        rw [this, hYF]
      have pA7 : f_X7_valueOfAll [gR 10 0, gI (nZ (sY A.1))] τ7 = some (some (gI (nZ (lA (sF A.1 O w w.length) (sY A.1)))), τ7) := p_valueOfAll g6.1.1 (on := sY A.1) (by omega)
      have e1' : j_X9_sells_51 (nZ w.length) (nZ (lA A.1 (sY A.1))) 0 0 τ3 = j_X9_sells_51 (nZ w.length) (nZ (lA A.1 (sY A.1))) (nZ (sm w.length (mT A.1 O w))) (nZ w.length) τ4 := e1
      rw [e_X9_sells, a1, g_b1, if_pos (by rw [z0, z_le ⟨by omega, by omega⟩ ⟨by omega, by omega⟩]; omega), b1, g_b1, d1, g_b0, cY, pA, g_b1, e1', e_X9_sells_51, if_pos (Int32.le_refl _), g1, g_b0, g3, g_b0, g5, g_b0, cY7, pA7, g_b1, g7, g_b0]
    · obtain ⟨τ1, a1, a2, a3, a4⟩ := m_readsList hM
      unfold rdM at a3
      rw [hr] at a3
      obtain ⟨τ2, b1, b2, b3, b4, b5⟩ := m_findsServed (A := setT A []) hA a2 hok a3.2
      have b4 : τ2.1 36 0 29 = nZ (svA A.1 O).length := b4
      have b5 : ∀ i, i < (svA A.1 O).length → τ2.1 50 0 i = nZ (wz (svA A.1 O) i) := b5
      rw [hwd] at b4 b5
      obtain ⟨τ3, d1, d2, d3⟩ := MC_does b2.1
      have pA : f_X10_allNow [gR 36 0] τ3 = some (some (gI (nZ (lA A.1 (sY A.1)))), τ3) := m_allNow d2.1
      have k50 : ∀ i, i < w.length → τ3.1 50 0 i = nZ (wz w i) := fun i hi => by rw [(d3.1 50 0 i (by omega) (by omega)).1]; exact b5 i hi
      have k48 : ∀ i, i < w.length → τ3.1 48 0 i = nZ (oz O i).2 := fun i hi => by rw [(d3.1 48 0 i (by omega) (by omega)).1]; exact (b3.2 i (by omega)).2
      have hM0 : gb_MM τ3 (gJ A.1 (Gw O w 0)) := MM_ext (s := A.1) rfl (fun b hb => gJ_0 il (fun _ => rfl) b hb) d2.1
      obtain ⟨τ4, e1, e2, e3⟩ := lph (n := w.length) (σ := τ3) (fun i τ => j_X10_sells_48 (nZ w.length) (nZ (lA A.1 (sY A.1))) (nZ (sm i (mT A.1 O w))) (nZ i) τ) (fun i τ => gb_MM τ (gJ A.1 (Gw O w i)) ∧ gb_fX (fun k => k = 37 ∨ (43 ≤ k ∧ k ≤ 45)) (fun x => x = 14 ∨ x = 15) τ3 τ) ⟨hM0, fX_rf⟩ (by
        intro i hi τ ⟨hS, f⟩
        obtain ⟨h6, hc⟩ := hw i hi
        obtain ⟨o1, o2, o3⟩ := hok.2 i (by omega)
        have hG := Gw_r il hok hw hle i (by omega) _ h6
        have hLok := (il _ h6).2.2
        have hT := csv_T il h6 hG o2 (cvb_t hc)
        have eT : lT (sB (gJ A.1 (Gw O w i)) (wz w i)) = lT (sB A.1 (wz w i)) - Gw O w i (wz w i) := by
          show lT (tk (sB A.1 (wz w i)) (Gw O w i (wz w i))) = _
          rw [lT_tk hLok]; omega
        obtain ⟨τ', u1, u2, u3, u4, -, u6, -⟩ := m_goes hS h6 (t := (oz O i).2) (by omega) (by omega)
        have u6 := u6 (by omega)
        rw [gJ_upd hLok hG.1 (by omega)] at u2
        have fb : gb_fX (fun k => k = 37 ∨ (43 ≤ k ∧ k ≤ 45)) (fun x => x = 14 ∨ x = 15) τ τ' := fP_fX u3 (fun k h1 h2 => by omega) (fun x h => u4 x (fun e => h (Or.inl e)) (fun e => h (Or.inr e)))
        refine ⟨τ', ?_, u2, fX_tr f fb⟩
        show j_X10_sells_48 _ _ _ _ _ = j_X10_sells_48 _ _ _ _ _
        have e50 : τ.1 50 0 i = nZ (wz w i) := by rw [(f.1 50 0 i (by omega) (by omega)).1]; exact k50 i hi
        have e48 : τ.1 48 0 i = nZ (oz O i).2 := by rw [(f.1 48 0 i (by omega) (by omega)).1]; exact k48 i hi
        have e48' : τ'.1 48 0 i = nZ (oz O i).2 := by rw [(fb.1 48 0 i (by omega) (by omega)).1]; exact e48
        have eM : (oz O i).2 * mnU (gJ A.1 (Gw O w i)) (sY (gJ A.1 (Gw O w i))) (sB (gJ A.1 (Gw O w i)) (wz w i)) (oz O i).2 = mT A.1 O w i := congrArg (fun z => (oz O i).2 * z) (mnU_eq (s := A.1) (s' := gJ A.1 (Gw O w i)) (fun _ _ => rfl) (ok_tk hLok))
        rw [e_X10_sells_48, if_neg (by rw [z_le ⟨by omega, by omega⟩ ⟨by omega, by omega⟩]; omega), z_tn (by omega), Int.toNat_natCast, g_in (by omega), g_in (by omega), e50, e48, u1, g_b0, g_in (by omega), e48', u6, z_mul, eM, z_add, zs]
        rfl)
      have hcnt := m_counts e2 (x := sm w.length (mT A.1 O w)) (by omega)
      have hMF : gb_MM (gb_si τ4 37 0 175 (nZ (min 2000000000 (sQ A.1 + sm w.length (mT A.1 O w))))) (sF A.1 O w w.length) := MM_si e2 (by omega) hIF
      have f5 : gb_fX (fun k => k = 37 ∨ (43 ≤ k ∧ k ≤ 45)) (fun x => x = 14 ∨ x = 15) τ3 (gb_si τ4 37 0 175 (nZ (min 2000000000 (sQ A.1 + sm w.length (mT A.1 O w))))) := fX_si e3 (Or.inl ⟨by omega, Or.inl rfl⟩)
      have hMC : MC (gb_si τ4 37 0 175 (nZ (min 2000000000 (sQ A.1 + sm w.length (mT A.1 O w))))) (setS (setT A []) (sF A.1 O w w.length)) := MC_S d2 f5 ⟨by omega, by omega, by omega, by omega⟩ ⟨by omega, by omega, by omega, by omega⟩ hMF
      have hK4 : KM σ (gb_si τ4 37 0 175 (nZ (min 2000000000 (sQ A.1 + sm w.length (mT A.1 O w))))) (setS (setT A []) (sF A.1 O w w.length)) := ⟨hMC, fP_tr b2.2 (fP_tr (fX_fP d3 (fun k hk => by omega)) (fX_fP f5 (fun k hk => by omega)))⟩
      have g2 := km_start hK4
      obtain ⟨τ6, g3, g4⟩ := km_tell g2 (by simp) (nZ (sm w.length (mT A.1 O w))).toInt64
      obtain ⟨τ7, g5, g6⟩ := km_tell g4 (by simp) (nZ (lA A.1 (sY A.1))).toInt64
      obtain ⟨τ8, g7, g8⟩ := km_tell g6 (by simp) (nZ (lA (sF A.1 O w w.length) (sY A.1))).toInt64
      refine ⟨τ8, ?_, g8⟩
      have pA7 : f_X10_allNow [gR 36 0] τ7 = some (some (gI (nZ (lA (sF A.1 O w w.length) (sY A.1)))), τ7) := by
        have : f_X10_allNow [gR 36 0] τ7 = some (some (gI (nZ (lA (sF A.1 O w w.length) (sY (sF A.1 O w w.length))))), τ7) := m_allNow g6.1.1
        rw [this, hYF]
      have e1' : j_X10_sells_48 (nZ w.length) (nZ (lA A.1 (sY A.1))) 0 0 τ3 = j_X10_sells_48 (nZ w.length) (nZ (lA A.1 (sY A.1))) (nZ (sm w.length (mT A.1 O w))) (nZ w.length) τ4 := e1
      have hcnt' : f_X10_counts [gR 36 0, gI (nZ (sm w.length (mT A.1 O w)))] τ4 = some (none, gb_si τ4 37 0 175 (nZ (min 2000000000 (sQ A.1 + sm w.length (mT A.1 O w))))) := hcnt
      rw [e_X10_sells, a1, g_b0, if_pos a3.1, b1, g_b0, d1, g_b0, pA, g_b1, b4, e1', e_X10_sells_48, if_pos (Int32.le_refl _), hcnt', g_b0, g3, g_b0, g5, g_b0, pA7, g_b1, g7, g_b0]
