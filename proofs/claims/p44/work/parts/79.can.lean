/-! DRAWN IN ORDER: what can be drawn -/
theorem tk_tk {L : List gb_Ly} : ∀ {a b : Int}, (∀ l ∈ L, okL l) → 0 ≤ a → 0 ≤ b → tk (tk L a) b = tk L (a + b) := by
  induction L with
  | nil => intros; rfl
  | cons l L ih =>
    intro a b h ha hb
    have hl := (h l List.mem_cons_self).2.1
    have h' : ∀ x ∈ L, okL x := fun x hx => h x (List.mem_cons_of_mem l hx)
    by_cases c : a < l.2.1
    · have e1 : tk (l :: L) a = (l.1, l.2.1 - max 0 a, l.2.2) :: L := if_pos c
      rw [e1]
      by_cases c2 : a + b < l.2.1
      · have e2 : tk (l :: L) (a + b) = (l.1, l.2.1 - max 0 (a + b), l.2.2) :: L := if_pos c2
        have e3 : tk ((l.1, l.2.1 - max 0 a, l.2.2) :: L) b = (l.1, l.2.1 - max 0 a - max 0 b, l.2.2) :: L := if_pos (by dsimp only; omega)
        rw [e2, e3, show l.2.1 - max 0 a - max 0 b = l.2.1 - max 0 (a + b) by omega]
      · have e2 : tk (l :: L) (a + b) = tk L (a + b - l.2.1) := if_neg c2
        have e3 : tk ((l.1, l.2.1 - max 0 a, l.2.2) :: L) b = tk L (b - (l.2.1 - max 0 a)) := if_neg (by dsimp only; omega)
        rw [e2, e3, show b - (l.2.1 - max 0 a) = a + b - l.2.1 by omega]
    · have e1 : tk (l :: L) a = tk L (a - l.2.1) := if_neg c
      have e2 : tk (l :: L) (a + b) = tk L (a + b - l.2.1) := if_neg (by omega)
      rw [e1, e2, ih h' (by omega) hb, show a - l.2.1 + b = a + b - l.2.1 by omega]
theorem rn_le {L : List gb_Ly} {g : Nat} (h : ∀ l ∈ L, okL l) : rn L g ≤ lT L := by
  unfold rn
  have e : lT L = lT (L.take (hl L g)) + lT (L.drop (hl L g)) := by
    unfold lT
    rw [← sL_app, List.take_append_drop]
  have := lT_nn (L := L.drop (hl L g)) (fun l hl => h l (List.mem_of_mem_drop hl))
  omega
def csv (s : gb_St) (b : Nat) (u : Int) (g : Nat) (t : Int) : Prop := ¬ sY s < sP s b ∧ t ≤ rn (tk (sB s b) u) g
theorem csv_dec (s : gb_St) (b : Nat) (u : Int) (g : Nat) (t : Int) : csv s b u g t = (¬ sY s < sP s b ∧ t ≤ rn (tk (sB s b) u) g) := rfl
theorem csv_T {s : gb_St} (il : iL s) {b : Nat} (hb : b < 6) {u : Int} {g : Nat} {t : Int} (hu : 0 ≤ u ∧ u ≤ lT (sB s b)) (ht : 1 ≤ t) (h : csv s b u g t) : u + t ≤ lT (sB s b) := by
  have hok := (il b hb).2.2
  have h1 := rn_le (L := tk (sB s b) u) (g := g) (ok_tk hok)
  rw [lT_tk hok] at h1
  have := h.2
  omega
section CD
variable {σ : gb_M} {s : gb_St} {b : Nat}
theorem p_canDraw {O : List (Nat × Int)} (hC : gb_SC σ 0 s) (hO : ordC σ O) (hok : okO O) (hb : b < 6) {i : Nat} (hi : i < O.length) {u : Int} (hu : 0 ≤ u ∧ u ≤ 99) (h31 : σ.1 31 0 b = nZ u) : (csv s b u (oz O i).1 (oz O i).2 → f_X0_canDraw [gR 30 0, gI (nZ b), gI (nZ i)] σ = some (some (gI 1), σ)) ∧ (¬ csv s b u (oz O i).1 (oz O i).2 → f_X0_canDraw [gR 30 0, gI (nZ b), gI (nZ i)] σ = some (some (gI 0), σ)) := by
  obtain ⟨⟨cW, cP, cN, cT, cL, cH, cY, cQ⟩, ⟨rK, rC, rO, rA⟩, iw, ik, io, ic, ip, il, id⟩ := id hC
  obtain ⟨y1, y2, q1, q2⟩ := id
  have hlen := (il b hb).1
  have hLok := (il b hb).2.2
  obtain ⟨o1, o2, o3⟩ := hok.2 i hi
  have hO6 := hok.1
  obtain ⟨u1, u2⟩ := hO.2 i hi
  generalize (oz O i).1 = g at o1 u1 ⊢
  generalize (oz O i).2 = t at o2 o3 u2 ⊢
  have key : ∀ n k : Nat, k + n = (sB s b).length → ∀ left under : Int, -99 ≤ left ∧ left ≤ 99 → 0 ≤ under ∧ under ≤ 99 → j_X0_canDraw_34 (nZ b) (nZ i) (nZ left) (nZ under) (nZ k) σ = some (some (gI (if left ≤ rn (tk ((sB s b).drop k) under) g then 1 else 0)), σ) := by
    intro n
    induction n with
    | zero =>
      intro k hk left under hl hu
      rw [e_X0_canDraw_34, z_tn (by omega), Int.toNat_natCast, g_in (by omega), cN b hb, if_pos (by rw [z_le ⟨by omega, by omega⟩ ⟨by omega, by omega⟩]; omega), List.drop_of_length_le (by omega)]
      have e0 : rn (tk [] under) g = 0 := rfl
      rw [e0]
      by_cases c : 0 < left
      · rw [if_pos (by rw [z0, z_lt ⟨by omega, by omega⟩ ⟨by omega, by omega⟩]; exact c), if_neg (by omega)]
      · rw [if_neg (by rw [z0, z_lt ⟨by omega, by omega⟩ ⟨by omega, by omega⟩]; exact c), if_pos (by omega)]
    | succ n ih =>
      intro k hk left under hl hu
      have hk' : k < (sB s b).length := by omega
      obtain ⟨l1, l2, l3, l4, l5⟩ := lz_ok il hb hk'
      obtain ⟨g1, g2, g3⟩ := cL b k hb hk'
      have hdok : ∀ x ∈ (sB s b).drop (k + 1), okL x := fun x hx => hLok x (List.mem_of_mem_drop hx)
      rw [dr_c hk']
      have hnn := rn_nn (L := tk (lz (sB s b) k :: (sB s b).drop (k + 1)) under) (g := g) (ok_tk (by rw [← dr_c hk']; exact fun x hx => hLok x (List.mem_of_mem_drop hx)))
      rw [e_X0_canDraw_34, z_tn (by omega), Int.toNat_natCast, g_in (by omega), cN b hb, if_neg (by rw [z_le ⟨by omega, by omega⟩ ⟨by omega, by omega⟩]; omega)]
      by_cases c0 : left ≤ 0
      · rw [if_pos (by rw [z0, z_le ⟨by omega, by omega⟩ ⟨by omega, by omega⟩]; exact c0), if_neg (by rw [z0, z_lt ⟨by omega, by omega⟩ ⟨by omega, by omega⟩]; omega), if_pos (by omega)]
      · have em : (if 0 < nZ ((lz (sB s b) k).2.1 - under) then nZ ((lz (sB s b) k).2.1 - under) else 0) = nZ (max 0 ((lz (sB s b) k).2.1 - under)) := by rw [z0, z_max ⟨by omega, by omega⟩ ⟨by omega, by omega⟩]
        have em2 : (if 0 < nZ (under - (lz (sB s b) k).2.1) then nZ (under - (lz (sB s b) k).2.1) else 0) = nZ (max 0 (under - (lz (sB s b) k).2.1)) := by rw [z0, z_max ⟨by omega, by omega⟩ ⟨by omega, by omega⟩]
        rw [if_neg (by rw [z0, z_le ⟨by omega, by omega⟩ ⟨by omega, by omega⟩]; exact c0), p_place, g_b1, z_tn (by omega), g2, g1, z_sub, z_sub, em, em2, z_sub, zs, g_in (by omega), g_in (by omega), g_in (by omega), z_tn (by omega), Int.toNat_natCast, u1, g_in (by omega)]
        by_cases c1 : under < (lz (sB s b) k).2.1
        · have et : tk (lz (sB s b) k :: (sB s b).drop (k + 1)) under = ((lz (sB s b) k).1, (lz (sB s b) k).2.1 - max 0 under, (lz (sB s b) k).2.2) :: (sB s b).drop (k + 1) := if_pos c1
          rw [if_neg (by rw [z0, z_le ⟨by omega, by omega⟩ ⟨by omega, by omega⟩]; omega), et, rn_c]
          by_cases c2 : (lz (sB s b) k).1 = g
          · rw [if_pos (by rw [c2]), ih (k + 1) (by omega) _ _ (by omega) (by omega), if_pos c2, show max 0 (under - (lz (sB s b) k).2.1) = 0 by omega, tk_0 hdok (Int.le_refl 0)]
            dsimp only
            by_cases c3 : left - max 0 ((lz (sB s b) k).2.1 - under) ≤ rn ((sB s b).drop (k + 1)) g
            · rw [if_pos c3, if_pos (by omega)]
            · rw [if_neg c3, if_neg (by omega)]
          · rw [if_neg (by rw [z_eq ⟨by omega, by omega⟩ ⟨by omega, by omega⟩]; omega), if_neg c2, if_neg (by omega)]
        · have et : tk (lz (sB s b) k :: (sB s b).drop (k + 1)) under = tk ((sB s b).drop (k + 1)) (under - (lz (sB s b) k).2.1) := if_neg c1
          rw [if_pos (by rw [z0, z_le ⟨by omega, by omega⟩ ⟨by omega, by omega⟩]; omega), ih (k + 1) (by omega) _ _ (by omega) (by omega), et, show max 0 ((lz (sB s b) k).2.1 - under) = 0 by omega, Int.sub_zero, show max 0 (under - (lz (sB s b) k).2.1) = under - (lz (sB s b) k).2.1 by omega]
  have h0 := key (sB s b).length 0 (by omega) t u (by omega) hu
  rw [List.drop_zero] at h0
  have h0' : j_X0_canDraw_34 (nZ b) (nZ i) (nZ t) (nZ u) 0 σ = some (some (gI (if t ≤ rn (tk (sB s b) u) g then 1 else 0)), σ) := h0
  rw [e_X0_canDraw]
  refine ⟨fun h => ?_, fun h => ?_⟩
  · rw [p_closed_f hC hb h.1, g_b1, e00, z_tn (by omega), Int.toNat_natCast, u2, z_tn (by omega), Int.toNat_natCast, h31, g_in (by omega), g_in (by omega), h0', if_pos h.2]
  · by_cases c : sY s < sP s b
    · rw [p_closed_t hC hb c, g_b1, e10]
    · rw [p_closed_f hC hb c, g_b1, e00, z_tn (by omega), Int.toNat_natCast, u2, z_tn (by omega), Int.toNat_natCast, h31, g_in (by omega), g_in (by omega), h0', if_neg (fun z => h ⟨c, z⟩)]
end CD
