/-! THE LAW: one turn of its loop -/
section ITR
variable {p : Program} {l : Launch} {e : Env} {s : State} {m : MethodId} {below : List Frame} {meth : Method} {c : Code} {g : gb_G} {A : Nat → Prop} {b L t1 t2 : Nat} {xs : Nat → Int32} {Q : State → Prop}
theorem lw_iter (X : jLw p s m c g A b L xs t1 t2) (hL : L < 1000) (l130 : jlit 130 ":" [58] A s) (l132 : jlit 132 "," [44] A s) {k : Nat} (hk : k < 20) {Ab : gb_Ab} {σ : gb_M} {H : Heap} {locs : List Loc} {cells slots : Nat} {ls : Array Slot} (hc : cells + 12 ≤ 600130 ∧ slots + 4100 ≤ 7301080) (hInv : jInv k Ab) (hl : lv_has ls 20 [(4, .int (nI k)), (1, .ref (g.2.2.1 0 0)), (0, .ref b)]) (hP : va_P (g.1, g.2.1) vwCl (gb_ws g σ ++ ([] : va_W)) H) (hD : va_D A (gb_ws g σ ++ ([] : va_W))) (hS : va_S A s.heap H locs) (hCR : CR σ Ab)
    (k9 : ∀ (σ : gb_M) (Ad : gb_Ab) (H : Heap) (locs : List Loc) (ls : Array Slot) (cells1 slots1 : Nat), cells1 ≤ cells + 12 → slots1 ≤ slots + 4100 → lv_has ls 20 [(4, .int (nI (k + 1))), (1, .ref (g.2.2.1 0 0)), (0, .ref b)] → va_P (g.1, g.2.1) vwCl (gb_ws g σ ++ ([] : va_W)) H → va_D A (gb_ws g σ ++ ([] : va_W)) → va_S A s.heap H locs → CR σ Ad → jInv (k + 1) Ad → W p l e room_1 s m #[Value.ref b] below meth c H locs cells1 slots1 Q (F0 m 231 ls [])) : W p l e room_1 s m #[Value.ref b] below meth c H locs cells slots Q (F0 m 231 ls []) := by
  have hwf := CR_wf hCR
  refine lw_m X hL hk ⟨by omega, by omega⟩ hl hP hD hS hCR (fun x gg bb t o σ H locs ls hgg hbb ht ho hl hP hD hS hCR => ?_)
  have post : ∀ (cells1 slots1 : Nat), cells1 ≤ cells + 12 → slots1 ≤ slots + 4100 → ∀ (σ : gb_M) (Ac : gb_Ab) (d : Int32) (H : Heap) (locs : List Loc) (ls : Array Slot), jEnd k Ab Ac d → lv_has ls 20 (jlv g b k x gg bb t o Ab d) → va_P (g.1, g.2.1) vwCl (gb_ws g σ ++ ([] : va_W)) H → va_D A (gb_ws g σ ++ ([] : va_W)) → va_S A s.heap H locs → CR σ Ac → W p l e room_1 s m #[Value.ref b] below meth c H locs cells1 slots1 Q (F0 m 1190 ls []) := by
    intro cells1 slots1 h1 h2 σ Ac d H locs ls hE hl hP hD hS hCR
    rcases hE with ⟨e1, e2⟩ | ⟨e1, sx, e2, hXs, hYx⟩
    · have e2 := e2.symm
      subst e1 e2
      exact lw_post0 (sx := Ab.1) X hk ⟨by omega, by omega⟩ hInv hwf hl hP hD hS hCR (fun σ Ad H locs ls hl hP hD hS hCR hI => k9 σ Ad H locs ls _ _ h1 h2 hl hP hD hS hCR hI)
    · subst e1 e2
      exact lw_post1 X hk ⟨by omega, by omega⟩ hInv hwf hl hP hD hS hCR hXs hYx (fun σ Ad H locs ls hl hP hD hS hCR hI => k9 σ Ad H locs ls _ _ h1 h2 hl hP hD hS hCR hI)
  have p0 := post cells slots (by omega) (by omega)
  have hc0 : cells ≤ 600130 ∧ slots ≤ 7301080 := ⟨by omega, by omega⟩
  have hy : x.toBitVec.toNat % 2 ^ 3 < 8 := Nat.mod_lt _ (by omega)
  generalize x.toBitVec.toNat % 2 ^ 3 = y at hy ⊢
  have hx := X.1
  have hb := X.2.1
  have load : W p l e room_1 s m #[Value.ref b] below meth c H locs cells slots Q (F0 m 360 ls []) := by
    by_cases hW : sWhy Ab.1 bb gg t (sY Ab.1) = 0
    · exact lw_load1 X hk hgg hbb ht ho hInv hc0 hl hP hD hS hCR p0 hW
    · exact lw_load0 X hk hgg hbb ht ho hInv hc0 hl hP hD hS hCR p0 hW
  rcases (show y = 0 ∨ y = 1 ∨ y = 2 ∨ y = 3 ∨ y = 4 ∨ y = 5 ∨ y = 6 ∨ y = 7 by omega) with rfl | rfl | rfl | rfl | rfl | rfl | rfl | rfl
  · exact lv_tableIn (off := 41) (tgt := 360) hx hb dL_law_319 (by decide) (by decide) (by decide) (by decide) load
  · exact lv_tableIn (off := 41) (tgt := 360) hx hb dL_law_319 (by decide) (by decide) (by decide) (by decide) load
  · exact lv_tableIn (off := 41) (tgt := 360) hx hb dL_law_319 (by decide) (by decide) (by decide) (by decide) load
  · refine lv_tableIn (off := 135) (tgt := 454) hx hb dL_law_319 (by decide) (by decide) (by decide) (by decide) ?_
    by_cases hW : sY Ab.1 < sP Ab.1 bb
    · exact lw_draw2 X hk hgg hbb ht ho hInv hc0 hl hP hD hS hCR p0 hW
    · by_cases hW2 : (t : Int) ≤ lT (sB Ab.1 bb)
      · exact lw_draw1 X hk hgg hbb ht ho hInv hc0 hl hP hD hS hCR p0 hW hW2
      · exact lw_draw3 X hk hgg hbb ht ho hInv hc0 hl hP hD hS hCR p0 hW hW2
  · refine lv_tableIn (off := 284) (tgt := 603) hx hb dL_law_319 (by decide) (by decide) (by decide) (by decide) ?_
    by_cases hW : bb = o
    · exact lw_move1 X hk hgg hbb ht ho hInv hc0 hl hP hD hS hCR p0 hW
    · by_cases hW2 : mvW Ab.1 bb o (t : Int) = 0
      · exact lw_move3 X hk hgg hbb ht ho hInv hc0 hl hP hD hS hCR p0 hW hW2
      · exact lw_move2 X hk hgg hbb ht ho hInv hc0 hl hP hD hS hCR p0 hW hW2
  · refine lv_tableIn (off := 432) (tgt := 751) hx hb dL_law_319 (by decide) (by decide) (by decide) (by decide) ?_
    by_cases hW : jb x 16 1 = 0
    · exact lw_days X hk hgg hbb ht ho hInv hc0 hl hP hD hS hCR p0 hW
    · by_cases hW2 : sY Ab.1 < sP Ab.1 bb
      · exact lw_fumes2 X hk hgg hbb ht ho hInv hc0 hl hP hD hS hCR p0 hW hW2
      · exact lw_fumes1 X hk hgg hbb ht ho hInv hc0 hl hP hD hS hCR p0 hW hW2
  · refine lv_tableIn (off := 606) (tgt := 925) hx hb dL_law_319 (by decide) (by decide) (by decide) (by decide) ?_
    refine lw_o1 X hgg ht l130 l132 hc hl hP hD hS (fun ps b1 f2 H locs ls cells1 slots1 h1 h2 hl hP hD hS hF2 => ?_)
    have d1 := jb_lt x 16 2
    have d2 := jb_lt x 18 3
    have hr9 : (rdT ((joT gg t (jb x 16 2) (1 + jb x 18 3)).map (fun (x : Nat) => (x : Int)))).1 = some [(gg, (t : Int)), (jb x 16 2, ((1 + jb x 18 3 : Nat) : Int))] := by
      rw [joT_map]
      exact ordT_rd hgg ht (by omega) ⟨by omega, by omega⟩
    have hlen := joT_len gg t (jb x 16 2) (1 + jb x 18 3)
    have h128 := joT_128 (a := gg) (t := t) (b := jb x 16 2) (u := 1 + jb x 18 3) (by omega) (by omega) (by omega) (by omega)
    have p1 := post cells1 slots1 h1 h2
    have hc1 : cells1 ≤ 600130 ∧ slots1 ≤ 7301080 := ⟨by omega, by omega⟩
    refine lw_o2 X hInv h128 (by omega) hr9 rfl hF2 hc1 hl hP hD hS hCR (fun σ H locs ls hl hP hD hS hCR => ?_)
    have hsv := (sT_sells hwf.1 (rdT_ok hr9)).2
    rcases (show (svA Ab.1 [(gg, (t : Int)), (jb x 16 2, ((1 + jb x 18 3 : Nat) : Int))]).length = 0 ∨ (svA Ab.1 [(gg, (t : Int)), (jb x 16 2, ((1 + jb x 18 3 : Nat) : Int))]).length = 1 ∨ (svA Ab.1 [(gg, (t : Int)), (jb x 16 2, ((1 + jb x 18 3 : Nat) : Int))]).length = 2 by rw [jOlen] at hsv; omega) with hn | hn | hn
    · exact lw_o30 (TT := []) X hInv hwf hr9 rfl hn hc1 hl hP hD hS hCR p1
    · exact lw_o31 (TT := []) X hInv hwf hr9 rfl hn hc1 hl hP hD hS hCR p1
    · exact lw_o32 (TT := []) X hInv hwf hr9 rfl hn hc1 hl hP hD hS hCR p1
  · refine lv_tableOut (tgt := 1127) hx hb dL_law_319 (by decide) (by decide) ?_
    exact lw_price X hk hgg hbb ht ho hInv hc0 hl hP hD hS hCR p0
theorem lw_turns (X : jLw p s m c g A b L xs t1 t2) (hL : L < 1000) (l130 : jlit 130 ":" [58] A s) (l132 : jlit 132 "," [44] A s) (fin : ∀ (H : Heap) (locs : List Loc) (cells slots : Nat) (ls : Array Slot), va_S A s.heap H locs → cells ≤ 600130 → slots ≤ 7301080 → W p l e room_1 s m #[Value.ref b] below meth c H locs cells slots Q (F0 m 1342 ls [])) : ∀ (d k : Nat), k + d = 20 → ∀ {Ab : gb_Ab} {σ : gb_M} {H : Heap} {locs : List Loc} {cells slots : Nat} {ls : Array Slot}, cells + 12 * d ≤ 600130 → slots + 4100 * d ≤ 7301080 → jInv k Ab → lv_has ls 20 [(4, .int (nI k)), (1, .ref (g.2.2.1 0 0)), (0, .ref b)] → va_P (g.1, g.2.1) vwCl (gb_ws g σ ++ ([] : va_W)) H → va_D A (gb_ws g σ ++ ([] : va_W)) → va_S A s.heap H locs → CR σ Ab → W p l e room_1 s m #[Value.ref b] below meth c H locs cells slots Q (F0 m 231 ls [])
  := by
  intro d
  induction d with
  | zero =>
    intro k hkd Ab σ H locs cells slots ls h1 h2 hInv hl hP hD hS hCR
    have hk : k = 20 := by omega
    subst hk
    have hx := X.1
    have hb := X.2.1
    refine lv_iload hx hb dL_law_231 (lv_at hl 0 rfl) ?_
    refine lv_bipush (v := 20) hx hb dL_law_233 (by decide) ?_
    refine lv_icmp_ge (tgt := 1342) hx hb dL_law_235 (by decide) (fun _ => ?_) (fun z => absurd (by decide) z)
    exact fin H locs cells slots ls hS (by omega) (by omega)
  | succ d ih =>
    intro k hkd Ab σ H locs cells slots ls h1 h2 hInv hl hP hD hS hCR
    have q1 : k < 20 := by omega
    have q2 : cells + 12 ≤ 600130 ∧ slots + 4100 ≤ 7301080 := by omega
    refine lw_iter X hL l130 l132 q1 q2 hInv hl hP hD hS hCR (fun σ Ad H locs ls cells1 slots1 g1 g2 hl hP hD hS hCR hI => ?_)
    exact ih (k + 1) (by omega) (by omega) (by omega) hI hl hP hD hS hCR
end ITR
