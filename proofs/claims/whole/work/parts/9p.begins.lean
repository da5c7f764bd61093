/-! CONSTRUCTORS: what the reference's calls -/
theorem dn_X10_b0 : decode cX10_begins 0 = .ok (.iconst 0, 1) ∧ decode cX10_begins 1 = .ok (.istore_n 1, 1) ∧ decode cX10_begins 2 = .ok (.iload_n 1, 1) ∧ decode cX10_begins 3 = .ok (.sipush 176, 3) ∧ decode cX10_begins 6 = .ok (.if_icmp .ge 16, 3) ∧ decode cX10_begins 9 = .ok (.aload_n 0, 1) ∧ decode cX10_begins 10 = .ok (.getfield 7, 3) ∧ decode cX10_begins 13 = .ok (.iload_n 1, 1) ∧ decode cX10_begins 14 = .ok (.iconst 0, 1) ∧ decode cX10_begins 15 = .ok (.iastore, 1) ∧ decode cX10_begins 16 = .ok (.iinc 1 1, 3) ∧ decode cX10_begins 19 = .ok (.goto (-17), 3) := ⟨by decide +kernel, by decide +kernel, by decide +kernel, by decide +kernel, by decide +kernel, by decide +kernel, by decide +kernel, by decide +kernel, by decide +kernel, by decide +kernel, by decide +kernel, by decide +kernel⟩
theorem dn_X10_b1 : decode cX10_begins 22 = .ok (.iconst 0, 1) ∧ decode cX10_begins 23 = .ok (.istore_n 1, 1) ∧ decode cX10_begins 24 = .ok (.iload_n 1, 1) ∧ decode cX10_begins 25 = .ok (.bipush 6, 2) ∧ decode cX10_begins 27 = .ok (.if_icmp .ge 20, 3) ∧ decode cX10_begins 30 = .ok (.aload_n 0, 1) ∧ decode cX10_begins 31 = .ok (.getfield 7, 3) ∧ decode cX10_begins 34 = .ok (.bipush 6, 2) ∧ decode cX10_begins 36 = .ok (.iload_n 1, 1) ∧ decode cX10_begins 37 = .ok (.iadd, 1) ∧ decode cX10_begins 38 = .ok (.bipush 99, 2) ∧ decode cX10_begins 40 = .ok (.iastore, 1) ∧ decode cX10_begins 41 = .ok (.iinc 1 1, 3) ∧ decode cX10_begins 44 = .ok (.goto (-20), 3) ∧ decode cX10_begins 47 = .ok (.return_, 1) := ⟨by decide +kernel, by decide +kernel, by decide +kernel, by decide +kernel, by decide +kernel, by decide +kernel, by decide +kernel, by decide +kernel, by decide +kernel, by decide +kernel, by decide +kernel, by decide +kernel, by decide +kernel, by decide +kernel, by decide +kernel⟩
theorem wf_X10_w : Cond.fieldLink RX10 7 "GrainBinsModel" (TX10 0).2.1 (TX10 0).2.2.1 ∈ gb_B := List.mem_filter.mpr ⟨by decide +kernel, by decide +kernel⟩
abbrev gb_wm (g : gb_G) (h0 qw : Nat) (fs : List Value) (f : Nat → Int32) : va_W := [(h0, .inr (10, fs)), (qw, .inl (g.2.2.2.1, 176, .inl f))]
set_option maxHeartbeats 4000000 in
theorem n_X10_begins (l : Launch) (g : gb_G) (h0 qw : Nat) (sz : Nat) (fs : List Value) (hf0 : fs[0]? = some (.ref qw)) (f0 : Nat → Int32) : Met l yX10_begins (.code yX10_begins cX10_begins 2 none :: gb_B) ({ frames := 1, cells := 0, slots := 0, locals := 60 }) (va_Pc [.ref h0] (fun U => U.heap.size = sz ∧ va_P (g.1, g.2.1) vwCl (gb_wm g h0 qw fs f0) U.heap ∧ va_K (g.1, g.2.1) vwCl (gb_T g) U ∧ va_D (fun _ => True) (gb_wm g h0 qw fs f0))) (va_Qv (fun f : Nat → Int32 => ∀ i, i < 176 → f i = if 6 ≤ i ∧ i < 12 then 99 else 0) (fun f t => va_P (g.1, g.2.1) vwCl (gb_wm g h0 qw fs f) t.heap ∧ va_K (g.1, g.2.1) vwCl (gb_T g) t ∧ va_D (va_A (gb_wm g h0 qw fs f0) sz) (gb_wm g h0 qw fs f)) (va_A (gb_wm g h0 qw fs f0) sz)) 0 0 (va_A (gb_wm g h0 qw fs f0) sz) := by
  refine Met.ofW (cc := cX10_begins) (maxL := 2) (ret := none) (by decide +kernel) rfl ?_
  intro p e s m args below meth c s₁ B hml hv
  obtain ⟨rfl, hsz, hP, hK, hD0⟩ := hv
  have hx := B.exec
  have hb := B.bytes
  have hr := B.returns
  have hts0 := atoms_spec (ws := .code yX10_begins cX10_begins 2 none :: gb_B) B.pre
  have hts : ∀ w ∈ gb_B, w.before ([.ref h0] : List Value).toArray s = true := fun w hw => hts0 w (List.mem_cons_of_mem _ hw)
  have hown : s.vm.findClass RX10 = some m.cls := findClass_of_methodNamed B.named
  have hlocks := B.notSynchronized
  subst hsz
  have hD := hD0.self (sz := s.heap.size)
  generalize hAe : va_A (gb_wm g h0 qw fs f0) s.heap.size = A at hD ⊢
  have hS : va_S A s.heap s.heap [] := va_S.rf
  have hl := lv_entry ([.ref h0]) (n := 2) (Nat.le_of_ble_eq_true rfl)
  rw [lg_entry_eq]
  generalize (lg_sl ([.ref h0]) ++ List.replicate (2 - (lg_sl ([.ref h0])).length) Slot.unset).toArray = ls at hl ⊢
  have hl : lv_has ls 2 [(0, .ref h0)] := hl
  obtain ⟨a0, a1, a2, a3, a6, a9, a10, a13, a14, a15, a16, a19⟩ := dn_X10_b0
  obtain ⟨b22, b23, b24, b25, b27, b30, b31, b34, b36, b37, b38, b40, b41, b44, b47⟩ := dn_X10_b1
  have L2 : ∀ (n i : Nat), i + n = 6 → ∀ (f : Nat → Int32) (H : Heap) (locs : List Loc) (ls : Array Slot), (∀ x, x < 176 → f x = if 6 ≤ x ∧ x < 6 + i then 99 else 0) → lv_has ls 2 [(1, .int (nZ i)), (0, .ref h0)] → va_P (g.1, g.2.1) vwCl (gb_wm g h0 qw fs f) H → va_D A (gb_wm g h0 qw fs f) → va_S A s.heap H locs → W p l e (headSpec (.code yX10_begins cX10_begins 2 none :: gb_B) { frames := 1, cells := 0, slots := 0, locals := 60 }).room s m ([.ref h0] : List Value).toArray below meth c H locs 0 0 (MQ below (va_Qv (fun f : Nat → Int32 => ∀ i, i < 176 → f i = if 6 ≤ i ∧ i < 12 then 99 else 0) (fun f t => va_P (g.1, g.2.1) vwCl (gb_wm g h0 qw fs f) t.heap ∧ va_K (g.1, g.2.1) vwCl (gb_T g) t ∧ va_D A (gb_wm g h0 qw fs f)) A) ([.ref h0] : List Value).toArray s 0 0 A) (F0 m 24 ls []) := by
    intro n
    induction n with
    | zero =>
      intro i hi f H locs ls hf hl hP hD hS
      refine lv_iload_n hx hb b24 rfl (lv_at hl 0 rfl) ?_
      refine lv_bipush (v := 6) hx hb b25 (by decide) ?_
      refine lv_icmp_ge (tgt := 47) hx hb b27 (by decide) (fun _ => ?_) (fun c => absurd (by rw [show i = 6 by omega]; decide) c)
      exact W.vret hx hb hr (fun t ht hW => ⟨⟨f, rfl, fun x hx => by rw [hf x hx, show 6 + i = 12 by omega], by rw [ht]; exact hP, va_K.moved hW.alike hK, hD⟩, hS.F ht⟩) hS.2.2 b47
    | succ n ih =>
      intro i hi f H locs ls hf hl hP hD hS
      refine lv_iload_n hx hb b24 rfl (lv_at hl 0 rfl) ?_
      refine lv_bipush (v := 6) hx hb b25 (by decide) ?_
      refine lv_icmp_ge (tgt := 47) hx hb b27 (by decide) (fun c => absurd c (n6 (by omega))) (fun _ => ?_)
      refine lv_aload_n hx hb b30 rfl (lv_at hl 1 rfl) ?_
      refine va_get (D := (g.1, g.2.1)) (ci := 10) (v := .ref qw) (C := RX10) (T := TX10) (N := 38) hx hb hts winX10 hown hK hP 0 rfl rfl 0 (by decide) (hts _ wf_X10_w) (fun _ h9 => h9) hf0 b31 ?_
      refine lv_bipush (v := 6) hx hb b34 (by decide) ?_
      refine lv_iload_n hx hb b36 rfl (lv_at hl 0 rfl) ?_
      refine lv_iadd hx hb b37 ?_
      refine lv_bipush (v := 99) hx hb b38 (by decide) ?_
      rw [z6, z_add]
      refine va_iast (D := (g.1, g.2.1)) hx hb hK hP hD hS 1 0 rfl rfl (vpz (by omega)) b40 (fun H1 locs1 hP1 hD1 hS1 => ?_)
      refine lv_iinc (v := nZ (i + 1 : Nat)) (lv' := [(1, .int (nZ (i + 1 : Nat))), (0, .ref h0)]) hx hb b41 hl (k := 0) rfl (by show nZ i + nZ 1 = _; rw [z_add]; rfl) (by decide) rfl (fun ls hl => ?_)
      refine lv_goto (tgt := 24) hx hb b44 (by decide) ?_
      refine ih (i + 1) (by omega) (upd f (nZ (6 + (i : Int))).toNatClampNeg 99) H1 locs1 ls (fun x hx => ?_) hl hP1 hD1 hS1
      rw [z_tn (by omega), show ((6 : Int) + (i : Int)).toNat = 6 + i by omega]
      unfold upd
      by_cases e : x = 6 + i
      · rw [if_pos e, if_pos (by omega)]
      · rw [if_neg e, hf x hx]
        by_cases e2 : 6 ≤ x ∧ x < 6 + i
        · rw [if_pos e2, if_pos (by omega)]
        · rw [if_neg e2, if_neg (by omega)]
  have L1 : ∀ (n i : Nat), i + n = 176 → ∀ (f : Nat → Int32) (H : Heap) (locs : List Loc) (ls : Array Slot), (∀ x, x < i → f x = 0) → lv_has ls 2 [(1, .int (nZ i)), (0, .ref h0)] → va_P (g.1, g.2.1) vwCl (gb_wm g h0 qw fs f) H → va_D A (gb_wm g h0 qw fs f) → va_S A s.heap H locs → W p l e (headSpec (.code yX10_begins cX10_begins 2 none :: gb_B) { frames := 1, cells := 0, slots := 0, locals := 60 }).room s m ([.ref h0] : List Value).toArray below meth c H locs 0 0 (MQ below (va_Qv (fun f : Nat → Int32 => ∀ i, i < 176 → f i = if 6 ≤ i ∧ i < 12 then 99 else 0) (fun f t => va_P (g.1, g.2.1) vwCl (gb_wm g h0 qw fs f) t.heap ∧ va_K (g.1, g.2.1) vwCl (gb_T g) t ∧ va_D A (gb_wm g h0 qw fs f)) A) ([.ref h0] : List Value).toArray s 0 0 A) (F0 m 2 ls []) := by
    intro n
    induction n with
    | zero =>
      intro i hi f H locs ls hf hl hP hD hS
      refine lv_iload_n hx hb a2 rfl (lv_at hl 0 rfl) ?_
      refine lv_sipush (v := 176) hx hb a3 (by decide) ?_
      refine lv_icmp_ge (tgt := 22) hx hb a6 (by decide) (fun _ => ?_) (fun c => absurd (by rw [show i = 176 by omega]; decide) c)
      refine lv_iconst (v := 0) hx hb b22 (by decide) ?_
      refine lv_istore_n (lv' := [(1, .int 0), (0, .ref h0)]) hx hb b23 rfl hl (by decide) rfl (fun ls hl => ?_)
      exact L2 6 0 rfl f H locs ls (fun x hx => by rw [hf x (by omega), if_neg (by omega)]) hl hP hD hS
    | succ n ih =>
      intro i hi f H locs ls hf hl hP hD hS
      refine lv_iload_n hx hb a2 rfl (lv_at hl 0 rfl) ?_
      refine lv_sipush (v := 176) hx hb a3 (by decide) ?_
      refine lv_icmp_ge (tgt := 22) hx hb a6 (by decide) (fun c => absurd c (by rw [z176, z_le ⟨by omega, by omega⟩ ⟨by omega, by omega⟩]; omega)) (fun _ => ?_)
      refine lv_aload_n hx hb a9 rfl (lv_at hl 1 rfl) ?_
      refine va_get (D := (g.1, g.2.1)) (ci := 10) (v := .ref qw) (C := RX10) (T := TX10) (N := 38) hx hb hts winX10 hown hK hP 0 rfl rfl 0 (by decide) (hts _ wf_X10_w) (fun _ h9 => h9) hf0 a10 ?_
      refine lv_iload_n hx hb a13 rfl (lv_at hl 0 rfl) ?_
      refine lv_iconst (v := 0) hx hb a14 (by decide) ?_
      refine va_iast (D := (g.1, g.2.1)) hx hb hK hP hD hS 1 0 rfl rfl (vpz (by omega)) a15 (fun H1 locs1 hP1 hD1 hS1 => ?_)
      refine lv_iinc (v := nZ (i + 1 : Nat)) (lv' := [(1, .int (nZ (i + 1 : Nat))), (0, .ref h0)]) hx hb a16 hl (k := 0) rfl (by show nZ i + nZ 1 = _; rw [z_add]; rfl) (by decide) rfl (fun ls hl => ?_)
      refine lv_goto (tgt := 2) hx hb a19 (by decide) ?_
      refine ih (i + 1) (by omega) (upd f (nZ i).toNatClampNeg 0) H1 locs1 ls (fun x hx => ?_) hl hP1 hD1 hS1
      rw [z_tn (by omega), Int.toNat_natCast]
      unfold upd
      by_cases e : x = i
      · rw [if_pos e]
      · rw [if_neg e]; exact hf x (by omega)
  refine lv_iconst (v := 0) hx hb a0 (by decide) ?_
  refine lv_istore_n (lv' := [(1, .int 0), (0, .ref h0)]) hx hb a1 rfl hl (by decide) rfl (fun ls hl => ?_)
  exact L1 176 0 rfl f0 s.heap [] ls (fun x hx => by omega) hl hP hD hS
