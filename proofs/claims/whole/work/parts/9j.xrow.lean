/-! ROW: the class's method, that answers or throws -/
section GFW
variable {p : Program} {l : Launch} {e : Env} {R : Room} {s : State} {m : MethodId} {args : Array Value} {below : List Frame} {meth : Method} {c : Code} {g : gb_G} {cells slots pc : Nat} {Q : State → Prop} {own : String} {cc : ByteArray}
theorem lw_gf {ref C : String} {T : u_T} {N ci i idx k j : Nat} (hx : p.tables.exec = Jvm.exec) (hb : c.code = cc) (hown : s.vm.findClass own = some m.cls) (hts : ∀ w ∈ gb_B, w.before args s = true) (hK : va_K (g.1, g.2.1) vwCl (gb_T g) s) (hin : ∀ w ∈ u_ws C T N, w ∈ gb_B) (hc : vwCl[ci]? = some (C, T, N)) (hi : i < N) (hw : Cond.fieldLink own idx ref (T i).2.1 (T i).2.2.1 ∈ gb_B) (hr : (T i).1 = ref) {fs : List gb_Fs} (hok : gb_ok (gR k j)) (hkd : gb_kd k = .inl (ci, fs)) {σ : gb_M} {H : Heap} {locs : List Loc} {arr : Array Slot} {st : List Value} (hP : va_P (g.1, g.2.1) vwCl (gb_ws g σ) H) {v : gb_V} (hv : (gb_mk g j (σ.1 k j) (σ.2 k j) fs 0)[i]? = some (gb_v g v)) (d : decode cc pc = .ok (.getfield idx, 3)) (h : W p l e R s m args below meth c H locs cells slots Q (F0 m (pc + 3) arr (gb_v g v :: st))) : W p l e R s m args below meth c H locs cells slots Q (F0 m pc arr (.ref (g.2.2.1 k j) :: st)) := by
  obtain ⟨q0, -, h0⟩ := gb_at (k := k) (j := j) hok
  have he := h0 g σ
  unfold gb_en at he
  rw [show gb_kd (k, j).1 = .inl (ci, fs) from hkd] at he
  have he : (gb_ws g σ)[q0]? = some (g.2.2.1 k j, .inr (ci, gb_mk g j (σ.1 k j) (σ.2 k j) fs 0)) := he
  exact va_get (D := (g.1, g.2.1)) hx hb hts hin hown hK hP q0 he hc i hi (hts _ hw) (fun x hx => hr ▸ hx) hv d h
theorem lw_lald {k j N : Nat} {φ : Nat → Nat → Nat × Nat} {a : Int32} (hx : p.tables.exec = Jvm.exec) (hb : c.code = cc) (hK : va_K (g.1, g.2.1) vwCl (gb_T g) s) (hok : gb_ok (gR k j)) (hkd : gb_kd k = .inr (2, N, φ)) (hi : gb_in a N = true) {σ : gb_M} {H : Heap} {locs : List Loc} {arr : Array Slot} {st : List Value} (hP : va_P (g.1, g.2.1) vwCl (gb_ws g σ) H) (d : decode cc pc = .ok (.laload, 1)) (h : W p l e R s m args below meth c H locs cells slots Q (F0 m (pc + 1) arr (.long (σ.2 k j a.toNatClampNeg) :: st))) : W p l e R s m args below meth c H locs cells slots Q (F0 m pc arr (.int a :: .ref (g.2.2.1 k j) :: st)) := by
  obtain ⟨q0, -, h0⟩ := gb_at (k := k) (j := j) hok
  have he := h0 g σ
  unfold gb_en at he
  rw [show gb_kd (k, j).1 = .inr (2, N, φ) from hkd] at he
  exact va_lald (D := (g.1, g.2.1)) hx hb hK hP q0 2 he rfl (gb_in_s hi) d h
end GFW
theorem xw_1 : Cond.fieldLink RX9 48 "GrainBins" (TX9 7).2.1 (TX9 7).2.2.1 ∈ gb_B ∧ Cond.fieldLink RX9 340 "GrainBins$Row" (TX4 1).2.1 (TX4 1).2.2.1 ∈ gb_B ∧ Cond.fieldLink RX9 344 "GrainBins$Row" (TX4 0).2.1 (TX4 0).2.2.1 ∈ gb_B ∧ Cond.classLink RX9 341 gNE ∈ gb_B ∧ Cond.initialized gNE ∈ gb_B := ⟨List.mem_filter.mpr ⟨by decide +kernel, by decide +kernel⟩, List.mem_filter.mpr ⟨by decide +kernel, by decide +kernel⟩, List.mem_filter.mpr ⟨by decide +kernel, by decide +kernel⟩, List.mem_filter.mpr ⟨by decide +kernel, by decide +kernel⟩, List.mem_filter.mpr ⟨by decide +kernel, by decide +kernel⟩⟩
def gb_rmX : Room := { frames := 6, cells := 1, slots := 6, locals := 100 }
def gb_PcX (g : gb_G) (as : List gb_V) (σ : gb_M) (sz : Nat) : Array Value → State → Prop := va_Pc (as.map (gb_v g)) (fun U => U.heap.size = sz ∧ va_P (g.1, g.2.1) vwCl (gb_ws g σ) U.heap ∧ va_K (g.1, g.2.1) vwCl (gb_T g) U ∧ va_D (fun _ => True) (gb_ws g σ) ∧ gb_xw U ∧ gb_xs (va_A (gb_ws g σ) sz) U U.heap)
theorem gb_blX {g : gb_G} {as : List gb_V} {σ : gb_M} {sz : Nat} : FrameBlind (gb_PcX g as σ sz) := fun a U g' mk q => by
  obtain ⟨q0, q1, qP, qK, qD, qw, qs⟩ := q
  exact ⟨q0, q1, qP, va_K.moved (u := U) (U := U.calling g' mk a) (Vm.Alike.refl U.vm) qK, qD, fun w hw => va_tabs (xB_tabs w hw) (rfl : U.vm = (U.calling g' mk a).vm) (qw w hw), qs.moved (U := U.calling g' mk a) (Vm.Alike.refl U.vm)⟩
def gb_XC (g : gb_G) (σ : gb_M) (A : Nat → Prop) (P : Prop) : String → State → State → Prop := vx_X (fun u : gb_M => u = σ ∧ P) (fun E u t => E = gNE ∧ gb_Bs g A u t) A
set_option maxHeartbeats 4000000 in
theorem c_X9_row (l : Launch) (hl0 : l.stackTraces = false) (g : gb_G) (a : Int32) (σ : gb_M) (sz : Nat) (h8 : σ.1 21 0 1 ≤ 8) : vx_Met l yX9_row (.code yX9_row cX9_row 2 (some .long) :: gb_B) gb_rmX (gb_PcX g [gR 0 0, gI a] σ sz) (va_Ql (fun (r : Int64) (u : gb_M) => (¬ a < 0 ∧ a < σ.1 21 0 1 ∧ r = σ.2 22 0 a.toNatClampNeg) ∧ u = σ) (gb_Bs g (va_A (gb_ws g σ) sz)) (va_A (gb_ws g σ) sz)) (gb_XC g σ (va_A (gb_ws g σ) sz) (a < 0 ∨ σ.1 21 0 1 ≤ a)) 1 6 (va_A (gb_ws g σ) sz) := by
  refine vx_ofW (cc := cX9_row) (maxL := 2) (ret := some .long) (ws' := gb_B) (by decide +kernel) rfl ?_
  intro p e s m args below meth c s₁ B hml htab hv
  obtain ⟨rfl, hsz, hP, hK, hD0, hxw, hxs⟩ := hv
  have hx := B.exec
  have hb := B.bytes
  have hr := B.returns
  have hts0 := atoms_spec (ws := .code yX9_row cX9_row 2 (some .long) :: gb_B) B.pre
  have hts : ∀ w ∈ gb_B, w.before (([gR 0 0, gI a] : List gb_V).map (gb_v g)).toArray s = true := fun w hw => hts0 w (List.mem_cons_of_mem _ hw)
  have hown : s.vm.findClass RX9 = some m.cls := findClass_of_methodNamed B.named
  have hlocks := B.notSynchronized
  subst hsz
  have hD : va_D (va_A (gb_ws g σ) s.heap.size) (gb_ws g σ) := hD0.self (sz := s.heap.size)
  have hS : va_S (va_A (gb_ws g σ) s.heap.size) s.heap s.heap [] := va_S.rf
  have hl := lv_entry ([.ref (g.2.2.1 0 0), .int a]) (n := 2) (Nat.le_of_ble_eq_true rfl)
  have ea : (([gR 0 0, gI a] : List gb_V).map (gb_v g)) = [.ref (g.2.2.1 0 0), .int a] := rfl
  rw [ea] at hts ⊢
  rw [lg_entry_eq]
  generalize (lg_sl ([.ref (g.2.2.1 0 0), .int a]) ++ List.replicate (2 - (lg_sl ([.ref (g.2.2.1 0 0), .int a])).length) Slot.unset).toArray = ls at hl ⊢
  have hl : lv_has ls 2 [(0, .ref (g.2.2.1 0 0)), (1, .int a)] := hl
  obtain ⟨w1, w2, w3, w4, w5⟩ := xw_1
  have thr : (a < 0 ∨ σ.1 21 0 1 ≤ a) → W p l e gb_rmX s m ([.ref (g.2.2.1 0 0), .int a] : List Value).toArray below meth c s.heap [] 0 0 (vx_MQ below (va_Ql (fun (r : Int64) (u : gb_M) => (¬ a < 0 ∧ a < σ.1 21 0 1 ∧ r = σ.2 22 0 a.toNatClampNeg) ∧ u = σ) (gb_Bs g (va_A (gb_ws g σ) s.heap.size)) (va_A (gb_ws g σ) s.heap.size)) (gb_XC g σ (va_A (gb_ws g σ) s.heap.size) (a < 0 ∨ σ.1 21 0 1 ≤ a)) ([.ref (g.2.2.1 0 0), .int a] : List Value).toArray s 1 6 (va_A (gb_ws g σ) s.heap.size)) (F0 m 15 ls []) := by
    intro hbad
    refine vx_throw0 (own := RX9) (cls := gNE) (names := gNS) (ik := 341) (ic := 343) (A := va_A (gb_ws g σ) s.heap.size) hx hb hl0 hown (by decide +kernel) (by decide +kernel) (hts _ w4) (hts _ w5) ?_ ?_ hxs.1 hxs.2 hS (by rw [hml]; exact hl.1) dX9_row_15 dX9_row_18 dX9_row_19 dX9_row_22 (fun x hx => absurd (htab x hx) (fun z => z)) (by decide) (Nat.le_of_ble_eq_true rfl) (Nat.le_of_ble_eq_true rfl) (Nat.le_of_ble_eq_true rfl) hlocks ?_ (fun z hz => by cases hz) (Nat.le_refl 1) (Nat.le_refl 6)
    · refine vx_hat (fun w hw => hts w (xG_B w hw)) xB_of (fun w hw => va_tabs (xB_tabs w hw) rfl (hxw w hw))
    · intro w hw
      rcases List.mem_cons.mp hw with rfl | hw
      · decide +kernel
      rcases List.mem_cons.mp hw with rfl | hw
      · decide +kernel
      · exact xB_ot w hw
    · intro t hal hge hkp
      refine ⟨σ, ⟨rfl, hbad⟩, ⟨rfl, hP.kept (fun k q hk => hkp q.1 (vx_lt hP hk)), va_K.moved hal hK, hD⟩, ⟨hge, fun q h1 _ => hkp q h1⟩⟩
  refine lv_iload_n hx hb dX9_row_0 rfl (lv_at hl 1 rfl) ?_
  refine lv_if_lt (tgt := 15) hx hb dX9_row_1 (by decide) (fun c1 => thr (Or.inl c1)) (fun c1 => ?_)
  refine lv_iload_n hx hb dX9_row_4 rfl (lv_at hl 1 rfl) ?_
  refine lv_aload_n hx hb dX9_row_5 rfl (lv_at hl 0 rfl) ?_
  refine lw_gf (ci := 9) (i := 7) (k := 0) (j := 0) (v := gR 21 0) hx hb hown hts hK winX9 rfl (by decide) w1 rfl ⟨by decide +kernel, by decide +kernel⟩ rfl hP rfl dX9_row_6 ?_
  refine lw_gf (ci := 4) (i := 1) (k := 21) (j := 0) (v := gI (σ.1 21 0 1)) hx hb hown hts hK winX4 rfl (by decide) w2 rfl ⟨by decide +kernel, by decide +kernel⟩ rfl hP rfl dX9_row_9 ?_
  refine lv_icmp_lt (tgt := 23) hx hb dX9_row_12 (by decide) (fun c2 => ?_) (fun c2 => thr (Or.inr (by rw [Int32.le_iff_toInt_le]; rw [Int32.lt_iff_toInt_lt] at c2; omega)))
  refine lv_aload_n hx hb dX9_row_23 rfl (lv_at hl 0 rfl) ?_
  refine lw_gf (ci := 9) (i := 7) (k := 0) (j := 0) (v := gR 21 0) hx hb hown hts hK winX9 rfl (by decide) w1 rfl ⟨by decide +kernel, by decide +kernel⟩ rfl hP rfl dX9_row_24 ?_
  refine lw_gf (ci := 4) (i := 0) (k := 21) (j := 0) (v := gR 22 0) hx hb hown hts hK winX4 rfl (by decide) w3 rfl ⟨by decide +kernel, by decide +kernel⟩ rfl hP rfl dX9_row_27 ?_
  refine lv_iload_n hx hb dX9_row_30 rfl (lv_at hl 1 rfl) ?_
  have hin : gb_in a 8 = true := by
    have e8 : (8 : Int32).toInt = 8 := by decide
    have e0 : (0 : Int32).toInt = 0 := by decide
    rw [Int32.lt_iff_toInt_lt] at c1 c2
    rw [Int32.le_iff_toInt_le] at h8
    rw [nZ_of a]
    exact z_in (by rw [e0] at c1; rw [e8] at h8; have := nZ_rz a; omega)
  refine lw_lald (k := 22) (j := 0) hx hb hK ⟨by decide +kernel, by decide +kernel⟩ rfl hin hP dX9_row_31 ?_
  refine vx_ret (W.widen (k := 1) (n := 6) (Nat.zero_le _) (Nat.zero_le _) ?_)
  exact W.lret (v := σ.2 22 0 a.toNatClampNeg) hx hb hr (fun t ht hW => ⟨⟨_, σ, rfl, ⟨⟨c1, c2, rfl⟩, rfl⟩, by rw [ht]; exact hP, va_K.moved hW.alike hK, hD⟩, hS.F ht⟩) hS.2.2 dX9_row_32
