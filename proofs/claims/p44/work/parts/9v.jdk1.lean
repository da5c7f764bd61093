/-! JDK: StringBuilder, its start and append(char) (printed by wip/p44/jdk1.py) -/
theorem dJ5_isLatin1_aae02_0 : decode cJ5_isLatin1_aae02 0 = .ok (.getstatic 18, 3) := by decide +kernel
theorem dJ5_isLatin1_aae02_3 : decode cJ5_isLatin1_aae02 3 = .ok (.ifCond .eq 14, 3) := by decide +kernel
theorem dJ5_isLatin1_aae02_6 : decode cJ5_isLatin1_aae02 6 = .ok (.aload_n 0, 1) := by decide +kernel
theorem dJ5_isLatin1_aae02_7 : decode cJ5_isLatin1_aae02 7 = .ok (.getfield 22, 3) := by decide +kernel
theorem dJ5_isLatin1_aae02_10 : decode cJ5_isLatin1_aae02 10 = .ok (.ifCond .ne 7, 3) := by decide +kernel
theorem dJ5_isLatin1_aae02_13 : decode cJ5_isLatin1_aae02 13 = .ok (.iconst 1, 1) := by decide +kernel
theorem dJ5_isLatin1_aae02_14 : decode cJ5_isLatin1_aae02 14 = .ok (.goto 4, 3) := by decide +kernel
theorem dJ5_isLatin1_aae02_17 : decode cJ5_isLatin1_aae02 17 = .ok (.iconst 0, 1) := by decide +kernel
theorem dJ5_isLatin1_aae02_18 : decode cJ5_isLatin1_aae02 18 = .ok (.ireturn, 1) := by decide +kernel
theorem wj_J5_isLatin1_aae02 : ∀ w ∈ ([.fieldLink RJ5 18 "java/lang/String" "COMPACT_STRINGS" "Z", .fieldLink RJ5 22 "java/lang/AbstractStringBuilder" "coder" "B"] : List Cond), w ∈ gb_J := by
  have h : ∀ w ∈ ([.fieldLink RJ5 18 "java/lang/String" "COMPACT_STRINGS" "Z", .fieldLink RJ5 22 "java/lang/AbstractStringBuilder" "coder" "B"] : List Cond), w ∈ jsw ∨ (w ∈ lw_tbl ∧ goodWord w = true) := by decide +kernel
  exact gb_J_of h
set_option maxHeartbeats 4000000 in
theorem n_J5_isLatin1_aae02 (l : Launch) (g : gb_G) (t1 t2 : Nat) (h q cap n : Nat) (f : Nat → Int32)  : Met l yJ5_isLatin1_aae02 (.code yJ5_isLatin1_aae02 cJ5_isLatin1_aae02 1 (some .boolean) :: gb_J) ({ frames := 2, cells := 0, slots := 0, locals := 100 }) (jp g (jC t1 t2) [.ref (h)] ([(h, .inr (11, [.ref (q), .int 0, .int 0, .int (nI n)])), (q, .inl (g.2.2.2.2.1, cap, .inl (f)))] : va_W)) (vp_Si (fun r => r = 1)) 0 0 (fun _ => False) := by
  refine Met.ofW (cc := cJ5_isLatin1_aae02) (maxL := 1) (ret := (some .boolean)) (by decide +kernel) rfl ?_
  intro p e s m args below meth c s₁ B hml hv
  obtain ⟨rfl, hP, hK, hC⟩ := hv
  have hx := B.exec
  have hb := B.bytes
  have hr := B.returns
  have hts0 := atoms_spec (ws := .code yJ5_isLatin1_aae02 cJ5_isLatin1_aae02 1 (some .boolean) :: gb_J) B.pre
  have hts : ∀ w ∈ gb_J, w.before ([.ref (h)] : List Value).toArray s = true := fun w hw => hts0 w (List.mem_cons_of_mem _ hw)
  have hown : s.vm.findClass RJ5 = some m.cls := findClass_of_methodNamed B.named
  have hlocks := B.notSynchronized
  have hS : va_S (fun _ => False) s.heap s.heap [] := va_S.rf
  have hl := lv_entry ([.ref (h)]) (n := 1) (Nat.le_of_ble_eq_true rfl)
  rw [lg_entry_eq]
  generalize (lg_sl ([.ref (h)]) ++ List.replicate (1 - (lg_sl ([.ref (h)])).length) Slot.unset).toArray = ls at hl ⊢
  have hl : lv_has ls 1 [(0, .ref (h))] := hl
  refine va_gets (v := .int (1)) hx hb hC.1 hS hown (hts _ (wj_J5_isLatin1_aae02 _ (List.mem_of_getElem? (i := 0) rfl))) (fun _ h9 => h9) dJ5_isLatin1_aae02_0 ?_
  refine lv_if_eq (tgt := 17) hx hb dJ5_isLatin1_aae02_3 (by decide) (fun c9 => absurd c9 (by decide)) (fun _ => ?_)
  refine lv_aload_n hx hb dJ5_isLatin1_aae02_6 rfl (lv_at hl 0 rfl) ?_
  refine va_get (D := (g.1, g.2.1)) (ci := 11) (v := .int (0)) (C := RJ4) (T := TJ4) (N := 4) hx hb hts winJ4 hown hK hP 0 rfl rfl 1 (by decide) (hts _ (wj_J5_isLatin1_aae02 _ (List.mem_of_getElem? (i := 1) rfl))) (fun _ h9 => h9) rfl dJ5_isLatin1_aae02_7 ?_
  refine lv_if_ne (tgt := 17) hx hb dJ5_isLatin1_aae02_10 (by decide) (fun c9 => absurd rfl c9) (fun _ => ?_)
  refine lv_iconst (v := 1) hx hb dJ5_isLatin1_aae02_13 (by decide) ?_
  refine lv_goto (tgt := 18) hx hb dJ5_isLatin1_aae02_14 (by decide) ?_
  exact W.zret (v := 1) (ty := .boolean) hx hb hr (rfl) (fun t ht hW => ⟨1, rfl, rfl, ht⟩) (fun q h => by cases h) dJ5_isLatin1_aae02_18
theorem dJ1_canEncode_fc78d_0 : decode cJ1_canEncode_fc78d 0 = .ok (.iload_n 0, 1) := by decide +kernel
theorem dJ1_canEncode_fc78d_1 : decode cJ1_canEncode_fc78d 1 = .ok (.sipush 255, 3) := by decide +kernel
theorem dJ1_canEncode_fc78d_4 : decode cJ1_canEncode_fc78d 4 = .ok (.if_icmp .gt 7, 3) := by decide +kernel
theorem dJ1_canEncode_fc78d_7 : decode cJ1_canEncode_fc78d 7 = .ok (.iconst 1, 1) := by decide +kernel
theorem dJ1_canEncode_fc78d_8 : decode cJ1_canEncode_fc78d 8 = .ok (.goto 4, 3) := by decide +kernel
theorem dJ1_canEncode_fc78d_11 : decode cJ1_canEncode_fc78d 11 = .ok (.iconst 0, 1) := by decide +kernel
theorem dJ1_canEncode_fc78d_12 : decode cJ1_canEncode_fc78d 12 = .ok (.ireturn, 1) := by decide +kernel
set_option maxHeartbeats 4000000 in
theorem n_J1_canEncode_fc78d (l : Launch) (g : gb_G) (t1 t2 : Nat) (ch : Nat) (hc : ch < 128) : Met l yJ1_canEncode_fc78d (.code yJ1_canEncode_fc78d cJ1_canEncode_fc78d 1 (some .boolean) :: gb_J) ({ frames := 2, cells := 0, slots := 0, locals := 100 }) (jp g (jC t1 t2) [.int (nI ch)] ([] : va_W)) (vp_Si (fun r => r = 1)) 0 0 (fun _ => False) := by
  refine Met.ofW (cc := cJ1_canEncode_fc78d) (maxL := 1) (ret := (some .boolean)) (by decide +kernel) rfl ?_
  intro p e s m args below meth c s₁ B hml hv
  obtain ⟨rfl, hP, hK, hC⟩ := hv
  have hx := B.exec
  have hb := B.bytes
  have hr := B.returns
  have hts0 := atoms_spec (ws := .code yJ1_canEncode_fc78d cJ1_canEncode_fc78d 1 (some .boolean) :: gb_J) B.pre
  have hts : ∀ w ∈ gb_J, w.before ([.int (nI ch)] : List Value).toArray s = true := fun w hw => hts0 w (List.mem_cons_of_mem _ hw)
  have hown : s.vm.findClass RJ1 = some m.cls := findClass_of_methodNamed B.named
  have hlocks := B.notSynchronized
  have hS : va_S (fun _ => False) s.heap s.heap [] := va_S.rf
  have hl := lv_entry ([.int (nI ch)]) (n := 1) (Nat.le_of_ble_eq_true rfl)
  rw [lg_entry_eq]
  generalize (lg_sl ([.int (nI ch)]) ++ List.replicate (1 - (lg_sl ([.int (nI ch)])).length) Slot.unset).toArray = ls at hl ⊢
  have hl : lv_has ls 1 [(0, .int (nI ch))] := hl
  refine lv_iload_n hx hb dJ1_canEncode_fc78d_0 rfl (lv_at hl 0 rfl) ?_
  refine lv_sipush (v := 255) hx hb dJ1_canEncode_fc78d_1 (by decide) ?_
  refine lv_icmp_gt (tgt := 11) hx hb dJ1_canEncode_fc78d_4 (by decide) (fun c9 => absurd c9 (show ¬ nI 255 < nI ch from nI_nlt (by omega) (by omega))) (fun _ => ?_)
  refine lv_iconst (v := 1) hx hb dJ1_canEncode_fc78d_7 (by decide) ?_
  refine lv_goto (tgt := 12) hx hb dJ1_canEncode_fc78d_8 (by decide) ?_
  exact W.zret (v := 1) (ty := .boolean) hx hb hr (rfl) (fun t ht hW => ⟨1, rfl, rfl, ht⟩) (fun q h => by cases h) dJ1_canEncode_fc78d_12
theorem dJ8_newLength_cabcc_0 : decode cJ8_newLength_cabcc 0 = .ok (.iload_n 0, 1) := by decide +kernel
theorem dJ8_newLength_cabcc_1 : decode cJ8_newLength_cabcc 1 = .ok (.iload_n 1, 1) := by decide +kernel
theorem dJ8_newLength_cabcc_2 : decode cJ8_newLength_cabcc 2 = .ok (.iload_n 2, 1) := by decide +kernel
theorem dJ8_newLength_cabcc_3 : decode cJ8_newLength_cabcc 3 = .ok (.invokestatic 194, 3) := by decide +kernel
theorem dJ8_newLength_cabcc_6 : decode cJ8_newLength_cabcc 6 = .ok (.iadd, 1) := by decide +kernel
theorem dJ8_newLength_cabcc_7 : decode cJ8_newLength_cabcc 7 = .ok (.istore_n 3, 1) := by decide +kernel
theorem dJ8_newLength_cabcc_8 : decode cJ8_newLength_cabcc 8 = .ok (.iconst 0, 1) := by decide +kernel
theorem dJ8_newLength_cabcc_9 : decode cJ8_newLength_cabcc 9 = .ok (.iload_n 3, 1) := by decide +kernel
theorem dJ8_newLength_cabcc_10 : decode cJ8_newLength_cabcc 10 = .ok (.if_icmp .ge 11, 3) := by decide +kernel
theorem dJ8_newLength_cabcc_13 : decode cJ8_newLength_cabcc 13 = .ok (.iload_n 3, 1) := by decide +kernel
theorem dJ8_newLength_cabcc_14 : decode cJ8_newLength_cabcc 14 = .ok (.ldc 200, 2) := by decide +kernel
theorem dJ8_newLength_cabcc_16 : decode cJ8_newLength_cabcc 16 = .ok (.if_icmp .gt 5, 3) := by decide +kernel
theorem dJ8_newLength_cabcc_19 : decode cJ8_newLength_cabcc 19 = .ok (.iload_n 3, 1) := by decide +kernel
theorem dJ8_newLength_cabcc_20 : decode cJ8_newLength_cabcc 20 = .ok (.ireturn, 1) := by decide +kernel
theorem dJ8_newLength_cabcc_21 : decode cJ8_newLength_cabcc 21 = .ok (.iload_n 0, 1) := by decide +kernel
theorem dJ8_newLength_cabcc_22 : decode cJ8_newLength_cabcc 22 = .ok (.iload_n 1, 1) := by decide +kernel
theorem dJ8_newLength_cabcc_23 : decode cJ8_newLength_cabcc 23 = .ok (.invokestatic 201, 3) := by decide +kernel
theorem dJ8_newLength_cabcc_26 : decode cJ8_newLength_cabcc 26 = .ok (.ireturn, 1) := by decide +kernel
theorem wj_J8_newLength_cabcc : ∀ w ∈ ([.methodLink RJ8 194 Lib.Math.max.name, .static Lib.Math.max.name, .initialized "java/lang/Math", .code Lib.Math.max.name Lib.Math.max.code 2 (some .int), .constant RJ8 200 (2147483639)] : List Cond), w ∈ gb_J := by
  have h : ∀ w ∈ ([.methodLink RJ8 194 Lib.Math.max.name, .static Lib.Math.max.name, .initialized "java/lang/Math", .code Lib.Math.max.name Lib.Math.max.code 2 (some .int), .constant RJ8 200 (2147483639)] : List Cond), w ∈ jsw ∨ (w ∈ lw_tbl ∧ goodWord w = true) := by decide +kernel
  exact gb_J_of h
set_option maxHeartbeats 4000000 in
theorem n_J8_newLength_cabcc (l : Launch) (g : gb_G) (t1 t2 : Nat) (o mi pr : Nat) (h0 : o < 1000) (h1 : mi < 1000) (h2 : pr < 1000) (h3 : 0 < pr) : Met l yJ8_newLength_cabcc (.code yJ8_newLength_cabcc cJ8_newLength_cabcc 4 (some .int) :: gb_J) ({ frames := 4, cells := 0, slots := 0, locals := 200 }) (jp g (jC t1 t2) [.int (nI o), .int (nI mi), .int (nI pr)] ([] : va_W)) (vp_Si (fun r => r = nI (o + max mi pr))) 0 0 (fun _ => False) := by
  refine Met.ofW (cc := cJ8_newLength_cabcc) (maxL := 4) (ret := (some .int)) (by decide +kernel) rfl ?_
  intro p e s m args below meth c s₁ B hml hv
  obtain ⟨rfl, hP, hK, hC⟩ := hv
  have hx := B.exec
  have hb := B.bytes
  have hr := B.returns
  have hts0 := atoms_spec (ws := .code yJ8_newLength_cabcc cJ8_newLength_cabcc 4 (some .int) :: gb_J) B.pre
  have hts : ∀ w ∈ gb_J, w.before ([.int (nI o), .int (nI mi), .int (nI pr)] : List Value).toArray s = true := fun w hw => hts0 w (List.mem_cons_of_mem _ hw)
  have hown : s.vm.findClass RJ8 = some m.cls := findClass_of_methodNamed B.named
  have hlocks := B.notSynchronized
  have hS : va_S (fun _ => False) s.heap s.heap [] := va_S.rf
  have hl := lv_entry ([.int (nI o), .int (nI mi), .int (nI pr)]) (n := 4) (Nat.le_of_ble_eq_true rfl)
  rw [lg_entry_eq]
  generalize (lg_sl ([.int (nI o), .int (nI mi), .int (nI pr)]) ++ List.replicate (4 - (lg_sl ([.int (nI o), .int (nI mi), .int (nI pr)])).length) Slot.unset).toArray = ls at hl ⊢
  have hl : lv_has ls 4 [(0, .int (nI o)), (1, .int (nI mi)), (2, .int (nI pr))] := hl
  refine lv_iload_n hx hb dJ8_newLength_cabcc_0 rfl (lv_at hl 0 rfl) ?_
  refine lv_iload_n hx hb dJ8_newLength_cabcc_1 rfl (lv_at hl 1 rfl) ?_
  refine lv_iload_n hx hb dJ8_newLength_cabcc_2 rfl (lv_at hl 2 rfl) ?_
  refine va_mmax hx hb (hml.trans hl.1.symm) hown (hts _ (wj_J8_newLength_cabcc _ (List.mem_of_getElem? (i := 0) rfl))) (hts _ (wj_J8_newLength_cabcc _ (List.mem_of_getElem? (i := 1) rfl))) (hts _ (wj_J8_newLength_cabcc _ (List.mem_of_getElem? (i := 2) rfl))) (hts _ (wj_J8_newLength_cabcc _ (List.mem_of_getElem? (i := 3) rfl))) (Nat.le_of_ble_eq_true rfl) (Nat.le_of_ble_eq_true rfl) (Nat.le_of_ble_eq_true rfl) (Nat.le_of_ble_eq_true rfl) dJ8_newLength_cabcc_3 ?_
  refine W.eq (g2 := F0 m 6 ls [.int (nI (max mi pr)), .int (nI o)]) (by rw [jmax (a := mi) (b := pr) (by omega) (by omega)]) ?_
  refine lv_iadd hx hb dJ8_newLength_cabcc_6 ?_
  refine W.eq (g2 := F0 m 7 ls [.int (nI (o + max mi pr))]) (by rw [show ((nI o) + (nI (max mi pr)) : Int32) = nI (o + max mi pr) from nI_add _ _]) ?_
  refine lv_istore_n (lv' := [(3, .int (nI (o + max mi pr))), (0, .int (nI o)), (1, .int (nI mi)), (2, .int (nI pr))]) hx hb dJ8_newLength_cabcc_7 rfl hl (by decide) rfl (fun ls hl => ?_)
  refine lv_iconst (v := 0) hx hb dJ8_newLength_cabcc_8 (by decide) ?_
  refine lv_iload_n hx hb dJ8_newLength_cabcc_9 rfl (lv_at hl 0 rfl) ?_
  refine lv_icmp_ge (tgt := 21) hx hb dJ8_newLength_cabcc_10 (by decide) (fun c9 => absurd c9 (show ¬ nI (o + max mi pr) ≤ 0 from nI_nle (by omega) (by omega))) (fun _ => ?_)
  refine lv_iload_n hx hb dJ8_newLength_cabcc_13 rfl (lv_at hl 0 rfl) ?_
  refine lv_ldc (v := (2147483639)) hx hb hown (hts _ (wj_J8_newLength_cabcc _ (List.mem_of_getElem? (i := 4) rfl))) dJ8_newLength_cabcc_14 ?_
  refine lv_icmp_gt (tgt := 21) hx hb dJ8_newLength_cabcc_16 (by decide) (fun c9 => absurd c9 (show ¬ nI 2147483639 < nI (o + max mi pr) from nI_nlt (by omega) (by omega))) (fun _ => ?_)
  refine lv_iload_n hx hb dJ8_newLength_cabcc_19 rfl (lv_at hl 0 rfl) ?_
  exact W.iret (v := nI (o + max mi pr)) hx hb hr (fun t ht hW => ⟨nI (o + max mi pr), rfl, rfl, ht⟩) (fun q h => by cases h) dJ8_newLength_cabcc_20
theorem gd_RJ5_114 : GoodIn gb_J (va_wsS RJ5 114 yJ8_newLength_cabcc (.code yJ8_newLength_cabcc cJ8_newLength_cabcc 4 (some .int) :: gb_J)) := gj_in (l := [.methodLink RJ5 114 yJ8_newLength_cabcc, .static yJ8_newLength_cabcc, .initialized yJ8_newLength_cabcc.cls]) (by
  have h : ∀ w ∈ ([.methodLink RJ5 114 yJ8_newLength_cabcc, .static yJ8_newLength_cabcc, .initialized yJ8_newLength_cabcc.cls] ++ [.code yJ8_newLength_cabcc cJ8_newLength_cabcc 4 (some .int)] : List Cond), w ∈ jsw ∨ (w ∈ lw_tbl ∧ goodWord w = true) := by decide +kernel
  exact gb_J_of h)
theorem dJ5_newCapacity_0f7a4_0 : decode cJ5_newCapacity_0f7a4 0 = .ok (.aload_n 0, 1) := by decide +kernel
theorem dJ5_newCapacity_0f7a4_1 : decode cJ5_newCapacity_0f7a4 1 = .ok (.getfield 15, 3) := by decide +kernel
theorem dJ5_newCapacity_0f7a4_4 : decode cJ5_newCapacity_0f7a4 4 = .ok (.arraylength, 1) := by decide +kernel
theorem dJ5_newCapacity_0f7a4_5 : decode cJ5_newCapacity_0f7a4 5 = .ok (.istore_n 2, 1) := by decide +kernel
theorem dJ5_newCapacity_0f7a4_6 : decode cJ5_newCapacity_0f7a4 6 = .ok (.iload_n 1, 1) := by decide +kernel
theorem dJ5_newCapacity_0f7a4_7 : decode cJ5_newCapacity_0f7a4 7 = .ok (.aload_n 0, 1) := by decide +kernel
theorem dJ5_newCapacity_0f7a4_8 : decode cJ5_newCapacity_0f7a4 8 = .ok (.getfield 22, 3) := by decide +kernel
theorem dJ5_newCapacity_0f7a4_11 : decode cJ5_newCapacity_0f7a4 11 = .ok (.ishl, 1) := by decide +kernel
theorem dJ5_newCapacity_0f7a4_12 : decode cJ5_newCapacity_0f7a4 12 = .ok (.istore_n 3, 1) := by decide +kernel
theorem dJ5_newCapacity_0f7a4_13 : decode cJ5_newCapacity_0f7a4 13 = .ok (.iload_n 3, 1) := by decide +kernel
theorem dJ5_newCapacity_0f7a4_14 : decode cJ5_newCapacity_0f7a4 14 = .ok (.iload_n 2, 1) := by decide +kernel
theorem dJ5_newCapacity_0f7a4_15 : decode cJ5_newCapacity_0f7a4 15 = .ok (.isub, 1) := by decide +kernel
theorem dJ5_newCapacity_0f7a4_16 : decode cJ5_newCapacity_0f7a4 16 = .ok (.istore 4, 2) := by decide +kernel
theorem dJ5_newCapacity_0f7a4_18 : decode cJ5_newCapacity_0f7a4 18 = .ok (.iload_n 2, 1) := by decide +kernel
theorem dJ5_newCapacity_0f7a4_19 : decode cJ5_newCapacity_0f7a4 19 = .ok (.iload 4, 2) := by decide +kernel
theorem dJ5_newCapacity_0f7a4_21 : decode cJ5_newCapacity_0f7a4 21 = .ok (.iload_n 2, 1) := by decide +kernel
theorem dJ5_newCapacity_0f7a4_22 : decode cJ5_newCapacity_0f7a4 22 = .ok (.iconst 2, 1) := by decide +kernel
theorem dJ5_newCapacity_0f7a4_23 : decode cJ5_newCapacity_0f7a4 23 = .ok (.aload_n 0, 1) := by decide +kernel
theorem dJ5_newCapacity_0f7a4_24 : decode cJ5_newCapacity_0f7a4 24 = .ok (.getfield 22, 3) := by decide +kernel
theorem dJ5_newCapacity_0f7a4_27 : decode cJ5_newCapacity_0f7a4 27 = .ok (.ishl, 1) := by decide +kernel
theorem dJ5_newCapacity_0f7a4_28 : decode cJ5_newCapacity_0f7a4 28 = .ok (.iadd, 1) := by decide +kernel
theorem dJ5_newCapacity_0f7a4_29 : decode cJ5_newCapacity_0f7a4 29 = .ok (.invokestatic 114, 3) := by decide +kernel
theorem dJ5_newCapacity_0f7a4_32 : decode cJ5_newCapacity_0f7a4 32 = .ok (.istore 5, 2) := by decide +kernel
theorem dJ5_newCapacity_0f7a4_34 : decode cJ5_newCapacity_0f7a4 34 = .ok (.iload 5, 2) := by decide +kernel
theorem dJ5_newCapacity_0f7a4_36 : decode cJ5_newCapacity_0f7a4 36 = .ok (.ldc 39, 2) := by decide +kernel
theorem dJ5_newCapacity_0f7a4_38 : decode cJ5_newCapacity_0f7a4 38 = .ok (.if_icmp .ne 13, 3) := by decide +kernel
theorem dJ5_newCapacity_0f7a4_41 : decode cJ5_newCapacity_0f7a4 41 = .ok (.new 120, 3) := by decide +kernel
theorem dJ5_newCapacity_0f7a4_44 : decode cJ5_newCapacity_0f7a4 44 = .ok (.dup, 1) := by decide +kernel
theorem dJ5_newCapacity_0f7a4_45 : decode cJ5_newCapacity_0f7a4 45 = .ok (.ldc 122, 2) := by decide +kernel
theorem dJ5_newCapacity_0f7a4_47 : decode cJ5_newCapacity_0f7a4 47 = .ok (.invokespecial 124, 3) := by decide +kernel
theorem dJ5_newCapacity_0f7a4_50 : decode cJ5_newCapacity_0f7a4 50 = .ok (.athrow, 1) := by decide +kernel
theorem dJ5_newCapacity_0f7a4_51 : decode cJ5_newCapacity_0f7a4 51 = .ok (.iload 5, 2) := by decide +kernel
theorem dJ5_newCapacity_0f7a4_53 : decode cJ5_newCapacity_0f7a4 53 = .ok (.aload_n 0, 1) := by decide +kernel
theorem dJ5_newCapacity_0f7a4_54 : decode cJ5_newCapacity_0f7a4 54 = .ok (.getfield 22, 3) := by decide +kernel
theorem dJ5_newCapacity_0f7a4_57 : decode cJ5_newCapacity_0f7a4 57 = .ok (.ishr, 1) := by decide +kernel
theorem dJ5_newCapacity_0f7a4_58 : decode cJ5_newCapacity_0f7a4 58 = .ok (.ireturn, 1) := by decide +kernel
theorem wj_J5_newCapacity_0f7a4 : ∀ w ∈ ([.fieldLink RJ5 15 "java/lang/AbstractStringBuilder" "value" "[B", .fieldLink RJ5 22 "java/lang/AbstractStringBuilder" "coder" "B", .constant RJ5 39 (2147483647)] : List Cond), w ∈ gb_J := by
  have h : ∀ w ∈ ([.fieldLink RJ5 15 "java/lang/AbstractStringBuilder" "value" "[B", .fieldLink RJ5 22 "java/lang/AbstractStringBuilder" "coder" "B", .constant RJ5 39 (2147483647)] : List Cond), w ∈ jsw ∨ (w ∈ lw_tbl ∧ goodWord w = true) := by decide +kernel
  exact gb_J_of h
set_option maxHeartbeats 4000000 in
theorem n_J5_newCapacity_0f7a4 (l : Launch) (g : gb_G) (t1 t2 : Nat) (h q cap n : Nat) (f : Nat → Int32) (mi : Nat) (h0 : cap ≤ 502) (h1 : mi ≤ 250) (h2 : cap < mi) : Met l yJ5_newCapacity_0f7a4 (.code yJ5_newCapacity_0f7a4 cJ5_newCapacity_0f7a4 6 (some .int) :: gb_J) ({ frames := 6, cells := 0, slots := 0, locals := 300 }) (jp g (jC t1 t2) [.ref (h), .int (nI mi)] ([(h, .inr (11, [.ref (q), .int 0, .int 0, .int (nI n)])), (q, .inl (g.2.2.2.2.1, cap, .inl (f)))] : va_W)) (vp_Si (fun r => r = nI (cap + max (mi - cap) (cap + 2)))) 0 0 (fun _ => False) := by
  refine Met.ofW (cc := cJ5_newCapacity_0f7a4) (maxL := 6) (ret := (some .int)) (by decide +kernel) rfl ?_
  intro p e s m args below meth c s₁ B hml hv
  obtain ⟨rfl, hP, hK, hC⟩ := hv
  have hx := B.exec
  have hb := B.bytes
  have hr := B.returns
  have hts0 := atoms_spec (ws := .code yJ5_newCapacity_0f7a4 cJ5_newCapacity_0f7a4 6 (some .int) :: gb_J) B.pre
  have hts : ∀ w ∈ gb_J, w.before ([.ref (h), .int (nI mi)] : List Value).toArray s = true := fun w hw => hts0 w (List.mem_cons_of_mem _ hw)
  have hown : s.vm.findClass RJ5 = some m.cls := findClass_of_methodNamed B.named
  have hlocks := B.notSynchronized
  have hS : va_S (fun _ => False) s.heap s.heap [] := va_S.rf
  have hl := lv_entry ([.ref (h), .int (nI mi)]) (n := 6) (Nat.le_of_ble_eq_true rfl)
  rw [lg_entry_eq]
  generalize (lg_sl ([.ref (h), .int (nI mi)]) ++ List.replicate (6 - (lg_sl ([.ref (h), .int (nI mi)])).length) Slot.unset).toArray = ls at hl ⊢
  have hl : lv_has ls 6 [(0, .ref (h)), (1, .int (nI mi))] := hl
  refine lv_aload_n hx hb dJ5_newCapacity_0f7a4_0 rfl (lv_at hl 0 rfl) ?_
  refine va_get (D := (g.1, g.2.1)) (ci := 11) (v := .ref (q)) (C := RJ4) (T := TJ4) (N := 4) hx hb hts winJ4 hown hK hP 0 rfl rfl 0 (by decide) (hts _ (wj_J5_newCapacity_0f7a4 _ (List.mem_of_getElem? (i := 0) rfl))) (fun _ h9 => h9) rfl dJ5_newCapacity_0f7a4_1 ?_
  refine va_alen (D := (g.1, g.2.1)) (v := nI (cap)) hx hb hK hP 1 1 rfl rfl rfl dJ5_newCapacity_0f7a4_4 ?_
  refine lv_istore_n (lv' := [(2, .int (nI (cap))), (0, .ref (h)), (1, .int (nI mi))]) hx hb dJ5_newCapacity_0f7a4_5 rfl hl (by decide) rfl (fun ls hl => ?_)
  refine lv_iload_n hx hb dJ5_newCapacity_0f7a4_6 rfl (lv_at hl 2 rfl) ?_
  refine lv_aload_n hx hb dJ5_newCapacity_0f7a4_7 rfl (lv_at hl 1 rfl) ?_
  refine va_get (D := (g.1, g.2.1)) (ci := 11) (v := .int (0)) (C := RJ4) (T := TJ4) (N := 4) hx hb hts winJ4 hown hK hP 0 rfl rfl 1 (by decide) (hts _ (wj_J5_newCapacity_0f7a4 _ (List.mem_of_getElem? (i := 1) rfl))) (fun _ h9 => h9) rfl dJ5_newCapacity_0f7a4_8 ?_
  refine lv_ishl hx hb dJ5_newCapacity_0f7a4_11 ?_
  refine W.eq (g2 := F0 m 12 ls [.int (nI mi)]) (by rw [j_shl]) ?_
  refine lv_istore_n (lv' := [(3, .int (nI mi)), (2, .int (nI (cap))), (0, .ref (h)), (1, .int (nI mi))]) hx hb dJ5_newCapacity_0f7a4_12 rfl hl (by decide) rfl (fun ls hl => ?_)
  refine lv_iload_n hx hb dJ5_newCapacity_0f7a4_13 rfl (lv_at hl 0 rfl) ?_
  refine lv_iload_n hx hb dJ5_newCapacity_0f7a4_14 rfl (lv_at hl 1 rfl) ?_
  refine lv_isub hx hb dJ5_newCapacity_0f7a4_15 ?_
  refine W.eq (g2 := F0 m 16 ls [.int (nI (mi - cap))]) (by rw [show ((nI mi) - (nI (cap)) : Int32) = nI (mi - cap) from pk_sub (by omega)]) ?_
  refine lv_istore (lv' := [(4, .int (nI (mi - cap))), (3, .int (nI mi)), (2, .int (nI (cap))), (0, .ref (h)), (1, .int (nI mi))]) hx hb dJ5_newCapacity_0f7a4_16 hl (by decide) rfl (fun ls hl => ?_)
  refine lv_iload_n hx hb dJ5_newCapacity_0f7a4_18 rfl (lv_at hl 2 rfl) ?_
  refine lv_iload hx hb dJ5_newCapacity_0f7a4_19 (lv_at hl 0 rfl) ?_
  refine lv_iload_n hx hb dJ5_newCapacity_0f7a4_21 rfl (lv_at hl 2 rfl) ?_
  refine lv_iconst (v := 2) hx hb dJ5_newCapacity_0f7a4_22 (by decide) ?_
  refine lv_aload_n hx hb dJ5_newCapacity_0f7a4_23 rfl (lv_at hl 3 rfl) ?_
  refine va_get (D := (g.1, g.2.1)) (ci := 11) (v := .int (0)) (C := RJ4) (T := TJ4) (N := 4) hx hb hts winJ4 hown hK hP 0 rfl rfl 1 (by decide) (hts _ (wj_J5_newCapacity_0f7a4 _ (List.mem_of_getElem? (i := 1) rfl))) (fun _ h9 => h9) rfl dJ5_newCapacity_0f7a4_24 ?_
  refine lv_ishl hx hb dJ5_newCapacity_0f7a4_27 ?_
  refine W.eq (g2 := F0 m 28 ls [.int (2), .int (nI (cap)), .int (nI (mi - cap)), .int (nI (cap))]) (by rw [j_shl]) ?_
  refine lv_iadd hx hb dJ5_newCapacity_0f7a4_28 ?_
  refine W.eq (g2 := F0 m 29 ls [.int (nI (cap + 2)), .int (nI (mi - cap)), .int (nI (cap))]) (by rw [show ((nI (cap)) + (2) : Int32) = nI (cap + 2) from nI_add cap 2]) ?_
  refine vp_callSi (va_Run.run (va_runS (As := [.int (nI (cap)), .int (nI (mi - cap)), .int (nI (cap + 2))]) (rest := []) ⟨hx, hb, hml, hown, hts⟩ (n_J8_newLength_cabcc l g t1 t2 cap (mi - cap) (cap + 2) (by omega) (by omega) (by omega) (by omega)) (va_cwS 3 hts gd_RJ5_114 rfl rfl rfl ⟨by decide +kernel, by decide +kernel, by decide +kernel⟩ ⟨Nat.le_of_ble_eq_true rfl, Nat.le_of_ble_eq_true rfl⟩) (jp_S (g := g) (jX_0 t1 t2) hK hC hS (hP.sub [] rfl)) rfl rfl hl.1 rfl (lv_room (Nat.le_of_ble_eq_true rfl)) dJ5_newCapacity_0f7a4_29 ⟨Nat.le_of_ble_eq_true rfl, Nat.le_of_ble_eq_true rfl⟩)) (fun r9 e9 => ?_)
  subst e9
  refine lv_istore (lv' := [(5, .int (nI (cap + max (mi - cap) (cap + 2)))), (4, .int (nI (mi - cap))), (3, .int (nI mi)), (2, .int (nI (cap))), (0, .ref (h)), (1, .int (nI mi))]) hx hb dJ5_newCapacity_0f7a4_32 hl (by decide) rfl (fun ls hl => ?_)
  refine lv_iload hx hb dJ5_newCapacity_0f7a4_34 (lv_at hl 0 rfl) ?_
  refine lv_ldc (v := (2147483647)) hx hb hown (hts _ (wj_J5_newCapacity_0f7a4 _ (List.mem_of_getElem? (i := 2) rfl))) dJ5_newCapacity_0f7a4_36 ?_
  refine lv_icmp_ne (tgt := 51) hx hb dJ5_newCapacity_0f7a4_38 (by decide) (fun _ => ?_) (fun c9 => absurd c9 (show ¬ nI (cap + max (mi - cap) (cap + 2)) = nI 2147483647 from fun h => by have := (nI_eq (by omega) (by omega)).mp h; omega))
  refine lv_iload hx hb dJ5_newCapacity_0f7a4_51 (lv_at hl 0 rfl) ?_
  refine lv_aload_n hx hb dJ5_newCapacity_0f7a4_53 rfl (lv_at hl 4 rfl) ?_
  refine va_get (D := (g.1, g.2.1)) (ci := 11) (v := .int (0)) (C := RJ4) (T := TJ4) (N := 4) hx hb hts winJ4 hown hK hP 0 rfl rfl 1 (by decide) (hts _ (wj_J5_newCapacity_0f7a4 _ (List.mem_of_getElem? (i := 1) rfl))) (fun _ h9 => h9) rfl dJ5_newCapacity_0f7a4_54 ?_
  refine lv_ishr hx hb dJ5_newCapacity_0f7a4_57 ?_
  refine W.eq (g2 := F0 m 58 ls [.int (nI (cap + max (mi - cap) (cap + 2)))]) (by rw [j_shr]) ?_
  exact W.iret (v := nI (cap + max (mi - cap) (cap + 2))) hx hb hr (fun t ht hW => ⟨nI (cap + max (mi - cap) (cap + 2)), rfl, rfl, ht⟩) (fun q h => by cases h) dJ5_newCapacity_0f7a4_58
theorem dJ7_copyOf_9075b_0 : decode cJ7_copyOf_9075b 0 = .ok (.iload_n 1, 1) := by decide +kernel
theorem dJ7_copyOf_9075b_1 : decode cJ7_copyOf_9075b 1 = .ok (.aload_n 0, 1) := by decide +kernel
theorem dJ7_copyOf_9075b_2 : decode cJ7_copyOf_9075b 2 = .ok (.arraylength, 1) := by decide +kernel
theorem dJ7_copyOf_9075b_3 : decode cJ7_copyOf_9075b 3 = .ok (.if_icmp .ne 11, 3) := by decide +kernel
theorem dJ7_copyOf_9075b_6 : decode cJ7_copyOf_9075b 6 = .ok (.aload_n 0, 1) := by decide +kernel
theorem dJ7_copyOf_9075b_7 : decode cJ7_copyOf_9075b 7 = .ok (.invokevirtual 310, 3) := by decide +kernel
theorem dJ7_copyOf_9075b_10 : decode cJ7_copyOf_9075b 10 = .ok (.checkcast 311, 3) := by decide +kernel
theorem dJ7_copyOf_9075b_13 : decode cJ7_copyOf_9075b 13 = .ok (.areturn, 1) := by decide +kernel
theorem dJ7_copyOf_9075b_14 : decode cJ7_copyOf_9075b 14 = .ok (.iload_n 1, 1) := by decide +kernel
theorem dJ7_copyOf_9075b_15 : decode cJ7_copyOf_9075b 15 = .ok (.newarray .byte, 2) := by decide +kernel
theorem dJ7_copyOf_9075b_17 : decode cJ7_copyOf_9075b 17 = .ok (.astore_n 2, 1) := by decide +kernel
theorem dJ7_copyOf_9075b_18 : decode cJ7_copyOf_9075b 18 = .ok (.aload_n 0, 1) := by decide +kernel
theorem dJ7_copyOf_9075b_19 : decode cJ7_copyOf_9075b 19 = .ok (.iconst 0, 1) := by decide +kernel
theorem dJ7_copyOf_9075b_20 : decode cJ7_copyOf_9075b 20 = .ok (.aload_n 2, 1) := by decide +kernel
theorem dJ7_copyOf_9075b_21 : decode cJ7_copyOf_9075b 21 = .ok (.iconst 0, 1) := by decide +kernel
theorem dJ7_copyOf_9075b_22 : decode cJ7_copyOf_9075b 22 = .ok (.aload_n 0, 1) := by decide +kernel
theorem dJ7_copyOf_9075b_23 : decode cJ7_copyOf_9075b 23 = .ok (.arraylength, 1) := by decide +kernel
theorem dJ7_copyOf_9075b_24 : decode cJ7_copyOf_9075b 24 = .ok (.iload_n 1, 1) := by decide +kernel
theorem dJ7_copyOf_9075b_25 : decode cJ7_copyOf_9075b 25 = .ok (.invokestatic 304, 3) := by decide +kernel
theorem dJ7_copyOf_9075b_28 : decode cJ7_copyOf_9075b 28 = .ok (.invokestatic 150, 3) := by decide +kernel
theorem dJ7_copyOf_9075b_31 : decode cJ7_copyOf_9075b 31 = .ok (.aload_n 2, 1) := by decide +kernel
theorem dJ7_copyOf_9075b_32 : decode cJ7_copyOf_9075b 32 = .ok (.areturn, 1) := by decide +kernel
theorem wj_J7_copyOf_9075b : ∀ w ∈ ([.arrayClass .byte, .methodLink RJ7 304 Lib.Math.min.name, .static Lib.Math.min.name, .initialized "java/lang/Math", .code Lib.Math.min.name Lib.Math.min.code 2 (some .int), .methodLink RJ7 150 arraycopyName, .native arraycopyName, .static arraycopyName, .initialized "java/lang/System"] : List Cond), w ∈ gb_J := by
  have h : ∀ w ∈ ([.arrayClass .byte, .methodLink RJ7 304 Lib.Math.min.name, .static Lib.Math.min.name, .initialized "java/lang/Math", .code Lib.Math.min.name Lib.Math.min.code 2 (some .int), .methodLink RJ7 150 arraycopyName, .native arraycopyName, .static arraycopyName, .initialized "java/lang/System"] : List Cond), w ∈ jsw ∨ (w ∈ lw_tbl ∧ goodWord w = true) := by decide +kernel
  exact gb_J_of h
set_option maxHeartbeats 4000000 in
theorem n_J7_copyOf_9075b (l : Launch) (g : gb_G) (t1 t2 : Nat) (h q cap n : Nat) (f : Nat → Int32) (L : Nat) (hf : jFit f) (h0 : cap ≤ 502) (h1 : cap < L) (h2 : L ≤ 502) (sz : Nat) : Met l yJ7_copyOf_9075b (.code yJ7_copyOf_9075b cJ7_copyOf_9075b 3 (some (.array .byte)) :: gb_J) ({ frames := 6, cells := 1, slots := 502, locals := 300 }) (jm g (jC t1 t2) [.ref (q), .int (nI L)] ([(h, .inr (11, [.ref (q), .int 0, .int 0, .int (nI n)])), (q, .inl (g.2.2.2.2.1, cap, .inl (f)))] : va_W) sz) (jQr g (fun q1 w1 => ∃ f1, w1 = sbW g h q cap n f ++ [(q1, .inl (g.2.2.2.2.1, L, .inl f1))] ∧ jFit f1 ∧ ∀ i, i < cap → f1 i = f i) (va_A ([(h, .inr (11, [.ref (q), .int 0, .int 0, .int (nI n)])), (q, .inl (g.2.2.2.2.1, cap, .inl (f)))] : va_W) sz)) 1 502 (va_A ([(h, .inr (11, [.ref (q), .int 0, .int 0, .int (nI n)])), (q, .inl (g.2.2.2.2.1, cap, .inl (f)))] : va_W) sz) := by
  refine Met.ofW (cc := cJ7_copyOf_9075b) (maxL := 3) (ret := (some (.array .byte))) (by decide +kernel) rfl ?_
  intro p e s m args below meth c s₁ B hml hv
  obtain ⟨rfl, hsz, hP, hK, hD0, hC⟩ := hv
  have hx := B.exec
  have hb := B.bytes
  have hr := B.returns
  have hts0 := atoms_spec (ws := .code yJ7_copyOf_9075b cJ7_copyOf_9075b 3 (some (.array .byte)) :: gb_J) B.pre
  have hts : ∀ w ∈ gb_J, w.before ([.ref (q), .int (nI L)] : List Value).toArray s = true := fun w hw => hts0 w (List.mem_cons_of_mem _ hw)
  have hown : s.vm.findClass RJ7 = some m.cls := findClass_of_methodNamed B.named
  have hlocks := B.notSynchronized
  subst hsz
  have hD := hD0.self (sz := s.heap.size)
  generalize hAe : va_A ([(h, .inr (11, [.ref (q), .int 0, .int 0, .int (nI n)])), (q, .inl (g.2.2.2.2.1, cap, .inl (f)))] : va_W) s.heap.size = A at hD hC ⊢
  have hA : ∀ q : Nat, s.heap.size ≤ q → A q := fun q h => by rw [← hAe]; exact Or.inr h
  have hS : va_S A s.heap s.heap [] := va_S.rf
  have hl := lv_entry ([.ref (q), .int (nI L)]) (n := 3) (Nat.le_of_ble_eq_true rfl)
  rw [lg_entry_eq]
  generalize (lg_sl ([.ref (q), .int (nI L)]) ++ List.replicate (3 - (lg_sl ([.ref (q), .int (nI L)])).length) Slot.unset).toArray = ls at hl ⊢
  have hl : lv_has ls 3 [(0, .ref (q)), (1, .int (nI L))] := hl
  refine lv_iload_n hx hb dJ7_copyOf_9075b_0 rfl (lv_at hl 1 rfl) ?_
  refine lv_aload_n hx hb dJ7_copyOf_9075b_1 rfl (lv_at hl 0 rfl) ?_
  refine va_alen (D := (g.1, g.2.1)) (v := nI (cap)) hx hb hK hP 1 1 rfl rfl rfl dJ7_copyOf_9075b_2 ?_
  refine lv_icmp_ne (tgt := 14) hx hb dJ7_copyOf_9075b_3 (by decide) (fun _ => ?_) (fun c9 => absurd c9 (show ¬ nI L = nI cap from fun h => by have := (nI_eq (by omega) (by omega)).mp h; omega))
  refine lv_iload_n hx hb dJ7_copyOf_9075b_14 rfl (lv_at hl 1 rfl) ?_
  refine lw_newb (N := L) hx hb (hts _ (wj_J7_copyOf_9075b _ (List.mem_of_getElem? (i := 0) rfl))) hK hP hD hS hA (nI_pos (by omega)) (j_cl (by omega)) (by omega) (Nat.le_of_ble_eq_true rfl) (by show 0 + L ≤ 502; omega) dJ7_copyOf_9075b_15 (fun z1 H hP hD hS => ?_)
  have hP : va_P (g.1, g.2.1) vwCl ([(h, .inr (11, [.ref (q), .int 0, .int 0, .int (nI n)])), (q, .inl (g.2.2.2.2.1, cap, .inl (f))), (z1, .inl (g.2.2.2.2.1, L, .inl (fun _ => 0)))] : va_W) H := hP
  have hD : va_D A ([(h, .inr (11, [.ref (q), .int 0, .int 0, .int (nI n)])), (q, .inl (g.2.2.2.2.1, cap, .inl (f))), (z1, .inl (g.2.2.2.2.1, L, .inl (fun _ => 0)))] : va_W) := hD
  refine lv_astore_n (lv' := [(2, .ref (z1)), (0, .ref (q)), (1, .int (nI L))]) hx hb dJ7_copyOf_9075b_17 rfl hl (by decide) rfl (fun ls hl => ?_)
  refine lv_aload_n hx hb dJ7_copyOf_9075b_18 rfl (lv_at hl 1 rfl) ?_
  refine lv_iconst (v := 0) hx hb dJ7_copyOf_9075b_19 (by decide) ?_
  refine lv_aload_n hx hb dJ7_copyOf_9075b_20 rfl (lv_at hl 0 rfl) ?_
  refine lv_iconst (v := 0) hx hb dJ7_copyOf_9075b_21 (by decide) ?_
  refine lv_aload_n hx hb dJ7_copyOf_9075b_22 rfl (lv_at hl 1 rfl) ?_
  refine va_alen (D := (g.1, g.2.1)) (v := nI (cap)) hx hb hK hP 1 1 rfl rfl rfl dJ7_copyOf_9075b_23 ?_
  refine lv_iload_n hx hb dJ7_copyOf_9075b_24 rfl (lv_at hl 2 rfl) ?_
  refine va_mmin hx hb (hml.trans hl.1.symm) hown (hts _ (wj_J7_copyOf_9075b _ (List.mem_of_getElem? (i := 1) rfl))) (hts _ (wj_J7_copyOf_9075b _ (List.mem_of_getElem? (i := 2) rfl))) (hts _ (wj_J7_copyOf_9075b _ (List.mem_of_getElem? (i := 3) rfl))) (hts _ (wj_J7_copyOf_9075b _ (List.mem_of_getElem? (i := 4) rfl))) (Nat.le_of_ble_eq_true rfl) (Nat.le_of_ble_eq_true rfl) (Nat.le_of_ble_eq_true rfl) (by show 0 + L ≤ 502; omega) dJ7_copyOf_9075b_25 ?_
  refine W.eq (g2 := F0 m 28 ls [.int (nI cap), .int (0), .ref (z1), .int (0), .ref (q)]) (by rw [jmin (a := cap) (b := L) (by omega) (by omega) (by omega)]) ?_
  refine va_copyi (D := (g.1, g.2.1)) hx hb (hml.trans hl.1.symm) hown (hts _ (wj_J7_copyOf_9075b _ (List.mem_of_getElem? (i := 5) rfl))) (hts _ (wj_J7_copyOf_9075b _ (List.mem_of_getElem? (i := 6) rfl))) (hts _ (wj_J7_copyOf_9075b _ (List.mem_of_getElem? (i := 7) rfl))) (hts _ (wj_J7_copyOf_9075b _ (List.mem_of_getElem? (i := 8) rfl))) hK hP hD hS 1 2 1 1 rfl rfl rfl rfl rfl (by decide) (by decide) (nI_pos (by omega)) (by rw [j_cl (by omega)]; show 0 + cap ≤ cap; omega) (by rw [j_cl (by omega)]; show 0 + cap ≤ L; omega) (fun i _ => hf _) (Nat.le_of_ble_eq_true rfl) (Nat.le_of_ble_eq_true (by decide +kernel)) dJ7_copyOf_9075b_28 (fun H locs hP hD hS => ?_)
  rw [j_cl (show cap < 2 ^ 31 by omega)] at hP hD
  have hP : va_P (g.1, g.2.1) vwCl ([(h, .inr (11, [.ref (q), .int 0, .int 0, .int (nI n)])), (q, .inl (g.2.2.2.2.1, cap, .inl (f))), (z1, .inl (g.2.2.2.2.1, L, .inl (va_cpy (f) (fun _ => 0) (0) (0) (cap))))] : va_W) H := hP
  have hD : va_D A ([(h, .inr (11, [.ref (q), .int 0, .int 0, .int (nI n)])), (q, .inl (g.2.2.2.2.1, cap, .inl (f))), (z1, .inl (g.2.2.2.2.1, L, .inl (va_cpy (f) (fun _ => 0) (0) (0) (cap))))] : va_W) := hD
  refine lv_aload_n hx hb dJ7_copyOf_9075b_31 rfl (lv_at hl 0 rfl) ?_
  refine W.widen (k := 1) (n := 502) (by first | exact Nat.le_of_ble_eq_true rfl | omega) (by first | exact Nat.le_of_ble_eq_true rfl | omega) ?_
  exact W.aret (v := .ref (z1)) hx hb hr (Or.inr ⟨_, rfl⟩) (Or.inr ⟨_, rfl⟩) (fun t ht hW => ⟨⟨(), _, rfl, trivial, _, ⟨va_cpy f (fun _ => 0) 0 0 cap, rfl, jFit_cpy hf (fun _ => jFit_0) _ _ _, fun i hi => va_cpy_0 hi⟩, by rw [ht]; exact hP, hD⟩, hS.F ht⟩) hS.2.2 dJ7_copyOf_9075b_32
theorem gd_RJ5_104 : GoodIn gb_J (va_wsU RJ5 104 RJ4 "java/lang/AbstractStringBuilder" (⟨"java/lang/AbstractStringBuilder", "newCapacity", "(I)I"⟩ : MethodName) yJ5_newCapacity_0f7a4 (.code yJ5_newCapacity_0f7a4 cJ5_newCapacity_0f7a4 6 (some .int) :: gb_J)) := gj_in (l := [.methodLink RJ5 104 (⟨"java/lang/AbstractStringBuilder", "newCapacity", "(I)I"⟩ : MethodName), .sameMethod (⟨"java/lang/AbstractStringBuilder", "newCapacity", "(I)I"⟩ : MethodName).cls "java/lang/AbstractStringBuilder" (⟨"java/lang/AbstractStringBuilder", "newCapacity", "(I)I"⟩ : MethodName).name (⟨"java/lang/AbstractStringBuilder", "newCapacity", "(I)I"⟩ : MethodName).desc, .selects RJ4 (⟨"java/lang/AbstractStringBuilder", "newCapacity", "(I)I"⟩ : MethodName) yJ5_newCapacity_0f7a4, .instanceMethod yJ5_newCapacity_0f7a4, .initialized yJ5_newCapacity_0f7a4.cls]) (by
  have h : ∀ w ∈ ([.methodLink RJ5 104 (⟨"java/lang/AbstractStringBuilder", "newCapacity", "(I)I"⟩ : MethodName), .sameMethod (⟨"java/lang/AbstractStringBuilder", "newCapacity", "(I)I"⟩ : MethodName).cls "java/lang/AbstractStringBuilder" (⟨"java/lang/AbstractStringBuilder", "newCapacity", "(I)I"⟩ : MethodName).name (⟨"java/lang/AbstractStringBuilder", "newCapacity", "(I)I"⟩ : MethodName).desc, .selects RJ4 (⟨"java/lang/AbstractStringBuilder", "newCapacity", "(I)I"⟩ : MethodName) yJ5_newCapacity_0f7a4, .instanceMethod yJ5_newCapacity_0f7a4, .initialized yJ5_newCapacity_0f7a4.cls] ++ [.code yJ5_newCapacity_0f7a4 cJ5_newCapacity_0f7a4 6 (some .int)] : List Cond), w ∈ jsw ∨ (w ∈ lw_tbl ∧ goodWord w = true) := by decide +kernel
  exact gb_J_of h)
theorem gd_RJ5_108 : GoodIn gb_J (va_wsS RJ5 108 yJ7_copyOf_9075b (.code yJ7_copyOf_9075b cJ7_copyOf_9075b 3 (some (.array .byte)) :: gb_J)) := gj_in (l := [.methodLink RJ5 108 yJ7_copyOf_9075b, .static yJ7_copyOf_9075b, .initialized yJ7_copyOf_9075b.cls]) (by
  have h : ∀ w ∈ ([.methodLink RJ5 108 yJ7_copyOf_9075b, .static yJ7_copyOf_9075b, .initialized yJ7_copyOf_9075b.cls] ++ [.code yJ7_copyOf_9075b cJ7_copyOf_9075b 3 (some (.array .byte))] : List Cond), w ∈ jsw ∨ (w ∈ lw_tbl ∧ goodWord w = true) := by decide +kernel
  exact gb_J_of h)
theorem dJ5_ensureCapacityInternal_d00df_0 : decode cJ5_ensureCapacityInternal_d00df 0 = .ok (.aload_n 0, 1) := by decide +kernel
theorem dJ5_ensureCapacityInternal_d00df_1 : decode cJ5_ensureCapacityInternal_d00df 1 = .ok (.getfield 15, 3) := by decide +kernel
theorem dJ5_ensureCapacityInternal_d00df_4 : decode cJ5_ensureCapacityInternal_d00df 4 = .ok (.arraylength, 1) := by decide +kernel
theorem dJ5_ensureCapacityInternal_d00df_5 : decode cJ5_ensureCapacityInternal_d00df 5 = .ok (.aload_n 0, 1) := by decide +kernel
theorem dJ5_ensureCapacityInternal_d00df_6 : decode cJ5_ensureCapacityInternal_d00df 6 = .ok (.getfield 22, 3) := by decide +kernel
theorem dJ5_ensureCapacityInternal_d00df_9 : decode cJ5_ensureCapacityInternal_d00df 9 = .ok (.ishr, 1) := by decide +kernel
theorem dJ5_ensureCapacityInternal_d00df_10 : decode cJ5_ensureCapacityInternal_d00df 10 = .ok (.istore_n 2, 1) := by decide +kernel
theorem dJ5_ensureCapacityInternal_d00df_11 : decode cJ5_ensureCapacityInternal_d00df 11 = .ok (.iload_n 1, 1) := by decide +kernel
theorem dJ5_ensureCapacityInternal_d00df_12 : decode cJ5_ensureCapacityInternal_d00df 12 = .ok (.iload_n 2, 1) := by decide +kernel
theorem dJ5_ensureCapacityInternal_d00df_13 : decode cJ5_ensureCapacityInternal_d00df 13 = .ok (.isub, 1) := by decide +kernel
theorem dJ5_ensureCapacityInternal_d00df_14 : decode cJ5_ensureCapacityInternal_d00df 14 = .ok (.ifCond .le 24, 3) := by decide +kernel
theorem dJ5_ensureCapacityInternal_d00df_17 : decode cJ5_ensureCapacityInternal_d00df 17 = .ok (.aload_n 0, 1) := by decide +kernel
theorem dJ5_ensureCapacityInternal_d00df_18 : decode cJ5_ensureCapacityInternal_d00df 18 = .ok (.aload_n 0, 1) := by decide +kernel
theorem dJ5_ensureCapacityInternal_d00df_19 : decode cJ5_ensureCapacityInternal_d00df 19 = .ok (.getfield 15, 3) := by decide +kernel
theorem dJ5_ensureCapacityInternal_d00df_22 : decode cJ5_ensureCapacityInternal_d00df 22 = .ok (.aload_n 0, 1) := by decide +kernel
theorem dJ5_ensureCapacityInternal_d00df_23 : decode cJ5_ensureCapacityInternal_d00df 23 = .ok (.iload_n 1, 1) := by decide +kernel
theorem dJ5_ensureCapacityInternal_d00df_24 : decode cJ5_ensureCapacityInternal_d00df 24 = .ok (.invokevirtual 104, 3) := by decide +kernel
theorem dJ5_ensureCapacityInternal_d00df_27 : decode cJ5_ensureCapacityInternal_d00df 27 = .ok (.aload_n 0, 1) := by decide +kernel
theorem dJ5_ensureCapacityInternal_d00df_28 : decode cJ5_ensureCapacityInternal_d00df 28 = .ok (.getfield 22, 3) := by decide +kernel
theorem dJ5_ensureCapacityInternal_d00df_31 : decode cJ5_ensureCapacityInternal_d00df 31 = .ok (.ishl, 1) := by decide +kernel
theorem dJ5_ensureCapacityInternal_d00df_32 : decode cJ5_ensureCapacityInternal_d00df 32 = .ok (.invokestatic 108, 3) := by decide +kernel
theorem dJ5_ensureCapacityInternal_d00df_35 : decode cJ5_ensureCapacityInternal_d00df 35 = .ok (.putfield 15, 3) := by decide +kernel
theorem dJ5_ensureCapacityInternal_d00df_38 : decode cJ5_ensureCapacityInternal_d00df 38 = .ok (.return_, 1) := by decide +kernel
theorem wj_J5_ensureCapacityInternal_d00df : ∀ w ∈ ([.fieldLink RJ5 15 "java/lang/AbstractStringBuilder" "value" "[B", .fieldLink RJ5 22 "java/lang/AbstractStringBuilder" "coder" "B"] : List Cond), w ∈ gb_J := by
  have h : ∀ w ∈ ([.fieldLink RJ5 15 "java/lang/AbstractStringBuilder" "value" "[B", .fieldLink RJ5 22 "java/lang/AbstractStringBuilder" "coder" "B"] : List Cond), w ∈ jsw ∨ (w ∈ lw_tbl ∧ goodWord w = true) := by decide +kernel
  exact gb_J_of h
set_option maxHeartbeats 4000000 in
theorem n_J5_ensureCapacityInternal_d00df (l : Launch) (g : gb_G) (t1 t2 : Nat) (h q cap n : Nat) (f : Nat → Int32) (mi : Nat) (hf : jFit f) (h0 : cap ≤ 502) (h1 : mi ≤ 250) (sz : Nat) : Met l yJ5_ensureCapacityInternal_d00df (.code yJ5_ensureCapacityInternal_d00df cJ5_ensureCapacityInternal_d00df 3 none :: gb_J) ({ frames := 8, cells := 1, slots := 502, locals := 400 }) (jm g (jC t1 t2) [.ref (h), .int (nI mi)] ([(h, .inr (11, [.ref (q), .int 0, .int 0, .int (nI n)])), (q, .inl (g.2.2.2.2.1, cap, .inl (f)))] : va_W) sz) (jQv g (fun w1 => ∃ q1 c1 f1, w1 = sbW g h q1 c1 n f1 ∧ jFit f1 ∧ (∀ i, i < cap → f1 i = f i) ∧ mi ≤ c1 ∧ cap ≤ c1 ∧ c1 ≤ 502) (va_A ([(h, .inr (11, [.ref (q), .int 0, .int 0, .int (nI n)])), (q, .inl (g.2.2.2.2.1, cap, .inl (f)))] : va_W) sz)) 1 502 (va_A ([(h, .inr (11, [.ref (q), .int 0, .int 0, .int (nI n)])), (q, .inl (g.2.2.2.2.1, cap, .inl (f)))] : va_W) sz) := by
  refine Met.ofW (cc := cJ5_ensureCapacityInternal_d00df) (maxL := 3) (ret := none) (by decide +kernel) rfl ?_
  intro p e s m args below meth c s₁ B hml hv
  obtain ⟨rfl, hsz, hP, hK, hD0, hC⟩ := hv
  have hx := B.exec
  have hb := B.bytes
  have hr := B.returns
  have hts0 := atoms_spec (ws := .code yJ5_ensureCapacityInternal_d00df cJ5_ensureCapacityInternal_d00df 3 none :: gb_J) B.pre
  have hts : ∀ w ∈ gb_J, w.before ([.ref (h), .int (nI mi)] : List Value).toArray s = true := fun w hw => hts0 w (List.mem_cons_of_mem _ hw)
  have hown : s.vm.findClass RJ5 = some m.cls := findClass_of_methodNamed B.named
  have hlocks := B.notSynchronized
  subst hsz
  have hD := hD0.self (sz := s.heap.size)
  generalize hAe : va_A ([(h, .inr (11, [.ref (q), .int 0, .int 0, .int (nI n)])), (q, .inl (g.2.2.2.2.1, cap, .inl (f)))] : va_W) s.heap.size = A at hD hC ⊢
  have hA : ∀ q : Nat, s.heap.size ≤ q → A q := fun q h => by rw [← hAe]; exact Or.inr h
  have hS : va_S A s.heap s.heap [] := va_S.rf
  have hl := lv_entry ([.ref (h), .int (nI mi)]) (n := 3) (Nat.le_of_ble_eq_true rfl)
  rw [lg_entry_eq]
  generalize (lg_sl ([.ref (h), .int (nI mi)]) ++ List.replicate (3 - (lg_sl ([.ref (h), .int (nI mi)])).length) Slot.unset).toArray = ls at hl ⊢
  have hl : lv_has ls 3 [(0, .ref (h)), (1, .int (nI mi))] := hl
  refine lv_aload_n hx hb dJ5_ensureCapacityInternal_d00df_0 rfl (lv_at hl 0 rfl) ?_
  refine va_get (D := (g.1, g.2.1)) (ci := 11) (v := .ref (q)) (C := RJ4) (T := TJ4) (N := 4) hx hb hts winJ4 hown hK hP 0 rfl rfl 0 (by decide) (hts _ (wj_J5_ensureCapacityInternal_d00df _ (List.mem_of_getElem? (i := 0) rfl))) (fun _ h9 => h9) rfl dJ5_ensureCapacityInternal_d00df_1 ?_
  refine va_alen (D := (g.1, g.2.1)) (v := nI (cap)) hx hb hK hP 1 1 rfl rfl rfl dJ5_ensureCapacityInternal_d00df_4 ?_
  refine lv_aload_n hx hb dJ5_ensureCapacityInternal_d00df_5 rfl (lv_at hl 0 rfl) ?_
  refine va_get (D := (g.1, g.2.1)) (ci := 11) (v := .int (0)) (C := RJ4) (T := TJ4) (N := 4) hx hb hts winJ4 hown hK hP 0 rfl rfl 1 (by decide) (hts _ (wj_J5_ensureCapacityInternal_d00df _ (List.mem_of_getElem? (i := 1) rfl))) (fun _ h9 => h9) rfl dJ5_ensureCapacityInternal_d00df_6 ?_
  refine lv_ishr hx hb dJ5_ensureCapacityInternal_d00df_9 ?_
  refine W.eq (g2 := F0 m 10 ls [.int (nI (cap))]) (by rw [j_shr]) ?_
  refine lv_istore_n (lv' := [(2, .int (nI (cap))), (0, .ref (h)), (1, .int (nI mi))]) hx hb dJ5_ensureCapacityInternal_d00df_10 rfl hl (by decide) rfl (fun ls hl => ?_)
  refine lv_iload_n hx hb dJ5_ensureCapacityInternal_d00df_11 rfl (lv_at hl 2 rfl) ?_
  refine lv_iload_n hx hb dJ5_ensureCapacityInternal_d00df_12 rfl (lv_at hl 0 rfl) ?_
  refine lv_isub hx hb dJ5_ensureCapacityInternal_d00df_13 ?_
  refine lv_if_le (tgt := 38) hx hb dJ5_ensureCapacityInternal_d00df_14 (by decide) (fun c14 => ?_) (fun c14 => ?_)
  · skip
    have c8 : mi ≤ cap := by
      rcases Nat.lt_or_ge cap mi with h | h
      · rw [pk_sub (Nat.le_of_lt h)] at c14; exact absurd c14 (nI_nle (by omega) (by omega))
      · exact h
    refine W.widen (k := 1) (n := 502) (by first | exact Nat.le_of_ble_eq_true rfl | omega) (by first | exact Nat.le_of_ble_eq_true rfl | omega) ?_
    exact W.vret hx hb hr (fun t ht hW => ⟨⟨(), rfl, trivial, _, ⟨q, cap, f, rfl, hf, fun i _ => rfl, c8, Nat.le_refl _, h0⟩, by rw [ht]; exact hP, hD⟩, hS.F ht⟩) hS.2.2 dJ5_ensureCapacityInternal_d00df_38
  · skip
    have c8 : cap < mi := by
      rcases Nat.lt_or_ge cap mi with h | h
      · exact h
      · exact absurd (jsub_le h (by omega)) c14
    refine lv_aload_n hx hb dJ5_ensureCapacityInternal_d00df_17 rfl (lv_at hl 1 rfl) ?_
    refine lv_aload_n hx hb dJ5_ensureCapacityInternal_d00df_18 rfl (lv_at hl 1 rfl) ?_
    refine va_get (D := (g.1, g.2.1)) (ci := 11) (v := .ref (q)) (C := RJ4) (T := TJ4) (N := 4) hx hb hts winJ4 hown hK hP 0 rfl rfl 0 (by decide) (hts _ (wj_J5_ensureCapacityInternal_d00df _ (List.mem_of_getElem? (i := 0) rfl))) (fun _ h9 => h9) rfl dJ5_ensureCapacityInternal_d00df_19 ?_
    refine lv_aload_n hx hb dJ5_ensureCapacityInternal_d00df_22 rfl (lv_at hl 1 rfl) ?_
    refine lv_iload_n hx hb dJ5_ensureCapacityInternal_d00df_23 rfl (lv_at hl 2 rfl) ?_
    refine vp_callSi (va_Run.run (va_runU (As := [.int (nI mi)]) (rest := [.ref (q), .ref (h)]) ⟨hx, hb, hml, hown, hts⟩ (n_J5_newCapacity_0f7a4 l g t1 t2 h q cap n f mi h0 h1 c8) (va_cwU 1 hts gd_RJ5_104 rfl rfl rfl rfl ⟨by decide +kernel, by decide +kernel, by decide +kernel⟩ ⟨Nat.le_of_ble_eq_true rfl, Nat.le_of_ble_eq_true rfl⟩) (jp_V (g := g) (jX_0 t1 t2) hK hC hS hP (va_recv hK hP (ci := 11) (q0 := 0) rfl rfl)) rfl rfl hl.1 rfl (lv_room (Nat.le_of_ble_eq_true rfl)) dJ5_ensureCapacityInternal_d00df_24 ⟨Nat.le_of_ble_eq_true rfl, Nat.le_of_ble_eq_true rfl⟩)) (fun r9 e9 => ?_)
    subst e9
    refine lv_aload_n hx hb dJ5_ensureCapacityInternal_d00df_27 rfl (lv_at hl 1 rfl) ?_
    refine va_get (D := (g.1, g.2.1)) (ci := 11) (v := .int (0)) (C := RJ4) (T := TJ4) (N := 4) hx hb hts winJ4 hown hK hP 0 rfl rfl 1 (by decide) (hts _ (wj_J5_ensureCapacityInternal_d00df _ (List.mem_of_getElem? (i := 1) rfl))) (fun _ h9 => h9) rfl dJ5_ensureCapacityInternal_d00df_28 ?_
    refine lv_ishl hx hb dJ5_ensureCapacityInternal_d00df_31 ?_
    refine W.eq (g2 := F0 m 32 ls [.int (nI (cap + max (mi - cap) (cap + 2))), .ref (q), .ref (h)]) (by rw [j_shl]) ?_
    refine j_r (wr := []) (wc := ([(h, .inr (11, [.ref (q), .int 0, .int 0, .int (nI n)])), (q, .inl (g.2.2.2.2.1, cap, .inl (f)))] : va_W)) (va_runS (As := [.ref (q), .int (nI (cap + max (mi - cap) (cap + 2)))]) (rest := [.ref (h)]) ⟨hx, hb, hml, hown, hts⟩ (n_J7_copyOf_9075b l g t1 t2 h q cap n f (cap + max (mi - cap) (cap + 2)) hf h0 (by omega) (by omega) _) (va_cwS 2 hts gd_RJ5_108 rfl rfl rfl ⟨by decide +kernel, by decide +kernel, by decide +kernel⟩ ⟨Nat.le_of_ble_eq_true rfl, Nat.le_of_ble_eq_true rfl⟩) (jm_S (g := g) (jX_0 t1 t2) hK hC hS hP hD hA) rfl rfl hl.1 rfl (lv_room (Nat.le_of_ble_eq_true rfl)) dJ5_ensureCapacityInternal_d00df_32 ⟨Nat.le_of_ble_eq_true rfl, Nat.le_of_ble_eq_true rfl⟩) hP hD hS hA (fun q1 w1 H locs hw hP hD hS => ?_)
    obtain ⟨f1, rfl, f2, f3⟩ := hw
    have hP : va_P (g.1, g.2.1) vwCl ([(h, .inr (11, [.ref (q), .int 0, .int 0, .int (nI n)])), (q, .inl (g.2.2.2.2.1, cap, .inl (f))), (q1, .inl (g.2.2.2.2.1, (cap + max (mi - cap) (cap + 2)), .inl (f1)))] : va_W) H := hP
    have hD : va_D A ([(h, .inr (11, [.ref (q), .int 0, .int 0, .int (nI n)])), (q, .inl (g.2.2.2.2.1, cap, .inl (f))), (q1, .inl (g.2.2.2.2.1, (cap + max (mi - cap) (cap + 2)), .inl (f1)))] : va_W) := hD
    refine va_put (D := (g.1, g.2.1)) (ci := 11) (v := .ref (q1)) (ty := tyJ4 0) (C := RJ4) (T := TJ4) (N := 4) hx hb hts winJ4 tyJ4 tyJ4_ok nmJ4 hown hK hP hD hS 0 rfl rfl 0 (by decide) (hts _ (wj_J5_ensureCapacityInternal_d00df _ (List.mem_of_getElem? (i := 0) rfl))) (fun _ h9 => h9) rfl (tyJ4_ok 0 (by decide)) rfl rfl (Nat.le_of_ble_eq_true rfl) dJ5_ensureCapacityInternal_d00df_35 (fun H locs hP hD hS => ?_)
    have hP : va_P (g.1, g.2.1) vwCl ([(h, .inr (11, [.ref (q1), .int 0, .int 0, .int (nI n)])), (q, .inl (g.2.2.2.2.1, cap, .inl (f))), (q1, .inl (g.2.2.2.2.1, (cap + max (mi - cap) (cap + 2)), .inl (f1)))] : va_W) H := hP
    have hD : va_D A ([(h, .inr (11, [.ref (q1), .int 0, .int 0, .int (nI n)])), (q, .inl (g.2.2.2.2.1, cap, .inl (f))), (q1, .inl (g.2.2.2.2.1, (cap + max (mi - cap) (cap + 2)), .inl (f1)))] : va_W) := hD
    refine W.widen (k := 1) (n := 502) (by first | exact Nat.le_of_ble_eq_true rfl | omega) (by first | exact Nat.le_of_ble_eq_true rfl | omega) ?_
    have hP := hP.sub (ws' := ([(h, .inr (11, [.ref (q1), .int 0, .int 0, .int (nI n)])), (q1, .inl (g.2.2.2.2.1, (cap + max (mi - cap) (cap + 2)), .inl (f1)))] : va_W)) [0, 2] rfl
    have hD := hD.sub (ws' := ([(h, .inr (11, [.ref (q1), .int 0, .int 0, .int (nI n)])), (q1, .inl (g.2.2.2.2.1, (cap + max (mi - cap) (cap + 2)), .inl (f1)))] : va_W)) [0, 2] (by decide) rfl
    exact W.vret hx hb hr (fun t ht hW => ⟨⟨(), rfl, trivial, _, ⟨q1, (cap + max (mi - cap) (cap + 2)), f1, rfl, f2, f3, by omega, by omega, by omega⟩, by rw [ht]; exact hP, hD⟩, hS.F ht⟩) hS.2.2 dJ5_ensureCapacityInternal_d00df_38
theorem gd_RJ5_100 : GoodIn gb_J (va_wsU RJ5 100 RJ4 "java/lang/AbstractStringBuilder" (⟨"java/lang/AbstractStringBuilder", "ensureCapacityInternal", "(I)V"⟩ : MethodName) yJ5_ensureCapacityInternal_d00df (.code yJ5_ensureCapacityInternal_d00df cJ5_ensureCapacityInternal_d00df 3 none :: gb_J)) := gj_in (l := [.methodLink RJ5 100 (⟨"java/lang/AbstractStringBuilder", "ensureCapacityInternal", "(I)V"⟩ : MethodName), .sameMethod (⟨"java/lang/AbstractStringBuilder", "ensureCapacityInternal", "(I)V"⟩ : MethodName).cls "java/lang/AbstractStringBuilder" (⟨"java/lang/AbstractStringBuilder", "ensureCapacityInternal", "(I)V"⟩ : MethodName).name (⟨"java/lang/AbstractStringBuilder", "ensureCapacityInternal", "(I)V"⟩ : MethodName).desc, .selects RJ4 (⟨"java/lang/AbstractStringBuilder", "ensureCapacityInternal", "(I)V"⟩ : MethodName) yJ5_ensureCapacityInternal_d00df, .instanceMethod yJ5_ensureCapacityInternal_d00df, .initialized yJ5_ensureCapacityInternal_d00df.cls]) (by
  have h : ∀ w ∈ ([.methodLink RJ5 100 (⟨"java/lang/AbstractStringBuilder", "ensureCapacityInternal", "(I)V"⟩ : MethodName), .sameMethod (⟨"java/lang/AbstractStringBuilder", "ensureCapacityInternal", "(I)V"⟩ : MethodName).cls "java/lang/AbstractStringBuilder" (⟨"java/lang/AbstractStringBuilder", "ensureCapacityInternal", "(I)V"⟩ : MethodName).name (⟨"java/lang/AbstractStringBuilder", "ensureCapacityInternal", "(I)V"⟩ : MethodName).desc, .selects RJ4 (⟨"java/lang/AbstractStringBuilder", "ensureCapacityInternal", "(I)V"⟩ : MethodName) yJ5_ensureCapacityInternal_d00df, .instanceMethod yJ5_ensureCapacityInternal_d00df, .initialized yJ5_ensureCapacityInternal_d00df.cls] ++ [.code yJ5_ensureCapacityInternal_d00df cJ5_ensureCapacityInternal_d00df 3 none] : List Cond), w ∈ jsw ∨ (w ∈ lw_tbl ∧ goodWord w = true) := by decide +kernel
  exact gb_J_of h)
theorem gd_RJ5_83 : GoodIn gb_J (va_wsU RJ5 83 RJ4 "java/lang/AbstractStringBuilder" (⟨"java/lang/AbstractStringBuilder", "isLatin1", "()Z"⟩ : MethodName) yJ5_isLatin1_aae02 (.code yJ5_isLatin1_aae02 cJ5_isLatin1_aae02 1 (some .boolean) :: gb_J)) := gj_in (l := [.methodLink RJ5 83 (⟨"java/lang/AbstractStringBuilder", "isLatin1", "()Z"⟩ : MethodName), .sameMethod (⟨"java/lang/AbstractStringBuilder", "isLatin1", "()Z"⟩ : MethodName).cls "java/lang/AbstractStringBuilder" (⟨"java/lang/AbstractStringBuilder", "isLatin1", "()Z"⟩ : MethodName).name (⟨"java/lang/AbstractStringBuilder", "isLatin1", "()Z"⟩ : MethodName).desc, .selects RJ4 (⟨"java/lang/AbstractStringBuilder", "isLatin1", "()Z"⟩ : MethodName) yJ5_isLatin1_aae02, .instanceMethod yJ5_isLatin1_aae02, .initialized yJ5_isLatin1_aae02.cls]) (by
  have h : ∀ w ∈ ([.methodLink RJ5 83 (⟨"java/lang/AbstractStringBuilder", "isLatin1", "()Z"⟩ : MethodName), .sameMethod (⟨"java/lang/AbstractStringBuilder", "isLatin1", "()Z"⟩ : MethodName).cls "java/lang/AbstractStringBuilder" (⟨"java/lang/AbstractStringBuilder", "isLatin1", "()Z"⟩ : MethodName).name (⟨"java/lang/AbstractStringBuilder", "isLatin1", "()Z"⟩ : MethodName).desc, .selects RJ4 (⟨"java/lang/AbstractStringBuilder", "isLatin1", "()Z"⟩ : MethodName) yJ5_isLatin1_aae02, .instanceMethod yJ5_isLatin1_aae02, .initialized yJ5_isLatin1_aae02.cls] ++ [.code yJ5_isLatin1_aae02 cJ5_isLatin1_aae02 1 (some .boolean)] : List Cond), w ∈ jsw ∨ (w ∈ lw_tbl ∧ goodWord w = true) := by decide +kernel
  exact gb_J_of h)
theorem gd_RJ5_191 : GoodIn gb_J (va_wsS RJ5 191 yJ1_canEncode_fc78d (.code yJ1_canEncode_fc78d cJ1_canEncode_fc78d 1 (some .boolean) :: gb_J)) := gj_in (l := [.methodLink RJ5 191 yJ1_canEncode_fc78d, .static yJ1_canEncode_fc78d, .initialized yJ1_canEncode_fc78d.cls]) (by
  have h : ∀ w ∈ ([.methodLink RJ5 191 yJ1_canEncode_fc78d, .static yJ1_canEncode_fc78d, .initialized yJ1_canEncode_fc78d.cls] ++ [.code yJ1_canEncode_fc78d cJ1_canEncode_fc78d 1 (some .boolean)] : List Cond), w ∈ jsw ∨ (w ∈ lw_tbl ∧ goodWord w = true) := by decide +kernel
  exact gb_J_of h)
theorem dJ5_append_3fe6f_0 : decode cJ5_append_3fe6f 0 = .ok (.aload_n 0, 1) := by decide +kernel
theorem dJ5_append_3fe6f_1 : decode cJ5_append_3fe6f 1 = .ok (.aload_n 0, 1) := by decide +kernel
theorem dJ5_append_3fe6f_2 : decode cJ5_append_3fe6f 2 = .ok (.getfield 79, 3) := by decide +kernel
theorem dJ5_append_3fe6f_5 : decode cJ5_append_3fe6f 5 = .ok (.iconst 1, 1) := by decide +kernel
theorem dJ5_append_3fe6f_6 : decode cJ5_append_3fe6f 6 = .ok (.iadd, 1) := by decide +kernel
theorem dJ5_append_3fe6f_7 : decode cJ5_append_3fe6f 7 = .ok (.invokevirtual 100, 3) := by decide +kernel
theorem dJ5_append_3fe6f_10 : decode cJ5_append_3fe6f 10 = .ok (.aload_n 0, 1) := by decide +kernel
theorem dJ5_append_3fe6f_11 : decode cJ5_append_3fe6f 11 = .ok (.invokevirtual 83, 3) := by decide +kernel
theorem dJ5_append_3fe6f_14 : decode cJ5_append_3fe6f 14 = .ok (.ifCond .eq 31, 3) := by decide +kernel
theorem dJ5_append_3fe6f_17 : decode cJ5_append_3fe6f 17 = .ok (.iload_n 1, 1) := by decide +kernel
theorem dJ5_append_3fe6f_18 : decode cJ5_append_3fe6f 18 = .ok (.invokestatic 191, 3) := by decide +kernel
theorem dJ5_append_3fe6f_21 : decode cJ5_append_3fe6f 21 = .ok (.ifCond .eq 24, 3) := by decide +kernel
theorem dJ5_append_3fe6f_24 : decode cJ5_append_3fe6f 24 = .ok (.aload_n 0, 1) := by decide +kernel
theorem dJ5_append_3fe6f_25 : decode cJ5_append_3fe6f 25 = .ok (.getfield 15, 3) := by decide +kernel
theorem dJ5_append_3fe6f_28 : decode cJ5_append_3fe6f 28 = .ok (.aload_n 0, 1) := by decide +kernel
theorem dJ5_append_3fe6f_29 : decode cJ5_append_3fe6f 29 = .ok (.dup, 1) := by decide +kernel
theorem dJ5_append_3fe6f_30 : decode cJ5_append_3fe6f 30 = .ok (.getfield 79, 3) := by decide +kernel
theorem dJ5_append_3fe6f_33 : decode cJ5_append_3fe6f 33 = .ok (.dup_x1, 1) := by decide +kernel
theorem dJ5_append_3fe6f_34 : decode cJ5_append_3fe6f 34 = .ok (.iconst 1, 1) := by decide +kernel
theorem dJ5_append_3fe6f_35 : decode cJ5_append_3fe6f 35 = .ok (.iadd, 1) := by decide +kernel
theorem dJ5_append_3fe6f_36 : decode cJ5_append_3fe6f 36 = .ok (.putfield 79, 3) := by decide +kernel
theorem dJ5_append_3fe6f_39 : decode cJ5_append_3fe6f 39 = .ok (.iload_n 1, 1) := by decide +kernel
theorem dJ5_append_3fe6f_40 : decode cJ5_append_3fe6f 40 = .ok (.i2b, 1) := by decide +kernel
theorem dJ5_append_3fe6f_41 : decode cJ5_append_3fe6f 41 = .ok (.bastore, 1) := by decide +kernel
theorem dJ5_append_3fe6f_42 : decode cJ5_append_3fe6f 42 = .ok (.goto 33, 3) := by decide +kernel
theorem dJ5_append_3fe6f_45 : decode cJ5_append_3fe6f 45 = .ok (.aload_n 0, 1) := by decide +kernel
theorem dJ5_append_3fe6f_46 : decode cJ5_append_3fe6f 46 = .ok (.invokevirtual 83, 3) := by decide +kernel
theorem dJ5_append_3fe6f_49 : decode cJ5_append_3fe6f 49 = .ok (.ifCond .eq 7, 3) := by decide +kernel
theorem dJ5_append_3fe6f_52 : decode cJ5_append_3fe6f 52 = .ok (.aload_n 0, 1) := by decide +kernel
theorem dJ5_append_3fe6f_53 : decode cJ5_append_3fe6f 53 = .ok (.invokevirtual 195, 3) := by decide +kernel
theorem dJ5_append_3fe6f_56 : decode cJ5_append_3fe6f 56 = .ok (.aload_n 0, 1) := by decide +kernel
theorem dJ5_append_3fe6f_57 : decode cJ5_append_3fe6f 57 = .ok (.getfield 15, 3) := by decide +kernel
theorem dJ5_append_3fe6f_60 : decode cJ5_append_3fe6f 60 = .ok (.aload_n 0, 1) := by decide +kernel
theorem dJ5_append_3fe6f_61 : decode cJ5_append_3fe6f 61 = .ok (.dup, 1) := by decide +kernel
theorem dJ5_append_3fe6f_62 : decode cJ5_append_3fe6f 62 = .ok (.getfield 79, 3) := by decide +kernel
theorem dJ5_append_3fe6f_65 : decode cJ5_append_3fe6f 65 = .ok (.dup_x1, 1) := by decide +kernel
theorem dJ5_append_3fe6f_66 : decode cJ5_append_3fe6f 66 = .ok (.iconst 1, 1) := by decide +kernel
theorem dJ5_append_3fe6f_67 : decode cJ5_append_3fe6f 67 = .ok (.iadd, 1) := by decide +kernel
theorem dJ5_append_3fe6f_68 : decode cJ5_append_3fe6f 68 = .ok (.putfield 79, 3) := by decide +kernel
theorem dJ5_append_3fe6f_71 : decode cJ5_append_3fe6f 71 = .ok (.iload_n 1, 1) := by decide +kernel
theorem dJ5_append_3fe6f_72 : decode cJ5_append_3fe6f 72 = .ok (.invokestatic 197, 3) := by decide +kernel
theorem dJ5_append_3fe6f_75 : decode cJ5_append_3fe6f 75 = .ok (.aload_n 0, 1) := by decide +kernel
theorem dJ5_append_3fe6f_76 : decode cJ5_append_3fe6f 76 = .ok (.areturn, 1) := by decide +kernel
theorem wj_J5_append_3fe6f : ∀ w ∈ ([.fieldLink RJ5 79 "java/lang/AbstractStringBuilder" "count" "I", .fieldLink RJ5 15 "java/lang/AbstractStringBuilder" "value" "[B"] : List Cond), w ∈ gb_J := by
  have h : ∀ w ∈ ([.fieldLink RJ5 79 "java/lang/AbstractStringBuilder" "count" "I", .fieldLink RJ5 15 "java/lang/AbstractStringBuilder" "value" "[B"] : List Cond), w ∈ jsw ∨ (w ∈ lw_tbl ∧ goodWord w = true) := by decide +kernel
  exact gb_J_of h
set_option maxHeartbeats 4000000 in
theorem n_J5_append_3fe6f (l : Launch) (g : gb_G) (t1 t2 : Nat) (h q cap : Nat) (f : Nat → Int32) (T : List Nat) (ch : Nat) (hf : jF f T) (h0 : T.length ≤ cap) (h1 : cap ≤ 502) (h2 : T.length < 240) (hc : ch < 128) (sz : Nat) : Met l yJ5_append_3fe6f (.code yJ5_append_3fe6f cJ5_append_3fe6f 2 (some (.object "java/lang/AbstractStringBuilder")) :: gb_J) ({ frames := 10, cells := 1, slots := 502, locals := 500 }) (jm g (jC t1 t2) [.ref (h), .int (nI ch)] ([(h, .inr (11, [.ref (q), .int 0, .int 0, .int (nI T.length)])), (q, .inl (g.2.2.2.2.1, cap, .inl (f)))] : va_W) sz) (jQr g (fun r w1 => r = h ∧ jSb g h (T ++ [ch]) w1) (va_A ([(h, .inr (11, [.ref (q), .int 0, .int 0, .int (nI T.length)])), (q, .inl (g.2.2.2.2.1, cap, .inl (f)))] : va_W) sz)) 1 502 (va_A ([(h, .inr (11, [.ref (q), .int 0, .int 0, .int (nI T.length)])), (q, .inl (g.2.2.2.2.1, cap, .inl (f)))] : va_W) sz) := by
  refine Met.ofW (cc := cJ5_append_3fe6f) (maxL := 2) (ret := (some (.object "java/lang/AbstractStringBuilder"))) (by decide +kernel) rfl ?_
  intro p e s m args below meth c s₁ B hml hv
  obtain ⟨rfl, hsz, hP, hK, hD0, hC⟩ := hv
  have hx := B.exec
  have hb := B.bytes
  have hr := B.returns
  have hts0 := atoms_spec (ws := .code yJ5_append_3fe6f cJ5_append_3fe6f 2 (some (.object "java/lang/AbstractStringBuilder")) :: gb_J) B.pre
  have hts : ∀ w ∈ gb_J, w.before ([.ref (h), .int (nI ch)] : List Value).toArray s = true := fun w hw => hts0 w (List.mem_cons_of_mem _ hw)
  have hown : s.vm.findClass RJ5 = some m.cls := findClass_of_methodNamed B.named
  have hlocks := B.notSynchronized
  subst hsz
  have hD := hD0.self (sz := s.heap.size)
  generalize hAe : va_A ([(h, .inr (11, [.ref (q), .int 0, .int 0, .int (nI T.length)])), (q, .inl (g.2.2.2.2.1, cap, .inl (f)))] : va_W) s.heap.size = A at hD hC ⊢
  have hA : ∀ q : Nat, s.heap.size ≤ q → A q := fun q h => by rw [← hAe]; exact Or.inr h
  have hS : va_S A s.heap s.heap [] := va_S.rf
  have hl := lv_entry ([.ref (h), .int (nI ch)]) (n := 2) (Nat.le_of_ble_eq_true rfl)
  rw [lg_entry_eq]
  generalize (lg_sl ([.ref (h), .int (nI ch)]) ++ List.replicate (2 - (lg_sl ([.ref (h), .int (nI ch)])).length) Slot.unset).toArray = ls at hl ⊢
  have hl : lv_has ls 2 [(0, .ref (h)), (1, .int (nI ch))] := hl
  refine lv_aload_n hx hb dJ5_append_3fe6f_0 rfl (lv_at hl 0 rfl) ?_
  refine lv_aload_n hx hb dJ5_append_3fe6f_1 rfl (lv_at hl 0 rfl) ?_
  refine va_get (D := (g.1, g.2.1)) (ci := 11) (v := .int (nI T.length)) (C := RJ4) (T := TJ4) (N := 4) hx hb hts winJ4 hown hK hP 0 rfl rfl 3 (by decide) (hts _ (wj_J5_append_3fe6f _ (List.mem_of_getElem? (i := 0) rfl))) (fun _ h9 => h9) rfl dJ5_append_3fe6f_2 ?_
  refine lv_iconst (v := 1) hx hb dJ5_append_3fe6f_5 (by decide) ?_
  refine lv_iadd hx hb dJ5_append_3fe6f_6 ?_
  refine W.eq (g2 := F0 m 7 ls [.int (nI (T.length + 1)), .ref (h)]) (by rw [show ((nI T.length) + (1) : Int32) = nI (T.length + 1) from nI_1 _]) ?_
  refine j_v (wr := []) (wc := ([(h, .inr (11, [.ref (q), .int 0, .int 0, .int (nI T.length)])), (q, .inl (g.2.2.2.2.1, cap, .inl (f)))] : va_W)) (va_runU (As := [.int (nI (T.length + 1))]) (rest := []) ⟨hx, hb, hml, hown, hts⟩ (n_J5_ensureCapacityInternal_d00df l g t1 t2 h q cap T.length f (T.length + 1) hf.1 h1 (by omega) _) (va_cwU 1 hts gd_RJ5_100 rfl rfl rfl rfl ⟨by decide +kernel, by decide +kernel, by decide +kernel⟩ ⟨Nat.le_of_ble_eq_true rfl, Nat.le_of_ble_eq_true rfl⟩) (jm_V (g := g) (jX_0 t1 t2) hK hC hS hP hD hA (va_recv hK hP (ci := 11) (q0 := 0) rfl rfl)) rfl rfl hl.1 rfl (lv_room (Nat.le_of_ble_eq_true rfl)) dJ5_append_3fe6f_7 ⟨Nat.le_of_ble_eq_true rfl, Nat.le_of_ble_eq_true rfl⟩) hP hD hS hA (fun w1 H locs hw hP hD hS => ?_)
  obtain ⟨q1, c1, f1, rfl, f2, f3, f4, f5, f6⟩ := hw
  have hP : va_P (g.1, g.2.1) vwCl ([(h, .inr (11, [.ref (q1), .int 0, .int 0, .int (nI T.length)])), (q1, .inl (g.2.2.2.2.1, c1, .inl (f1)))] : va_W) H := hP
  have hD : va_D A ([(h, .inr (11, [.ref (q1), .int 0, .int 0, .int (nI T.length)])), (q1, .inl (g.2.2.2.2.1, c1, .inl (f1)))] : va_W) := hD
  refine lv_aload_n hx hb dJ5_append_3fe6f_10 rfl (lv_at hl 0 rfl) ?_
  refine vp_callSi (va_Run.run (va_runU (As := []) (rest := []) ⟨hx, hb, hml, hown, hts⟩ (n_J5_isLatin1_aae02 l g t1 t2 h q1 c1 T.length f1) (va_cwU 0 hts gd_RJ5_83 rfl rfl rfl rfl ⟨by decide +kernel, by decide +kernel, by decide +kernel⟩ ⟨Nat.le_of_ble_eq_true rfl, Nat.le_of_ble_eq_true rfl⟩) (jp_V (g := g) (jX_0 t1 t2) hK hC hS hP (va_recv hK hP (ci := 11) (q0 := 0) rfl rfl)) rfl rfl hl.1 rfl (lv_room (Nat.le_of_ble_eq_true rfl)) dJ5_append_3fe6f_11 ⟨Nat.le_of_ble_eq_true rfl, Nat.le_of_ble_eq_true rfl⟩)) (fun r9 e9 => ?_)
  subst e9
  refine lv_if_eq (tgt := 45) hx hb dJ5_append_3fe6f_14 (by decide) (fun c9 => absurd c9 (by decide)) (fun _ => ?_)
  refine lv_iload_n hx hb dJ5_append_3fe6f_17 rfl (lv_at hl 1 rfl) ?_
  refine vp_callSi (va_Run.run (va_runS (As := [.int (nI ch)]) (rest := []) ⟨hx, hb, hml, hown, hts⟩ (n_J1_canEncode_fc78d l g t1 t2 ch hc) (va_cwS 1 hts gd_RJ5_191 rfl rfl rfl ⟨by decide +kernel, by decide +kernel, by decide +kernel⟩ ⟨Nat.le_of_ble_eq_true rfl, Nat.le_of_ble_eq_true rfl⟩) (jp_S (g := g) (jX_0 t1 t2) hK hC hS (hP.sub [] rfl)) rfl rfl hl.1 rfl (lv_room (Nat.le_of_ble_eq_true rfl)) dJ5_append_3fe6f_18 ⟨Nat.le_of_ble_eq_true rfl, Nat.le_of_ble_eq_true rfl⟩)) (fun r9 e9 => ?_)
  subst e9
  refine lv_if_eq (tgt := 45) hx hb dJ5_append_3fe6f_21 (by decide) (fun c9 => absurd c9 (by decide)) (fun _ => ?_)
  refine lv_aload_n hx hb dJ5_append_3fe6f_24 rfl (lv_at hl 0 rfl) ?_
  refine va_get (D := (g.1, g.2.1)) (ci := 11) (v := .ref (q1)) (C := RJ4) (T := TJ4) (N := 4) hx hb hts winJ4 hown hK hP 0 rfl rfl 0 (by decide) (hts _ (wj_J5_append_3fe6f _ (List.mem_of_getElem? (i := 1) rfl))) (fun _ h9 => h9) rfl dJ5_append_3fe6f_25 ?_
  refine lv_aload_n hx hb dJ5_append_3fe6f_28 rfl (lv_at hl 0 rfl) ?_
  refine lv_dup hx hb dJ5_append_3fe6f_29 rfl ?_
  refine va_get (D := (g.1, g.2.1)) (ci := 11) (v := .int (nI T.length)) (C := RJ4) (T := TJ4) (N := 4) hx hb hts winJ4 hown hK hP 0 rfl rfl 3 (by decide) (hts _ (wj_J5_append_3fe6f _ (List.mem_of_getElem? (i := 0) rfl))) (fun _ h9 => h9) rfl dJ5_append_3fe6f_30 ?_
  refine lv_dup_x1 hx hb dJ5_append_3fe6f_33 rfl rfl ?_
  refine lv_iconst (v := 1) hx hb dJ5_append_3fe6f_34 (by decide) ?_
  refine lv_iadd hx hb dJ5_append_3fe6f_35 ?_
  refine W.eq (g2 := F0 m 36 ls [.int (nI (T.length + 1)), .ref (h), .int (nI T.length), .ref (q1)]) (by rw [show ((nI T.length) + (1) : Int32) = nI (T.length + 1) from nI_1 _]) ?_
  refine va_put (D := (g.1, g.2.1)) (ci := 11) (v := .int (nI (T.length + 1))) (ty := tyJ4 3) (C := RJ4) (T := TJ4) (N := 4) hx hb hts winJ4 tyJ4 tyJ4_ok nmJ4 hown hK hP hD hS 0 rfl rfl 3 (by decide) (hts _ (wj_J5_append_3fe6f _ (List.mem_of_getElem? (i := 0) rfl))) (fun _ h9 => h9) rfl (tyJ4_ok 3 (by decide)) rfl rfl (Nat.le_of_ble_eq_true rfl) dJ5_append_3fe6f_36 (fun H locs hP hD hS => ?_)
  have hP : va_P (g.1, g.2.1) vwCl ([(h, .inr (11, [.ref (q1), .int 0, .int 0, .int (nI (T.length + 1))])), (q1, .inl (g.2.2.2.2.1, c1, .inl (f1)))] : va_W) H := hP
  have hD : va_D A ([(h, .inr (11, [.ref (q1), .int 0, .int 0, .int (nI (T.length + 1))])), (q1, .inl (g.2.2.2.2.1, c1, .inl (f1)))] : va_W) := hD
  refine lv_iload_n hx hb dJ5_append_3fe6f_39 rfl (lv_at hl 1 rfl) ?_
  refine lv_i2b (v := nI ch) hx hb dJ5_append_3fe6f_40 (jnar hc) ?_
  refine va_bast (D := (g.1, g.2.1)) hx hb hK hP hD hS 1 1 rfl rfl (pk_in T.length c1 (by omega)) dJ5_append_3fe6f_41 (fun H locs hP hD hS => ?_)
  rw [vp_nar_byte, j_cl (show T.length < 2 ^ 31 by omega), jnar hc] at hP hD
  have hP : va_P (g.1, g.2.1) vwCl ([(h, .inr (11, [.ref (q1), .int 0, .int 0, .int (nI (T.length + 1))])), (q1, .inl (g.2.2.2.2.1, c1, .inl (upd (f1) (T.length) (nI ch))))] : va_W) H := hP
  have hD : va_D A ([(h, .inr (11, [.ref (q1), .int 0, .int 0, .int (nI (T.length + 1))])), (q1, .inl (g.2.2.2.2.1, c1, .inl (upd (f1) (T.length) (nI ch))))] : va_W) := hD
  refine lv_goto (tgt := 75) hx hb dJ5_append_3fe6f_42 (by decide) ?_
  refine lv_aload_n hx hb dJ5_append_3fe6f_75 rfl (lv_at hl 0 rfl) ?_
  refine W.widen (k := 1) (n := 502) (by first | exact Nat.le_of_ble_eq_true rfl | omega) (by first | exact Nat.le_of_ble_eq_true rfl | omega) ?_
  exact W.aret (v := .ref (h)) hx hb hr (Or.inl ⟨_, rfl⟩) (Or.inr ⟨_, rfl⟩) (fun t ht hW => ⟨⟨(), _, rfl, trivial, _, ⟨rfl, q1, c1, upd f1 T.length (nI ch), by rw [List.length_append]; rfl, jF_up (jF_of hf f2 (fun i hi => f3 i (by omega))) hc, by rw [List.length_append]; exact f4, f6⟩, by rw [ht]; exact hP, hD⟩, hS.F ht⟩) hS.2.2 dJ5_append_3fe6f_76
theorem gd_RJ4_50 : GoodIn gb_J (va_wsSU RJ4 50 yJ5_append_3fe6f (.code yJ5_append_3fe6f cJ5_append_3fe6f 2 (some (.object "java/lang/AbstractStringBuilder")) :: gb_J)) := gj_in (l := [.methodLink RJ4 50 yJ5_append_3fe6f, .sameMethod yJ5_append_3fe6f.cls yJ5_append_3fe6f.cls yJ5_append_3fe6f.name yJ5_append_3fe6f.desc, .superclass RJ4 yJ5_append_3fe6f.cls, .instanceMethod yJ5_append_3fe6f, .initialized yJ5_append_3fe6f.cls]) (by
  have h : ∀ w ∈ ([.methodLink RJ4 50 yJ5_append_3fe6f, .sameMethod yJ5_append_3fe6f.cls yJ5_append_3fe6f.cls yJ5_append_3fe6f.name yJ5_append_3fe6f.desc, .superclass RJ4 yJ5_append_3fe6f.cls, .instanceMethod yJ5_append_3fe6f, .initialized yJ5_append_3fe6f.cls] ++ [.code yJ5_append_3fe6f cJ5_append_3fe6f 2 (some (.object "java/lang/AbstractStringBuilder"))] : List Cond), w ∈ jsw ∨ (w ∈ lw_tbl ∧ goodWord w = true) := by decide +kernel
  exact gb_J_of h)
theorem dJ4_append_cf468_0 : decode cJ4_append_cf468 0 = .ok (.aload_n 0, 1) := by decide +kernel
theorem dJ4_append_cf468_1 : decode cJ4_append_cf468 1 = .ok (.iload_n 1, 1) := by decide +kernel
theorem dJ4_append_cf468_2 : decode cJ4_append_cf468 2 = .ok (.invokespecial 50, 3) := by decide +kernel
theorem dJ4_append_cf468_5 : decode cJ4_append_cf468 5 = .ok (.pop, 1) := by decide +kernel
theorem dJ4_append_cf468_6 : decode cJ4_append_cf468 6 = .ok (.aload_n 0, 1) := by decide +kernel
theorem dJ4_append_cf468_7 : decode cJ4_append_cf468 7 = .ok (.areturn, 1) := by decide +kernel
set_option maxHeartbeats 4000000 in
theorem n_J4_append_cf468 (l : Launch) (g : gb_G) (t1 t2 : Nat) (h q cap : Nat) (f : Nat → Int32) (T : List Nat) (ch : Nat) (hf : jF f T) (h0 : T.length ≤ cap) (h1 : cap ≤ 502) (h2 : T.length < 240) (hc : ch < 128) (sz : Nat) : Met l yJ4_append_cf468 (.code yJ4_append_cf468 cJ4_append_cf468 2 (some (.object "java/lang/StringBuilder")) :: gb_J) ({ frames := 12, cells := 1, slots := 502, locals := 600 }) (jm g (jC t1 t2) [.ref (h), .int (nI ch)] ([(h, .inr (11, [.ref (q), .int 0, .int 0, .int (nI T.length)])), (q, .inl (g.2.2.2.2.1, cap, .inl (f)))] : va_W) sz) (jQr g (fun r w1 => r = h ∧ jSb g h (T ++ [ch]) w1) (va_A ([(h, .inr (11, [.ref (q), .int 0, .int 0, .int (nI T.length)])), (q, .inl (g.2.2.2.2.1, cap, .inl (f)))] : va_W) sz)) 1 502 (va_A ([(h, .inr (11, [.ref (q), .int 0, .int 0, .int (nI T.length)])), (q, .inl (g.2.2.2.2.1, cap, .inl (f)))] : va_W) sz) := by
  refine Met.ofW (cc := cJ4_append_cf468) (maxL := 2) (ret := (some (.object "java/lang/StringBuilder"))) (by decide +kernel) rfl ?_
  intro p e s m args below meth c s₁ B hml hv
  obtain ⟨rfl, hsz, hP, hK, hD0, hC⟩ := hv
  have hx := B.exec
  have hb := B.bytes
  have hr := B.returns
  have hts0 := atoms_spec (ws := .code yJ4_append_cf468 cJ4_append_cf468 2 (some (.object "java/lang/StringBuilder")) :: gb_J) B.pre
  have hts : ∀ w ∈ gb_J, w.before ([.ref (h), .int (nI ch)] : List Value).toArray s = true := fun w hw => hts0 w (List.mem_cons_of_mem _ hw)
  have hown : s.vm.findClass RJ4 = some m.cls := findClass_of_methodNamed B.named
  have hlocks := B.notSynchronized
  subst hsz
  have hD := hD0.self (sz := s.heap.size)
  generalize hAe : va_A ([(h, .inr (11, [.ref (q), .int 0, .int 0, .int (nI T.length)])), (q, .inl (g.2.2.2.2.1, cap, .inl (f)))] : va_W) s.heap.size = A at hD hC ⊢
  have hA : ∀ q : Nat, s.heap.size ≤ q → A q := fun q h => by rw [← hAe]; exact Or.inr h
  have hS : va_S A s.heap s.heap [] := va_S.rf
  have hl := lv_entry ([.ref (h), .int (nI ch)]) (n := 2) (Nat.le_of_ble_eq_true rfl)
  rw [lg_entry_eq]
  generalize (lg_sl ([.ref (h), .int (nI ch)]) ++ List.replicate (2 - (lg_sl ([.ref (h), .int (nI ch)])).length) Slot.unset).toArray = ls at hl ⊢
  have hl : lv_has ls 2 [(0, .ref (h)), (1, .int (nI ch))] := hl
  refine lv_aload_n hx hb dJ4_append_cf468_0 rfl (lv_at hl 0 rfl) ?_
  refine lv_iload_n hx hb dJ4_append_cf468_1 rfl (lv_at hl 1 rfl) ?_
  refine j_r (wr := []) (wc := ([(h, .inr (11, [.ref (q), .int 0, .int 0, .int (nI T.length)])), (q, .inl (g.2.2.2.2.1, cap, .inl (f)))] : va_W)) (va_runSU (C := RJ4) (j_cat hK) (As := [.int (nI ch)]) (rest := []) ⟨hx, hb, hml, hown, hts⟩ (n_J5_append_3fe6f l g t1 t2 h q cap f T ch hf h0 h1 h2 hc _) (va_cwSU 1 hts gd_RJ4_50 rfl rfl rfl ⟨by decide +kernel, by decide +kernel⟩ ⟨Nat.le_of_ble_eq_true rfl, Nat.le_of_ble_eq_true rfl⟩) (jm_V (g := g) (jX_0 t1 t2) hK hC hS hP hD hA (va_recv hK hP (ci := 11) (q0 := 0) rfl rfl)) rfl rfl hl.1 rfl (lv_room (Nat.le_of_ble_eq_true rfl)) dJ4_append_cf468_2 ⟨Nat.le_of_ble_eq_true rfl, Nat.le_of_ble_eq_true rfl⟩) hP hD hS hA (fun r1 w1 H locs hw hP hD hS => ?_)
  obtain ⟨e9, q1, c1, f1, rfl, f2, f3, f4⟩ := hw
  have e9 := e9.symm
  subst e9
  have hP : va_P (g.1, g.2.1) vwCl ([(h, .inr (11, [.ref (q1), .int 0, .int 0, .int (nI (T ++ [ch]).length)])), (q1, .inl (g.2.2.2.2.1, c1, .inl (f1)))] : va_W) H := hP
  have hD : va_D A ([(h, .inr (11, [.ref (q1), .int 0, .int 0, .int (nI (T ++ [ch]).length)])), (q1, .inl (g.2.2.2.2.1, c1, .inl (f1)))] : va_W) := hD
  refine lv_pop hx hb dJ4_append_cf468_5 rfl ?_
  refine lv_aload_n hx hb dJ4_append_cf468_6 rfl (lv_at hl 0 rfl) ?_
  refine W.widen (k := 1) (n := 502) (by first | exact Nat.le_of_ble_eq_true rfl | omega) (by first | exact Nat.le_of_ble_eq_true rfl | omega) ?_
  exact W.aret (v := .ref (h)) hx hb hr (Or.inl ⟨_, rfl⟩) (Or.inr ⟨_, rfl⟩) (fun t ht hW => ⟨⟨(), _, rfl, trivial, _, ⟨rfl, q1, c1, f1, rfl, f2, f3, f4⟩, by rw [ht]; exact hP, hD⟩, hS.F ht⟩) hS.2.2 dJ4_append_cf468_7
