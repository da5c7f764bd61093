/-! JDK: append(int), append(String) (printed by wip/p44/jdk2.py) -/
theorem dJ6_stringSize_0f7a4_0 : decode cJ6_stringSize_0f7a4 0 = .ok (.iconst 1, 1) := by decide +kernel
theorem dJ6_stringSize_0f7a4_1 : decode cJ6_stringSize_0f7a4 1 = .ok (.istore_n 1, 1) := by decide +kernel
theorem dJ6_stringSize_0f7a4_2 : decode cJ6_stringSize_0f7a4 2 = .ok (.iload_n 0, 1) := by decide +kernel
theorem dJ6_stringSize_0f7a4_3 : decode cJ6_stringSize_0f7a4 3 = .ok (.ifCond .lt 8, 3) := by decide +kernel
theorem dJ6_stringSize_0f7a4_6 : decode cJ6_stringSize_0f7a4 6 = .ok (.iconst 0, 1) := by decide +kernel
theorem dJ6_stringSize_0f7a4_7 : decode cJ6_stringSize_0f7a4 7 = .ok (.istore_n 1, 1) := by decide +kernel
theorem dJ6_stringSize_0f7a4_8 : decode cJ6_stringSize_0f7a4 8 = .ok (.iload_n 0, 1) := by decide +kernel
theorem dJ6_stringSize_0f7a4_9 : decode cJ6_stringSize_0f7a4 9 = .ok (.ineg, 1) := by decide +kernel
theorem dJ6_stringSize_0f7a4_10 : decode cJ6_stringSize_0f7a4 10 = .ok (.istore_n 0, 1) := by decide +kernel
theorem dJ6_stringSize_0f7a4_11 : decode cJ6_stringSize_0f7a4 11 = .ok (.bipush (-10), 2) := by decide +kernel
theorem dJ6_stringSize_0f7a4_13 : decode cJ6_stringSize_0f7a4 13 = .ok (.istore_n 2, 1) := by decide +kernel
theorem dJ6_stringSize_0f7a4_14 : decode cJ6_stringSize_0f7a4 14 = .ok (.iconst 1, 1) := by decide +kernel
theorem dJ6_stringSize_0f7a4_15 : decode cJ6_stringSize_0f7a4 15 = .ok (.istore_n 3, 1) := by decide +kernel
theorem dJ6_stringSize_0f7a4_16 : decode cJ6_stringSize_0f7a4 16 = .ok (.iload_n 3, 1) := by decide +kernel
theorem dJ6_stringSize_0f7a4_17 : decode cJ6_stringSize_0f7a4 17 = .ok (.bipush 10, 2) := by decide +kernel
theorem dJ6_stringSize_0f7a4_19 : decode cJ6_stringSize_0f7a4 19 = .ok (.if_icmp .ge 23, 3) := by decide +kernel
theorem dJ6_stringSize_0f7a4_22 : decode cJ6_stringSize_0f7a4 22 = .ok (.iload_n 0, 1) := by decide +kernel
theorem dJ6_stringSize_0f7a4_23 : decode cJ6_stringSize_0f7a4 23 = .ok (.iload_n 2, 1) := by decide +kernel
theorem dJ6_stringSize_0f7a4_24 : decode cJ6_stringSize_0f7a4 24 = .ok (.if_icmp .le 7, 3) := by decide +kernel
theorem dJ6_stringSize_0f7a4_27 : decode cJ6_stringSize_0f7a4 27 = .ok (.iload_n 3, 1) := by decide +kernel
theorem dJ6_stringSize_0f7a4_28 : decode cJ6_stringSize_0f7a4 28 = .ok (.iload_n 1, 1) := by decide +kernel
theorem dJ6_stringSize_0f7a4_29 : decode cJ6_stringSize_0f7a4 29 = .ok (.iadd, 1) := by decide +kernel
theorem dJ6_stringSize_0f7a4_30 : decode cJ6_stringSize_0f7a4 30 = .ok (.ireturn, 1) := by decide +kernel
theorem dJ6_stringSize_0f7a4_31 : decode cJ6_stringSize_0f7a4 31 = .ok (.bipush 10, 2) := by decide +kernel
theorem dJ6_stringSize_0f7a4_33 : decode cJ6_stringSize_0f7a4 33 = .ok (.iload_n 2, 1) := by decide +kernel
theorem dJ6_stringSize_0f7a4_34 : decode cJ6_stringSize_0f7a4 34 = .ok (.imul, 1) := by decide +kernel
theorem dJ6_stringSize_0f7a4_35 : decode cJ6_stringSize_0f7a4 35 = .ok (.istore_n 2, 1) := by decide +kernel
theorem dJ6_stringSize_0f7a4_36 : decode cJ6_stringSize_0f7a4 36 = .ok (.iinc 3 1, 3) := by decide +kernel
theorem dJ6_stringSize_0f7a4_39 : decode cJ6_stringSize_0f7a4 39 = .ok (.goto (-23), 3) := by decide +kernel
theorem dJ6_stringSize_0f7a4_42 : decode cJ6_stringSize_0f7a4 42 = .ok (.bipush 10, 2) := by decide +kernel
theorem dJ6_stringSize_0f7a4_44 : decode cJ6_stringSize_0f7a4 44 = .ok (.iload_n 1, 1) := by decide +kernel
theorem dJ6_stringSize_0f7a4_45 : decode cJ6_stringSize_0f7a4 45 = .ok (.iadd, 1) := by decide +kernel
theorem dJ6_stringSize_0f7a4_46 : decode cJ6_stringSize_0f7a4 46 = .ok (.ireturn, 1) := by decide +kernel
set_option maxHeartbeats 4000000 in
theorem n_J6_stringSize_0f7a4 (l : Launch) (g : gb_G) (t1 t2 : Nat) (v : Nat) (hv : v < 100) : Met l yJ6_stringSize_0f7a4 (.code yJ6_stringSize_0f7a4 cJ6_stringSize_0f7a4 4 (some .int) :: gb_J) ({ frames := 2, cells := 0, slots := 0, locals := 100 }) (jp g (jC t1 t2) [.int (nI v)] ([] : va_W)) (vp_Si (fun r => r = nI (jdl v))) 0 0 (fun _ => False) := by
  refine Met.ofW (cc := cJ6_stringSize_0f7a4) (maxL := 4) (ret := (some .int)) (by decide +kernel) rfl ?_
  intro p e s m args below meth c s₁ B hml hv
  obtain ⟨rfl, hP, hK, hC⟩ := hv
  have hx := B.exec
  have hb := B.bytes
  have hr := B.returns
  have hts0 := atoms_spec (ws := .code yJ6_stringSize_0f7a4 cJ6_stringSize_0f7a4 4 (some .int) :: gb_J) B.pre
  have hts : ∀ w ∈ gb_J, w.before ([.int (nI v)] : List Value).toArray s = true := fun w hw => hts0 w (List.mem_cons_of_mem _ hw)
  have hown : s.vm.findClass RJ6 = some m.cls := findClass_of_methodNamed B.named
  have hlocks := B.notSynchronized
  have hS : va_S (fun _ => False) s.heap s.heap [] := va_S.rf
  have hl := lv_entry ([.int (nI v)]) (n := 4) (Nat.le_of_ble_eq_true rfl)
  rw [lg_entry_eq]
  generalize (lg_sl ([.int (nI v)]) ++ List.replicate (4 - (lg_sl ([.int (nI v)])).length) Slot.unset).toArray = ls at hl ⊢
  have hl : lv_has ls 4 [(0, .int (nI v))] := hl
  refine lv_iconst (v := 1) hx hb dJ6_stringSize_0f7a4_0 (by decide) ?_
  refine lv_istore_n (lv' := [(1, .int (1)), (0, .int (nI v))]) hx hb dJ6_stringSize_0f7a4_1 rfl hl (by decide) rfl (fun ls hl => ?_)
  refine lv_iload_n hx hb dJ6_stringSize_0f7a4_2 rfl (lv_at hl 1 rfl) ?_
  refine lv_if_lt (tgt := 11) hx hb dJ6_stringSize_0f7a4_3 (by decide) (fun c9 => absurd c9 (nI_pos (show v < 2 ^ 31 by omega))) (fun _ => ?_)
  refine lv_iconst (v := 0) hx hb dJ6_stringSize_0f7a4_6 (by decide) ?_
  refine lv_istore_n (lv' := [(1, .int (0)), (0, .int (nI v))]) hx hb dJ6_stringSize_0f7a4_7 rfl hl (by decide) rfl (fun ls hl => ?_)
  refine lv_iload_n hx hb dJ6_stringSize_0f7a4_8 rfl (lv_at hl 1 rfl) ?_
  refine lv_ineg hx hb dJ6_stringSize_0f7a4_9 ?_
  refine lv_istore_n (lv' := [(0, .int (-(nI v))), (1, .int (0))]) hx hb dJ6_stringSize_0f7a4_10 rfl hl (by decide) rfl (fun ls hl => ?_)
  refine lv_bipush (v := (-10)) hx hb dJ6_stringSize_0f7a4_11 (by decide) ?_
  refine lv_istore_n (lv' := [(2, .int ((-10))), (0, .int (-(nI v))), (1, .int (0))]) hx hb dJ6_stringSize_0f7a4_13 rfl hl (by decide) rfl (fun ls hl => ?_)
  refine lv_iconst (v := 1) hx hb dJ6_stringSize_0f7a4_14 (by decide) ?_
  refine lv_istore_n (lv' := [(3, .int (1)), (2, .int ((-10))), (0, .int (-(nI v))), (1, .int (0))]) hx hb dJ6_stringSize_0f7a4_15 rfl hl (by decide) rfl (fun ls hl => ?_)
  refine lv_iload_n hx hb dJ6_stringSize_0f7a4_16 rfl (lv_at hl 0 rfl) ?_
  refine lv_bipush (v := 10) hx hb dJ6_stringSize_0f7a4_17 (by decide) ?_
  refine lv_icmp_ge (tgt := 42) hx hb dJ6_stringSize_0f7a4_19 (by decide) (fun c9 => absurd c9 (by decide)) (fun _ => ?_)
  refine lv_iload_n hx hb dJ6_stringSize_0f7a4_22 rfl (lv_at hl 2 rfl) ?_
  refine lv_iload_n hx hb dJ6_stringSize_0f7a4_23 rfl (lv_at hl 1 rfl) ?_
  refine lv_icmp_le (tgt := 31) hx hb dJ6_stringSize_0f7a4_24 (by decide) (fun c24 => ?_) (fun c24 => ?_)
  · skip
    have c8 := (jneg_le hv).mp c24
    refine lv_bipush (v := 10) hx hb dJ6_stringSize_0f7a4_31 (by decide) ?_
    refine lv_iload_n hx hb dJ6_stringSize_0f7a4_33 rfl (lv_at hl 1 rfl) ?_
    refine lv_imul hx hb dJ6_stringSize_0f7a4_34 ?_
    refine W.eq (g2 := F0 m 35 ls [.int ((-100))]) (by rw [show ((10) * ((-10)) : Int32) = (-100) from by decide]) ?_
    refine lv_istore_n (lv' := [(2, .int ((-100))), (3, .int (1)), (0, .int (-(nI v))), (1, .int (0))]) hx hb dJ6_stringSize_0f7a4_35 rfl hl (by decide) rfl (fun ls hl => ?_)
    refine lv_iinc (v := 2) (lv' := [(3, .int (2)), (2, .int ((-100))), (0, .int (-(nI v))), (1, .int (0))]) hx hb dJ6_stringSize_0f7a4_36 hl (k := 1) rfl (by decide) (by decide) rfl (fun ls hl => ?_)
    refine lv_goto (tgt := 16) hx hb dJ6_stringSize_0f7a4_39 (by decide) ?_
    refine lv_iload_n hx hb dJ6_stringSize_0f7a4_16 rfl (lv_at hl 0 rfl) ?_
    refine lv_bipush (v := 10) hx hb dJ6_stringSize_0f7a4_17 (by decide) ?_
    refine lv_icmp_ge (tgt := 42) hx hb dJ6_stringSize_0f7a4_19 (by decide) (fun c9 => absurd c9 (by decide)) (fun _ => ?_)
    refine lv_iload_n hx hb dJ6_stringSize_0f7a4_22 rfl (lv_at hl 2 rfl) ?_
    refine lv_iload_n hx hb dJ6_stringSize_0f7a4_23 rfl (lv_at hl 1 rfl) ?_
    refine lv_icmp_le (tgt := 31) hx hb dJ6_stringSize_0f7a4_24 (by decide) (fun c9 => absurd c9 (jneg_le2 hv)) (fun _ => ?_)
    refine lv_iload_n hx hb dJ6_stringSize_0f7a4_27 rfl (lv_at hl 0 rfl) ?_
    refine lv_iload_n hx hb dJ6_stringSize_0f7a4_28 rfl (lv_at hl 3 rfl) ?_
    refine lv_iadd hx hb dJ6_stringSize_0f7a4_29 ?_
    refine W.eq (g2 := F0 m 30 ls [.int (nI (jdl v))]) (by rw [show ((2) + (0) : Int32) = nI (jdl v) from by rw [jdl_2 c8]; rfl]) ?_
    exact W.iret (v := nI (jdl v)) hx hb hr (fun t ht hW => ⟨nI (jdl v), rfl, rfl, ht⟩) (fun q h => by cases h) dJ6_stringSize_0f7a4_30
  · skip
    have c8 : v < 10 := by
      rcases Nat.lt_or_ge v 10 with h | h
      · exact h
      · exact absurd ((jneg_le hv).mpr h) c24
    refine lv_iload_n hx hb dJ6_stringSize_0f7a4_27 rfl (lv_at hl 0 rfl) ?_
    refine lv_iload_n hx hb dJ6_stringSize_0f7a4_28 rfl (lv_at hl 3 rfl) ?_
    refine lv_iadd hx hb dJ6_stringSize_0f7a4_29 ?_
    refine W.eq (g2 := F0 m 30 ls [.int (nI (jdl v))]) (by rw [show ((1) + (0) : Int32) = nI (jdl v) from by rw [jdl_1 c8]; rfl]) ?_
    exact W.iret (v := nI (jdl v)) hx hb hr (fun t ht hW => ⟨nI (jdl v), rfl, rfl, ht⟩) (fun q h => by cases h) dJ6_stringSize_0f7a4_30
theorem dJ6_getChars_ba4f3_0 : decode cJ6_getChars_ba4f3 0 = .ok (.iload_n 1, 1) := by decide +kernel
theorem dJ6_getChars_ba4f3_1 : decode cJ6_getChars_ba4f3 1 = .ok (.istore 5, 2) := by decide +kernel
theorem dJ6_getChars_ba4f3_3 : decode cJ6_getChars_ba4f3 3 = .ok (.iload_n 0, 1) := by decide +kernel
theorem dJ6_getChars_ba4f3_4 : decode cJ6_getChars_ba4f3 4 = .ok (.ifCond .ge 7, 3) := by decide +kernel
theorem dJ6_getChars_ba4f3_7 : decode cJ6_getChars_ba4f3 7 = .ok (.iconst 1, 1) := by decide +kernel
theorem dJ6_getChars_ba4f3_8 : decode cJ6_getChars_ba4f3 8 = .ok (.goto 4, 3) := by decide +kernel
theorem dJ6_getChars_ba4f3_11 : decode cJ6_getChars_ba4f3 11 = .ok (.iconst 0, 1) := by decide +kernel
theorem dJ6_getChars_ba4f3_12 : decode cJ6_getChars_ba4f3 12 = .ok (.istore 6, 2) := by decide +kernel
theorem dJ6_getChars_ba4f3_14 : decode cJ6_getChars_ba4f3 14 = .ok (.iload 6, 2) := by decide +kernel
theorem dJ6_getChars_ba4f3_16 : decode cJ6_getChars_ba4f3 16 = .ok (.ifCond .ne 6, 3) := by decide +kernel
theorem dJ6_getChars_ba4f3_19 : decode cJ6_getChars_ba4f3 19 = .ok (.iload_n 0, 1) := by decide +kernel
theorem dJ6_getChars_ba4f3_20 : decode cJ6_getChars_ba4f3 20 = .ok (.ineg, 1) := by decide +kernel
theorem dJ6_getChars_ba4f3_21 : decode cJ6_getChars_ba4f3 21 = .ok (.istore_n 0, 1) := by decide +kernel
theorem dJ6_getChars_ba4f3_22 : decode cJ6_getChars_ba4f3 22 = .ok (.iload_n 0, 1) := by decide +kernel
theorem dJ6_getChars_ba4f3_23 : decode cJ6_getChars_ba4f3 23 = .ok (.bipush (-100), 2) := by decide +kernel
theorem dJ6_getChars_ba4f3_25 : decode cJ6_getChars_ba4f3 25 = .ok (.if_icmp .gt 47, 3) := by decide +kernel
theorem dJ6_getChars_ba4f3_28 : decode cJ6_getChars_ba4f3 28 = .ok (.iload_n 0, 1) := by decide +kernel
theorem dJ6_getChars_ba4f3_29 : decode cJ6_getChars_ba4f3 29 = .ok (.bipush 100, 2) := by decide +kernel
theorem dJ6_getChars_ba4f3_31 : decode cJ6_getChars_ba4f3 31 = .ok (.idiv, 1) := by decide +kernel
theorem dJ6_getChars_ba4f3_32 : decode cJ6_getChars_ba4f3 32 = .ok (.istore_n 3, 1) := by decide +kernel
theorem dJ6_getChars_ba4f3_33 : decode cJ6_getChars_ba4f3 33 = .ok (.iload_n 3, 1) := by decide +kernel
theorem dJ6_getChars_ba4f3_34 : decode cJ6_getChars_ba4f3 34 = .ok (.bipush 100, 2) := by decide +kernel
theorem dJ6_getChars_ba4f3_36 : decode cJ6_getChars_ba4f3 36 = .ok (.imul, 1) := by decide +kernel
theorem dJ6_getChars_ba4f3_37 : decode cJ6_getChars_ba4f3 37 = .ok (.iload_n 0, 1) := by decide +kernel
theorem dJ6_getChars_ba4f3_38 : decode cJ6_getChars_ba4f3 38 = .ok (.isub, 1) := by decide +kernel
theorem dJ6_getChars_ba4f3_39 : decode cJ6_getChars_ba4f3 39 = .ok (.istore 4, 2) := by decide +kernel
theorem dJ6_getChars_ba4f3_41 : decode cJ6_getChars_ba4f3 41 = .ok (.iload_n 3, 1) := by decide +kernel
theorem dJ6_getChars_ba4f3_42 : decode cJ6_getChars_ba4f3 42 = .ok (.istore_n 0, 1) := by decide +kernel
theorem dJ6_getChars_ba4f3_43 : decode cJ6_getChars_ba4f3 43 = .ok (.aload_n 2, 1) := by decide +kernel
theorem dJ6_getChars_ba4f3_44 : decode cJ6_getChars_ba4f3 44 = .ok (.iinc 5 (-1), 3) := by decide +kernel
theorem dJ6_getChars_ba4f3_47 : decode cJ6_getChars_ba4f3 47 = .ok (.iload 5, 2) := by decide +kernel
theorem dJ6_getChars_ba4f3_49 : decode cJ6_getChars_ba4f3 49 = .ok (.getstatic 83, 3) := by decide +kernel
theorem dJ6_getChars_ba4f3_52 : decode cJ6_getChars_ba4f3 52 = .ok (.iload 4, 2) := by decide +kernel
theorem dJ6_getChars_ba4f3_54 : decode cJ6_getChars_ba4f3 54 = .ok (.baload, 1) := by decide +kernel
theorem dJ6_getChars_ba4f3_55 : decode cJ6_getChars_ba4f3 55 = .ok (.bastore, 1) := by decide +kernel
theorem dJ6_getChars_ba4f3_56 : decode cJ6_getChars_ba4f3 56 = .ok (.aload_n 2, 1) := by decide +kernel
theorem dJ6_getChars_ba4f3_57 : decode cJ6_getChars_ba4f3 57 = .ok (.iinc 5 (-1), 3) := by decide +kernel
theorem dJ6_getChars_ba4f3_60 : decode cJ6_getChars_ba4f3 60 = .ok (.iload 5, 2) := by decide +kernel
theorem dJ6_getChars_ba4f3_62 : decode cJ6_getChars_ba4f3 62 = .ok (.getstatic 87, 3) := by decide +kernel
theorem dJ6_getChars_ba4f3_65 : decode cJ6_getChars_ba4f3 65 = .ok (.iload 4, 2) := by decide +kernel
theorem dJ6_getChars_ba4f3_67 : decode cJ6_getChars_ba4f3 67 = .ok (.baload, 1) := by decide +kernel
theorem dJ6_getChars_ba4f3_68 : decode cJ6_getChars_ba4f3 68 = .ok (.bastore, 1) := by decide +kernel
theorem dJ6_getChars_ba4f3_69 : decode cJ6_getChars_ba4f3 69 = .ok (.goto (-47), 3) := by decide +kernel
theorem dJ6_getChars_ba4f3_72 : decode cJ6_getChars_ba4f3 72 = .ok (.aload_n 2, 1) := by decide +kernel
theorem dJ6_getChars_ba4f3_73 : decode cJ6_getChars_ba4f3 73 = .ok (.iinc 5 (-1), 3) := by decide +kernel
theorem dJ6_getChars_ba4f3_76 : decode cJ6_getChars_ba4f3 76 = .ok (.iload 5, 2) := by decide +kernel
theorem dJ6_getChars_ba4f3_78 : decode cJ6_getChars_ba4f3 78 = .ok (.getstatic 83, 3) := by decide +kernel
theorem dJ6_getChars_ba4f3_81 : decode cJ6_getChars_ba4f3 81 = .ok (.iload_n 0, 1) := by decide +kernel
theorem dJ6_getChars_ba4f3_82 : decode cJ6_getChars_ba4f3 82 = .ok (.ineg, 1) := by decide +kernel
theorem dJ6_getChars_ba4f3_83 : decode cJ6_getChars_ba4f3 83 = .ok (.baload, 1) := by decide +kernel
theorem dJ6_getChars_ba4f3_84 : decode cJ6_getChars_ba4f3 84 = .ok (.bastore, 1) := by decide +kernel
theorem dJ6_getChars_ba4f3_85 : decode cJ6_getChars_ba4f3 85 = .ok (.iload_n 0, 1) := by decide +kernel
theorem dJ6_getChars_ba4f3_86 : decode cJ6_getChars_ba4f3 86 = .ok (.bipush (-9), 2) := by decide +kernel
theorem dJ6_getChars_ba4f3_88 : decode cJ6_getChars_ba4f3 88 = .ok (.if_icmp .ge 16, 3) := by decide +kernel
theorem dJ6_getChars_ba4f3_91 : decode cJ6_getChars_ba4f3 91 = .ok (.aload_n 2, 1) := by decide +kernel
theorem dJ6_getChars_ba4f3_92 : decode cJ6_getChars_ba4f3 92 = .ok (.iinc 5 (-1), 3) := by decide +kernel
theorem dJ6_getChars_ba4f3_95 : decode cJ6_getChars_ba4f3 95 = .ok (.iload 5, 2) := by decide +kernel
theorem dJ6_getChars_ba4f3_97 : decode cJ6_getChars_ba4f3 97 = .ok (.getstatic 87, 3) := by decide +kernel
theorem dJ6_getChars_ba4f3_100 : decode cJ6_getChars_ba4f3 100 = .ok (.iload_n 0, 1) := by decide +kernel
theorem dJ6_getChars_ba4f3_101 : decode cJ6_getChars_ba4f3 101 = .ok (.ineg, 1) := by decide +kernel
theorem dJ6_getChars_ba4f3_102 : decode cJ6_getChars_ba4f3 102 = .ok (.baload, 1) := by decide +kernel
theorem dJ6_getChars_ba4f3_103 : decode cJ6_getChars_ba4f3 103 = .ok (.bastore, 1) := by decide +kernel
theorem dJ6_getChars_ba4f3_104 : decode cJ6_getChars_ba4f3 104 = .ok (.iload 6, 2) := by decide +kernel
theorem dJ6_getChars_ba4f3_106 : decode cJ6_getChars_ba4f3 106 = .ok (.ifCond .eq 12, 3) := by decide +kernel
theorem dJ6_getChars_ba4f3_109 : decode cJ6_getChars_ba4f3 109 = .ok (.aload_n 2, 1) := by decide +kernel
theorem dJ6_getChars_ba4f3_110 : decode cJ6_getChars_ba4f3 110 = .ok (.iinc 5 (-1), 3) := by decide +kernel
theorem dJ6_getChars_ba4f3_113 : decode cJ6_getChars_ba4f3 113 = .ok (.iload 5, 2) := by decide +kernel
theorem dJ6_getChars_ba4f3_115 : decode cJ6_getChars_ba4f3 115 = .ok (.bipush 45, 2) := by decide +kernel
theorem dJ6_getChars_ba4f3_117 : decode cJ6_getChars_ba4f3 117 = .ok (.bastore, 1) := by decide +kernel
theorem dJ6_getChars_ba4f3_118 : decode cJ6_getChars_ba4f3 118 = .ok (.iload 5, 2) := by decide +kernel
theorem dJ6_getChars_ba4f3_120 : decode cJ6_getChars_ba4f3 120 = .ok (.ireturn, 1) := by decide +kernel
theorem wj_J6_getChars_ba4f3 : ∀ w ∈ ([.fieldLink RJ6 83 "java/lang/Integer" "DigitOnes" "[B", .fieldLink RJ6 87 "java/lang/Integer" "DigitTens" "[B"] : List Cond), w ∈ gb_J := by
  have h : ∀ w ∈ ([.fieldLink RJ6 83 "java/lang/Integer" "DigitOnes" "[B", .fieldLink RJ6 87 "java/lang/Integer" "DigitTens" "[B"] : List Cond), w ∈ jsw ∨ (w ∈ lw_tbl ∧ goodWord w = true) := by decide +kernel
  exact gb_J_of h
set_option maxHeartbeats 4000000 in
theorem n_J6_getChars_ba4f3 (l : Launch) (g : gb_G) (t1 t2 : Nat) (h q cap n : Nat) (f : Nat → Int32) (v ep : Nat) (hf : jFit f) (hv : v < 100) (he : jdl v ≤ ep) (h0 : ep ≤ cap) (h1 : cap ≤ 502) (sz : Nat) : Met l yJ6_getChars_ba4f3 (.code yJ6_getChars_ba4f3 cJ6_getChars_ba4f3 7 (some .int) :: gb_J) ({ frames := 4, cells := 0, slots := 0, locals := 200 }) (jm g (jC t1 t2) [.int (nI v), .int (nI ep), .ref (q)] ([(h, .inr (11, [.ref (q), .int 0, .int 0, .int (nI n)])), (q, .inl (g.2.2.2.2.1, cap, .inl (f)))] : va_W) sz) (jQi g (nI (ep - jdl v)) (fun w1 => ∃ f1, w1 = sbW g h q cap n f1 ∧ jFit f1 ∧ (∀ i, i < ep - jdl v → f1 i = f i) ∧ ∀ i, i < jdl v → f1 (ep - jdl v + i) = nI ((dN v).getD i 0)) (va_A ([(h, .inr (11, [.ref (q), .int 0, .int 0, .int (nI n)])), (q, .inl (g.2.2.2.2.1, cap, .inl (f)))] : va_W) sz)) 0 0 (va_A ([(h, .inr (11, [.ref (q), .int 0, .int 0, .int (nI n)])), (q, .inl (g.2.2.2.2.1, cap, .inl (f)))] : va_W) sz) := by
  refine Met.ofW (cc := cJ6_getChars_ba4f3) (maxL := 7) (ret := (some .int)) (by decide +kernel) rfl ?_
  intro p e s m args below meth c s₁ B hml hv
  obtain ⟨rfl, hsz, hP, hK, hD0, hC⟩ := hv
  have hx := B.exec
  have hb := B.bytes
  have hr := B.returns
  have hts0 := atoms_spec (ws := .code yJ6_getChars_ba4f3 cJ6_getChars_ba4f3 7 (some .int) :: gb_J) B.pre
  have hts : ∀ w ∈ gb_J, w.before ([.int (nI v), .int (nI ep), .ref (q)] : List Value).toArray s = true := fun w hw => hts0 w (List.mem_cons_of_mem _ hw)
  have hown : s.vm.findClass RJ6 = some m.cls := findClass_of_methodNamed B.named
  have hlocks := B.notSynchronized
  subst hsz
  have hD := hD0.self (sz := s.heap.size)
  generalize hAe : va_A ([(h, .inr (11, [.ref (q), .int 0, .int 0, .int (nI n)])), (q, .inl (g.2.2.2.2.1, cap, .inl (f)))] : va_W) s.heap.size = A at hD hC ⊢
  have hA : ∀ q : Nat, s.heap.size ≤ q → A q := fun q h => by rw [← hAe]; exact Or.inr h
  have hS : va_S A s.heap s.heap [] := va_S.rf
  have hl := lv_entry ([.int (nI v), .int (nI ep), .ref (q)]) (n := 7) (Nat.le_of_ble_eq_true rfl)
  rw [lg_entry_eq]
  generalize (lg_sl ([.int (nI v), .int (nI ep), .ref (q)]) ++ List.replicate (7 - (lg_sl ([.int (nI v), .int (nI ep), .ref (q)])).length) Slot.unset).toArray = ls at hl ⊢
  have hl : lv_has ls 7 [(0, .int (nI v)), (1, .int (nI ep)), (2, .ref (q))] := hl
  have hd := jdl_le v
  refine lv_iload_n hx hb dJ6_getChars_ba4f3_0 rfl (lv_at hl 1 rfl) ?_
  refine lv_istore (lv' := [(5, .int (nI ep)), (0, .int (nI v)), (1, .int (nI ep)), (2, .ref (q))]) hx hb dJ6_getChars_ba4f3_1 hl (by decide) rfl (fun ls hl => ?_)
  refine lv_iload_n hx hb dJ6_getChars_ba4f3_3 rfl (lv_at hl 1 rfl) ?_
  refine lv_if_ge (tgt := 11) hx hb dJ6_getChars_ba4f3_4 (by decide) (fun _ => ?_) (fun c9 => absurd (nI_pos' (show v < 2 ^ 31 by omega)) c9)
  refine lv_iconst (v := 0) hx hb dJ6_getChars_ba4f3_11 (by decide) ?_
  refine lv_istore (lv' := [(6, .int (0)), (5, .int (nI ep)), (0, .int (nI v)), (1, .int (nI ep)), (2, .ref (q))]) hx hb dJ6_getChars_ba4f3_12 hl (by decide) rfl (fun ls hl => ?_)
  refine lv_iload hx hb dJ6_getChars_ba4f3_14 (lv_at hl 0 rfl) ?_
  refine lv_if_ne (tgt := 22) hx hb dJ6_getChars_ba4f3_16 (by decide) (fun c9 => absurd rfl c9) (fun _ => ?_)
  refine lv_iload_n hx hb dJ6_getChars_ba4f3_19 rfl (lv_at hl 2 rfl) ?_
  refine lv_ineg hx hb dJ6_getChars_ba4f3_20 ?_
  refine lv_istore_n (lv' := [(0, .int (-(nI v))), (6, .int (0)), (5, .int (nI ep)), (1, .int (nI ep)), (2, .ref (q))]) hx hb dJ6_getChars_ba4f3_21 rfl hl (by decide) rfl (fun ls hl => ?_)
  refine lv_iload_n hx hb dJ6_getChars_ba4f3_22 rfl (lv_at hl 0 rfl) ?_
  refine lv_bipush (v := (-100)) hx hb dJ6_getChars_ba4f3_23 (by decide) ?_
  refine lv_icmp_gt (tgt := 72) hx hb dJ6_getChars_ba4f3_25 (by decide) (fun _ => ?_) (fun c9 => absurd (jneg_gt hv) c9)
  refine lv_aload_n hx hb dJ6_getChars_ba4f3_72 rfl (lv_at hl 4 rfl) ?_
  refine lv_iinc (v := nI (ep - 1)) (lv' := [(5, .int (nI (ep - 1))), (0, .int (-(nI v))), (6, .int (0)), (1, .int (nI ep)), (2, .ref (q))]) hx hb dJ6_getChars_ba4f3_73 hl (k := 2) rfl (jdec1 (by omega)) (by decide) rfl (fun ls hl => ?_)
  refine lv_iload hx hb dJ6_getChars_ba4f3_76 (lv_at hl 0 rfl) ?_
  refine va_gets (v := .ref (t1)) hx hb hC.2.2.1 hS hown (hts _ (wj_J6_getChars_ba4f3 _ (List.mem_of_getElem? (i := 0) rfl))) (fun _ h9 => h9) dJ6_getChars_ba4f3_78 ?_
  refine lv_iload_n hx hb dJ6_getChars_ba4f3_81 rfl (lv_at hl 1 rfl) ?_
  refine lv_ineg hx hb dJ6_getChars_ba4f3_82 ?_
  refine W.eq (g2 := F0 m 83 ls [.int (nI v), .ref (t1), .int (nI (ep - 1)), .ref (q)]) (by rw [show (-(-(nI v)) : Int32) = nI v from jnn _]) ?_
  refine va_tb (v := .int (nI (48 + v % 10))) hx hb hC.2.2.2.2.1 hS (pk_in v 100 hv) (jt1 hv) dJ6_getChars_ba4f3_83 ?_
  refine va_bast (D := (g.1, g.2.1)) hx hb hK hP hD hS 1 1 rfl rfl (pk_in (ep - 1) cap (by omega)) dJ6_getChars_ba4f3_84 (fun H locs hP hD hS => ?_)
  rw [vp_nar_byte, j_cl (show ep - 1 < 2 ^ 31 by omega), jnar (show 48 + v % 10 < 128 by omega)] at hP hD
  have hP : va_P (g.1, g.2.1) vwCl ([(h, .inr (11, [.ref (q), .int 0, .int 0, .int (nI n)])), (q, .inl (g.2.2.2.2.1, cap, .inl (upd (f) (ep - 1) (nI (48 + v % 10)))))] : va_W) H := hP
  have hD : va_D A ([(h, .inr (11, [.ref (q), .int 0, .int 0, .int (nI n)])), (q, .inl (g.2.2.2.2.1, cap, .inl (upd (f) (ep - 1) (nI (48 + v % 10)))))] : va_W) := hD
  refine lv_iload_n hx hb dJ6_getChars_ba4f3_85 rfl (lv_at hl 1 rfl) ?_
  refine lv_bipush (v := (-9)) hx hb dJ6_getChars_ba4f3_86 (by decide) ?_
  refine lv_icmp_ge (tgt := 104) hx hb dJ6_getChars_ba4f3_88 (by decide) (fun c88 => ?_) (fun c88 => ?_)
  · skip
    have c8 := (jneg_ge hv).mp c88
    refine lv_iload hx hb dJ6_getChars_ba4f3_104 (lv_at hl 2 rfl) ?_
    refine lv_if_eq (tgt := 118) hx hb dJ6_getChars_ba4f3_106 (by decide) (fun _ => ?_) (fun c9 => absurd rfl c9)
    refine lv_iload hx hb dJ6_getChars_ba4f3_118 (lv_at hl 0 rfl) ?_
    refine W.widen (k := 0) (n := 0) (by first | exact Nat.le_of_ble_eq_true rfl | omega) (by first | exact Nat.le_of_ble_eq_true rfl | omega) ?_
    exact W.iret (v := nI (ep - 1)) hx hb hr (fun t ht hW => ⟨⟨nI (ep - 1), (), rfl, by rw [jdl_1 c8], _, ⟨_, rfl, jgc1 hf hv c8 he⟩, by rw [ht]; exact hP, hD⟩, hS.F ht⟩) hS.2.2 dJ6_getChars_ba4f3_120
  · skip
    have c8 : 10 ≤ v := by
      rcases Nat.lt_or_ge v 10 with h | h
      · exact absurd ((jneg_ge hv).mpr h) c88
      · exact h
    have hd2 := jdl_2 c8
    refine lv_aload_n hx hb dJ6_getChars_ba4f3_91 rfl (lv_at hl 4 rfl) ?_
    refine lv_iinc (v := nI (ep - 1 - 1)) (lv' := [(5, .int (nI (ep - 1 - 1))), (0, .int (-(nI v))), (6, .int (0)), (1, .int (nI ep)), (2, .ref (q))]) hx hb dJ6_getChars_ba4f3_92 hl (k := 0) rfl (jdec1 (by omega)) (by decide) rfl (fun ls hl => ?_)
    refine lv_iload hx hb dJ6_getChars_ba4f3_95 (lv_at hl 0 rfl) ?_
    refine va_gets (v := .ref (t2)) hx hb hC.2.2.2.1 hS hown (hts _ (wj_J6_getChars_ba4f3 _ (List.mem_of_getElem? (i := 1) rfl))) (fun _ h9 => h9) dJ6_getChars_ba4f3_97 ?_
    refine lv_iload_n hx hb dJ6_getChars_ba4f3_100 rfl (lv_at hl 1 rfl) ?_
    refine lv_ineg hx hb dJ6_getChars_ba4f3_101 ?_
    refine W.eq (g2 := F0 m 102 ls [.int (nI v), .ref (t2), .int (nI (ep - 1 - 1)), .ref (q)]) (by rw [show (-(-(nI v)) : Int32) = nI v from jnn _]) ?_
    refine va_tb (v := .int (nI (48 + v / 10))) hx hb hC.2.2.2.2.2.1 hS (pk_in v 100 hv) (jt2 hv) dJ6_getChars_ba4f3_102 ?_
    refine va_bast (D := (g.1, g.2.1)) hx hb hK hP hD hS 1 1 rfl rfl (pk_in (ep - 1 - 1) cap (by omega)) dJ6_getChars_ba4f3_103 (fun H locs hP hD hS => ?_)
    rw [vp_nar_byte, j_cl (show ep - 1 - 1 < 2 ^ 31 by omega), jnar (show 48 + v / 10 < 128 by omega)] at hP hD
    have hP : va_P (g.1, g.2.1) vwCl ([(h, .inr (11, [.ref (q), .int 0, .int 0, .int (nI n)])), (q, .inl (g.2.2.2.2.1, cap, .inl (upd (upd (f) (ep - 1) (nI (48 + v % 10))) (ep - 1 - 1) (nI (48 + v / 10)))))] : va_W) H := hP
    have hD : va_D A ([(h, .inr (11, [.ref (q), .int 0, .int 0, .int (nI n)])), (q, .inl (g.2.2.2.2.1, cap, .inl (upd (upd (f) (ep - 1) (nI (48 + v % 10))) (ep - 1 - 1) (nI (48 + v / 10)))))] : va_W) := hD
    refine lv_iload hx hb dJ6_getChars_ba4f3_104 (lv_at hl 2 rfl) ?_
    refine lv_if_eq (tgt := 118) hx hb dJ6_getChars_ba4f3_106 (by decide) (fun _ => ?_) (fun c9 => absurd rfl c9)
    refine lv_iload hx hb dJ6_getChars_ba4f3_118 (lv_at hl 0 rfl) ?_
    refine W.widen (k := 0) (n := 0) (by first | exact Nat.le_of_ble_eq_true rfl | omega) (by first | exact Nat.le_of_ble_eq_true rfl | omega) ?_
    exact W.iret (v := nI (ep - 1 - 1)) hx hb hr (fun t ht hW => ⟨⟨nI (ep - 1 - 1), (), rfl, by rw [jdl_2 c8]; exact congrArg nI (by omega), _, ⟨_, rfl, jgc2 hf hv c8 he⟩, by rw [ht]; exact hP, hD⟩, hS.F ht⟩) hS.2.2 dJ6_getChars_ba4f3_120
theorem gd_RJ5_245 : GoodIn gb_J (va_wsS RJ5 245 yJ6_stringSize_0f7a4 (.code yJ6_stringSize_0f7a4 cJ6_stringSize_0f7a4 4 (some .int) :: gb_J)) := gj_in (l := [.methodLink RJ5 245 yJ6_stringSize_0f7a4, .static yJ6_stringSize_0f7a4, .initialized yJ6_stringSize_0f7a4.cls]) (by
  have h : ∀ w ∈ ([.methodLink RJ5 245 yJ6_stringSize_0f7a4, .static yJ6_stringSize_0f7a4, .initialized yJ6_stringSize_0f7a4.cls] ++ [.code yJ6_stringSize_0f7a4 cJ6_stringSize_0f7a4 4 (some .int)] : List Cond), w ∈ jsw ∨ (w ∈ lw_tbl ∧ goodWord w = true) := by decide +kernel
  exact gb_J_of h)
theorem gd_RJ5_248 : GoodIn gb_J (va_wsS RJ5 248 yJ6_getChars_ba4f3 (.code yJ6_getChars_ba4f3 cJ6_getChars_ba4f3 7 (some .int) :: gb_J)) := gj_in (l := [.methodLink RJ5 248 yJ6_getChars_ba4f3, .static yJ6_getChars_ba4f3, .initialized yJ6_getChars_ba4f3.cls]) (by
  have h : ∀ w ∈ ([.methodLink RJ5 248 yJ6_getChars_ba4f3, .static yJ6_getChars_ba4f3, .initialized yJ6_getChars_ba4f3.cls] ++ [.code yJ6_getChars_ba4f3 cJ6_getChars_ba4f3 7 (some .int)] : List Cond), w ∈ jsw ∨ (w ∈ lw_tbl ∧ goodWord w = true) := by decide +kernel
  exact gb_J_of h)
theorem dJ5_append_c97b9_0 : decode cJ5_append_c97b9 0 = .ok (.aload_n 0, 1) := by decide +kernel
theorem dJ5_append_c97b9_1 : decode cJ5_append_c97b9 1 = .ok (.getfield 79, 3) := by decide +kernel
theorem dJ5_append_c97b9_4 : decode cJ5_append_c97b9 4 = .ok (.istore_n 2, 1) := by decide +kernel
theorem dJ5_append_c97b9_5 : decode cJ5_append_c97b9 5 = .ok (.iload_n 2, 1) := by decide +kernel
theorem dJ5_append_c97b9_6 : decode cJ5_append_c97b9 6 = .ok (.iload_n 1, 1) := by decide +kernel
theorem dJ5_append_c97b9_7 : decode cJ5_append_c97b9 7 = .ok (.invokestatic 245, 3) := by decide +kernel
theorem dJ5_append_c97b9_10 : decode cJ5_append_c97b9 10 = .ok (.iadd, 1) := by decide +kernel
theorem dJ5_append_c97b9_11 : decode cJ5_append_c97b9 11 = .ok (.istore_n 3, 1) := by decide +kernel
theorem dJ5_append_c97b9_12 : decode cJ5_append_c97b9 12 = .ok (.aload_n 0, 1) := by decide +kernel
theorem dJ5_append_c97b9_13 : decode cJ5_append_c97b9 13 = .ok (.iload_n 3, 1) := by decide +kernel
theorem dJ5_append_c97b9_14 : decode cJ5_append_c97b9 14 = .ok (.invokevirtual 100, 3) := by decide +kernel
theorem dJ5_append_c97b9_17 : decode cJ5_append_c97b9 17 = .ok (.aload_n 0, 1) := by decide +kernel
theorem dJ5_append_c97b9_18 : decode cJ5_append_c97b9 18 = .ok (.invokevirtual 83, 3) := by decide +kernel
theorem dJ5_append_c97b9_21 : decode cJ5_append_c97b9 21 = .ok (.ifCond .eq 16, 3) := by decide +kernel
theorem dJ5_append_c97b9_24 : decode cJ5_append_c97b9 24 = .ok (.iload_n 1, 1) := by decide +kernel
theorem dJ5_append_c97b9_25 : decode cJ5_append_c97b9 25 = .ok (.iload_n 3, 1) := by decide +kernel
theorem dJ5_append_c97b9_26 : decode cJ5_append_c97b9 26 = .ok (.aload_n 0, 1) := by decide +kernel
theorem dJ5_append_c97b9_27 : decode cJ5_append_c97b9 27 = .ok (.getfield 15, 3) := by decide +kernel
theorem dJ5_append_c97b9_30 : decode cJ5_append_c97b9 30 = .ok (.invokestatic 248, 3) := by decide +kernel
theorem dJ5_append_c97b9_33 : decode cJ5_append_c97b9 33 = .ok (.pop, 1) := by decide +kernel
theorem dJ5_append_c97b9_34 : decode cJ5_append_c97b9 34 = .ok (.goto 14, 3) := by decide +kernel
theorem dJ5_append_c97b9_37 : decode cJ5_append_c97b9 37 = .ok (.iload_n 1, 1) := by decide +kernel
theorem dJ5_append_c97b9_38 : decode cJ5_append_c97b9 38 = .ok (.iload_n 2, 1) := by decide +kernel
theorem dJ5_append_c97b9_39 : decode cJ5_append_c97b9 39 = .ok (.iload_n 3, 1) := by decide +kernel
theorem dJ5_append_c97b9_40 : decode cJ5_append_c97b9 40 = .ok (.aload_n 0, 1) := by decide +kernel
theorem dJ5_append_c97b9_41 : decode cJ5_append_c97b9 41 = .ok (.getfield 15, 3) := by decide +kernel
theorem dJ5_append_c97b9_44 : decode cJ5_append_c97b9 44 = .ok (.invokestatic 251, 3) := by decide +kernel
theorem dJ5_append_c97b9_47 : decode cJ5_append_c97b9 47 = .ok (.pop, 1) := by decide +kernel
theorem dJ5_append_c97b9_48 : decode cJ5_append_c97b9 48 = .ok (.aload_n 0, 1) := by decide +kernel
theorem dJ5_append_c97b9_49 : decode cJ5_append_c97b9 49 = .ok (.iload_n 3, 1) := by decide +kernel
theorem dJ5_append_c97b9_50 : decode cJ5_append_c97b9 50 = .ok (.putfield 79, 3) := by decide +kernel
theorem dJ5_append_c97b9_53 : decode cJ5_append_c97b9 53 = .ok (.aload_n 0, 1) := by decide +kernel
theorem dJ5_append_c97b9_54 : decode cJ5_append_c97b9 54 = .ok (.areturn, 1) := by decide +kernel
theorem wj_J5_append_c97b9 : ∀ w ∈ ([.fieldLink RJ5 79 "java/lang/AbstractStringBuilder" "count" "I", .fieldLink RJ5 15 "java/lang/AbstractStringBuilder" "value" "[B"] : List Cond), w ∈ gb_J := by
  have h : ∀ w ∈ ([.fieldLink RJ5 79 "java/lang/AbstractStringBuilder" "count" "I", .fieldLink RJ5 15 "java/lang/AbstractStringBuilder" "value" "[B"] : List Cond), w ∈ jsw ∨ (w ∈ lw_tbl ∧ goodWord w = true) := by decide +kernel
  exact gb_J_of h
set_option maxHeartbeats 4000000 in
theorem n_J5_append_c97b9 (l : Launch) (g : gb_G) (t1 t2 : Nat) (h q cap : Nat) (f : Nat → Int32) (T : List Nat) (v : Nat) (hf : jF f T) (h0 : T.length ≤ cap) (h1 : cap ≤ 502) (h2 : T.length < 240) (hv : v < 100) (sz : Nat) : Met l yJ5_append_c97b9 (.code yJ5_append_c97b9 cJ5_append_c97b9 4 (some (.object "java/lang/AbstractStringBuilder")) :: gb_J) ({ frames := 10, cells := 1, slots := 502, locals := 500 }) (jm g (jC t1 t2) [.ref (h), .int (nI v)] ([(h, .inr (11, [.ref (q), .int 0, .int 0, .int (nI T.length)])), (q, .inl (g.2.2.2.2.1, cap, .inl (f)))] : va_W) sz) (jQr g (fun r w1 => r = h ∧ jSb g h (T ++ dN v) w1) (va_A ([(h, .inr (11, [.ref (q), .int 0, .int 0, .int (nI T.length)])), (q, .inl (g.2.2.2.2.1, cap, .inl (f)))] : va_W) sz)) 1 502 (va_A ([(h, .inr (11, [.ref (q), .int 0, .int 0, .int (nI T.length)])), (q, .inl (g.2.2.2.2.1, cap, .inl (f)))] : va_W) sz) := by
  refine Met.ofW (cc := cJ5_append_c97b9) (maxL := 4) (ret := (some (.object "java/lang/AbstractStringBuilder"))) (by decide +kernel) rfl ?_
  intro p e s m args below meth c s₁ B hml hv
  obtain ⟨rfl, hsz, hP, hK, hD0, hC⟩ := hv
  have hx := B.exec
  have hb := B.bytes
  have hr := B.returns
  have hts0 := atoms_spec (ws := .code yJ5_append_c97b9 cJ5_append_c97b9 4 (some (.object "java/lang/AbstractStringBuilder")) :: gb_J) B.pre
  have hts : ∀ w ∈ gb_J, w.before ([.ref (h), .int (nI v)] : List Value).toArray s = true := fun w hw => hts0 w (List.mem_cons_of_mem _ hw)
  have hown : s.vm.findClass RJ5 = some m.cls := findClass_of_methodNamed B.named
  have hlocks := B.notSynchronized
  subst hsz
  have hD := hD0.self (sz := s.heap.size)
  generalize hAe : va_A ([(h, .inr (11, [.ref (q), .int 0, .int 0, .int (nI T.length)])), (q, .inl (g.2.2.2.2.1, cap, .inl (f)))] : va_W) s.heap.size = A at hD hC ⊢
  have hA : ∀ q : Nat, s.heap.size ≤ q → A q := fun q h => by rw [← hAe]; exact Or.inr h
  have hS : va_S A s.heap s.heap [] := va_S.rf
  have hl := lv_entry ([.ref (h), .int (nI v)]) (n := 4) (Nat.le_of_ble_eq_true rfl)
  rw [lg_entry_eq]
  generalize (lg_sl ([.ref (h), .int (nI v)]) ++ List.replicate (4 - (lg_sl ([.ref (h), .int (nI v)])).length) Slot.unset).toArray = ls at hl ⊢
  have hl : lv_has ls 4 [(0, .ref (h)), (1, .int (nI v))] := hl
  have hd := jdl_le v
  refine lv_aload_n hx hb dJ5_append_c97b9_0 rfl (lv_at hl 0 rfl) ?_
  refine va_get (D := (g.1, g.2.1)) (ci := 11) (v := .int (nI T.length)) (C := RJ4) (T := TJ4) (N := 4) hx hb hts winJ4 hown hK hP 0 rfl rfl 3 (by decide) (hts _ (wj_J5_append_c97b9 _ (List.mem_of_getElem? (i := 0) rfl))) (fun _ h9 => h9) rfl dJ5_append_c97b9_1 ?_
  refine lv_istore_n (lv' := [(2, .int (nI T.length)), (0, .ref (h)), (1, .int (nI v))]) hx hb dJ5_append_c97b9_4 rfl hl (by decide) rfl (fun ls hl => ?_)
  refine lv_iload_n hx hb dJ5_append_c97b9_5 rfl (lv_at hl 0 rfl) ?_
  refine lv_iload_n hx hb dJ5_append_c97b9_6 rfl (lv_at hl 2 rfl) ?_
  refine vp_callSi (va_Run.run (va_runS (As := [.int (nI v)]) (rest := [.int (nI T.length)]) ⟨hx, hb, hml, hown, hts⟩ (n_J6_stringSize_0f7a4 l g t1 t2 v hv) (va_cwS 1 hts gd_RJ5_245 rfl rfl rfl ⟨by decide +kernel, by decide +kernel, by decide +kernel⟩ ⟨Nat.le_of_ble_eq_true rfl, Nat.le_of_ble_eq_true rfl⟩) (jp_S (g := g) (jX_0 t1 t2) hK hC hS (hP.sub [] rfl)) rfl rfl hl.1 rfl (lv_room (Nat.le_of_ble_eq_true rfl)) dJ5_append_c97b9_7 ⟨Nat.le_of_ble_eq_true rfl, Nat.le_of_ble_eq_true rfl⟩)) (fun r9 e9 => ?_)
  subst e9
  refine lv_iadd hx hb dJ5_append_c97b9_10 ?_
  refine W.eq (g2 := F0 m 11 ls [.int (nI (T.length + jdl v))]) (by rw [show ((nI T.length) + (nI (jdl v)) : Int32) = nI (T.length + jdl v) from nI_add _ _]) ?_
  refine lv_istore_n (lv' := [(3, .int (nI (T.length + jdl v))), (2, .int (nI T.length)), (0, .ref (h)), (1, .int (nI v))]) hx hb dJ5_append_c97b9_11 rfl hl (by decide) rfl (fun ls hl => ?_)
  refine lv_aload_n hx hb dJ5_append_c97b9_12 rfl (lv_at hl 2 rfl) ?_
  refine lv_iload_n hx hb dJ5_append_c97b9_13 rfl (lv_at hl 0 rfl) ?_
  refine j_v (wr := []) (wc := ([(h, .inr (11, [.ref (q), .int 0, .int 0, .int (nI T.length)])), (q, .inl (g.2.2.2.2.1, cap, .inl (f)))] : va_W)) (va_runU (As := [.int (nI (T.length + jdl v))]) (rest := []) ⟨hx, hb, hml, hown, hts⟩ (n_J5_ensureCapacityInternal_d00df l g t1 t2 h q cap T.length f (T.length + jdl v) hf.1 h1 (by omega) _) (va_cwU 1 hts gd_RJ5_100 rfl rfl rfl rfl ⟨by decide +kernel, by decide +kernel, by decide +kernel⟩ ⟨Nat.le_of_ble_eq_true rfl, Nat.le_of_ble_eq_true rfl⟩) (jm_V (g := g) (jX_0 t1 t2) hK hC hS hP hD hA (va_recv hK hP (ci := 11) (q0 := 0) rfl rfl)) rfl rfl hl.1 rfl (lv_room (Nat.le_of_ble_eq_true rfl)) dJ5_append_c97b9_14 ⟨Nat.le_of_ble_eq_true rfl, Nat.le_of_ble_eq_true rfl⟩) hP hD hS hA (fun w1 H locs hw hP hD hS => ?_)
  obtain ⟨q1, c1, f1, rfl, f2, f3, f4, f5, f6⟩ := hw
  have hP : va_P (g.1, g.2.1) vwCl ([(h, .inr (11, [.ref (q1), .int 0, .int 0, .int (nI T.length)])), (q1, .inl (g.2.2.2.2.1, c1, .inl (f1)))] : va_W) H := hP
  have hD : va_D A ([(h, .inr (11, [.ref (q1), .int 0, .int 0, .int (nI T.length)])), (q1, .inl (g.2.2.2.2.1, c1, .inl (f1)))] : va_W) := hD
  refine lv_aload_n hx hb dJ5_append_c97b9_17 rfl (lv_at hl 2 rfl) ?_
  refine vp_callSi (va_Run.run (va_runU (As := []) (rest := []) ⟨hx, hb, hml, hown, hts⟩ (n_J5_isLatin1_aae02 l g t1 t2 h q1 c1 T.length f1) (va_cwU 0 hts gd_RJ5_83 rfl rfl rfl rfl ⟨by decide +kernel, by decide +kernel, by decide +kernel⟩ ⟨Nat.le_of_ble_eq_true rfl, Nat.le_of_ble_eq_true rfl⟩) (jp_V (g := g) (jX_0 t1 t2) hK hC hS hP (va_recv hK hP (ci := 11) (q0 := 0) rfl rfl)) rfl rfl hl.1 rfl (lv_room (Nat.le_of_ble_eq_true rfl)) dJ5_append_c97b9_18 ⟨Nat.le_of_ble_eq_true rfl, Nat.le_of_ble_eq_true rfl⟩)) (fun r9 e9 => ?_)
  subst e9
  refine lv_if_eq (tgt := 37) hx hb dJ5_append_c97b9_21 (by decide) (fun c9 => absurd c9 (by decide)) (fun _ => ?_)
  refine lv_iload_n hx hb dJ5_append_c97b9_24 rfl (lv_at hl 3 rfl) ?_
  refine lv_iload_n hx hb dJ5_append_c97b9_25 rfl (lv_at hl 0 rfl) ?_
  refine lv_aload_n hx hb dJ5_append_c97b9_26 rfl (lv_at hl 2 rfl) ?_
  refine va_get (D := (g.1, g.2.1)) (ci := 11) (v := .ref (q1)) (C := RJ4) (T := TJ4) (N := 4) hx hb hts winJ4 hown hK hP 0 rfl rfl 0 (by decide) (hts _ (wj_J5_append_c97b9 _ (List.mem_of_getElem? (i := 1) rfl))) (fun _ h9 => h9) rfl dJ5_append_c97b9_27 ?_
  refine j_i (v := nI (T.length + jdl v - jdl v)) (wr := []) (wc := ([(h, .inr (11, [.ref (q1), .int 0, .int 0, .int (nI T.length)])), (q1, .inl (g.2.2.2.2.1, c1, .inl (f1)))] : va_W)) (va_runS (As := [.int (nI v), .int (nI (T.length + jdl v)), .ref (q1)]) (rest := []) ⟨hx, hb, hml, hown, hts⟩ (n_J6_getChars_ba4f3 l g t1 t2 h q1 c1 T.length f1 v (T.length + jdl v) f2 hv (by omega) f4 f6 _) (va_cwS 3 hts gd_RJ5_248 rfl rfl rfl ⟨by decide +kernel, by decide +kernel, by decide +kernel⟩ ⟨Nat.le_of_ble_eq_true rfl, Nat.le_of_ble_eq_true rfl⟩) (jm_S (g := g) (jX_0 t1 t2) hK hC hS hP hD hA) rfl rfl hl.1 rfl (lv_room (Nat.le_of_ble_eq_true rfl)) dJ5_append_c97b9_30 ⟨Nat.le_of_ble_eq_true rfl, Nat.le_of_ble_eq_true rfl⟩) hP hD hS hA (fun w1 H locs hw hP hD hS => ?_)
  obtain ⟨f7, rfl, f8, f9, f10⟩ := hw
  have hP : va_P (g.1, g.2.1) vwCl ([(h, .inr (11, [.ref (q1), .int 0, .int 0, .int (nI T.length)])), (q1, .inl (g.2.2.2.2.1, c1, .inl (f7)))] : va_W) H := hP
  have hD : va_D A ([(h, .inr (11, [.ref (q1), .int 0, .int 0, .int (nI T.length)])), (q1, .inl (g.2.2.2.2.1, c1, .inl (f7)))] : va_W) := hD
  refine lv_pop hx hb dJ5_append_c97b9_33 rfl ?_
  refine lv_goto (tgt := 48) hx hb dJ5_append_c97b9_34 (by decide) ?_
  refine lv_aload_n hx hb dJ5_append_c97b9_48 rfl (lv_at hl 2 rfl) ?_
  refine lv_iload_n hx hb dJ5_append_c97b9_49 rfl (lv_at hl 0 rfl) ?_
  refine va_put (D := (g.1, g.2.1)) (ci := 11) (v := .int (nI (T.length + jdl v))) (ty := tyJ4 3) (C := RJ4) (T := TJ4) (N := 4) hx hb hts winJ4 tyJ4 tyJ4_ok nmJ4 hown hK hP hD hS 0 rfl rfl 3 (by decide) (hts _ (wj_J5_append_c97b9 _ (List.mem_of_getElem? (i := 0) rfl))) (fun _ h9 => h9) rfl (tyJ4_ok 3 (by decide)) rfl rfl (Nat.le_of_ble_eq_true rfl) dJ5_append_c97b9_50 (fun H locs hP hD hS => ?_)
  have hP : va_P (g.1, g.2.1) vwCl ([(h, .inr (11, [.ref (q1), .int 0, .int 0, .int (nI (T.length + jdl v))])), (q1, .inl (g.2.2.2.2.1, c1, .inl (f7)))] : va_W) H := hP
  have hD : va_D A ([(h, .inr (11, [.ref (q1), .int 0, .int 0, .int (nI (T.length + jdl v))])), (q1, .inl (g.2.2.2.2.1, c1, .inl (f7)))] : va_W) := hD
  refine lv_aload_n hx hb dJ5_append_c97b9_53 rfl (lv_at hl 2 rfl) ?_
  refine W.widen (k := 1) (n := 502) (by first | exact Nat.le_of_ble_eq_true rfl | omega) (by first | exact Nat.le_of_ble_eq_true rfl | omega) ?_
  exact W.aret (v := .ref (h)) hx hb hr (Or.inl ⟨_, rfl⟩) (Or.inr ⟨_, rfl⟩) (fun t ht hW => ⟨⟨(), _, rfl, trivial, _, ⟨rfl, q1, c1, f7, by rw [List.length_append, dN_len], jF_app hf f8 (fun i hi => (f9 i (by omega)).trans (f3 i (by omega))) (fun i hi => by rw [dN_len] at hi; have := f10 i hi; rw [Nat.add_sub_cancel] at this; exact this), by rw [List.length_append, dN_len]; exact f4, f6⟩, by rw [ht]; exact hP, hD⟩, hS.F ht⟩) hS.2.2 dJ5_append_c97b9_54
theorem gd_RJ4_53 : GoodIn gb_J (va_wsSU RJ4 53 yJ5_append_c97b9 (.code yJ5_append_c97b9 cJ5_append_c97b9 4 (some (.object "java/lang/AbstractStringBuilder")) :: gb_J)) := gj_in (l := [.methodLink RJ4 53 yJ5_append_c97b9, .sameMethod yJ5_append_c97b9.cls yJ5_append_c97b9.cls yJ5_append_c97b9.name yJ5_append_c97b9.desc, .superclass RJ4 yJ5_append_c97b9.cls, .instanceMethod yJ5_append_c97b9, .initialized yJ5_append_c97b9.cls]) (by
  have h : ∀ w ∈ ([.methodLink RJ4 53 yJ5_append_c97b9, .sameMethod yJ5_append_c97b9.cls yJ5_append_c97b9.cls yJ5_append_c97b9.name yJ5_append_c97b9.desc, .superclass RJ4 yJ5_append_c97b9.cls, .instanceMethod yJ5_append_c97b9, .initialized yJ5_append_c97b9.cls] ++ [.code yJ5_append_c97b9 cJ5_append_c97b9 4 (some (.object "java/lang/AbstractStringBuilder"))] : List Cond), w ∈ jsw ∨ (w ∈ lw_tbl ∧ goodWord w = true) := by decide +kernel
  exact gb_J_of h)
theorem dJ4_append_bf812_0 : decode cJ4_append_bf812 0 = .ok (.aload_n 0, 1) := by decide +kernel
theorem dJ4_append_bf812_1 : decode cJ4_append_bf812 1 = .ok (.iload_n 1, 1) := by decide +kernel
theorem dJ4_append_bf812_2 : decode cJ4_append_bf812 2 = .ok (.invokespecial 53, 3) := by decide +kernel
theorem dJ4_append_bf812_5 : decode cJ4_append_bf812 5 = .ok (.pop, 1) := by decide +kernel
theorem dJ4_append_bf812_6 : decode cJ4_append_bf812 6 = .ok (.aload_n 0, 1) := by decide +kernel
theorem dJ4_append_bf812_7 : decode cJ4_append_bf812 7 = .ok (.areturn, 1) := by decide +kernel
set_option maxHeartbeats 4000000 in
theorem n_J4_append_bf812 (l : Launch) (g : gb_G) (t1 t2 : Nat) (h q cap : Nat) (f : Nat → Int32) (T : List Nat) (v : Nat) (hf : jF f T) (h0 : T.length ≤ cap) (h1 : cap ≤ 502) (h2 : T.length < 240) (hv : v < 100) (sz : Nat) : Met l yJ4_append_bf812 (.code yJ4_append_bf812 cJ4_append_bf812 2 (some (.object "java/lang/StringBuilder")) :: gb_J) ({ frames := 12, cells := 1, slots := 502, locals := 600 }) (jm g (jC t1 t2) [.ref (h), .int (nI v)] ([(h, .inr (11, [.ref (q), .int 0, .int 0, .int (nI T.length)])), (q, .inl (g.2.2.2.2.1, cap, .inl (f)))] : va_W) sz) (jQr g (fun r w1 => r = h ∧ jSb g h (T ++ dN v) w1) (va_A ([(h, .inr (11, [.ref (q), .int 0, .int 0, .int (nI T.length)])), (q, .inl (g.2.2.2.2.1, cap, .inl (f)))] : va_W) sz)) 1 502 (va_A ([(h, .inr (11, [.ref (q), .int 0, .int 0, .int (nI T.length)])), (q, .inl (g.2.2.2.2.1, cap, .inl (f)))] : va_W) sz) := by
  refine Met.ofW (cc := cJ4_append_bf812) (maxL := 2) (ret := (some (.object "java/lang/StringBuilder"))) (by decide +kernel) rfl ?_
  intro p e s m args below meth c s₁ B hml hv
  obtain ⟨rfl, hsz, hP, hK, hD0, hC⟩ := hv
  have hx := B.exec
  have hb := B.bytes
  have hr := B.returns
  have hts0 := atoms_spec (ws := .code yJ4_append_bf812 cJ4_append_bf812 2 (some (.object "java/lang/StringBuilder")) :: gb_J) B.pre
  have hts : ∀ w ∈ gb_J, w.before ([.ref (h), .int (nI v)] : List Value).toArray s = true := fun w hw => hts0 w (List.mem_cons_of_mem _ hw)
  have hown : s.vm.findClass RJ4 = some m.cls := findClass_of_methodNamed B.named
  have hlocks := B.notSynchronized
  subst hsz
  have hD := hD0.self (sz := s.heap.size)
  generalize hAe : va_A ([(h, .inr (11, [.ref (q), .int 0, .int 0, .int (nI T.length)])), (q, .inl (g.2.2.2.2.1, cap, .inl (f)))] : va_W) s.heap.size = A at hD hC ⊢
  have hA : ∀ q : Nat, s.heap.size ≤ q → A q := fun q h => by rw [← hAe]; exact Or.inr h
  have hS : va_S A s.heap s.heap [] := va_S.rf
  have hl := lv_entry ([.ref (h), .int (nI v)]) (n := 2) (Nat.le_of_ble_eq_true rfl)
  rw [lg_entry_eq]
  generalize (lg_sl ([.ref (h), .int (nI v)]) ++ List.replicate (2 - (lg_sl ([.ref (h), .int (nI v)])).length) Slot.unset).toArray = ls at hl ⊢
  have hl : lv_has ls 2 [(0, .ref (h)), (1, .int (nI v))] := hl
  refine lv_aload_n hx hb dJ4_append_bf812_0 rfl (lv_at hl 0 rfl) ?_
  refine lv_iload_n hx hb dJ4_append_bf812_1 rfl (lv_at hl 1 rfl) ?_
  refine j_r (wr := []) (wc := ([(h, .inr (11, [.ref (q), .int 0, .int 0, .int (nI T.length)])), (q, .inl (g.2.2.2.2.1, cap, .inl (f)))] : va_W)) (va_runSU (C := RJ4) (j_cat hK) (As := [.int (nI v)]) (rest := []) ⟨hx, hb, hml, hown, hts⟩ (n_J5_append_c97b9 l g t1 t2 h q cap f T v hf h0 h1 h2 hv _) (va_cwSU 1 hts gd_RJ4_53 rfl rfl rfl ⟨by decide +kernel, by decide +kernel⟩ ⟨Nat.le_of_ble_eq_true rfl, Nat.le_of_ble_eq_true rfl⟩) (jm_V (g := g) (jX_0 t1 t2) hK hC hS hP hD hA (va_recv hK hP (ci := 11) (q0 := 0) rfl rfl)) rfl rfl hl.1 rfl (lv_room (Nat.le_of_ble_eq_true rfl)) dJ4_append_bf812_2 ⟨Nat.le_of_ble_eq_true rfl, Nat.le_of_ble_eq_true rfl⟩) hP hD hS hA (fun r1 w1 H locs hw hP hD hS => ?_)
  obtain ⟨e9, q1, c1, f1, rfl, f2, f3, f4⟩ := hw
  have e9 := e9.symm
  subst e9
  have hP : va_P (g.1, g.2.1) vwCl ([(h, .inr (11, [.ref (q1), .int 0, .int 0, .int (nI (T ++ dN v).length)])), (q1, .inl (g.2.2.2.2.1, c1, .inl (f1)))] : va_W) H := hP
  have hD : va_D A ([(h, .inr (11, [.ref (q1), .int 0, .int 0, .int (nI (T ++ dN v).length)])), (q1, .inl (g.2.2.2.2.1, c1, .inl (f1)))] : va_W) := hD
  refine lv_pop hx hb dJ4_append_bf812_5 rfl ?_
  refine lv_aload_n hx hb dJ4_append_bf812_6 rfl (lv_at hl 0 rfl) ?_
  refine W.widen (k := 1) (n := 502) (by first | exact Nat.le_of_ble_eq_true rfl | omega) (by first | exact Nat.le_of_ble_eq_true rfl | omega) ?_
  exact W.aret (v := .ref (h)) hx hb hr (Or.inl ⟨_, rfl⟩) (Or.inr ⟨_, rfl⟩) (fun t ht hW => ⟨⟨(), _, rfl, trivial, _, ⟨rfl, q1, c1, f1, rfl, f2, f3, f4⟩, by rw [ht]; exact hP, hD⟩, hS.F ht⟩) hS.2.2 dJ4_append_bf812_7
theorem dJ0_coder_7d493_0 : decode cJ0_coder_7d493 0 = .ok (.getstatic 38, 3) := by decide +kernel
theorem dJ0_coder_7d493_3 : decode cJ0_coder_7d493 3 = .ok (.ifCond .eq 10, 3) := by decide +kernel
theorem dJ0_coder_7d493_6 : decode cJ0_coder_7d493 6 = .ok (.aload_n 0, 1) := by decide +kernel
theorem dJ0_coder_7d493_7 : decode cJ0_coder_7d493 7 = .ok (.getfield 15, 3) := by decide +kernel
theorem dJ0_coder_7d493_10 : decode cJ0_coder_7d493 10 = .ok (.goto 4, 3) := by decide +kernel
theorem dJ0_coder_7d493_13 : decode cJ0_coder_7d493 13 = .ok (.iconst 1, 1) := by decide +kernel
theorem dJ0_coder_7d493_14 : decode cJ0_coder_7d493 14 = .ok (.ireturn, 1) := by decide +kernel
theorem wj_J0_coder_7d493 : ∀ w ∈ ([.fieldLink RJ0 38 "java/lang/String" "COMPACT_STRINGS" "Z", .fieldLink RJ0 15 "java/lang/String" "coder" "B"] : List Cond), w ∈ gb_J := by
  have h : ∀ w ∈ ([.fieldLink RJ0 38 "java/lang/String" "COMPACT_STRINGS" "Z", .fieldLink RJ0 15 "java/lang/String" "coder" "B"] : List Cond), w ∈ jsw ∨ (w ∈ lw_tbl ∧ goodWord w = true) := by decide +kernel
  exact gb_J_of h
set_option maxHeartbeats 4000000 in
theorem n_J0_coder_7d493 (l : Launch) (g : gb_G) (t1 t2 : Nat) (sq sv sn : Nat) (sf : Nat → Int32)  : Met l yJ0_coder_7d493 (.code yJ0_coder_7d493 cJ0_coder_7d493 1 (some .byte) :: gb_J) ({ frames := 2, cells := 0, slots := 0, locals := 100 }) (jp g (jCL t1 t2 sq sv sn sf) [.ref (sq)] ([] : va_W)) (vp_Si (fun r => r = 0)) 0 0 (fun _ => False) := by
  refine Met.ofW (cc := cJ0_coder_7d493) (maxL := 1) (ret := (some .byte)) (by decide +kernel) rfl ?_
  intro p e s m args below meth c s₁ B hml hv
  obtain ⟨rfl, hP, hK, hC⟩ := hv
  have hx := B.exec
  have hb := B.bytes
  have hr := B.returns
  have hts0 := atoms_spec (ws := .code yJ0_coder_7d493 cJ0_coder_7d493 1 (some .byte) :: gb_J) B.pre
  have hts : ∀ w ∈ gb_J, w.before ([.ref (sq)] : List Value).toArray s = true := fun w hw => hts0 w (List.mem_cons_of_mem _ hw)
  have hown : s.vm.findClass RJ0 = some m.cls := findClass_of_methodNamed B.named
  have hlocks := B.notSynchronized
  have hS : va_S (fun _ => False) s.heap s.heap [] := va_S.rf
  have hl := lv_entry ([.ref (sq)]) (n := 1) (Nat.le_of_ble_eq_true rfl)
  rw [lg_entry_eq]
  generalize (lg_sl ([.ref (sq)]) ++ List.replicate (1 - (lg_sl ([.ref (sq)])).length) Slot.unset).toArray = ls at hl ⊢
  have hl : lv_has ls 1 [(0, .ref (sq))] := hl
  refine va_gets (v := .int (1)) hx hb hC.1.1 hS hown (hts _ (wj_J0_coder_7d493 _ (List.mem_of_getElem? (i := 0) rfl))) (fun _ h9 => h9) dJ0_coder_7d493_0 ?_
  refine lv_if_eq (tgt := 13) hx hb dJ0_coder_7d493_3 (by decide) (fun c9 => absurd c9 (by decide)) (fun _ => ?_)
  refine lv_aload_n hx hb dJ0_coder_7d493_6 rfl (lv_at hl 0 rfl) ?_
  refine vk_getf (v := .int (0)) hx hb hC.2.2.1 hS hown (hts _ (wj_J0_coder_7d493 _ (List.mem_of_getElem? (i := 1) rfl))) (fun _ h9 => h9) dJ0_coder_7d493_7 ?_
  refine lv_goto (tgt := 14) hx hb dJ0_coder_7d493_10 (by decide) ?_
  exact W.zret (v := 0) (ty := .byte) hx hb hr (rfl) (fun t ht hW => ⟨0, rfl, rfl, ht⟩) (fun q h => by cases h) dJ0_coder_7d493_14
theorem gd_RJ0_335 : GoodIn gb_J (wsV RJ0 335 RJ0 yJ0_coder_7d493 (.code yJ0_coder_7d493 cJ0_coder_7d493 1 (some .byte) :: gb_J)) := gj_in (l := [.methodLink RJ0 335 yJ0_coder_7d493, .instanceMethod yJ0_coder_7d493, .selects RJ0 yJ0_coder_7d493 yJ0_coder_7d493, .initialized RJ0]) (by
  have h : ∀ w ∈ ([.methodLink RJ0 335 yJ0_coder_7d493, .instanceMethod yJ0_coder_7d493, .selects RJ0 yJ0_coder_7d493 yJ0_coder_7d493, .initialized RJ0] ++ [.code yJ0_coder_7d493 cJ0_coder_7d493 1 (some .byte)] : List Cond), w ∈ jsw ∨ (w ∈ lw_tbl ∧ goodWord w = true) := by decide +kernel
  exact gb_J_of h)
theorem dJ0_length_8abf5_0 : decode cJ0_length_8abf5 0 = .ok (.aload_n 0, 1) := by decide +kernel
theorem dJ0_length_8abf5_1 : decode cJ0_length_8abf5 1 = .ok (.getfield 9, 3) := by decide +kernel
theorem dJ0_length_8abf5_4 : decode cJ0_length_8abf5 4 = .ok (.arraylength, 1) := by decide +kernel
theorem dJ0_length_8abf5_5 : decode cJ0_length_8abf5 5 = .ok (.aload_n 0, 1) := by decide +kernel
theorem dJ0_length_8abf5_6 : decode cJ0_length_8abf5 6 = .ok (.invokevirtual 335, 3) := by decide +kernel
theorem dJ0_length_8abf5_9 : decode cJ0_length_8abf5 9 = .ok (.ishr, 1) := by decide +kernel
theorem dJ0_length_8abf5_10 : decode cJ0_length_8abf5 10 = .ok (.ireturn, 1) := by decide +kernel
theorem wj_J0_length_8abf5 : ∀ w ∈ ([.fieldLink RJ0 9 "java/lang/String" "value" "[B"] : List Cond), w ∈ gb_J := by
  have h : ∀ w ∈ ([.fieldLink RJ0 9 "java/lang/String" "value" "[B"] : List Cond), w ∈ jsw ∨ (w ∈ lw_tbl ∧ goodWord w = true) := by decide +kernel
  exact gb_J_of h
set_option maxHeartbeats 4000000 in
theorem n_J0_length_8abf5 (l : Launch) (g : gb_G) (t1 t2 : Nat) (sq sv sn : Nat) (sf : Nat → Int32)  : Met l yJ0_length_8abf5 (.code yJ0_length_8abf5 cJ0_length_8abf5 1 (some .int) :: gb_J) ({ frames := 4, cells := 0, slots := 0, locals := 200 }) (jp g (jCL t1 t2 sq sv sn sf) [.ref (sq)] ([] : va_W)) (vp_Si (fun r => r = nI sn)) 0 0 (fun _ => False) := by
  refine Met.ofW (cc := cJ0_length_8abf5) (maxL := 1) (ret := (some .int)) (by decide +kernel) rfl ?_
  intro p e s m args below meth c s₁ B hml hv
  obtain ⟨rfl, hP, hK, hC⟩ := hv
  have hx := B.exec
  have hb := B.bytes
  have hr := B.returns
  have hts0 := atoms_spec (ws := .code yJ0_length_8abf5 cJ0_length_8abf5 1 (some .int) :: gb_J) B.pre
  have hts : ∀ w ∈ gb_J, w.before ([.ref (sq)] : List Value).toArray s = true := fun w hw => hts0 w (List.mem_cons_of_mem _ hw)
  have hown : s.vm.findClass RJ0 = some m.cls := findClass_of_methodNamed B.named
  have hlocks := B.notSynchronized
  have hS : va_S (fun _ => False) s.heap s.heap [] := va_S.rf
  have hl := lv_entry ([.ref (sq)]) (n := 1) (Nat.le_of_ble_eq_true rfl)
  rw [lg_entry_eq]
  generalize (lg_sl ([.ref (sq)]) ++ List.replicate (1 - (lg_sl ([.ref (sq)])).length) Slot.unset).toArray = ls at hl ⊢
  have hl : lv_has ls 1 [(0, .ref (sq))] := hl
  refine lv_aload_n hx hb dJ0_length_8abf5_0 rfl (lv_at hl 0 rfl) ?_
  refine vk_getf (v := .ref (sv)) hx hb hC.2.2.2.1 hS hown (hts _ (wj_J0_length_8abf5 _ (List.mem_of_getElem? (i := 0) rfl))) (fun _ h9 => h9) dJ0_length_8abf5_1 ?_
  refine va_tlen (v := nI (sn)) hx hb hC.2.2.2.2 hS rfl dJ0_length_8abf5_4 ?_
  refine lv_aload_n hx hb dJ0_length_8abf5_5 rfl (lv_at hl 0 rfl) ?_
  refine vp_callSi (va_Run.run (va_runV (As := []) (rest := [.int (nI (sn))]) ⟨hx, hb, hml, hown, hts⟩ (n_J0_coder_7d493 l g t1 t2 sq sv sn sf) (cwV 0 hts gd_RJ0_335 rfl rfl rfl ⟨rfl, by decide +kernel, by decide +kernel, by decide +kernel⟩ ⟨Nat.le_of_ble_eq_true rfl, Nat.le_of_ble_eq_true rfl⟩) (jp_V (g := g) (jX_L t1 t2 sq sv sn sf) hK hC hS hP (by obtain ⟨cell, h1, h2, h3, -⟩ := hC.2.1.kept hS.2.1; exact ⟨cell, h1, h2, h3⟩)) rfl rfl hl.1 rfl (lv_room (Nat.le_of_ble_eq_true rfl)) dJ0_length_8abf5_6 ⟨Nat.le_of_ble_eq_true rfl, Nat.le_of_ble_eq_true rfl⟩)) (fun r9 e9 => ?_)
  subst e9
  refine lv_ishr hx hb dJ0_length_8abf5_9 ?_
  refine W.eq (g2 := F0 m 10 ls [.int (nI (sn))]) (by rw [j_shr]) ?_
  exact W.iret (v := nI (sn)) hx hb hr (fun t ht hW => ⟨nI (sn), rfl, rfl, ht⟩) (fun q h => by cases h) dJ0_length_8abf5_10
theorem gd_RJ5_40 : GoodIn gb_J (wsV RJ5 40 RJ0 yJ0_coder_7d493 (.code yJ0_coder_7d493 cJ0_coder_7d493 1 (some .byte) :: gb_J)) := gj_in (l := [.methodLink RJ5 40 yJ0_coder_7d493, .instanceMethod yJ0_coder_7d493, .selects RJ0 yJ0_coder_7d493 yJ0_coder_7d493, .initialized RJ0]) (by
  have h : ∀ w ∈ ([.methodLink RJ5 40 yJ0_coder_7d493, .instanceMethod yJ0_coder_7d493, .selects RJ0 yJ0_coder_7d493 yJ0_coder_7d493, .initialized RJ0] ++ [.code yJ0_coder_7d493 cJ0_coder_7d493 1 (some .byte)] : List Cond), w ∈ jsw ∨ (w ∈ lw_tbl ∧ goodWord w = true) := by decide +kernel
  exact gb_J_of h)
theorem dJ5_inflateIfNeededFor_a7421_0 : decode cJ5_inflateIfNeededFor_a7421 0 = .ok (.getstatic 18, 3) := by decide +kernel
theorem dJ5_inflateIfNeededFor_a7421_3 : decode cJ5_inflateIfNeededFor_a7421 3 = .ok (.ifCond .eq 18, 3) := by decide +kernel
theorem dJ5_inflateIfNeededFor_a7421_6 : decode cJ5_inflateIfNeededFor_a7421 6 = .ok (.aload_n 0, 1) := by decide +kernel
theorem dJ5_inflateIfNeededFor_a7421_7 : decode cJ5_inflateIfNeededFor_a7421 7 = .ok (.getfield 22, 3) := by decide +kernel
theorem dJ5_inflateIfNeededFor_a7421_10 : decode cJ5_inflateIfNeededFor_a7421 10 = .ok (.aload_n 1, 1) := by decide +kernel
theorem dJ5_inflateIfNeededFor_a7421_11 : decode cJ5_inflateIfNeededFor_a7421 11 = .ok (.invokevirtual 40, 3) := by decide +kernel
theorem dJ5_inflateIfNeededFor_a7421_14 : decode cJ5_inflateIfNeededFor_a7421 14 = .ok (.if_icmp .eq 7, 3) := by decide +kernel
theorem dJ5_inflateIfNeededFor_a7421_17 : decode cJ5_inflateIfNeededFor_a7421 17 = .ok (.aload_n 0, 1) := by decide +kernel
theorem dJ5_inflateIfNeededFor_a7421_18 : decode cJ5_inflateIfNeededFor_a7421 18 = .ok (.invokevirtual 195, 3) := by decide +kernel
theorem dJ5_inflateIfNeededFor_a7421_21 : decode cJ5_inflateIfNeededFor_a7421 21 = .ok (.return_, 1) := by decide +kernel
theorem wj_J5_inflateIfNeededFor_a7421 : ∀ w ∈ ([.fieldLink RJ5 18 "java/lang/String" "COMPACT_STRINGS" "Z", .fieldLink RJ5 22 "java/lang/AbstractStringBuilder" "coder" "B"] : List Cond), w ∈ gb_J := by
  have h : ∀ w ∈ ([.fieldLink RJ5 18 "java/lang/String" "COMPACT_STRINGS" "Z", .fieldLink RJ5 22 "java/lang/AbstractStringBuilder" "coder" "B"] : List Cond), w ∈ jsw ∨ (w ∈ lw_tbl ∧ goodWord w = true) := by decide +kernel
  exact gb_J_of h
set_option maxHeartbeats 4000000 in
theorem n_J5_inflateIfNeededFor_a7421 (l : Launch) (g : gb_G) (t1 t2 : Nat) (h q cap n : Nat) (f : Nat → Int32) (sq sv sn : Nat) (sf : Nat → Int32)  : Met l yJ5_inflateIfNeededFor_a7421 (.code yJ5_inflateIfNeededFor_a7421 cJ5_inflateIfNeededFor_a7421 2 none :: gb_J) ({ frames := 4, cells := 0, slots := 0, locals := 200 }) (jp g (jCL t1 t2 sq sv sn sf) [.ref (h), .ref (sq)] ([(h, .inr (11, [.ref (q), .int 0, .int 0, .int (nI n)])), (q, .inl (g.2.2.2.2.1, cap, .inl (f)))] : va_W)) (va_Sv (fun _ => True)) 0 0 (fun _ => False) := by
  refine Met.ofW (cc := cJ5_inflateIfNeededFor_a7421) (maxL := 2) (ret := none) (by decide +kernel) rfl ?_
  intro p e s m args below meth c s₁ B hml hv
  obtain ⟨rfl, hP, hK, hC⟩ := hv
  have hx := B.exec
  have hb := B.bytes
  have hr := B.returns
  have hts0 := atoms_spec (ws := .code yJ5_inflateIfNeededFor_a7421 cJ5_inflateIfNeededFor_a7421 2 none :: gb_J) B.pre
  have hts : ∀ w ∈ gb_J, w.before ([.ref (h), .ref (sq)] : List Value).toArray s = true := fun w hw => hts0 w (List.mem_cons_of_mem _ hw)
  have hown : s.vm.findClass RJ5 = some m.cls := findClass_of_methodNamed B.named
  have hlocks := B.notSynchronized
  have hS : va_S (fun _ => False) s.heap s.heap [] := va_S.rf
  have hl := lv_entry ([.ref (h), .ref (sq)]) (n := 2) (Nat.le_of_ble_eq_true rfl)
  rw [lg_entry_eq]
  generalize (lg_sl ([.ref (h), .ref (sq)]) ++ List.replicate (2 - (lg_sl ([.ref (h), .ref (sq)])).length) Slot.unset).toArray = ls at hl ⊢
  have hl : lv_has ls 2 [(0, .ref (h)), (1, .ref (sq))] := hl
  refine va_gets (v := .int (1)) hx hb hC.1.1 hS hown (hts _ (wj_J5_inflateIfNeededFor_a7421 _ (List.mem_of_getElem? (i := 0) rfl))) (fun _ h9 => h9) dJ5_inflateIfNeededFor_a7421_0 ?_
  refine lv_if_eq (tgt := 21) hx hb dJ5_inflateIfNeededFor_a7421_3 (by decide) (fun c9 => absurd c9 (by decide)) (fun _ => ?_)
  refine lv_aload_n hx hb dJ5_inflateIfNeededFor_a7421_6 rfl (lv_at hl 0 rfl) ?_
  refine va_get (D := (g.1, g.2.1)) (ci := 11) (v := .int (0)) (C := RJ4) (T := TJ4) (N := 4) hx hb hts winJ4 hown hK hP 0 rfl rfl 1 (by decide) (hts _ (wj_J5_inflateIfNeededFor_a7421 _ (List.mem_of_getElem? (i := 1) rfl))) (fun _ h9 => h9) rfl dJ5_inflateIfNeededFor_a7421_7 ?_
  refine lv_aload_n hx hb dJ5_inflateIfNeededFor_a7421_10 rfl (lv_at hl 1 rfl) ?_
  refine vp_callSi (va_Run.run (va_runV (As := []) (rest := [.int (0)]) ⟨hx, hb, hml, hown, hts⟩ (n_J0_coder_7d493 l g t1 t2 sq sv sn sf) (cwV 0 hts gd_RJ5_40 rfl rfl rfl ⟨rfl, by decide +kernel, by decide +kernel, by decide +kernel⟩ ⟨Nat.le_of_ble_eq_true rfl, Nat.le_of_ble_eq_true rfl⟩) (jp_V (g := g) (jX_L t1 t2 sq sv sn sf) hK hC hS (hP.sub [] rfl) (by obtain ⟨cell, h1, h2, h3, -⟩ := hC.2.1.kept hS.2.1; exact ⟨cell, h1, h2, h3⟩)) rfl rfl hl.1 rfl (lv_room (Nat.le_of_ble_eq_true rfl)) dJ5_inflateIfNeededFor_a7421_11 ⟨Nat.le_of_ble_eq_true rfl, Nat.le_of_ble_eq_true rfl⟩)) (fun r9 e9 => ?_)
  subst e9
  refine lv_icmp_eq (tgt := 21) hx hb dJ5_inflateIfNeededFor_a7421_14 (by decide) (fun _ => ?_) (fun c9 => absurd rfl c9)
  exact W.vret hx hb hr (fun t ht hW => ⟨rfl, trivial, ht⟩) (fun q h => by cases h) dJ5_inflateIfNeededFor_a7421_21
theorem dJ0_getBytes_840e7_0 : decode cJ0_getBytes_840e7 0 = .ok (.aload_n 0, 1) := by decide +kernel
theorem dJ0_getBytes_840e7_1 : decode cJ0_getBytes_840e7 1 = .ok (.invokevirtual 335, 3) := by decide +kernel
theorem dJ0_getBytes_840e7_4 : decode cJ0_getBytes_840e7 4 = .ok (.iload_n 3, 1) := by decide +kernel
theorem dJ0_getBytes_840e7_5 : decode cJ0_getBytes_840e7 5 = .ok (.if_icmp .ne 23, 3) := by decide +kernel
theorem dJ0_getBytes_840e7_8 : decode cJ0_getBytes_840e7 8 = .ok (.aload_n 0, 1) := by decide +kernel
theorem dJ0_getBytes_840e7_9 : decode cJ0_getBytes_840e7 9 = .ok (.getfield 9, 3) := by decide +kernel
theorem dJ0_getBytes_840e7_12 : decode cJ0_getBytes_840e7 12 = .ok (.iconst 0, 1) := by decide +kernel
theorem dJ0_getBytes_840e7_13 : decode cJ0_getBytes_840e7 13 = .ok (.aload_n 1, 1) := by decide +kernel
theorem dJ0_getBytes_840e7_14 : decode cJ0_getBytes_840e7 14 = .ok (.iload_n 2, 1) := by decide +kernel
theorem dJ0_getBytes_840e7_15 : decode cJ0_getBytes_840e7 15 = .ok (.iload_n 3, 1) := by decide +kernel
theorem dJ0_getBytes_840e7_16 : decode cJ0_getBytes_840e7 16 = .ok (.ishl, 1) := by decide +kernel
theorem dJ0_getBytes_840e7_17 : decode cJ0_getBytes_840e7 17 = .ok (.aload_n 0, 1) := by decide +kernel
theorem dJ0_getBytes_840e7_18 : decode cJ0_getBytes_840e7 18 = .ok (.getfield 9, 3) := by decide +kernel
theorem dJ0_getBytes_840e7_21 : decode cJ0_getBytes_840e7 21 = .ok (.arraylength, 1) := by decide +kernel
theorem dJ0_getBytes_840e7_22 : decode cJ0_getBytes_840e7 22 = .ok (.invokestatic 212, 3) := by decide +kernel
theorem dJ0_getBytes_840e7_25 : decode cJ0_getBytes_840e7 25 = .ok (.goto 18, 3) := by decide +kernel
theorem dJ0_getBytes_840e7_28 : decode cJ0_getBytes_840e7 28 = .ok (.aload_n 0, 1) := by decide +kernel
theorem dJ0_getBytes_840e7_29 : decode cJ0_getBytes_840e7 29 = .ok (.getfield 9, 3) := by decide +kernel
theorem dJ0_getBytes_840e7_32 : decode cJ0_getBytes_840e7 32 = .ok (.iconst 0, 1) := by decide +kernel
theorem dJ0_getBytes_840e7_33 : decode cJ0_getBytes_840e7 33 = .ok (.aload_n 1, 1) := by decide +kernel
theorem dJ0_getBytes_840e7_34 : decode cJ0_getBytes_840e7 34 = .ok (.iload_n 2, 1) := by decide +kernel
theorem dJ0_getBytes_840e7_35 : decode cJ0_getBytes_840e7 35 = .ok (.aload_n 0, 1) := by decide +kernel
theorem dJ0_getBytes_840e7_36 : decode cJ0_getBytes_840e7 36 = .ok (.getfield 9, 3) := by decide +kernel
theorem dJ0_getBytes_840e7_39 : decode cJ0_getBytes_840e7 39 = .ok (.arraylength, 1) := by decide +kernel
theorem dJ0_getBytes_840e7_40 : decode cJ0_getBytes_840e7 40 = .ok (.invokestatic 106, 3) := by decide +kernel
theorem dJ0_getBytes_840e7_43 : decode cJ0_getBytes_840e7 43 = .ok (.return_, 1) := by decide +kernel
theorem wj_J0_getBytes_840e7 : ∀ w ∈ ([.fieldLink RJ0 9 "java/lang/String" "value" "[B", .methodLink RJ0 212 arraycopyName, .native arraycopyName, .static arraycopyName, .initialized "java/lang/System"] : List Cond), w ∈ gb_J := by
  have h : ∀ w ∈ ([.fieldLink RJ0 9 "java/lang/String" "value" "[B", .methodLink RJ0 212 arraycopyName, .native arraycopyName, .static arraycopyName, .initialized "java/lang/System"] : List Cond), w ∈ jsw ∨ (w ∈ lw_tbl ∧ goodWord w = true) := by decide +kernel
  exact gb_J_of h
set_option maxHeartbeats 4000000 in
theorem n_J0_getBytes_840e7 (l : Launch) (g : gb_G) (t1 t2 : Nat) (h q cap n : Nat) (f : Nat → Int32) (sq sv sn : Nat) (sf : Nat → Int32) (hf : jFit f) (hsf : jFit sf) (h0 : n + sn ≤ cap) (h1 : cap ≤ 502) (sz : Nat) : Met l yJ0_getBytes_840e7 (.code yJ0_getBytes_840e7 cJ0_getBytes_840e7 4 none :: gb_J) ({ frames := 4, cells := 0, slots := 0, locals := 200 }) (jm g (jCL t1 t2 sq sv sn sf) [.ref (sq), .ref (q), .int (nI n), .int (0)] ([(h, .inr (11, [.ref (q), .int 0, .int 0, .int (nI n)])), (q, .inl (g.2.2.2.2.1, cap, .inl (f)))] : va_W) sz) (jQv g (fun w1 => ∃ f1, w1 = sbW g h q cap n f1 ∧ f1 = va_cpy sf f 0 n sn) (va_A ([(h, .inr (11, [.ref (q), .int 0, .int 0, .int (nI n)])), (q, .inl (g.2.2.2.2.1, cap, .inl (f)))] : va_W) sz)) 0 0 (va_A ([(h, .inr (11, [.ref (q), .int 0, .int 0, .int (nI n)])), (q, .inl (g.2.2.2.2.1, cap, .inl (f)))] : va_W) sz) := by
  refine Met.ofW (cc := cJ0_getBytes_840e7) (maxL := 4) (ret := none) (by decide +kernel) rfl ?_
  intro p e s m args below meth c s₁ B hml hv
  obtain ⟨rfl, hsz, hP, hK, hD0, hC⟩ := hv
  have hx := B.exec
  have hb := B.bytes
  have hr := B.returns
  have hts0 := atoms_spec (ws := .code yJ0_getBytes_840e7 cJ0_getBytes_840e7 4 none :: gb_J) B.pre
  have hts : ∀ w ∈ gb_J, w.before ([.ref (sq), .ref (q), .int (nI n), .int (0)] : List Value).toArray s = true := fun w hw => hts0 w (List.mem_cons_of_mem _ hw)
  have hown : s.vm.findClass RJ0 = some m.cls := findClass_of_methodNamed B.named
  have hlocks := B.notSynchronized
  subst hsz
  have hD := hD0.self (sz := s.heap.size)
  generalize hAe : va_A ([(h, .inr (11, [.ref (q), .int 0, .int 0, .int (nI n)])), (q, .inl (g.2.2.2.2.1, cap, .inl (f)))] : va_W) s.heap.size = A at hD hC ⊢
  have hA : ∀ q : Nat, s.heap.size ≤ q → A q := fun q h => by rw [← hAe]; exact Or.inr h
  have hS : va_S A s.heap s.heap [] := va_S.rf
  have hl := lv_entry ([.ref (sq), .ref (q), .int (nI n), .int (0)]) (n := 4) (Nat.le_of_ble_eq_true rfl)
  rw [lg_entry_eq]
  generalize (lg_sl ([.ref (sq), .ref (q), .int (nI n), .int (0)]) ++ List.replicate (4 - (lg_sl ([.ref (sq), .ref (q), .int (nI n), .int (0)])).length) Slot.unset).toArray = ls at hl ⊢
  have hl : lv_has ls 4 [(0, .ref (sq)), (1, .ref (q)), (2, .int (nI n)), (3, .int (0))] := hl
  refine lv_aload_n hx hb dJ0_getBytes_840e7_0 rfl (lv_at hl 0 rfl) ?_
  refine vp_callSi (va_Run.run (va_runV (As := []) (rest := []) ⟨hx, hb, hml, hown, hts⟩ (n_J0_coder_7d493 l g t1 t2 sq sv sn sf) (cwV 0 hts gd_RJ0_335 rfl rfl rfl ⟨rfl, by decide +kernel, by decide +kernel, by decide +kernel⟩ ⟨Nat.le_of_ble_eq_true rfl, Nat.le_of_ble_eq_true rfl⟩) (jp_V (g := g) (jX_L t1 t2 sq sv sn sf) hK hC hS (hP.sub [] rfl) (by obtain ⟨cell, h1, h2, h3, -⟩ := hC.2.1.kept hS.2.1; exact ⟨cell, h1, h2, h3⟩)) rfl rfl hl.1 rfl (lv_room (Nat.le_of_ble_eq_true rfl)) dJ0_getBytes_840e7_1 ⟨Nat.le_of_ble_eq_true rfl, Nat.le_of_ble_eq_true rfl⟩)) (fun r9 e9 => ?_)
  subst e9
  refine lv_iload_n hx hb dJ0_getBytes_840e7_4 rfl (lv_at hl 3 rfl) ?_
  refine lv_icmp_ne (tgt := 28) hx hb dJ0_getBytes_840e7_5 (by decide) (fun c9 => absurd rfl c9) (fun _ => ?_)
  refine lv_aload_n hx hb dJ0_getBytes_840e7_8 rfl (lv_at hl 0 rfl) ?_
  refine vk_getf (v := .ref (sv)) hx hb hC.2.2.2.1 hS hown (hts _ (wj_J0_getBytes_840e7 _ (List.mem_of_getElem? (i := 0) rfl))) (fun _ h9 => h9) dJ0_getBytes_840e7_9 ?_
  refine lv_iconst (v := 0) hx hb dJ0_getBytes_840e7_12 (by decide) ?_
  refine lv_aload_n hx hb dJ0_getBytes_840e7_13 rfl (lv_at hl 1 rfl) ?_
  refine lv_iload_n hx hb dJ0_getBytes_840e7_14 rfl (lv_at hl 2 rfl) ?_
  refine lv_iload_n hx hb dJ0_getBytes_840e7_15 rfl (lv_at hl 3 rfl) ?_
  refine lv_ishl hx hb dJ0_getBytes_840e7_16 ?_
  refine W.eq (g2 := F0 m 17 ls [.int (nI n), .ref (q), .int (0), .ref (sv)]) (by rw [j_shl]) ?_
  refine lv_aload_n hx hb dJ0_getBytes_840e7_17 rfl (lv_at hl 0 rfl) ?_
  refine vk_getf (v := .ref (sv)) hx hb hC.2.2.2.1 hS hown (hts _ (wj_J0_getBytes_840e7 _ (List.mem_of_getElem? (i := 0) rfl))) (fun _ h9 => h9) dJ0_getBytes_840e7_18 ?_
  refine va_tlen (v := nI (sn)) hx hb hC.2.2.2.2 hS rfl dJ0_getBytes_840e7_21 ?_
  refine vk_copyt (D := (g.1, g.2.1)) hx hb (hml.trans hl.1.symm) hown (hts _ (wj_J0_getBytes_840e7 _ (List.mem_of_getElem? (i := 1) rfl))) (hts _ (wj_J0_getBytes_840e7 _ (List.mem_of_getElem? (i := 2) rfl))) (hts _ (wj_J0_getBytes_840e7 _ (List.mem_of_getElem? (i := 3) rfl))) (hts _ (wj_J0_getBytes_840e7 _ (List.mem_of_getElem? (i := 4) rfl))) hK hP hD hS hC.2.2.2.2 1 1 rfl rfl (by decide) (nI_pos (show n < 2 ^ 31 by omega)) (nI_pos (show sn < 2 ^ 31 by omega)) (by rw [j_cl (show sn < 2 ^ 31 by omega)]; show 0 + sn ≤ sn; omega) (by rw [j_cl (show n < 2 ^ 31 by omega), j_cl (show sn < 2 ^ 31 by omega)]; omega) (fun i _ => hsf _) (Nat.le_of_ble_eq_true rfl) (Nat.le_of_ble_eq_true (by decide +kernel)) dJ0_getBytes_840e7_22 (fun H locs hP hD hS => ?_)
  rw [j_cl (show n < 2 ^ 31 by omega), j_cl (show sn < 2 ^ 31 by omega)] at hP hD
  have hP : va_P (g.1, g.2.1) vwCl ([(h, .inr (11, [.ref (q), .int 0, .int 0, .int (nI n)])), (q, .inl (g.2.2.2.2.1, cap, .inl (va_cpy (sf) (f) (0) (n) (sn))))] : va_W) H := hP
  have hD : va_D A ([(h, .inr (11, [.ref (q), .int 0, .int 0, .int (nI n)])), (q, .inl (g.2.2.2.2.1, cap, .inl (va_cpy (sf) (f) (0) (n) (sn))))] : va_W) := hD
  refine lv_goto (tgt := 43) hx hb dJ0_getBytes_840e7_25 (by decide) ?_
  refine W.widen (k := 0) (n := 0) (by first | exact Nat.le_of_ble_eq_true rfl | omega) (by first | exact Nat.le_of_ble_eq_true rfl | omega) ?_
  exact W.vret hx hb hr (fun t ht hW => ⟨⟨(), rfl, trivial, _, ⟨_, rfl, rfl⟩, by rw [ht]; exact hP, hD⟩, hS.F ht⟩) hS.2.2 dJ0_getBytes_840e7_43
theorem gd_RJ5_397 : GoodIn gb_J (va_wsU RJ5 397 RJ4 "java/lang/AbstractStringBuilder" (⟨"java/lang/AbstractStringBuilder", "inflateIfNeededFor", "(Ljava/lang/String;)V"⟩ : MethodName) yJ5_inflateIfNeededFor_a7421 (.code yJ5_inflateIfNeededFor_a7421 cJ5_inflateIfNeededFor_a7421 2 none :: gb_J)) := gj_in (l := [.methodLink RJ5 397 (⟨"java/lang/AbstractStringBuilder", "inflateIfNeededFor", "(Ljava/lang/String;)V"⟩ : MethodName), .sameMethod (⟨"java/lang/AbstractStringBuilder", "inflateIfNeededFor", "(Ljava/lang/String;)V"⟩ : MethodName).cls "java/lang/AbstractStringBuilder" (⟨"java/lang/AbstractStringBuilder", "inflateIfNeededFor", "(Ljava/lang/String;)V"⟩ : MethodName).name (⟨"java/lang/AbstractStringBuilder", "inflateIfNeededFor", "(Ljava/lang/String;)V"⟩ : MethodName).desc, .selects RJ4 (⟨"java/lang/AbstractStringBuilder", "inflateIfNeededFor", "(Ljava/lang/String;)V"⟩ : MethodName) yJ5_inflateIfNeededFor_a7421, .instanceMethod yJ5_inflateIfNeededFor_a7421, .initialized yJ5_inflateIfNeededFor_a7421.cls]) (by
  have h : ∀ w ∈ ([.methodLink RJ5 397 (⟨"java/lang/AbstractStringBuilder", "inflateIfNeededFor", "(Ljava/lang/String;)V"⟩ : MethodName), .sameMethod (⟨"java/lang/AbstractStringBuilder", "inflateIfNeededFor", "(Ljava/lang/String;)V"⟩ : MethodName).cls "java/lang/AbstractStringBuilder" (⟨"java/lang/AbstractStringBuilder", "inflateIfNeededFor", "(Ljava/lang/String;)V"⟩ : MethodName).name (⟨"java/lang/AbstractStringBuilder", "inflateIfNeededFor", "(Ljava/lang/String;)V"⟩ : MethodName).desc, .selects RJ4 (⟨"java/lang/AbstractStringBuilder", "inflateIfNeededFor", "(Ljava/lang/String;)V"⟩ : MethodName) yJ5_inflateIfNeededFor_a7421, .instanceMethod yJ5_inflateIfNeededFor_a7421, .initialized yJ5_inflateIfNeededFor_a7421.cls] ++ [.code yJ5_inflateIfNeededFor_a7421 cJ5_inflateIfNeededFor_a7421 2 none] : List Cond), w ∈ jsw ∨ (w ∈ lw_tbl ∧ goodWord w = true) := by decide +kernel
  exact gb_J_of h)
theorem gd_RJ5_399 : GoodIn gb_J (wsV RJ5 399 RJ0 yJ0_getBytes_840e7 (.code yJ0_getBytes_840e7 cJ0_getBytes_840e7 4 none :: gb_J)) := gj_in (l := [.methodLink RJ5 399 yJ0_getBytes_840e7, .instanceMethod yJ0_getBytes_840e7, .selects RJ0 yJ0_getBytes_840e7 yJ0_getBytes_840e7, .initialized RJ0]) (by
  have h : ∀ w ∈ ([.methodLink RJ5 399 yJ0_getBytes_840e7, .instanceMethod yJ0_getBytes_840e7, .selects RJ0 yJ0_getBytes_840e7 yJ0_getBytes_840e7, .initialized RJ0] ++ [.code yJ0_getBytes_840e7 cJ0_getBytes_840e7 4 none] : List Cond), w ∈ jsw ∨ (w ∈ lw_tbl ∧ goodWord w = true) := by decide +kernel
  exact gb_J_of h)
theorem dJ5_putStringAt_47b60_0 : decode cJ5_putStringAt_47b60 0 = .ok (.aload_n 0, 1) := by decide +kernel
theorem dJ5_putStringAt_47b60_1 : decode cJ5_putStringAt_47b60 1 = .ok (.aload_n 2, 1) := by decide +kernel
theorem dJ5_putStringAt_47b60_2 : decode cJ5_putStringAt_47b60 2 = .ok (.invokevirtual 397, 3) := by decide +kernel
theorem dJ5_putStringAt_47b60_5 : decode cJ5_putStringAt_47b60 5 = .ok (.aload_n 2, 1) := by decide +kernel
theorem dJ5_putStringAt_47b60_6 : decode cJ5_putStringAt_47b60 6 = .ok (.aload_n 0, 1) := by decide +kernel
theorem dJ5_putStringAt_47b60_7 : decode cJ5_putStringAt_47b60 7 = .ok (.getfield 15, 3) := by decide +kernel
theorem dJ5_putStringAt_47b60_10 : decode cJ5_putStringAt_47b60 10 = .ok (.iload_n 1, 1) := by decide +kernel
theorem dJ5_putStringAt_47b60_11 : decode cJ5_putStringAt_47b60 11 = .ok (.aload_n 0, 1) := by decide +kernel
theorem dJ5_putStringAt_47b60_12 : decode cJ5_putStringAt_47b60 12 = .ok (.getfield 22, 3) := by decide +kernel
theorem dJ5_putStringAt_47b60_15 : decode cJ5_putStringAt_47b60 15 = .ok (.invokevirtual 399, 3) := by decide +kernel
theorem dJ5_putStringAt_47b60_18 : decode cJ5_putStringAt_47b60 18 = .ok (.return_, 1) := by decide +kernel
theorem wj_J5_putStringAt_47b60 : ∀ w ∈ ([.fieldLink RJ5 15 "java/lang/AbstractStringBuilder" "value" "[B", .fieldLink RJ5 22 "java/lang/AbstractStringBuilder" "coder" "B"] : List Cond), w ∈ gb_J := by
  have h : ∀ w ∈ ([.fieldLink RJ5 15 "java/lang/AbstractStringBuilder" "value" "[B", .fieldLink RJ5 22 "java/lang/AbstractStringBuilder" "coder" "B"] : List Cond), w ∈ jsw ∨ (w ∈ lw_tbl ∧ goodWord w = true) := by decide +kernel
  exact gb_J_of h
set_option maxHeartbeats 4000000 in
theorem n_J5_putStringAt_47b60 (l : Launch) (g : gb_G) (t1 t2 : Nat) (h q cap n : Nat) (f : Nat → Int32) (sq sv sn : Nat) (sf : Nat → Int32) (hf : jFit f) (hsf : jFit sf) (h0 : n + sn ≤ cap) (h1 : cap ≤ 502) (sz : Nat) : Met l yJ5_putStringAt_47b60 (.code yJ5_putStringAt_47b60 cJ5_putStringAt_47b60 3 none :: gb_J) ({ frames := 6, cells := 0, slots := 0, locals := 300 }) (jm g (jCL t1 t2 sq sv sn sf) [.ref (h), .int (nI n), .ref (sq)] ([(h, .inr (11, [.ref (q), .int 0, .int 0, .int (nI n)])), (q, .inl (g.2.2.2.2.1, cap, .inl (f)))] : va_W) sz) (jQv g (fun w1 => ∃ f1, w1 = sbW g h q cap n f1 ∧ f1 = va_cpy sf f 0 n sn) (va_A ([(h, .inr (11, [.ref (q), .int 0, .int 0, .int (nI n)])), (q, .inl (g.2.2.2.2.1, cap, .inl (f)))] : va_W) sz)) 0 0 (va_A ([(h, .inr (11, [.ref (q), .int 0, .int 0, .int (nI n)])), (q, .inl (g.2.2.2.2.1, cap, .inl (f)))] : va_W) sz) := by
  refine Met.ofW (cc := cJ5_putStringAt_47b60) (maxL := 3) (ret := none) (by decide +kernel) rfl ?_
  intro p e s m args below meth c s₁ B hml hv
  obtain ⟨rfl, hsz, hP, hK, hD0, hC⟩ := hv
  have hx := B.exec
  have hb := B.bytes
  have hr := B.returns
  have hts0 := atoms_spec (ws := .code yJ5_putStringAt_47b60 cJ5_putStringAt_47b60 3 none :: gb_J) B.pre
  have hts : ∀ w ∈ gb_J, w.before ([.ref (h), .int (nI n), .ref (sq)] : List Value).toArray s = true := fun w hw => hts0 w (List.mem_cons_of_mem _ hw)
  have hown : s.vm.findClass RJ5 = some m.cls := findClass_of_methodNamed B.named
  have hlocks := B.notSynchronized
  subst hsz
  have hD := hD0.self (sz := s.heap.size)
  generalize hAe : va_A ([(h, .inr (11, [.ref (q), .int 0, .int 0, .int (nI n)])), (q, .inl (g.2.2.2.2.1, cap, .inl (f)))] : va_W) s.heap.size = A at hD hC ⊢
  have hA : ∀ q : Nat, s.heap.size ≤ q → A q := fun q h => by rw [← hAe]; exact Or.inr h
  have hS : va_S A s.heap s.heap [] := va_S.rf
  have hl := lv_entry ([.ref (h), .int (nI n), .ref (sq)]) (n := 3) (Nat.le_of_ble_eq_true rfl)
  rw [lg_entry_eq]
  generalize (lg_sl ([.ref (h), .int (nI n), .ref (sq)]) ++ List.replicate (3 - (lg_sl ([.ref (h), .int (nI n), .ref (sq)])).length) Slot.unset).toArray = ls at hl ⊢
  have hl : lv_has ls 3 [(0, .ref (h)), (1, .int (nI n)), (2, .ref (sq))] := hl
  refine lv_aload_n hx hb dJ5_putStringAt_47b60_0 rfl (lv_at hl 0 rfl) ?_
  refine lv_aload_n hx hb dJ5_putStringAt_47b60_1 rfl (lv_at hl 2 rfl) ?_
  refine va_csv (va_Run.run (va_runU (As := [.ref (sq)]) (rest := []) ⟨hx, hb, hml, hown, hts⟩ (n_J5_inflateIfNeededFor_a7421 l g t1 t2 h q cap n f sq sv sn sf) (va_cwU 1 hts gd_RJ5_397 rfl rfl rfl rfl ⟨by decide +kernel, by decide +kernel, by decide +kernel⟩ ⟨Nat.le_of_ble_eq_true rfl, Nat.le_of_ble_eq_true rfl⟩) (jp_V (g := g) (jX_L t1 t2 sq sv sn sf) hK hC hS hP (va_recv hK hP (ci := 11) (q0 := 0) rfl rfl)) rfl rfl hl.1 rfl (lv_room (Nat.le_of_ble_eq_true rfl)) dJ5_putStringAt_47b60_2 ⟨Nat.le_of_ble_eq_true rfl, Nat.le_of_ble_eq_true rfl⟩)) (fun _ => ?_)
  refine lv_aload_n hx hb dJ5_putStringAt_47b60_5 rfl (lv_at hl 2 rfl) ?_
  refine lv_aload_n hx hb dJ5_putStringAt_47b60_6 rfl (lv_at hl 0 rfl) ?_
  refine va_get (D := (g.1, g.2.1)) (ci := 11) (v := .ref (q)) (C := RJ4) (T := TJ4) (N := 4) hx hb hts winJ4 hown hK hP 0 rfl rfl 0 (by decide) (hts _ (wj_J5_putStringAt_47b60 _ (List.mem_of_getElem? (i := 0) rfl))) (fun _ h9 => h9) rfl dJ5_putStringAt_47b60_7 ?_
  refine lv_iload_n hx hb dJ5_putStringAt_47b60_10 rfl (lv_at hl 1 rfl) ?_
  refine lv_aload_n hx hb dJ5_putStringAt_47b60_11 rfl (lv_at hl 0 rfl) ?_
  refine va_get (D := (g.1, g.2.1)) (ci := 11) (v := .int (0)) (C := RJ4) (T := TJ4) (N := 4) hx hb hts winJ4 hown hK hP 0 rfl rfl 1 (by decide) (hts _ (wj_J5_putStringAt_47b60 _ (List.mem_of_getElem? (i := 1) rfl))) (fun _ h9 => h9) rfl dJ5_putStringAt_47b60_12 ?_
  refine j_v (wr := []) (wc := ([(h, .inr (11, [.ref (q), .int 0, .int 0, .int (nI n)])), (q, .inl (g.2.2.2.2.1, cap, .inl (f)))] : va_W)) (va_runV (As := [.ref (q), .int (nI n), .int (0)]) (rest := []) ⟨hx, hb, hml, hown, hts⟩ (n_J0_getBytes_840e7 l g t1 t2 h q cap n f sq sv sn sf hf hsf h0 h1 _) (cwV 3 hts gd_RJ5_399 rfl rfl rfl ⟨rfl, by decide +kernel, by decide +kernel, by decide +kernel⟩ ⟨Nat.le_of_ble_eq_true rfl, Nat.le_of_ble_eq_true rfl⟩) (jm_V (g := g) (jX_L t1 t2 sq sv sn sf) hK hC hS hP hD hA (by obtain ⟨cell, h1, h2, h3, -⟩ := hC.2.1.kept hS.2.1; exact ⟨cell, h1, h2, h3⟩)) rfl rfl hl.1 rfl (lv_room (Nat.le_of_ble_eq_true rfl)) dJ5_putStringAt_47b60_15 ⟨Nat.le_of_ble_eq_true rfl, Nat.le_of_ble_eq_true rfl⟩) hP hD hS hA (fun w1 H locs hw hP hD hS => ?_)
  obtain ⟨f1, rfl, f2⟩ := hw
  have hP : va_P (g.1, g.2.1) vwCl ([(h, .inr (11, [.ref (q), .int 0, .int 0, .int (nI n)])), (q, .inl (g.2.2.2.2.1, cap, .inl (f1)))] : va_W) H := hP
  have hD : va_D A ([(h, .inr (11, [.ref (q), .int 0, .int 0, .int (nI n)])), (q, .inl (g.2.2.2.2.1, cap, .inl (f1)))] : va_W) := hD
  refine W.widen (k := 0) (n := 0) (by first | exact Nat.le_of_ble_eq_true rfl | omega) (by first | exact Nat.le_of_ble_eq_true rfl | omega) ?_
  exact W.vret hx hb hr (fun t ht hW => ⟨⟨(), rfl, trivial, _, ⟨_, rfl, f2⟩, by rw [ht]; exact hP, hD⟩, hS.F ht⟩) hS.2.2 dJ5_putStringAt_47b60_18
theorem gd_RJ5_32 : GoodIn gb_J (wsV RJ5 32 RJ0 yJ0_length_8abf5 (.code yJ0_length_8abf5 cJ0_length_8abf5 1 (some .int) :: gb_J)) := gj_in (l := [.methodLink RJ5 32 yJ0_length_8abf5, .instanceMethod yJ0_length_8abf5, .selects RJ0 yJ0_length_8abf5 yJ0_length_8abf5, .initialized RJ0]) (by
  have h : ∀ w ∈ ([.methodLink RJ5 32 yJ0_length_8abf5, .instanceMethod yJ0_length_8abf5, .selects RJ0 yJ0_length_8abf5 yJ0_length_8abf5, .initialized RJ0] ++ [.code yJ0_length_8abf5 cJ0_length_8abf5 1 (some .int)] : List Cond), w ∈ jsw ∨ (w ∈ lw_tbl ∧ goodWord w = true) := by decide +kernel
  exact gb_J_of h)
theorem gd_RJ5_208 : GoodIn gb_J (va_wsU RJ5 208 RJ4 "java/lang/AbstractStringBuilder" (⟨"java/lang/AbstractStringBuilder", "putStringAt", "(ILjava/lang/String;)V"⟩ : MethodName) yJ5_putStringAt_47b60 (.code yJ5_putStringAt_47b60 cJ5_putStringAt_47b60 3 none :: gb_J)) := gj_in (l := [.methodLink RJ5 208 (⟨"java/lang/AbstractStringBuilder", "putStringAt", "(ILjava/lang/String;)V"⟩ : MethodName), .sameMethod (⟨"java/lang/AbstractStringBuilder", "putStringAt", "(ILjava/lang/String;)V"⟩ : MethodName).cls "java/lang/AbstractStringBuilder" (⟨"java/lang/AbstractStringBuilder", "putStringAt", "(ILjava/lang/String;)V"⟩ : MethodName).name (⟨"java/lang/AbstractStringBuilder", "putStringAt", "(ILjava/lang/String;)V"⟩ : MethodName).desc, .selects RJ4 (⟨"java/lang/AbstractStringBuilder", "putStringAt", "(ILjava/lang/String;)V"⟩ : MethodName) yJ5_putStringAt_47b60, .instanceMethod yJ5_putStringAt_47b60, .initialized yJ5_putStringAt_47b60.cls]) (by
  have h : ∀ w ∈ ([.methodLink RJ5 208 (⟨"java/lang/AbstractStringBuilder", "putStringAt", "(ILjava/lang/String;)V"⟩ : MethodName), .sameMethod (⟨"java/lang/AbstractStringBuilder", "putStringAt", "(ILjava/lang/String;)V"⟩ : MethodName).cls "java/lang/AbstractStringBuilder" (⟨"java/lang/AbstractStringBuilder", "putStringAt", "(ILjava/lang/String;)V"⟩ : MethodName).name (⟨"java/lang/AbstractStringBuilder", "putStringAt", "(ILjava/lang/String;)V"⟩ : MethodName).desc, .selects RJ4 (⟨"java/lang/AbstractStringBuilder", "putStringAt", "(ILjava/lang/String;)V"⟩ : MethodName) yJ5_putStringAt_47b60, .instanceMethod yJ5_putStringAt_47b60, .initialized yJ5_putStringAt_47b60.cls] ++ [.code yJ5_putStringAt_47b60 cJ5_putStringAt_47b60 3 none] : List Cond), w ∈ jsw ∨ (w ∈ lw_tbl ∧ goodWord w = true) := by decide +kernel
  exact gb_J_of h)
theorem dJ5_append_cf1ce_0 : decode cJ5_append_cf1ce 0 = .ok (.aload_n 1, 1) := by decide +kernel
theorem dJ5_append_cf1ce_1 : decode cJ5_append_cf1ce 1 = .ok (.ifnonnull 8, 3) := by decide +kernel
theorem dJ5_append_cf1ce_4 : decode cJ5_append_cf1ce 4 = .ok (.aload_n 0, 1) := by decide +kernel
theorem dJ5_append_cf1ce_5 : decode cJ5_append_cf1ce 5 = .ok (.invokevirtual 204, 3) := by decide +kernel
theorem dJ5_append_cf1ce_8 : decode cJ5_append_cf1ce 8 = .ok (.areturn, 1) := by decide +kernel
theorem dJ5_append_cf1ce_9 : decode cJ5_append_cf1ce 9 = .ok (.aload_n 1, 1) := by decide +kernel
theorem dJ5_append_cf1ce_10 : decode cJ5_append_cf1ce 10 = .ok (.invokevirtual 32, 3) := by decide +kernel
theorem dJ5_append_cf1ce_13 : decode cJ5_append_cf1ce 13 = .ok (.istore_n 2, 1) := by decide +kernel
theorem dJ5_append_cf1ce_14 : decode cJ5_append_cf1ce 14 = .ok (.aload_n 0, 1) := by decide +kernel
theorem dJ5_append_cf1ce_15 : decode cJ5_append_cf1ce 15 = .ok (.aload_n 0, 1) := by decide +kernel
theorem dJ5_append_cf1ce_16 : decode cJ5_append_cf1ce 16 = .ok (.getfield 79, 3) := by decide +kernel
theorem dJ5_append_cf1ce_19 : decode cJ5_append_cf1ce 19 = .ok (.iload_n 2, 1) := by decide +kernel
theorem dJ5_append_cf1ce_20 : decode cJ5_append_cf1ce 20 = .ok (.iadd, 1) := by decide +kernel
theorem dJ5_append_cf1ce_21 : decode cJ5_append_cf1ce 21 = .ok (.invokevirtual 100, 3) := by decide +kernel
theorem dJ5_append_cf1ce_24 : decode cJ5_append_cf1ce 24 = .ok (.aload_n 0, 1) := by decide +kernel
theorem dJ5_append_cf1ce_25 : decode cJ5_append_cf1ce 25 = .ok (.aload_n 0, 1) := by decide +kernel
theorem dJ5_append_cf1ce_26 : decode cJ5_append_cf1ce 26 = .ok (.getfield 79, 3) := by decide +kernel
theorem dJ5_append_cf1ce_29 : decode cJ5_append_cf1ce 29 = .ok (.aload_n 1, 1) := by decide +kernel
theorem dJ5_append_cf1ce_30 : decode cJ5_append_cf1ce 30 = .ok (.invokevirtual 208, 3) := by decide +kernel
theorem dJ5_append_cf1ce_33 : decode cJ5_append_cf1ce 33 = .ok (.aload_n 0, 1) := by decide +kernel
theorem dJ5_append_cf1ce_34 : decode cJ5_append_cf1ce 34 = .ok (.dup, 1) := by decide +kernel
theorem dJ5_append_cf1ce_35 : decode cJ5_append_cf1ce 35 = .ok (.getfield 79, 3) := by decide +kernel
theorem dJ5_append_cf1ce_38 : decode cJ5_append_cf1ce 38 = .ok (.iload_n 2, 1) := by decide +kernel
theorem dJ5_append_cf1ce_39 : decode cJ5_append_cf1ce 39 = .ok (.iadd, 1) := by decide +kernel
theorem dJ5_append_cf1ce_40 : decode cJ5_append_cf1ce 40 = .ok (.putfield 79, 3) := by decide +kernel
theorem dJ5_append_cf1ce_43 : decode cJ5_append_cf1ce 43 = .ok (.aload_n 0, 1) := by decide +kernel
theorem dJ5_append_cf1ce_44 : decode cJ5_append_cf1ce 44 = .ok (.areturn, 1) := by decide +kernel
theorem wj_J5_append_cf1ce : ∀ w ∈ ([.fieldLink RJ5 79 "java/lang/AbstractStringBuilder" "count" "I"] : List Cond), w ∈ gb_J := by
  have h : ∀ w ∈ ([.fieldLink RJ5 79 "java/lang/AbstractStringBuilder" "count" "I"] : List Cond), w ∈ jsw ∨ (w ∈ lw_tbl ∧ goodWord w = true) := by decide +kernel
  exact gb_J_of h
set_option maxHeartbeats 4000000 in
theorem n_J5_append_cf1ce (l : Launch) (g : gb_G) (t1 t2 : Nat) (h q cap : Nat) (f : Nat → Int32) (T : List Nat) (S : List Nat) (sq sv sn : Nat) (sf : Nat → Int32) (hf : jF f T) (h0 : T.length ≤ cap) (h1 : cap ≤ 502) (h2 : T.length < 240) (hSt : jF sf S) (hn : sn = S.length) (h3 : sn ≤ 8) (sz : Nat) : Met l yJ5_append_cf1ce (.code yJ5_append_cf1ce cJ5_append_cf1ce 3 (some (.object "java/lang/AbstractStringBuilder")) :: gb_J) ({ frames := 10, cells := 1, slots := 502, locals := 500 }) (jm g (jCL t1 t2 sq sv sn sf) [.ref (h), .ref (sq)] ([(h, .inr (11, [.ref (q), .int 0, .int 0, .int (nI T.length)])), (q, .inl (g.2.2.2.2.1, cap, .inl (f)))] : va_W) sz) (jQr g (fun r w1 => r = h ∧ jSb g h (T ++ S) w1) (va_A ([(h, .inr (11, [.ref (q), .int 0, .int 0, .int (nI T.length)])), (q, .inl (g.2.2.2.2.1, cap, .inl (f)))] : va_W) sz)) 1 502 (va_A ([(h, .inr (11, [.ref (q), .int 0, .int 0, .int (nI T.length)])), (q, .inl (g.2.2.2.2.1, cap, .inl (f)))] : va_W) sz) := by
  refine Met.ofW (cc := cJ5_append_cf1ce) (maxL := 3) (ret := (some (.object "java/lang/AbstractStringBuilder"))) (by decide +kernel) rfl ?_
  intro p e s m args below meth c s₁ B hml hv
  obtain ⟨rfl, hsz, hP, hK, hD0, hC⟩ := hv
  have hx := B.exec
  have hb := B.bytes
  have hr := B.returns
  have hts0 := atoms_spec (ws := .code yJ5_append_cf1ce cJ5_append_cf1ce 3 (some (.object "java/lang/AbstractStringBuilder")) :: gb_J) B.pre
  have hts : ∀ w ∈ gb_J, w.before ([.ref (h), .ref (sq)] : List Value).toArray s = true := fun w hw => hts0 w (List.mem_cons_of_mem _ hw)
  have hown : s.vm.findClass RJ5 = some m.cls := findClass_of_methodNamed B.named
  have hlocks := B.notSynchronized
  subst hsz
  have hD := hD0.self (sz := s.heap.size)
  generalize hAe : va_A ([(h, .inr (11, [.ref (q), .int 0, .int 0, .int (nI T.length)])), (q, .inl (g.2.2.2.2.1, cap, .inl (f)))] : va_W) s.heap.size = A at hD hC ⊢
  have hA : ∀ q : Nat, s.heap.size ≤ q → A q := fun q h => by rw [← hAe]; exact Or.inr h
  have hS : va_S A s.heap s.heap [] := va_S.rf
  have hl := lv_entry ([.ref (h), .ref (sq)]) (n := 3) (Nat.le_of_ble_eq_true rfl)
  rw [lg_entry_eq]
  generalize (lg_sl ([.ref (h), .ref (sq)]) ++ List.replicate (3 - (lg_sl ([.ref (h), .ref (sq)])).length) Slot.unset).toArray = ls at hl ⊢
  have hl : lv_has ls 3 [(0, .ref (h)), (1, .ref (sq))] := hl
  refine lv_aload_n hx hb dJ5_append_cf1ce_0 rfl (lv_at hl 1 rfl) ?_
  refine lv_ifnonnull (tgt := 9) hx hb dJ5_append_cf1ce_1 (by decide) ?_
  refine lv_aload_n hx hb dJ5_append_cf1ce_9 rfl (lv_at hl 1 rfl) ?_
  refine vp_callSi (va_Run.run (va_runV (As := []) (rest := []) ⟨hx, hb, hml, hown, hts⟩ (n_J0_length_8abf5 l g t1 t2 sq sv sn sf) (cwV 0 hts gd_RJ5_32 rfl rfl rfl ⟨rfl, by decide +kernel, by decide +kernel, by decide +kernel⟩ ⟨Nat.le_of_ble_eq_true rfl, Nat.le_of_ble_eq_true rfl⟩) (jp_V (g := g) (jX_L t1 t2 sq sv sn sf) hK hC hS (hP.sub [] rfl) (by obtain ⟨cell, h1, h2, h3, -⟩ := hC.2.1.kept hS.2.1; exact ⟨cell, h1, h2, h3⟩)) rfl rfl hl.1 rfl (lv_room (Nat.le_of_ble_eq_true rfl)) dJ5_append_cf1ce_10 ⟨Nat.le_of_ble_eq_true rfl, Nat.le_of_ble_eq_true rfl⟩)) (fun r9 e9 => ?_)
  subst e9
  refine lv_istore_n (lv' := [(2, .int (nI sn)), (0, .ref (h)), (1, .ref (sq))]) hx hb dJ5_append_cf1ce_13 rfl hl (by decide) rfl (fun ls hl => ?_)
  refine lv_aload_n hx hb dJ5_append_cf1ce_14 rfl (lv_at hl 1 rfl) ?_
  refine lv_aload_n hx hb dJ5_append_cf1ce_15 rfl (lv_at hl 1 rfl) ?_
  refine va_get (D := (g.1, g.2.1)) (ci := 11) (v := .int (nI T.length)) (C := RJ4) (T := TJ4) (N := 4) hx hb hts winJ4 hown hK hP 0 rfl rfl 3 (by decide) (hts _ (wj_J5_append_cf1ce _ (List.mem_of_getElem? (i := 0) rfl))) (fun _ h9 => h9) rfl dJ5_append_cf1ce_16 ?_
  refine lv_iload_n hx hb dJ5_append_cf1ce_19 rfl (lv_at hl 0 rfl) ?_
  refine lv_iadd hx hb dJ5_append_cf1ce_20 ?_
  refine W.eq (g2 := F0 m 21 ls [.int (nI (T.length + sn)), .ref (h)]) (by rw [show ((nI T.length) + (nI sn) : Int32) = nI (T.length + sn) from nI_add _ _]) ?_
  refine j_v (wr := []) (wc := ([(h, .inr (11, [.ref (q), .int 0, .int 0, .int (nI T.length)])), (q, .inl (g.2.2.2.2.1, cap, .inl (f)))] : va_W)) (va_runU (As := [.int (nI (T.length + sn))]) (rest := []) ⟨hx, hb, hml, hown, hts⟩ (n_J5_ensureCapacityInternal_d00df l g t1 t2 h q cap T.length f (T.length + sn) hf.1 h1 (by omega) _) (va_cwU 1 hts gd_RJ5_100 rfl rfl rfl rfl ⟨by decide +kernel, by decide +kernel, by decide +kernel⟩ ⟨Nat.le_of_ble_eq_true rfl, Nat.le_of_ble_eq_true rfl⟩) (jm_V (g := g) (jX_0 t1 t2) hK hC.1 hS hP hD hA (va_recv hK hP (ci := 11) (q0 := 0) rfl rfl)) rfl rfl hl.1 rfl (lv_room (Nat.le_of_ble_eq_true rfl)) dJ5_append_cf1ce_21 ⟨Nat.le_of_ble_eq_true rfl, Nat.le_of_ble_eq_true rfl⟩) hP hD hS hA (fun w1 H locs hw hP hD hS => ?_)
  obtain ⟨q1, c1, f1, rfl, f2, f3, f4, f5, f6⟩ := hw
  have hP : va_P (g.1, g.2.1) vwCl ([(h, .inr (11, [.ref (q1), .int 0, .int 0, .int (nI T.length)])), (q1, .inl (g.2.2.2.2.1, c1, .inl (f1)))] : va_W) H := hP
  have hD : va_D A ([(h, .inr (11, [.ref (q1), .int 0, .int 0, .int (nI T.length)])), (q1, .inl (g.2.2.2.2.1, c1, .inl (f1)))] : va_W) := hD
  refine lv_aload_n hx hb dJ5_append_cf1ce_24 rfl (lv_at hl 1 rfl) ?_
  refine lv_aload_n hx hb dJ5_append_cf1ce_25 rfl (lv_at hl 1 rfl) ?_
  refine va_get (D := (g.1, g.2.1)) (ci := 11) (v := .int (nI T.length)) (C := RJ4) (T := TJ4) (N := 4) hx hb hts winJ4 hown hK hP 0 rfl rfl 3 (by decide) (hts _ (wj_J5_append_cf1ce _ (List.mem_of_getElem? (i := 0) rfl))) (fun _ h9 => h9) rfl dJ5_append_cf1ce_26 ?_
  refine lv_aload_n hx hb dJ5_append_cf1ce_29 rfl (lv_at hl 2 rfl) ?_
  refine j_v (wr := []) (wc := ([(h, .inr (11, [.ref (q1), .int 0, .int 0, .int (nI T.length)])), (q1, .inl (g.2.2.2.2.1, c1, .inl (f1)))] : va_W)) (va_runU (As := [.int (nI T.length), .ref (sq)]) (rest := []) ⟨hx, hb, hml, hown, hts⟩ (n_J5_putStringAt_47b60 l g t1 t2 h q1 c1 T.length f1 sq sv sn sf f2 hSt.1 f4 f6 _) (va_cwU 2 hts gd_RJ5_208 rfl rfl rfl rfl ⟨by decide +kernel, by decide +kernel, by decide +kernel⟩ ⟨Nat.le_of_ble_eq_true rfl, Nat.le_of_ble_eq_true rfl⟩) (jm_V (g := g) (jX_L t1 t2 sq sv sn sf) hK hC hS hP hD hA (va_recv hK hP (ci := 11) (q0 := 0) rfl rfl)) rfl rfl hl.1 rfl (lv_room (Nat.le_of_ble_eq_true rfl)) dJ5_append_cf1ce_30 ⟨Nat.le_of_ble_eq_true rfl, Nat.le_of_ble_eq_true rfl⟩) hP hD hS hA (fun w1 H locs hw hP hD hS => ?_)
  obtain ⟨f7, rfl, f8⟩ := hw
  have hP : va_P (g.1, g.2.1) vwCl ([(h, .inr (11, [.ref (q1), .int 0, .int 0, .int (nI T.length)])), (q1, .inl (g.2.2.2.2.1, c1, .inl (f7)))] : va_W) H := hP
  have hD : va_D A ([(h, .inr (11, [.ref (q1), .int 0, .int 0, .int (nI T.length)])), (q1, .inl (g.2.2.2.2.1, c1, .inl (f7)))] : va_W) := hD
  refine lv_aload_n hx hb dJ5_append_cf1ce_33 rfl (lv_at hl 1 rfl) ?_
  refine lv_dup hx hb dJ5_append_cf1ce_34 rfl ?_
  refine va_get (D := (g.1, g.2.1)) (ci := 11) (v := .int (nI T.length)) (C := RJ4) (T := TJ4) (N := 4) hx hb hts winJ4 hown hK hP 0 rfl rfl 3 (by decide) (hts _ (wj_J5_append_cf1ce _ (List.mem_of_getElem? (i := 0) rfl))) (fun _ h9 => h9) rfl dJ5_append_cf1ce_35 ?_
  refine lv_iload_n hx hb dJ5_append_cf1ce_38 rfl (lv_at hl 0 rfl) ?_
  refine lv_iadd hx hb dJ5_append_cf1ce_39 ?_
  refine W.eq (g2 := F0 m 40 ls [.int (nI (T.length + sn)), .ref (h)]) (by rw [show ((nI T.length) + (nI sn) : Int32) = nI (T.length + sn) from nI_add _ _]) ?_
  refine va_put (D := (g.1, g.2.1)) (ci := 11) (v := .int (nI (T.length + sn))) (ty := tyJ4 3) (C := RJ4) (T := TJ4) (N := 4) hx hb hts winJ4 tyJ4 tyJ4_ok nmJ4 hown hK hP hD hS 0 rfl rfl 3 (by decide) (hts _ (wj_J5_append_cf1ce _ (List.mem_of_getElem? (i := 0) rfl))) (fun _ h9 => h9) rfl (tyJ4_ok 3 (by decide)) rfl rfl (Nat.le_of_ble_eq_true rfl) dJ5_append_cf1ce_40 (fun H locs hP hD hS => ?_)
  have hP : va_P (g.1, g.2.1) vwCl ([(h, .inr (11, [.ref (q1), .int 0, .int 0, .int (nI (T.length + sn))])), (q1, .inl (g.2.2.2.2.1, c1, .inl (f7)))] : va_W) H := hP
  have hD : va_D A ([(h, .inr (11, [.ref (q1), .int 0, .int 0, .int (nI (T.length + sn))])), (q1, .inl (g.2.2.2.2.1, c1, .inl (f7)))] : va_W) := hD
  refine lv_aload_n hx hb dJ5_append_cf1ce_43 rfl (lv_at hl 1 rfl) ?_
  refine W.widen (k := 1) (n := 502) (by first | exact Nat.le_of_ble_eq_true rfl | omega) (by first | exact Nat.le_of_ble_eq_true rfl | omega) ?_
  exact W.aret (v := .ref (h)) hx hb hr (Or.inl ⟨_, rfl⟩) (Or.inr ⟨_, rfl⟩) (fun t ht hW => ⟨⟨(), _, rfl, trivial, _, ⟨rfl, q1, c1, f7, by rw [List.length_append, hn], by rw [f8]; exact jF_app hf (jFit_cpy hSt.1 f2 _ _ _) (fun i hi => (jcpy_o hi).trans (f3 i (by omega))) (fun i hi => (jcpy_i (by omega)).trans (hSt.2 i hi)), by rw [List.length_append, ← hn]; exact f4, f6⟩, by rw [ht]; exact hP, hD⟩, hS.F ht⟩) hS.2.2 dJ5_append_cf1ce_44
theorem gd_RJ4_29 : GoodIn gb_J (va_wsSU RJ4 29 yJ5_append_cf1ce (.code yJ5_append_cf1ce cJ5_append_cf1ce 3 (some (.object "java/lang/AbstractStringBuilder")) :: gb_J)) := gj_in (l := [.methodLink RJ4 29 yJ5_append_cf1ce, .sameMethod yJ5_append_cf1ce.cls yJ5_append_cf1ce.cls yJ5_append_cf1ce.name yJ5_append_cf1ce.desc, .superclass RJ4 yJ5_append_cf1ce.cls, .instanceMethod yJ5_append_cf1ce, .initialized yJ5_append_cf1ce.cls]) (by
  have h : ∀ w ∈ ([.methodLink RJ4 29 yJ5_append_cf1ce, .sameMethod yJ5_append_cf1ce.cls yJ5_append_cf1ce.cls yJ5_append_cf1ce.name yJ5_append_cf1ce.desc, .superclass RJ4 yJ5_append_cf1ce.cls, .instanceMethod yJ5_append_cf1ce, .initialized yJ5_append_cf1ce.cls] ++ [.code yJ5_append_cf1ce cJ5_append_cf1ce 3 (some (.object "java/lang/AbstractStringBuilder"))] : List Cond), w ∈ jsw ∨ (w ∈ lw_tbl ∧ goodWord w = true) := by decide +kernel
  exact gb_J_of h)
theorem dJ4_append_15ec4_0 : decode cJ4_append_15ec4 0 = .ok (.aload_n 0, 1) := by decide +kernel
theorem dJ4_append_15ec4_1 : decode cJ4_append_15ec4 1 = .ok (.aload_n 1, 1) := by decide +kernel
theorem dJ4_append_15ec4_2 : decode cJ4_append_15ec4 2 = .ok (.invokespecial 29, 3) := by decide +kernel
theorem dJ4_append_15ec4_5 : decode cJ4_append_15ec4 5 = .ok (.pop, 1) := by decide +kernel
theorem dJ4_append_15ec4_6 : decode cJ4_append_15ec4 6 = .ok (.aload_n 0, 1) := by decide +kernel
theorem dJ4_append_15ec4_7 : decode cJ4_append_15ec4 7 = .ok (.areturn, 1) := by decide +kernel
set_option maxHeartbeats 4000000 in
theorem n_J4_append_15ec4 (l : Launch) (g : gb_G) (t1 t2 : Nat) (h q cap : Nat) (f : Nat → Int32) (T : List Nat) (S : List Nat) (sq sv sn : Nat) (sf : Nat → Int32) (hf : jF f T) (h0 : T.length ≤ cap) (h1 : cap ≤ 502) (h2 : T.length < 240) (hSt : jF sf S) (hn : sn = S.length) (h3 : sn ≤ 8) (sz : Nat) : Met l yJ4_append_15ec4 (.code yJ4_append_15ec4 cJ4_append_15ec4 2 (some (.object "java/lang/StringBuilder")) :: gb_J) ({ frames := 12, cells := 1, slots := 502, locals := 600 }) (jm g (jCL t1 t2 sq sv sn sf) [.ref (h), .ref (sq)] ([(h, .inr (11, [.ref (q), .int 0, .int 0, .int (nI T.length)])), (q, .inl (g.2.2.2.2.1, cap, .inl (f)))] : va_W) sz) (jQr g (fun r w1 => r = h ∧ jSb g h (T ++ S) w1) (va_A ([(h, .inr (11, [.ref (q), .int 0, .int 0, .int (nI T.length)])), (q, .inl (g.2.2.2.2.1, cap, .inl (f)))] : va_W) sz)) 1 502 (va_A ([(h, .inr (11, [.ref (q), .int 0, .int 0, .int (nI T.length)])), (q, .inl (g.2.2.2.2.1, cap, .inl (f)))] : va_W) sz) := by
  refine Met.ofW (cc := cJ4_append_15ec4) (maxL := 2) (ret := (some (.object "java/lang/StringBuilder"))) (by decide +kernel) rfl ?_
  intro p e s m args below meth c s₁ B hml hv
  obtain ⟨rfl, hsz, hP, hK, hD0, hC⟩ := hv
  have hx := B.exec
  have hb := B.bytes
  have hr := B.returns
  have hts0 := atoms_spec (ws := .code yJ4_append_15ec4 cJ4_append_15ec4 2 (some (.object "java/lang/StringBuilder")) :: gb_J) B.pre
  have hts : ∀ w ∈ gb_J, w.before ([.ref (h), .ref (sq)] : List Value).toArray s = true := fun w hw => hts0 w (List.mem_cons_of_mem _ hw)
  have hown : s.vm.findClass RJ4 = some m.cls := findClass_of_methodNamed B.named
  have hlocks := B.notSynchronized
  subst hsz
  have hD := hD0.self (sz := s.heap.size)
  generalize hAe : va_A ([(h, .inr (11, [.ref (q), .int 0, .int 0, .int (nI T.length)])), (q, .inl (g.2.2.2.2.1, cap, .inl (f)))] : va_W) s.heap.size = A at hD hC ⊢
  have hA : ∀ q : Nat, s.heap.size ≤ q → A q := fun q h => by rw [← hAe]; exact Or.inr h
  have hS : va_S A s.heap s.heap [] := va_S.rf
  have hl := lv_entry ([.ref (h), .ref (sq)]) (n := 2) (Nat.le_of_ble_eq_true rfl)
  rw [lg_entry_eq]
  generalize (lg_sl ([.ref (h), .ref (sq)]) ++ List.replicate (2 - (lg_sl ([.ref (h), .ref (sq)])).length) Slot.unset).toArray = ls at hl ⊢
  have hl : lv_has ls 2 [(0, .ref (h)), (1, .ref (sq))] := hl
  refine lv_aload_n hx hb dJ4_append_15ec4_0 rfl (lv_at hl 0 rfl) ?_
  refine lv_aload_n hx hb dJ4_append_15ec4_1 rfl (lv_at hl 1 rfl) ?_
  refine j_r (wr := []) (wc := ([(h, .inr (11, [.ref (q), .int 0, .int 0, .int (nI T.length)])), (q, .inl (g.2.2.2.2.1, cap, .inl (f)))] : va_W)) (va_runSU (C := RJ4) (j_cat hK) (As := [.ref (sq)]) (rest := []) ⟨hx, hb, hml, hown, hts⟩ (n_J5_append_cf1ce l g t1 t2 h q cap f T S sq sv sn sf hf h0 h1 h2 hSt hn h3 _) (va_cwSU 1 hts gd_RJ4_29 rfl rfl rfl ⟨by decide +kernel, by decide +kernel⟩ ⟨Nat.le_of_ble_eq_true rfl, Nat.le_of_ble_eq_true rfl⟩) (jm_V (g := g) (jX_L t1 t2 sq sv sn sf) hK hC hS hP hD hA (va_recv hK hP (ci := 11) (q0 := 0) rfl rfl)) rfl rfl hl.1 rfl (lv_room (Nat.le_of_ble_eq_true rfl)) dJ4_append_15ec4_2 ⟨Nat.le_of_ble_eq_true rfl, Nat.le_of_ble_eq_true rfl⟩) hP hD hS hA (fun r1 w1 H locs hw hP hD hS => ?_)
  obtain ⟨e9, q1, c1, f1, rfl, f2, f3, f4⟩ := hw
  have e9 := e9.symm
  subst e9
  have hP : va_P (g.1, g.2.1) vwCl ([(h, .inr (11, [.ref (q1), .int 0, .int 0, .int (nI (T ++ S).length)])), (q1, .inl (g.2.2.2.2.1, c1, .inl (f1)))] : va_W) H := hP
  have hD : va_D A ([(h, .inr (11, [.ref (q1), .int 0, .int 0, .int (nI (T ++ S).length)])), (q1, .inl (g.2.2.2.2.1, c1, .inl (f1)))] : va_W) := hD
  refine lv_pop hx hb dJ4_append_15ec4_5 rfl ?_
  refine lv_aload_n hx hb dJ4_append_15ec4_6 rfl (lv_at hl 0 rfl) ?_
  refine W.widen (k := 1) (n := 502) (by first | exact Nat.le_of_ble_eq_true rfl | omega) (by first | exact Nat.le_of_ble_eq_true rfl | omega) ?_
  exact W.aret (v := .ref (h)) hx hb hr (Or.inl ⟨_, rfl⟩) (Or.inr ⟨_, rfl⟩) (fun t ht hW => ⟨⟨(), _, rfl, trivial, _, ⟨rfl, q1, c1, f1, rfl, f2, f3, f4⟩, by rw [ht]; exact hP, hD⟩, hS.F ht⟩) hS.2.2 dJ4_append_15ec4_7
