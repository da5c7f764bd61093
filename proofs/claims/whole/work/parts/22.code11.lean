/-! CODE: printed by wip/whole/gen.py -/
theorem dX10_takers_0 : decode cX10_takers 0 = .ok (.aload_n 0, 1) := by decide +kernel
theorem dX10_takers_1 : decode cX10_takers 1 = .ok (.iconst 0, 1) := by decide +kernel
theorem dX10_takers_2 : decode cX10_takers 2 = .ok (.putfield 66, 3) := by decide +kernel
theorem dX10_takers_5 : decode cX10_takers 5 = .ok (.iload_n 1, 1) := by decide +kernel
theorem dX10_takers_6 : decode cX10_takers 6 = .ok (.invokestatic 241, 3) := by decide +kernel
theorem dX10_takers_9 : decode cX10_takers 9 = .ok (.ifCond .ne 5, 3) := by decide +kernel
theorem dX10_takers_12 : decode cX10_takers 12 = .ok (.iconst (-1), 1) := by decide +kernel
theorem dX10_takers_13 : decode cX10_takers 13 = .ok (.ireturn, 1) := by decide +kernel
theorem dX10_takers_14 : decode cX10_takers 14 = .ok (.iconst 0, 1) := by decide +kernel
theorem dX10_takers_15 : decode cX10_takers 15 = .ok (.istore_n 2, 1) := by decide +kernel
theorem dX10_takers_16 : decode cX10_takers 16 = .ok (.aload_n 0, 1) := by decide +kernel
theorem dX10_takers_17 : decode cX10_takers 17 = .ok (.iconst 0, 1) := by decide +kernel
theorem dX10_takers_18 : decode cX10_takers 18 = .ok (.putfield 70, 3) := by decide +kernel
theorem dX10_takers_21 : decode cX10_takers 21 = .ok (.iconst 0, 1) := by decide +kernel
theorem dX10_takers_22 : decode cX10_takers 22 = .ok (.istore_n 3, 1) := by decide +kernel
theorem dX10_takers_23 : decode cX10_takers 23 = .ok (.iload_n 3, 1) := by decide +kernel
theorem dX10_takers_24 : decode cX10_takers 24 = .ok (.bipush 6, 2) := by decide +kernel
theorem dX10_takers_26 : decode cX10_takers 26 = .ok (.if_icmp .ge 67, 3) := by decide +kernel
theorem dX10_takers_29 : decode cX10_takers 29 = .ok (.iconst 0, 1) := by decide +kernel
theorem dX10_takers_30 : decode cX10_takers 30 = .ok (.istore 4, 2) := by decide +kernel
theorem dX10_takers_32 : decode cX10_takers 32 = .ok (.iconst 0, 1) := by decide +kernel
theorem dX10_takers_33 : decode cX10_takers 33 = .ok (.istore 5, 2) := by decide +kernel
theorem dX10_takers_35 : decode cX10_takers 35 = .ok (.iload 5, 2) := by decide +kernel
theorem dX10_takers_37 : decode cX10_takers 37 = .ok (.bipush 6, 2) := by decide +kernel
theorem dX10_takers_39 : decode cX10_takers 39 = .ok (.if_icmp .ge 41, 3) := by decide +kernel
theorem dX10_takers_42 : decode cX10_takers 42 = .ok (.aload_n 0, 1) := by decide +kernel
theorem dX10_takers_43 : decode cX10_takers 43 = .ok (.iload 5, 2) := by decide +kernel
theorem dX10_takers_45 : decode cX10_takers 45 = .ok (.iload_n 3, 1) := by decide +kernel
theorem dX10_takers_46 : decode cX10_takers 46 = .ok (.iload_n 1, 1) := by decide +kernel
theorem dX10_takers_47 : decode cX10_takers 47 = .ok (.aload_n 0, 1) := by decide +kernel
theorem dX10_takers_48 : decode cX10_takers 48 = .ok (.getfield 7, 3) := by decide +kernel
theorem dX10_takers_51 : decode cX10_takers 51 = .ok (.sipush 174, 3) := by decide +kernel
theorem dX10_takers_54 : decode cX10_takers 54 = .ok (.iaload, 1) := by decide +kernel
theorem dX10_takers_55 : decode cX10_takers 55 = .ok (.invokevirtual 244, 3) := by decide +kernel
theorem dX10_takers_58 : decode cX10_takers 58 = .ok (.ifCond .eq 6, 3) := by decide +kernel
theorem dX10_takers_61 : decode cX10_takers 61 = .ok (.goto 13, 3) := by decide +kernel
theorem dX10_takers_64 : decode cX10_takers 64 = .ok (.iload_n 2, 1) := by decide +kernel
theorem dX10_takers_65 : decode cX10_takers 65 = .ok (.iconst 1, 1) := by decide +kernel
theorem dX10_takers_66 : decode cX10_takers 66 = .ok (.iload 5, 2) := by decide +kernel
theorem dX10_takers_68 : decode cX10_takers 68 = .ok (.ishl, 1) := by decide +kernel
theorem dX10_takers_69 : decode cX10_takers 69 = .ok (.ior, 1) := by decide +kernel
theorem dX10_takers_70 : decode cX10_takers 70 = .ok (.istore_n 2, 1) := by decide +kernel
theorem dX10_takers_71 : decode cX10_takers 71 = .ok (.iinc 4 1, 3) := by decide +kernel
theorem dX10_takers_74 : decode cX10_takers 74 = .ok (.iinc 5 1, 3) := by decide +kernel
theorem dX10_takers_77 : decode cX10_takers 77 = .ok (.goto (-42), 3) := by decide +kernel
theorem dX10_takers_80 : decode cX10_takers 80 = .ok (.aload_n 0, 1) := by decide +kernel
theorem dX10_takers_81 : decode cX10_takers 81 = .ok (.iload 4, 2) := by decide +kernel
theorem dX10_takers_83 : decode cX10_takers 83 = .ok (.i2l, 1) := by decide +kernel
theorem dX10_takers_84 : decode cX10_takers 84 = .ok (.invokevirtual 259, 3) := by decide +kernel
theorem dX10_takers_87 : decode cX10_takers 87 = .ok (.iinc 3 1, 3) := by decide +kernel
theorem dX10_takers_90 : decode cX10_takers 90 = .ok (.goto (-67), 3) := by decide +kernel
theorem dX10_takers_93 : decode cX10_takers 93 = .ok (.iload_n 2, 1) := by decide +kernel
theorem dX10_takers_94 : decode cX10_takers 94 = .ok (.ireturn, 1) := by decide +kernel
theorem v_X10_takers : yX10_takers.cls = RX10 ∧ yX10_takers.cls ≠ "java/lang/invoke/MethodHandle" ∧ yX10_takers.cls ≠ "java/lang/invoke/VarHandle" ∧ (parseMethodDescriptor yX10_takers.desc).map (fun d => d.parameters.length) = some 1 := ⟨rfl, by decide +kernel, by decide +kernel, by decide +kernel⟩
noncomputable def k_X10_takers_0 (κ : gb_K) : gb_C := (o_al 0 (o_ci 0 (o_pf 10 10 (o_il 1 (o_cs 1 2 f_X10_isLoad (o_zeq (o_ci (-1) o_ri) (o_ci 0 (o_is 2 (o_al 0 (o_ci 0 (o_pf 10 9 (o_ci 0 (o_is 3 (o_j [0, 1, 2, 3] (κ 23)))))))))))))))
theorem l_X10_takers_0 : gb_Li (fun κ => k_X10_takers_0 κ) := (gb_li (q_al 0) (gb_li (q_ci 0) (gb_li (q_pf 10 10) (gb_li (q_il 1) (gb_li (q_cs 1 2 f_X10_isLoad) (q_zeq (gb_li (q_ci (-1)) (gb_li0 _)) (gb_li (q_ci 0) (gb_li (q_is 2) (gb_li (q_al 0) (gb_li (q_ci 0) (gb_li (q_pf 10 9) (gb_li (q_ci 0) (gb_li (q_is 3) (q_j [0, 1, 2, 3] 23))))))))))))))
theorem s_X10_takers_0   {κ : gb_K} (hκ : ∀ q, gb_S RX10 cX10_takers 6 (gb_rm 3 71) 1 q (κ q)) : gb_S RX10 cX10_takers 6 (gb_rm 3 71) 1 0 (k_X10_takers_0 κ) := (s_aln 0 rfl dX10_takers_0 (s_iconst (by decide +kernel) dX10_takers_1 (s_pf (T := TX10) winX10 rfl (Nat.le_of_ble_eq_true rfl) tyX10_ok nmX10 rfl (by decide +kernel) gw_546 rfl dX10_takers_2 (s_iln 1 rfl dX10_takers_5 (s_cs c_X10_isLoad (gb_l4 gw_713 gw_714 gw_553 gw_715) v_X10_isLoad.2 ⟨rfl, rfl⟩ ⟨Nat.le_of_ble_eq_true rfl, Nat.le_of_ble_eq_true rfl⟩ dX10_takers_6 (s_zne (tgt := 14) (by decide +kernel) dX10_takers_9 (s_iconst (by decide +kernel) dX10_takers_14 (s_isn 2 rfl (Nat.le_of_ble_eq_true rfl) dX10_takers_15 (s_aln 0 rfl dX10_takers_16 (s_iconst (by decide +kernel) dX10_takers_17 (s_pf (T := TX10) winX10 rfl (Nat.le_of_ble_eq_true rfl) tyX10_ok nmX10 rfl (by decide +kernel) gw_548 rfl dX10_takers_18 (s_iconst (by decide +kernel) dX10_takers_21 (s_isn 3 rfl (Nat.le_of_ble_eq_true rfl) dX10_takers_22 (s_j (hκ 23))))))))) (s_iconst (by decide +kernel) dX10_takers_12 (s_ri rfl dX10_takers_13))))))))
noncomputable def k_X10_takers_23 (κ : gb_K) : gb_C := (o_il 3 (o_ci 6 (o_cge (o_il 2 o_ri) (o_ci 0 (o_is 4 (o_ci 0 (o_is 5 (o_j [0, 1, 2, 3, 4, 5] (κ 35)))))))))
theorem l_X10_takers_23 : gb_Li (fun κ => k_X10_takers_23 κ) := (gb_li (q_il 3) (gb_li (q_ci 6) (q_cge (gb_li (q_il 2) (gb_li0 _)) (gb_li (q_ci 0) (gb_li (q_is 4) (gb_li (q_ci 0) (gb_li (q_is 5) (q_j [0, 1, 2, 3, 4, 5] 35))))))))
theorem s_X10_takers_23   {κ : gb_K} (hκ : ∀ q, gb_S RX10 cX10_takers 6 (gb_rm 3 71) 1 q (κ q)) : gb_S RX10 cX10_takers 6 (gb_rm 3 71) 1 23 (k_X10_takers_23 κ) := (s_iln 3 rfl dX10_takers_23 (s_bipush (by decide +kernel) dX10_takers_24 (s_cge (tgt := 93) (by decide +kernel) dX10_takers_26 (s_iln 2 rfl dX10_takers_93 (s_ri rfl dX10_takers_94)) (s_iconst (by decide +kernel) dX10_takers_29 (s_is (Nat.le_of_ble_eq_true rfl) dX10_takers_30 (s_iconst (by decide +kernel) dX10_takers_32 (s_is (Nat.le_of_ble_eq_true rfl) dX10_takers_33 (s_j (hκ 35)))))))))
noncomputable def k_X10_takers_74 (κ : gb_K) : gb_C := (o_inc 5 1 (o_j [0, 1, 2, 3, 4, 5] (κ 35)))
theorem l_X10_takers_74 : gb_Li (fun κ => k_X10_takers_74 κ) := (gb_li (q_inc 5 1) (q_j [0, 1, 2, 3, 4, 5] 35))
theorem s_X10_takers_74   {κ : gb_K} (hκ : ∀ q, gb_S RX10 cX10_takers 6 (gb_rm 3 71) 1 q (κ q)) : gb_S RX10 cX10_takers 6 (gb_rm 3 71) 1 74 (k_X10_takers_74 κ) := (s_inc (by decide +kernel) (Nat.le_of_ble_eq_true rfl) dX10_takers_74 (s_goto (tgt := 35) (by decide +kernel) dX10_takers_77 (s_j (hκ 35))))
noncomputable def k_X10_takers_35 (κ : gb_K) : gb_C := (o_il 5 (o_ci 6 (o_cge (o_al 0 (o_il 4 (o_i2l (o_cv 1 10 0 f_X10_tell (o_inc 3 1 (o_j [0, 1, 2, 3] (κ 23))))))) (o_al 0 (o_il 5 (o_il 3 (o_il 1 (o_al 0 (o_gf 10 0 (o_ci 174 (o_iald (o_cv 4 10 1 f_X10_whyNot (o_zeq (o_il 2 (o_ci 1 (o_il 5 (o_ib (fun x y => x <<< (y &&& 31)) (o_ib (fun x y => x ||| y) (o_is 2 (o_inc 4 1 (k_X10_takers_74 κ)))))))) (k_X10_takers_74 κ))))))))))))))
theorem l_X10_takers_35 : gb_Li (fun κ => k_X10_takers_35 κ) := (gb_li (q_il 5) (gb_li (q_ci 6) (q_cge (gb_li (q_al 0) (gb_li (q_il 4) (gb_li q_i2l (gb_li (q_cv 1 10 0 f_X10_tell) (gb_li (q_inc 3 1) (q_j [0, 1, 2, 3] 23)))))) (gb_li (q_al 0) (gb_li (q_il 5) (gb_li (q_il 3) (gb_li (q_il 1) (gb_li (q_al 0) (gb_li (q_gf 10 0) (gb_li (q_ci 174) (gb_li q_iald (gb_li (q_cv 4 10 1 f_X10_whyNot) (q_zeq (gb_li (q_il 2) (gb_li (q_ci 1) (gb_li (q_il 5) (gb_li (q_ib _) (gb_li (q_ib _) (gb_li (q_is 2) (gb_li (q_inc 4 1) (l_X10_takers_74)))))))) (l_X10_takers_74))))))))))))))
theorem s_X10_takers_35   {κ : gb_K} (hκ : ∀ q, gb_S RX10 cX10_takers 6 (gb_rm 3 71) 1 q (κ q)) : gb_S RX10 cX10_takers 6 (gb_rm 3 71) 1 35 (k_X10_takers_35 κ) := (s_il dX10_takers_35 (s_bipush (by decide +kernel) dX10_takers_37 (s_cge (tgt := 80) (by decide +kernel) dX10_takers_39 (s_aln 0 rfl dX10_takers_80 (s_il dX10_takers_81 (s_i2l dX10_takers_83 (s_cv (C := RX10) c_X10_tell rfl (gb_l5 gw_732 gw_733 gw_734 gw_553 gw_735) v_X10_tell ⟨rfl, rfl⟩ ⟨Nat.le_of_ble_eq_true rfl, Nat.le_of_ble_eq_true rfl⟩ dX10_takers_84 (s_inc (by decide +kernel) (Nat.le_of_ble_eq_true rfl) dX10_takers_87 (s_goto (tgt := 23) (by decide +kernel) dX10_takers_90 (s_j (hκ 23)))))))) (s_aln 0 rfl dX10_takers_42 (s_il dX10_takers_43 (s_iln 3 rfl dX10_takers_45 (s_iln 1 rfl dX10_takers_46 (s_aln 0 rfl dX10_takers_47 (s_gf (T := TX10) winX10 rfl (Nat.le_of_ble_eq_true rfl) gw_545 rfl dX10_takers_48 (s_sipush (by decide +kernel) dX10_takers_51 (s_iald dX10_takers_54 (s_cv (C := RX10) c_X10_whyNot rfl (gb_l5 gw_716 gw_717 gw_718 gw_553 gw_719) v_X10_whyNot ⟨rfl, rfl⟩ ⟨Nat.le_of_ble_eq_true rfl, Nat.le_of_ble_eq_true rfl⟩ dX10_takers_55 (s_zeq (tgt := 64) (by decide +kernel) dX10_takers_58 (s_iln 2 rfl dX10_takers_64 (s_iconst (by decide +kernel) dX10_takers_65 (s_il dX10_takers_66 (s_ishl dX10_takers_68 (s_ior dX10_takers_69 (s_isn 2 rfl (Nat.le_of_ble_eq_true rfl) dX10_takers_70 (s_inc (by decide +kernel) (Nat.le_of_ble_eq_true rfl) dX10_takers_71 (s_X10_takers_74 hκ)))))))) (s_goto (tgt := 74) (by decide +kernel) dX10_takers_61 (s_X10_takers_74 hκ)))))))))))))))
noncomputable def B_X10_takers : List (Nat × (gb_K → gb_C)) := [(23, fun κ => k_X10_takers_23 κ), (35, fun κ => k_X10_takers_35 κ)]
noncomputable def K_X10_takers : gb_K := gb_fx (gb_tb (B_X10_takers))
theorem L_X10_takers : ∀ q, gb_Li (fun κ => gb_tb (B_X10_takers) κ q) := gb_tb_li (List.forall_mem_cons.mpr ⟨l_X10_takers_23, List.forall_mem_cons.mpr ⟨l_X10_takers_35, (fun _ h => absurd h List.not_mem_nil)⟩⟩)
theorem S_X10_takers   : ∀ q, gb_S RX10 cX10_takers 6 (gb_rm 3 71) 1 q (K_X10_takers q) := fun q => gb_fx_S (L_X10_takers) (gb_tb_S (List.forall_mem_cons.mpr ⟨fun κ hκ => s_X10_takers_23 hκ, List.forall_mem_cons.mpr ⟨fun κ hκ => s_X10_takers_35 hκ, (fun _ h => absurd h List.not_mem_nil)⟩⟩)) q
noncomputable def f_X10_takers : gb_F := gb_hide (gb_mf 6 (k_X10_takers_0 (K_X10_takers)))
theorem c_X10_takers : ∀ l, gb_Met l yX10_takers cX10_takers 6 (some .int) 1 (gb_rm 3 71) f_X10_takers := gb_hide_c (gb_met (own := RX10) (rk := 1) rfl (by decide +kernel) ⟨rfl, rfl⟩ (s_X10_takers_0 (S_X10_takers)))
theorem dX10_room_0 : decode cX10_room 0 = .ok (.aload_n 0, 1) := by decide +kernel
theorem dX10_room_1 : decode cX10_room 1 = .ok (.iconst 0, 1) := by decide +kernel
theorem dX10_room_2 : decode cX10_room 2 = .ok (.putfield 66, 3) := by decide +kernel
theorem dX10_room_5 : decode cX10_room 5 = .ok (.iload_n 1, 1) := by decide +kernel
theorem dX10_room_6 : decode cX10_room 6 = .ok (.invokestatic 230, 3) := by decide +kernel
theorem dX10_room_9 : decode cX10_room 9 = .ok (.ifCond .ne 5, 3) := by decide +kernel
theorem dX10_room_12 : decode cX10_room 12 = .ok (.iconst (-1), 1) := by decide +kernel
theorem dX10_room_13 : decode cX10_room 13 = .ok (.ireturn, 1) := by decide +kernel
theorem dX10_room_14 : decode cX10_room 14 = .ok (.iconst 0, 1) := by decide +kernel
theorem dX10_room_15 : decode cX10_room 15 = .ok (.istore_n 2, 1) := by decide +kernel
theorem dX10_room_16 : decode cX10_room 16 = .ok (.iconst (-1), 1) := by decide +kernel
theorem dX10_room_17 : decode cX10_room 17 = .ok (.istore_n 3, 1) := by decide +kernel
theorem dX10_room_18 : decode cX10_room 18 = .ok (.iconst 0, 1) := by decide +kernel
theorem dX10_room_19 : decode cX10_room 19 = .ok (.istore 4, 2) := by decide +kernel
theorem dX10_room_21 : decode cX10_room 21 = .ok (.iload 4, 2) := by decide +kernel
theorem dX10_room_23 : decode cX10_room 23 = .ok (.bipush 6, 2) := by decide +kernel
theorem dX10_room_25 : decode cX10_room 25 = .ok (.if_icmp .ge 63, 3) := by decide +kernel
theorem dX10_room_28 : decode cX10_room 28 = .ok (.aload_n 0, 1) := by decide +kernel
theorem dX10_room_29 : decode cX10_room 29 = .ok (.getfield 7, 3) := by decide +kernel
theorem dX10_room_32 : decode cX10_room 32 = .ok (.bipush 48, 2) := by decide +kernel
theorem dX10_room_34 : decode cX10_room 34 = .ok (.iload 4, 2) := by decide +kernel
theorem dX10_room_36 : decode cX10_room 36 = .ok (.iadd, 1) := by decide +kernel
theorem dX10_room_37 : decode cX10_room 37 = .ok (.iaload, 1) := by decide +kernel
theorem dX10_room_38 : decode cX10_room 38 = .ok (.aload_n 0, 1) := by decide +kernel
theorem dX10_room_39 : decode cX10_room 39 = .ok (.iload 4, 2) := by decide +kernel
theorem dX10_room_41 : decode cX10_room 41 = .ok (.invokevirtual 138, 3) := by decide +kernel
theorem dX10_room_44 : decode cX10_room 44 = .ok (.isub, 1) := by decide +kernel
theorem dX10_room_45 : decode cX10_room 45 = .ok (.istore 5, 2) := by decide +kernel
theorem dX10_room_47 : decode cX10_room 47 = .ok (.iload 5, 2) := by decide +kernel
theorem dX10_room_49 : decode cX10_room 49 = .ok (.iload_n 2, 1) := by decide +kernel
theorem dX10_room_50 : decode cX10_room 50 = .ok (.if_icmp .le 32, 3) := by decide +kernel
theorem dX10_room_53 : decode cX10_room 53 = .ok (.aload_n 0, 1) := by decide +kernel
theorem dX10_room_54 : decode cX10_room 54 = .ok (.iload 4, 2) := by decide +kernel
theorem dX10_room_56 : decode cX10_room 56 = .ok (.iload_n 1, 1) := by decide +kernel
theorem dX10_room_57 : decode cX10_room 57 = .ok (.iload 5, 2) := by decide +kernel
theorem dX10_room_59 : decode cX10_room 59 = .ok (.aload_n 0, 1) := by decide +kernel
theorem dX10_room_60 : decode cX10_room 60 = .ok (.getfield 7, 3) := by decide +kernel
theorem dX10_room_63 : decode cX10_room 63 = .ok (.sipush 174, 3) := by decide +kernel
theorem dX10_room_66 : decode cX10_room 66 = .ok (.iaload, 1) := by decide +kernel
theorem dX10_room_67 : decode cX10_room 67 = .ok (.invokevirtual 244, 3) := by decide +kernel
theorem dX10_room_70 : decode cX10_room 70 = .ok (.ifCond .eq 6, 3) := by decide +kernel
theorem dX10_room_73 : decode cX10_room 73 = .ok (.goto 9, 3) := by decide +kernel
theorem dX10_room_76 : decode cX10_room 76 = .ok (.iload 5, 2) := by decide +kernel
theorem dX10_room_78 : decode cX10_room 78 = .ok (.istore_n 2, 1) := by decide +kernel
theorem dX10_room_79 : decode cX10_room 79 = .ok (.iload 4, 2) := by decide +kernel
theorem dX10_room_81 : decode cX10_room 81 = .ok (.istore_n 3, 1) := by decide +kernel
theorem dX10_room_82 : decode cX10_room 82 = .ok (.iinc 4 1, 3) := by decide +kernel
theorem dX10_room_85 : decode cX10_room 85 = .ok (.goto (-64), 3) := by decide +kernel
theorem dX10_room_88 : decode cX10_room 88 = .ok (.aload_n 0, 1) := by decide +kernel
theorem dX10_room_89 : decode cX10_room 89 = .ok (.iconst 0, 1) := by decide +kernel
theorem dX10_room_90 : decode cX10_room 90 = .ok (.putfield 70, 3) := by decide +kernel
theorem dX10_room_93 : decode cX10_room 93 = .ok (.aload_n 0, 1) := by decide +kernel
theorem dX10_room_94 : decode cX10_room 94 = .ok (.iload_n 3, 1) := by decide +kernel
theorem dX10_room_95 : decode cX10_room 95 = .ok (.i2l, 1) := by decide +kernel
theorem dX10_room_96 : decode cX10_room 96 = .ok (.invokevirtual 259, 3) := by decide +kernel
theorem dX10_room_99 : decode cX10_room 99 = .ok (.iload_n 2, 1) := by decide +kernel
theorem dX10_room_100 : decode cX10_room 100 = .ok (.ireturn, 1) := by decide +kernel
theorem v_X10_room : yX10_room.cls = RX10 ∧ yX10_room.cls ≠ "java/lang/invoke/MethodHandle" ∧ yX10_room.cls ≠ "java/lang/invoke/VarHandle" ∧ (parseMethodDescriptor yX10_room.desc).map (fun d => d.parameters.length) = some 1 := ⟨rfl, by decide +kernel, by decide +kernel, by decide +kernel⟩
noncomputable def k_X10_room_0 (κ : gb_K) : gb_C := (o_al 0 (o_ci 0 (o_pf 10 10 (o_il 1 (o_cs 1 2 f_X10_isGrade (o_zeq (o_ci (-1) o_ri) (o_ci 0 (o_is 2 (o_ci (-1) (o_is 3 (o_ci 0 (o_is 4 (o_j [0, 1, 2, 3, 4] (κ 21))))))))))))))
theorem l_X10_room_0 : gb_Li (fun κ => k_X10_room_0 κ) := (gb_li (q_al 0) (gb_li (q_ci 0) (gb_li (q_pf 10 10) (gb_li (q_il 1) (gb_li (q_cs 1 2 f_X10_isGrade) (q_zeq (gb_li (q_ci (-1)) (gb_li0 _)) (gb_li (q_ci 0) (gb_li (q_is 2) (gb_li (q_ci (-1)) (gb_li (q_is 3) (gb_li (q_ci 0) (gb_li (q_is 4) (q_j [0, 1, 2, 3, 4] 21)))))))))))))
theorem s_X10_room_0   {κ : gb_K} (hκ : ∀ q, gb_S RX10 cX10_room 6 (gb_rm 3 71) 1 q (κ q)) : gb_S RX10 cX10_room 6 (gb_rm 3 71) 1 0 (k_X10_room_0 κ) := (s_aln 0 rfl dX10_room_0 (s_iconst (by decide +kernel) dX10_room_1 (s_pf (T := TX10) winX10 rfl (Nat.le_of_ble_eq_true rfl) tyX10_ok nmX10 rfl (by decide +kernel) gw_546 rfl dX10_room_2 (s_iln 1 rfl dX10_room_5 (s_cs c_X10_isGrade (gb_l4 gw_698 gw_699 gw_553 gw_700) v_X10_isGrade.2 ⟨rfl, rfl⟩ ⟨Nat.le_of_ble_eq_true rfl, Nat.le_of_ble_eq_true rfl⟩ dX10_room_6 (s_zne (tgt := 14) (by decide +kernel) dX10_room_9 (s_iconst (by decide +kernel) dX10_room_14 (s_isn 2 rfl (Nat.le_of_ble_eq_true rfl) dX10_room_15 (s_iconst (by decide +kernel) dX10_room_16 (s_isn 3 rfl (Nat.le_of_ble_eq_true rfl) dX10_room_17 (s_iconst (by decide +kernel) dX10_room_18 (s_is (Nat.le_of_ble_eq_true rfl) dX10_room_19 (s_j (hκ 21)))))))) (s_iconst (by decide +kernel) dX10_room_12 (s_ri rfl dX10_room_13))))))))
noncomputable def k_X10_room_82 (κ : gb_K) : gb_C := (o_inc 4 1 (o_j [0, 1, 2, 3, 4] (κ 21)))
theorem l_X10_room_82 : gb_Li (fun κ => k_X10_room_82 κ) := (gb_li (q_inc 4 1) (q_j [0, 1, 2, 3, 4] 21))
theorem s_X10_room_82   {κ : gb_K} (hκ : ∀ q, gb_S RX10 cX10_room 6 (gb_rm 3 71) 1 q (κ q)) : gb_S RX10 cX10_room 6 (gb_rm 3 71) 1 82 (k_X10_room_82 κ) := (s_inc (by decide +kernel) (Nat.le_of_ble_eq_true rfl) dX10_room_82 (s_goto (tgt := 21) (by decide +kernel) dX10_room_85 (s_j (hκ 21))))
noncomputable def k_X10_room_81 (κ : gb_K) : gb_C := (o_is 3 (k_X10_room_82 κ))
theorem l_X10_room_81 : gb_Li (fun κ => k_X10_room_81 κ) := (gb_li (q_is 3) (l_X10_room_82))
theorem s_X10_room_81   {κ : gb_K} (hκ : ∀ q, gb_S RX10 cX10_room 6 (gb_rm 3 71) 1 q (κ q)) : gb_S RX10 cX10_room 6 (gb_rm 3 71) 1 81 (k_X10_room_81 κ) := (s_isn 3 rfl (Nat.le_of_ble_eq_true rfl) dX10_room_81 (s_X10_room_82 hκ))
noncomputable def k_X10_room_21 (κ : gb_K) : gb_C := (o_il 4 (o_ci 6 (o_cge (o_al 0 (o_ci 0 (o_pf 10 9 (o_al 0 (o_il 3 (o_i2l (o_cv 1 10 0 f_X10_tell (o_il 2 o_ri)))))))) (o_al 0 (o_gf 10 0 (o_ci 48 (o_il 4 (o_ib (fun x y => x + y) (o_iald (o_al 0 (o_il 4 (o_cv 1 10 1 f_X10_tonsIn (o_ib (fun x y => x - y) (o_is 5 (o_il 5 (o_il 2 (o_cle (k_X10_room_82 κ) (o_al 0 (o_il 4 (o_il 1 (o_il 5 (o_al 0 (o_gf 10 0 (o_ci 174 (o_iald (o_cv 4 10 1 f_X10_whyNot (o_zeq (o_il 5 (o_is 2 (o_il 4 (k_X10_room_81 κ)))) (k_X10_room_82 κ))))))))))))))))))))))))))))
theorem l_X10_room_21 : gb_Li (fun κ => k_X10_room_21 κ) := (gb_li (q_il 4) (gb_li (q_ci 6) (q_cge (gb_li (q_al 0) (gb_li (q_ci 0) (gb_li (q_pf 10 9) (gb_li (q_al 0) (gb_li (q_il 3) (gb_li q_i2l (gb_li (q_cv 1 10 0 f_X10_tell) (gb_li (q_il 2) (gb_li0 _))))))))) (gb_li (q_al 0) (gb_li (q_gf 10 0) (gb_li (q_ci 48) (gb_li (q_il 4) (gb_li (q_ib _) (gb_li q_iald (gb_li (q_al 0) (gb_li (q_il 4) (gb_li (q_cv 1 10 1 f_X10_tonsIn) (gb_li (q_ib _) (gb_li (q_is 5) (gb_li (q_il 5) (gb_li (q_il 2) (q_cle (l_X10_room_82) (gb_li (q_al 0) (gb_li (q_il 4) (gb_li (q_il 1) (gb_li (q_il 5) (gb_li (q_al 0) (gb_li (q_gf 10 0) (gb_li (q_ci 174) (gb_li q_iald (gb_li (q_cv 4 10 1 f_X10_whyNot) (q_zeq (gb_li (q_il 5) (gb_li (q_is 2) (gb_li (q_il 4) (l_X10_room_81)))) (l_X10_room_82))))))))))))))))))))))))))))
theorem s_X10_room_21   {κ : gb_K} (hκ : ∀ q, gb_S RX10 cX10_room 6 (gb_rm 3 71) 1 q (κ q)) : gb_S RX10 cX10_room 6 (gb_rm 3 71) 1 21 (k_X10_room_21 κ) := (s_il dX10_room_21 (s_bipush (by decide +kernel) dX10_room_23 (s_cge (tgt := 88) (by decide +kernel) dX10_room_25 (s_aln 0 rfl dX10_room_88 (s_iconst (by decide +kernel) dX10_room_89 (s_pf (T := TX10) winX10 rfl (Nat.le_of_ble_eq_true rfl) tyX10_ok nmX10 rfl (by decide +kernel) gw_548 rfl dX10_room_90 (s_aln 0 rfl dX10_room_93 (s_iln 3 rfl dX10_room_94 (s_i2l dX10_room_95 (s_cv (C := RX10) c_X10_tell rfl (gb_l5 gw_732 gw_733 gw_734 gw_553 gw_735) v_X10_tell ⟨rfl, rfl⟩ ⟨Nat.le_of_ble_eq_true rfl, Nat.le_of_ble_eq_true rfl⟩ dX10_room_96 (s_iln 2 rfl dX10_room_99 (s_ri rfl dX10_room_100))))))))) (s_aln 0 rfl dX10_room_28 (s_gf (T := TX10) winX10 rfl (Nat.le_of_ble_eq_true rfl) gw_545 rfl dX10_room_29 (s_bipush (by decide +kernel) dX10_room_32 (s_il dX10_room_34 (s_iadd dX10_room_36 (s_iald dX10_room_37 (s_aln 0 rfl dX10_room_38 (s_il dX10_room_39 (s_cv (C := RX10) c_X10_tonsIn rfl (gb_l5 gw_618 gw_619 gw_620 gw_553 gw_621) v_X10_tonsIn ⟨rfl, rfl⟩ ⟨Nat.le_of_ble_eq_true rfl, Nat.le_of_ble_eq_true rfl⟩ dX10_room_41 (s_isub dX10_room_44 (s_is (Nat.le_of_ble_eq_true rfl) dX10_room_45 (s_il dX10_room_47 (s_iln 2 rfl dX10_room_49 (s_cle (tgt := 82) (by decide +kernel) dX10_room_50 (s_X10_room_82 hκ) (s_aln 0 rfl dX10_room_53 (s_il dX10_room_54 (s_iln 1 rfl dX10_room_56 (s_il dX10_room_57 (s_aln 0 rfl dX10_room_59 (s_gf (T := TX10) winX10 rfl (Nat.le_of_ble_eq_true rfl) gw_545 rfl dX10_room_60 (s_sipush (by decide +kernel) dX10_room_63 (s_iald dX10_room_66 (s_cv (C := RX10) c_X10_whyNot rfl (gb_l5 gw_716 gw_717 gw_718 gw_553 gw_719) v_X10_whyNot ⟨rfl, rfl⟩ ⟨Nat.le_of_ble_eq_true rfl, Nat.le_of_ble_eq_true rfl⟩ dX10_room_67 (s_zeq (tgt := 76) (by decide +kernel) dX10_room_70 (s_il dX10_room_76 (s_isn 2 rfl (Nat.le_of_ble_eq_true rfl) dX10_room_78 (s_il dX10_room_79 (s_X10_room_81 hκ)))) (s_goto (tgt := 82) (by decide +kernel) dX10_room_73 (s_X10_room_82 hκ)))))))))))))))))))))))))))))
noncomputable def B_X10_room : List (Nat × (gb_K → gb_C)) := [(21, fun κ => k_X10_room_21 κ)]
noncomputable def K_X10_room : gb_K := gb_fx (gb_tb (B_X10_room))
theorem L_X10_room : ∀ q, gb_Li (fun κ => gb_tb (B_X10_room) κ q) := gb_tb_li (List.forall_mem_cons.mpr ⟨l_X10_room_21, (fun _ h => absurd h List.not_mem_nil)⟩)
theorem S_X10_room   : ∀ q, gb_S RX10 cX10_room 6 (gb_rm 3 71) 1 q (K_X10_room q) := fun q => gb_fx_S (L_X10_room) (gb_tb_S (List.forall_mem_cons.mpr ⟨fun κ hκ => s_X10_room_21 hκ, (fun _ h => absurd h List.not_mem_nil)⟩)) q
noncomputable def f_X10_room : gb_F := gb_hide (gb_mf 6 (k_X10_room_0 (K_X10_room)))
theorem c_X10_room : ∀ l, gb_Met l yX10_room cX10_room 6 (some .int) 1 (gb_rm 3 71) f_X10_room := gb_hide_c (gb_met (own := RX10) (rk := 1) rfl (by decide +kernel) ⟨rfl, rfl⟩ (s_X10_room_0 (S_X10_room)))
theorem dX10_bottom_0 : decode cX10_bottom 0 = .ok (.aload_n 0, 1) := by decide +kernel
theorem dX10_bottom_1 : decode cX10_bottom 1 = .ok (.iconst 0, 1) := by decide +kernel
theorem dX10_bottom_2 : decode cX10_bottom 2 = .ok (.putfield 66, 3) := by decide +kernel
theorem dX10_bottom_5 : decode cX10_bottom 5 = .ok (.iload_n 1, 1) := by decide +kernel
theorem dX10_bottom_6 : decode cX10_bottom 6 = .ok (.invokestatic 233, 3) := by decide +kernel
theorem dX10_bottom_9 : decode cX10_bottom 9 = .ok (.ifCond .ne 5, 3) := by decide +kernel
theorem dX10_bottom_12 : decode cX10_bottom 12 = .ok (.iconst (-1), 1) := by decide +kernel
theorem dX10_bottom_13 : decode cX10_bottom 13 = .ok (.ireturn, 1) := by decide +kernel
theorem dX10_bottom_14 : decode cX10_bottom 14 = .ok (.aload_n 0, 1) := by decide +kernel
theorem dX10_bottom_15 : decode cX10_bottom 15 = .ok (.iload_n 1, 1) := by decide +kernel
theorem dX10_bottom_16 : decode cX10_bottom 16 = .ok (.invokevirtual 84, 3) := by decide +kernel
theorem dX10_bottom_19 : decode cX10_bottom 19 = .ok (.ifCond .ne 6, 3) := by decide +kernel
theorem dX10_bottom_22 : decode cX10_bottom 22 = .ok (.bipush (-2), 2) := by decide +kernel
theorem dX10_bottom_24 : decode cX10_bottom 24 = .ok (.ireturn, 1) := by decide +kernel
theorem dX10_bottom_25 : decode cX10_bottom 25 = .ok (.aload_n 0, 1) := by decide +kernel
theorem dX10_bottom_26 : decode cX10_bottom 26 = .ok (.iload_n 1, 1) := by decide +kernel
theorem dX10_bottom_27 : decode cX10_bottom 27 = .ok (.iconst 0, 1) := by decide +kernel
theorem dX10_bottom_28 : decode cX10_bottom 28 = .ok (.iconst 0, 1) := by decide +kernel
theorem dX10_bottom_29 : decode cX10_bottom 29 = .ok (.invokevirtual 88, 3) := by decide +kernel
theorem dX10_bottom_32 : decode cX10_bottom 32 = .ok (.istore_n 2, 1) := by decide +kernel
theorem dX10_bottom_33 : decode cX10_bottom 33 = .ok (.iconst 0, 1) := by decide +kernel
theorem dX10_bottom_34 : decode cX10_bottom 34 = .ok (.istore_n 3, 1) := by decide +kernel
theorem dX10_bottom_35 : decode cX10_bottom 35 = .ok (.iload_n 3, 1) := by decide +kernel
theorem dX10_bottom_36 : decode cX10_bottom 36 = .ok (.aload_n 0, 1) := by decide +kernel
theorem dX10_bottom_37 : decode cX10_bottom 37 = .ok (.iload_n 1, 1) := by decide +kernel
theorem dX10_bottom_38 : decode cX10_bottom 38 = .ok (.invokevirtual 84, 3) := by decide +kernel
theorem dX10_bottom_41 : decode cX10_bottom 41 = .ok (.if_icmp .ge 20, 3) := by decide +kernel
theorem dX10_bottom_44 : decode cX10_bottom 44 = .ok (.aload_n 0, 1) := by decide +kernel
theorem dX10_bottom_45 : decode cX10_bottom 45 = .ok (.iload_n 1, 1) := by decide +kernel
theorem dX10_bottom_46 : decode cX10_bottom 46 = .ok (.iload_n 3, 1) := by decide +kernel
theorem dX10_bottom_47 : decode cX10_bottom 47 = .ok (.iconst 0, 1) := by decide +kernel
theorem dX10_bottom_48 : decode cX10_bottom 48 = .ok (.invokevirtual 88, 3) := by decide +kernel
theorem dX10_bottom_51 : decode cX10_bottom 51 = .ok (.iload_n 2, 1) := by decide +kernel
theorem dX10_bottom_52 : decode cX10_bottom 52 = .ok (.if_icmp .ne 9, 3) := by decide +kernel
theorem dX10_bottom_55 : decode cX10_bottom 55 = .ok (.iinc 3 1, 3) := by decide +kernel
theorem dX10_bottom_58 : decode cX10_bottom 58 = .ok (.goto (-23), 3) := by decide +kernel
theorem dX10_bottom_61 : decode cX10_bottom 61 = .ok (.aload_n 0, 1) := by decide +kernel
theorem dX10_bottom_62 : decode cX10_bottom 62 = .ok (.iconst 0, 1) := by decide +kernel
theorem dX10_bottom_63 : decode cX10_bottom 63 = .ok (.putfield 70, 3) := by decide +kernel
theorem dX10_bottom_66 : decode cX10_bottom 66 = .ok (.aload_n 0, 1) := by decide +kernel
theorem dX10_bottom_67 : decode cX10_bottom 67 = .ok (.aload_n 0, 1) := by decide +kernel
theorem dX10_bottom_68 : decode cX10_bottom 68 = .ok (.iload_n 1, 1) := by decide +kernel
theorem dX10_bottom_69 : decode cX10_bottom 69 = .ok (.iload_n 2, 1) := by decide +kernel
theorem dX10_bottom_70 : decode cX10_bottom 70 = .ok (.invokevirtual 285, 3) := by decide +kernel
theorem dX10_bottom_73 : decode cX10_bottom 73 = .ok (.i2l, 1) := by decide +kernel
theorem dX10_bottom_74 : decode cX10_bottom 74 = .ok (.invokevirtual 259, 3) := by decide +kernel
theorem dX10_bottom_77 : decode cX10_bottom 77 = .ok (.aload_n 0, 1) := by decide +kernel
theorem dX10_bottom_78 : decode cX10_bottom 78 = .ok (.iload_n 3, 1) := by decide +kernel
theorem dX10_bottom_79 : decode cX10_bottom 79 = .ok (.i2l, 1) := by decide +kernel
theorem dX10_bottom_80 : decode cX10_bottom 80 = .ok (.invokevirtual 259, 3) := by decide +kernel
theorem dX10_bottom_83 : decode cX10_bottom 83 = .ok (.iload_n 2, 1) := by decide +kernel
theorem dX10_bottom_84 : decode cX10_bottom 84 = .ok (.ireturn, 1) := by decide +kernel
theorem v_X10_bottom : yX10_bottom.cls = RX10 ∧ yX10_bottom.cls ≠ "java/lang/invoke/MethodHandle" ∧ yX10_bottom.cls ≠ "java/lang/invoke/VarHandle" ∧ (parseMethodDescriptor yX10_bottom.desc).map (fun d => d.parameters.length) = some 1 := ⟨rfl, by decide +kernel, by decide +kernel, by decide +kernel⟩
noncomputable def k_X10_bottom_0 (κ : gb_K) : gb_C := (o_al 0 (o_ci 0 (o_pf 10 10 (o_il 1 (o_cs 1 2 f_X10_isBin (o_zeq (o_ci (-1) o_ri) (o_al 0 (o_il 1 (o_cv 1 10 1 f_X10_many (o_zeq (o_ci (-2) o_ri) (o_al 0 (o_il 1 (o_ci 0 (o_ci 0 (o_cv 3 10 1 f_X10_layerOf (o_is 2 (o_ci 0 (o_is 3 (o_j [0, 1, 2, 3] (κ 35))))))))))))))))))))
theorem l_X10_bottom_0 : gb_Li (fun κ => k_X10_bottom_0 κ) := (gb_li (q_al 0) (gb_li (q_ci 0) (gb_li (q_pf 10 10) (gb_li (q_il 1) (gb_li (q_cs 1 2 f_X10_isBin) (q_zeq (gb_li (q_ci (-1)) (gb_li0 _)) (gb_li (q_al 0) (gb_li (q_il 1) (gb_li (q_cv 1 10 1 f_X10_many) (q_zeq (gb_li (q_ci (-2)) (gb_li0 _)) (gb_li (q_al 0) (gb_li (q_il 1) (gb_li (q_ci 0) (gb_li (q_ci 0) (gb_li (q_cv 3 10 1 f_X10_layerOf) (gb_li (q_is 2) (gb_li (q_ci 0) (gb_li (q_is 3) (q_j [0, 1, 2, 3] 35)))))))))))))))))))
theorem s_X10_bottom_0   {κ : gb_K} (hκ : ∀ q, gb_S RX10 cX10_bottom 4 (gb_rm 2 47) 1 q (κ q)) : gb_S RX10 cX10_bottom 4 (gb_rm 2 47) 1 0 (k_X10_bottom_0 κ) := (s_aln 0 rfl dX10_bottom_0 (s_iconst (by decide +kernel) dX10_bottom_1 (s_pf (T := TX10) winX10 rfl (Nat.le_of_ble_eq_true rfl) tyX10_ok nmX10 rfl (by decide +kernel) gw_546 rfl dX10_bottom_2 (s_iln 1 rfl dX10_bottom_5 (s_cs c_X10_isBin (gb_l4 gw_705 gw_706 gw_553 gw_707) v_X10_isBin.2 ⟨rfl, rfl⟩ ⟨Nat.le_of_ble_eq_true rfl, Nat.le_of_ble_eq_true rfl⟩ dX10_bottom_6 (s_zne (tgt := 14) (by decide +kernel) dX10_bottom_9 (s_aln 0 rfl dX10_bottom_14 (s_iln 1 rfl dX10_bottom_15 (s_cv (C := RX10) c_X10_many rfl (gb_l5 gw_557 gw_558 gw_559 gw_553 gw_560) v_X10_many ⟨rfl, rfl⟩ ⟨Nat.le_of_ble_eq_true rfl, Nat.le_of_ble_eq_true rfl⟩ dX10_bottom_16 (s_zne (tgt := 25) (by decide +kernel) dX10_bottom_19 (s_aln 0 rfl dX10_bottom_25 (s_iln 1 rfl dX10_bottom_26 (s_iconst (by decide +kernel) dX10_bottom_27 (s_iconst (by decide +kernel) dX10_bottom_28 (s_cv (C := RX10) c_X10_layerOf rfl (gb_l5 gw_561 gw_562 gw_563 gw_553 gw_564) v_X10_layerOf ⟨rfl, rfl⟩ ⟨Nat.le_of_ble_eq_true rfl, Nat.le_of_ble_eq_true rfl⟩ dX10_bottom_29 (s_isn 2 rfl (Nat.le_of_ble_eq_true rfl) dX10_bottom_32 (s_iconst (by decide +kernel) dX10_bottom_33 (s_isn 3 rfl (Nat.le_of_ble_eq_true rfl) dX10_bottom_34 (s_j (hκ 35)))))))))) (s_bipush (by decide +kernel) dX10_bottom_22 (s_ri rfl dX10_bottom_24)))))) (s_iconst (by decide +kernel) dX10_bottom_12 (s_ri rfl dX10_bottom_13))))))))
noncomputable def k_X10_bottom_61 (κ : gb_K) : gb_C := (o_al 0 (o_ci 0 (o_pf 10 9 (o_al 0 (o_al 0 (o_il 1 (o_il 2 (o_cv 2 10 1 f_X10_lowest (o_i2l (o_cv 1 10 0 f_X10_tell (o_al 0 (o_il 3 (o_i2l (o_cv 1 10 0 f_X10_tell (o_il 2 o_ri)))))))))))))))
theorem l_X10_bottom_61 : gb_Li (fun κ => k_X10_bottom_61 κ) := (gb_li (q_al 0) (gb_li (q_ci 0) (gb_li (q_pf 10 9) (gb_li (q_al 0) (gb_li (q_al 0) (gb_li (q_il 1) (gb_li (q_il 2) (gb_li (q_cv 2 10 1 f_X10_lowest) (gb_li q_i2l (gb_li (q_cv 1 10 0 f_X10_tell) (gb_li (q_al 0) (gb_li (q_il 3) (gb_li q_i2l (gb_li (q_cv 1 10 0 f_X10_tell) (gb_li (q_il 2) (gb_li0 _))))))))))))))))
theorem s_X10_bottom_61   {κ : gb_K} (hκ : ∀ q, gb_S RX10 cX10_bottom 4 (gb_rm 2 47) 1 q (κ q)) : gb_S RX10 cX10_bottom 4 (gb_rm 2 47) 1 61 (k_X10_bottom_61 κ) := (s_aln 0 rfl dX10_bottom_61 (s_iconst (by decide +kernel) dX10_bottom_62 (s_pf (T := TX10) winX10 rfl (Nat.le_of_ble_eq_true rfl) tyX10_ok nmX10 rfl (by decide +kernel) gw_548 rfl dX10_bottom_63 (s_aln 0 rfl dX10_bottom_66 (s_aln 0 rfl dX10_bottom_67 (s_iln 1 rfl dX10_bottom_68 (s_iln 2 rfl dX10_bottom_69 (s_cv (C := RX10) c_X10_lowest rfl (gb_l5 gw_760 gw_761 gw_762 gw_553 gw_763) v_X10_lowest ⟨rfl, rfl⟩ ⟨Nat.le_of_ble_eq_true rfl, Nat.le_of_ble_eq_true rfl⟩ dX10_bottom_70 (s_i2l dX10_bottom_73 (s_cv (C := RX10) c_X10_tell rfl (gb_l5 gw_732 gw_733 gw_734 gw_553 gw_735) v_X10_tell ⟨rfl, rfl⟩ ⟨Nat.le_of_ble_eq_true rfl, Nat.le_of_ble_eq_true rfl⟩ dX10_bottom_74 (s_aln 0 rfl dX10_bottom_77 (s_iln 3 rfl dX10_bottom_78 (s_i2l dX10_bottom_79 (s_cv (C := RX10) c_X10_tell rfl (gb_l5 gw_732 gw_733 gw_734 gw_553 gw_735) v_X10_tell ⟨rfl, rfl⟩ ⟨Nat.le_of_ble_eq_true rfl, Nat.le_of_ble_eq_true rfl⟩ dX10_bottom_80 (s_iln 2 rfl dX10_bottom_83 (s_ri rfl dX10_bottom_84))))))))))))))))
noncomputable def k_X10_bottom_35 (κ : gb_K) : gb_C := (o_il 3 (o_al 0 (o_il 1 (o_cv 1 10 1 f_X10_many (o_cge (k_X10_bottom_61 κ) (o_al 0 (o_il 1 (o_il 3 (o_ci 0 (o_cv 3 10 1 f_X10_layerOf (o_il 2 (o_ceq (o_inc 3 1 (o_j [0, 1, 2, 3] (κ 35))) (k_X10_bottom_61 κ)))))))))))))
theorem l_X10_bottom_35 : gb_Li (fun κ => k_X10_bottom_35 κ) := (gb_li (q_il 3) (gb_li (q_al 0) (gb_li (q_il 1) (gb_li (q_cv 1 10 1 f_X10_many) (q_cge (l_X10_bottom_61) (gb_li (q_al 0) (gb_li (q_il 1) (gb_li (q_il 3) (gb_li (q_ci 0) (gb_li (q_cv 3 10 1 f_X10_layerOf) (gb_li (q_il 2) (q_ceq (gb_li (q_inc 3 1) (q_j [0, 1, 2, 3] 35)) (l_X10_bottom_61)))))))))))))
theorem s_X10_bottom_35   {κ : gb_K} (hκ : ∀ q, gb_S RX10 cX10_bottom 4 (gb_rm 2 47) 1 q (κ q)) : gb_S RX10 cX10_bottom 4 (gb_rm 2 47) 1 35 (k_X10_bottom_35 κ) := (s_iln 3 rfl dX10_bottom_35 (s_aln 0 rfl dX10_bottom_36 (s_iln 1 rfl dX10_bottom_37 (s_cv (C := RX10) c_X10_many rfl (gb_l5 gw_557 gw_558 gw_559 gw_553 gw_560) v_X10_many ⟨rfl, rfl⟩ ⟨Nat.le_of_ble_eq_true rfl, Nat.le_of_ble_eq_true rfl⟩ dX10_bottom_38 (s_cge (tgt := 61) (by decide +kernel) dX10_bottom_41 (s_X10_bottom_61 hκ) (s_aln 0 rfl dX10_bottom_44 (s_iln 1 rfl dX10_bottom_45 (s_iln 3 rfl dX10_bottom_46 (s_iconst (by decide +kernel) dX10_bottom_47 (s_cv (C := RX10) c_X10_layerOf rfl (gb_l5 gw_561 gw_562 gw_563 gw_553 gw_564) v_X10_layerOf ⟨rfl, rfl⟩ ⟨Nat.le_of_ble_eq_true rfl, Nat.le_of_ble_eq_true rfl⟩ dX10_bottom_48 (s_iln 2 rfl dX10_bottom_51 (s_cne (tgt := 61) (by decide +kernel) dX10_bottom_52 (s_X10_bottom_61 hκ) (s_inc (by decide +kernel) (Nat.le_of_ble_eq_true rfl) dX10_bottom_55 (s_goto (tgt := 35) (by decide +kernel) dX10_bottom_58 (s_j (hκ 35))))))))))))))))
noncomputable def B_X10_bottom : List (Nat × (gb_K → gb_C)) := [(35, fun κ => k_X10_bottom_35 κ)]
noncomputable def K_X10_bottom : gb_K := gb_fx (gb_tb (B_X10_bottom))
theorem L_X10_bottom : ∀ q, gb_Li (fun κ => gb_tb (B_X10_bottom) κ q) := gb_tb_li (List.forall_mem_cons.mpr ⟨l_X10_bottom_35, (fun _ h => absurd h List.not_mem_nil)⟩)
theorem S_X10_bottom   : ∀ q, gb_S RX10 cX10_bottom 4 (gb_rm 2 47) 1 q (K_X10_bottom q) := fun q => gb_fx_S (L_X10_bottom) (gb_tb_S (List.forall_mem_cons.mpr ⟨fun κ hκ => s_X10_bottom_35 hκ, (fun _ h => absurd h List.not_mem_nil)⟩)) q
noncomputable def f_X10_bottom : gb_F := gb_hide (gb_mf 4 (k_X10_bottom_0 (K_X10_bottom)))
theorem c_X10_bottom : ∀ l, gb_Met l yX10_bottom cX10_bottom 4 (some .int) 1 (gb_rm 2 47) f_X10_bottom := gb_hide_c (gb_met (own := RX10) (rk := 1) rfl (by decide +kernel) ⟨rfl, rfl⟩ (s_X10_bottom_0 (S_X10_bottom)))
theorem dX10_below_0 : decode cX10_below 0 = .ok (.iconst 0, 1) := by decide +kernel
theorem dX10_below_1 : decode cX10_below 1 = .ok (.istore 4, 2) := by decide +kernel
theorem dX10_below_3 : decode cX10_below 3 = .ok (.iconst 0, 1) := by decide +kernel
theorem dX10_below_4 : decode cX10_below 4 = .ok (.istore 5, 2) := by decide +kernel
theorem dX10_below_6 : decode cX10_below 6 = .ok (.iconst 0, 1) := by decide +kernel
theorem dX10_below_7 : decode cX10_below 7 = .ok (.istore 6, 2) := by decide +kernel
theorem dX10_below_9 : decode cX10_below 9 = .ok (.iload 6, 2) := by decide +kernel
theorem dX10_below_11 : decode cX10_below 11 = .ok (.aload_n 0, 1) := by decide +kernel
theorem dX10_below_12 : decode cX10_below 12 = .ok (.iload_n 1, 1) := by decide +kernel
theorem dX10_below_13 : decode cX10_below 13 = .ok (.invokevirtual 84, 3) := by decide +kernel
theorem dX10_below_16 : decode cX10_below 16 = .ok (.if_icmp .ge 63, 3) := by decide +kernel
theorem dX10_below_19 : decode cX10_below 19 = .ok (.aload_n 0, 1) := by decide +kernel
theorem dX10_below_20 : decode cX10_below 20 = .ok (.iload_n 1, 1) := by decide +kernel
theorem dX10_below_21 : decode cX10_below 21 = .ok (.iload 6, 2) := by decide +kernel
theorem dX10_below_23 : decode cX10_below 23 = .ok (.iconst 1, 1) := by decide +kernel
theorem dX10_below_24 : decode cX10_below 24 = .ok (.invokevirtual 88, 3) := by decide +kernel
theorem dX10_below_27 : decode cX10_below 27 = .ok (.istore 7, 2) := by decide +kernel
theorem dX10_below_29 : decode cX10_below 29 = .ok (.aload_n 0, 1) := by decide +kernel
theorem dX10_below_30 : decode cX10_below 30 = .ok (.iload_n 1, 1) := by decide +kernel
theorem dX10_below_31 : decode cX10_below 31 = .ok (.iload 6, 2) := by decide +kernel
theorem dX10_below_33 : decode cX10_below 33 = .ok (.iconst 0, 1) := by decide +kernel
theorem dX10_below_34 : decode cX10_below 34 = .ok (.invokevirtual 88, 3) := by decide +kernel
theorem dX10_below_37 : decode cX10_below 37 = .ok (.iload_n 2, 1) := by decide +kernel
theorem dX10_below_38 : decode cX10_below 38 = .ok (.if_icmp .eq 19, 3) := by decide +kernel
theorem dX10_below_41 : decode cX10_below 41 = .ok (.iload 4, 2) := by decide +kernel
theorem dX10_below_43 : decode cX10_below 43 = .ok (.iload 5, 2) := by decide +kernel
theorem dX10_below_45 : decode cX10_below 45 = .ok (.iload 7, 2) := by decide +kernel
theorem dX10_below_47 : decode cX10_below 47 = .ok (.iadd, 1) := by decide +kernel
theorem dX10_below_48 : decode cX10_below 48 = .ok (.iadd, 1) := by decide +kernel
theorem dX10_below_49 : decode cX10_below 49 = .ok (.istore 4, 2) := by decide +kernel
theorem dX10_below_51 : decode cX10_below 51 = .ok (.iconst 0, 1) := by decide +kernel
theorem dX10_below_52 : decode cX10_below 52 = .ok (.istore 5, 2) := by decide +kernel
theorem dX10_below_54 : decode cX10_below 54 = .ok (.goto 19, 3) := by decide +kernel
theorem dX10_below_57 : decode cX10_below 57 = .ok (.iload 5, 2) := by decide +kernel
theorem dX10_below_59 : decode cX10_below 59 = .ok (.iload 7, 2) := by decide +kernel
theorem dX10_below_61 : decode cX10_below 61 = .ok (.iadd, 1) := by decide +kernel
theorem dX10_below_62 : decode cX10_below 62 = .ok (.istore 5, 2) := by decide +kernel
theorem dX10_below_64 : decode cX10_below 64 = .ok (.iload 5, 2) := by decide +kernel
theorem dX10_below_66 : decode cX10_below 66 = .ok (.iload_n 3, 1) := by decide +kernel
theorem dX10_below_67 : decode cX10_below 67 = .ok (.if_icmp .lt 6, 3) := by decide +kernel
theorem dX10_below_70 : decode cX10_below 70 = .ok (.iload 4, 2) := by decide +kernel
theorem dX10_below_72 : decode cX10_below 72 = .ok (.ireturn, 1) := by decide +kernel
theorem dX10_below_73 : decode cX10_below 73 = .ok (.iinc 6 1, 3) := by decide +kernel
theorem dX10_below_76 : decode cX10_below 76 = .ok (.goto (-67), 3) := by decide +kernel
theorem dX10_below_79 : decode cX10_below 79 = .ok (.iconst (-1), 1) := by decide +kernel
theorem dX10_below_80 : decode cX10_below 80 = .ok (.ireturn, 1) := by decide +kernel
theorem v_X10_below : yX10_below.cls = RX10 ∧ yX10_below.cls ≠ "java/lang/invoke/MethodHandle" ∧ yX10_below.cls ≠ "java/lang/invoke/VarHandle" ∧ (parseMethodDescriptor yX10_below.desc).map (fun d => d.parameters.length) = some 3 := ⟨rfl, by decide +kernel, by decide +kernel, by decide +kernel⟩
noncomputable def k_X10_below_0 (κ : gb_K) : gb_C := (o_ci 0 (o_is 4 (o_ci 0 (o_is 5 (o_ci 0 (o_is 6 (o_j [0, 1, 2, 3, 4, 5, 6] (κ 9))))))))
theorem l_X10_below_0 : gb_Li (fun κ => k_X10_below_0 κ) := (gb_li (q_ci 0) (gb_li (q_is 4) (gb_li (q_ci 0) (gb_li (q_is 5) (gb_li (q_ci 0) (gb_li (q_is 6) (q_j [0, 1, 2, 3, 4, 5, 6] 9)))))))
theorem s_X10_below_0   {κ : gb_K} (hκ : ∀ q, gb_S RX10 cX10_below 8 (gb_rm 1 23) 1 q (κ q)) : gb_S RX10 cX10_below 8 (gb_rm 1 23) 1 0 (k_X10_below_0 κ) := (s_iconst (by decide +kernel) dX10_below_0 (s_is (Nat.le_of_ble_eq_true rfl) dX10_below_1 (s_iconst (by decide +kernel) dX10_below_3 (s_is (Nat.le_of_ble_eq_true rfl) dX10_below_4 (s_iconst (by decide +kernel) dX10_below_6 (s_is (Nat.le_of_ble_eq_true rfl) dX10_below_7 (s_j (hκ 9))))))))
noncomputable def k_X10_below_73 (κ : gb_K) : gb_C := (o_inc 6 1 (o_j [0, 1, 2, 3, 4, 5, 6] (κ 9)))
theorem l_X10_below_73 : gb_Li (fun κ => k_X10_below_73 κ) := (gb_li (q_inc 6 1) (q_j [0, 1, 2, 3, 4, 5, 6] 9))
theorem s_X10_below_73   {κ : gb_K} (hκ : ∀ q, gb_S RX10 cX10_below 8 (gb_rm 1 23) 1 q (κ q)) : gb_S RX10 cX10_below 8 (gb_rm 1 23) 1 73 (k_X10_below_73 κ) := (s_inc (by decide +kernel) (Nat.le_of_ble_eq_true rfl) dX10_below_73 (s_goto (tgt := 9) (by decide +kernel) dX10_below_76 (s_j (hκ 9))))
noncomputable def k_X10_below_9 (κ : gb_K) : gb_C := (o_il 6 (o_al 0 (o_il 1 (o_cv 1 10 1 f_X10_many (o_cge (o_ci (-1) o_ri) (o_al 0 (o_il 1 (o_il 6 (o_ci 1 (o_cv 3 10 1 f_X10_layerOf (o_is 7 (o_al 0 (o_il 1 (o_il 6 (o_ci 0 (o_cv 3 10 1 f_X10_layerOf (o_il 2 (o_ceq (o_il 5 (o_il 7 (o_ib (fun x y => x + y) (o_is 5 (o_il 5 (o_il 3 (o_clt (k_X10_below_73 κ) (o_il 4 o_ri)))))))) (o_il 4 (o_il 5 (o_il 7 (o_ib (fun x y => x + y) (o_ib (fun x y => x + y) (o_is 4 (o_ci 0 (o_is 5 (k_X10_below_73 κ)))))))))))))))))))))))))))
theorem l_X10_below_9 : gb_Li (fun κ => k_X10_below_9 κ) := (gb_li (q_il 6) (gb_li (q_al 0) (gb_li (q_il 1) (gb_li (q_cv 1 10 1 f_X10_many) (q_cge (gb_li (q_ci (-1)) (gb_li0 _)) (gb_li (q_al 0) (gb_li (q_il 1) (gb_li (q_il 6) (gb_li (q_ci 1) (gb_li (q_cv 3 10 1 f_X10_layerOf) (gb_li (q_is 7) (gb_li (q_al 0) (gb_li (q_il 1) (gb_li (q_il 6) (gb_li (q_ci 0) (gb_li (q_cv 3 10 1 f_X10_layerOf) (gb_li (q_il 2) (q_ceq (gb_li (q_il 5) (gb_li (q_il 7) (gb_li (q_ib _) (gb_li (q_is 5) (gb_li (q_il 5) (gb_li (q_il 3) (q_clt (l_X10_below_73) (gb_li (q_il 4) (gb_li0 _))))))))) (gb_li (q_il 4) (gb_li (q_il 5) (gb_li (q_il 7) (gb_li (q_ib _) (gb_li (q_ib _) (gb_li (q_is 4) (gb_li (q_ci 0) (gb_li (q_is 5) (l_X10_below_73)))))))))))))))))))))))))))
theorem s_X10_below_9   {κ : gb_K} (hκ : ∀ q, gb_S RX10 cX10_below 8 (gb_rm 1 23) 1 q (κ q)) : gb_S RX10 cX10_below 8 (gb_rm 1 23) 1 9 (k_X10_below_9 κ) := (s_il dX10_below_9 (s_aln 0 rfl dX10_below_11 (s_iln 1 rfl dX10_below_12 (s_cv (C := RX10) c_X10_many rfl (gb_l5 gw_557 gw_558 gw_559 gw_553 gw_560) v_X10_many ⟨rfl, rfl⟩ ⟨Nat.le_of_ble_eq_true rfl, Nat.le_of_ble_eq_true rfl⟩ dX10_below_13 (s_cge (tgt := 79) (by decide +kernel) dX10_below_16 (s_iconst (by decide +kernel) dX10_below_79 (s_ri rfl dX10_below_80)) (s_aln 0 rfl dX10_below_19 (s_iln 1 rfl dX10_below_20 (s_il dX10_below_21 (s_iconst (by decide +kernel) dX10_below_23 (s_cv (C := RX10) c_X10_layerOf rfl (gb_l5 gw_561 gw_562 gw_563 gw_553 gw_564) v_X10_layerOf ⟨rfl, rfl⟩ ⟨Nat.le_of_ble_eq_true rfl, Nat.le_of_ble_eq_true rfl⟩ dX10_below_24 (s_is (Nat.le_of_ble_eq_true rfl) dX10_below_27 (s_aln 0 rfl dX10_below_29 (s_iln 1 rfl dX10_below_30 (s_il dX10_below_31 (s_iconst (by decide +kernel) dX10_below_33 (s_cv (C := RX10) c_X10_layerOf rfl (gb_l5 gw_561 gw_562 gw_563 gw_553 gw_564) v_X10_layerOf ⟨rfl, rfl⟩ ⟨Nat.le_of_ble_eq_true rfl, Nat.le_of_ble_eq_true rfl⟩ dX10_below_34 (s_iln 2 rfl dX10_below_37 (s_ceq (tgt := 57) (by decide +kernel) dX10_below_38 (s_il dX10_below_57 (s_il dX10_below_59 (s_iadd dX10_below_61 (s_is (Nat.le_of_ble_eq_true rfl) dX10_below_62 (s_il dX10_below_64 (s_iln 3 rfl dX10_below_66 (s_clt (tgt := 73) (by decide +kernel) dX10_below_67 (s_X10_below_73 hκ) (s_il dX10_below_70 (s_ri rfl dX10_below_72))))))))) (s_il dX10_below_41 (s_il dX10_below_43 (s_il dX10_below_45 (s_iadd dX10_below_47 (s_iadd dX10_below_48 (s_is (Nat.le_of_ble_eq_true rfl) dX10_below_49 (s_iconst (by decide +kernel) dX10_below_51 (s_is (Nat.le_of_ble_eq_true rfl) dX10_below_52 (s_goto (tgt := 73) (by decide +kernel) dX10_below_54 (s_X10_below_73 hκ))))))))))))))))))))))))))))
noncomputable def B_X10_below : List (Nat × (gb_K → gb_C)) := [(9, fun κ => k_X10_below_9 κ)]
noncomputable def K_X10_below : gb_K := gb_fx (gb_tb (B_X10_below))
theorem L_X10_below : ∀ q, gb_Li (fun κ => gb_tb (B_X10_below) κ q) := gb_tb_li (List.forall_mem_cons.mpr ⟨l_X10_below_9, (fun _ h => absurd h List.not_mem_nil)⟩)
theorem S_X10_below   : ∀ q, gb_S RX10 cX10_below 8 (gb_rm 1 23) 1 q (K_X10_below q) := fun q => gb_fx_S (L_X10_below) (gb_tb_S (List.forall_mem_cons.mpr ⟨fun κ hκ => s_X10_below_9 hκ, (fun _ h => absurd h List.not_mem_nil)⟩)) q
noncomputable def f_X10_below : gb_F := gb_hide (gb_mf 8 (k_X10_below_0 (K_X10_below)))
theorem c_X10_below : ∀ l, gb_Met l yX10_below cX10_below 8 (some .int) 1 (gb_rm 1 23) f_X10_below := gb_hide_c (gb_met (own := RX10) (rk := 1) rfl (by decide +kernel) ⟨rfl, rfl⟩ (s_X10_below_0 (S_X10_below)))
theorem dX10_reaches_0 : decode cX10_reaches 0 = .ok (.aload_n 0, 1) := by decide +kernel
theorem dX10_reaches_1 : decode cX10_reaches 1 = .ok (.iconst 0, 1) := by decide +kernel
theorem dX10_reaches_2 : decode cX10_reaches 2 = .ok (.putfield 66, 3) := by decide +kernel
theorem dX10_reaches_5 : decode cX10_reaches 5 = .ok (.iload_n 1, 1) := by decide +kernel
theorem dX10_reaches_6 : decode cX10_reaches 6 = .ok (.invokestatic 230, 3) := by decide +kernel
theorem dX10_reaches_9 : decode cX10_reaches 9 = .ok (.ifCond .eq 10, 3) := by decide +kernel
theorem dX10_reaches_12 : decode cX10_reaches 12 = .ok (.iload_n 2, 1) := by decide +kernel
theorem dX10_reaches_13 : decode cX10_reaches 13 = .ok (.invokestatic 241, 3) := by decide +kernel
theorem dX10_reaches_16 : decode cX10_reaches 16 = .ok (.ifCond .ne 5, 3) := by decide +kernel
theorem dX10_reaches_19 : decode cX10_reaches 19 = .ok (.iconst (-1), 1) := by decide +kernel
theorem dX10_reaches_20 : decode cX10_reaches 20 = .ok (.ireturn, 1) := by decide +kernel
theorem dX10_reaches_21 : decode cX10_reaches 21 = .ok (.iconst (-1), 1) := by decide +kernel
theorem dX10_reaches_22 : decode cX10_reaches 22 = .ok (.istore_n 3, 1) := by decide +kernel
theorem dX10_reaches_23 : decode cX10_reaches 23 = .ok (.iconst 0, 1) := by decide +kernel
theorem dX10_reaches_24 : decode cX10_reaches 24 = .ok (.istore 4, 2) := by decide +kernel
theorem dX10_reaches_26 : decode cX10_reaches 26 = .ok (.iconst 0, 1) := by decide +kernel
theorem dX10_reaches_27 : decode cX10_reaches 27 = .ok (.istore 5, 2) := by decide +kernel
theorem dX10_reaches_29 : decode cX10_reaches 29 = .ok (.iload 5, 2) := by decide +kernel
theorem dX10_reaches_31 : decode cX10_reaches 31 = .ok (.bipush 6, 2) := by decide +kernel
theorem dX10_reaches_33 : decode cX10_reaches 33 = .ok (.if_icmp .ge 60, 3) := by decide +kernel
theorem dX10_reaches_36 : decode cX10_reaches 36 = .ok (.aload_n 0, 1) := by decide +kernel
theorem dX10_reaches_37 : decode cX10_reaches 37 = .ok (.iload 5, 2) := by decide +kernel
theorem dX10_reaches_39 : decode cX10_reaches 39 = .ok (.invokevirtual 134, 3) := by decide +kernel
theorem dX10_reaches_42 : decode cX10_reaches 42 = .ok (.ifCond .eq 7, 3) := by decide +kernel
theorem dX10_reaches_45 : decode cX10_reaches 45 = .ok (.iconst (-1), 1) := by decide +kernel
theorem dX10_reaches_46 : decode cX10_reaches 46 = .ok (.goto 11, 3) := by decide +kernel
theorem dX10_reaches_49 : decode cX10_reaches 49 = .ok (.aload_n 0, 1) := by decide +kernel
theorem dX10_reaches_50 : decode cX10_reaches 50 = .ok (.iload 5, 2) := by decide +kernel
theorem dX10_reaches_52 : decode cX10_reaches 52 = .ok (.iload_n 1, 1) := by decide +kernel
theorem dX10_reaches_53 : decode cX10_reaches 53 = .ok (.iload_n 2, 1) := by decide +kernel
theorem dX10_reaches_54 : decode cX10_reaches 54 = .ok (.invokevirtual 346, 3) := by decide +kernel
theorem dX10_reaches_57 : decode cX10_reaches 57 = .ok (.istore 6, 2) := by decide +kernel
theorem dX10_reaches_59 : decode cX10_reaches 59 = .ok (.iload 6, 2) := by decide +kernel
theorem dX10_reaches_61 : decode cX10_reaches 61 = .ok (.iconst (-1), 1) := by decide +kernel
theorem dX10_reaches_62 : decode cX10_reaches 62 = .ok (.if_icmp .eq 25, 3) := by decide +kernel
theorem dX10_reaches_65 : decode cX10_reaches 65 = .ok (.iload_n 3, 1) := by decide +kernel
theorem dX10_reaches_66 : decode cX10_reaches 66 = .ok (.iconst (-1), 1) := by decide +kernel
theorem dX10_reaches_67 : decode cX10_reaches 67 = .ok (.if_icmp .eq 13, 3) := by decide +kernel
theorem dX10_reaches_70 : decode cX10_reaches 70 = .ok (.iload 6, 2) := by decide +kernel
theorem dX10_reaches_72 : decode cX10_reaches 72 = .ok (.iload 4, 2) := by decide +kernel
theorem dX10_reaches_74 : decode cX10_reaches 74 = .ok (.if_icmp .lt 6, 3) := by decide +kernel
theorem dX10_reaches_77 : decode cX10_reaches 77 = .ok (.goto 10, 3) := by decide +kernel
theorem dX10_reaches_80 : decode cX10_reaches 80 = .ok (.iload 5, 2) := by decide +kernel
theorem dX10_reaches_82 : decode cX10_reaches 82 = .ok (.istore_n 3, 1) := by decide +kernel
theorem dX10_reaches_83 : decode cX10_reaches 83 = .ok (.iload 6, 2) := by decide +kernel
theorem dX10_reaches_85 : decode cX10_reaches 85 = .ok (.istore 4, 2) := by decide +kernel
theorem dX10_reaches_87 : decode cX10_reaches 87 = .ok (.iinc 5 1, 3) := by decide +kernel
theorem dX10_reaches_90 : decode cX10_reaches 90 = .ok (.goto (-61), 3) := by decide +kernel
theorem dX10_reaches_93 : decode cX10_reaches 93 = .ok (.iload_n 3, 1) := by decide +kernel
theorem dX10_reaches_94 : decode cX10_reaches 94 = .ok (.iconst (-1), 1) := by decide +kernel
theorem dX10_reaches_95 : decode cX10_reaches 95 = .ok (.if_icmp .ne 6, 3) := by decide +kernel
theorem dX10_reaches_98 : decode cX10_reaches 98 = .ok (.bipush (-2), 2) := by decide +kernel
theorem dX10_reaches_100 : decode cX10_reaches 100 = .ok (.ireturn, 1) := by decide +kernel
theorem dX10_reaches_101 : decode cX10_reaches 101 = .ok (.aload_n 0, 1) := by decide +kernel
theorem dX10_reaches_102 : decode cX10_reaches 102 = .ok (.iconst 0, 1) := by decide +kernel
theorem dX10_reaches_103 : decode cX10_reaches 103 = .ok (.putfield 70, 3) := by decide +kernel
theorem dX10_reaches_106 : decode cX10_reaches 106 = .ok (.aload_n 0, 1) := by decide +kernel
theorem dX10_reaches_107 : decode cX10_reaches 107 = .ok (.iload_n 3, 1) := by decide +kernel
theorem dX10_reaches_108 : decode cX10_reaches 108 = .ok (.i2l, 1) := by decide +kernel
theorem dX10_reaches_109 : decode cX10_reaches 109 = .ok (.invokevirtual 259, 3) := by decide +kernel
theorem dX10_reaches_112 : decode cX10_reaches 112 = .ok (.iload 4, 2) := by decide +kernel
theorem dX10_reaches_114 : decode cX10_reaches 114 = .ok (.ireturn, 1) := by decide +kernel
theorem v_X10_reaches : yX10_reaches.cls = RX10 ∧ yX10_reaches.cls ≠ "java/lang/invoke/MethodHandle" ∧ yX10_reaches.cls ≠ "java/lang/invoke/VarHandle" ∧ (parseMethodDescriptor yX10_reaches.desc).map (fun d => d.parameters.length) = some 2 := ⟨rfl, by decide +kernel, by decide +kernel, by decide +kernel⟩
noncomputable def k_X10_reaches_19 (κ : gb_K) : gb_C := (o_ci (-1) o_ri)
theorem l_X10_reaches_19 : gb_Li (fun κ => k_X10_reaches_19 κ) := (gb_li (q_ci (-1)) (gb_li0 _))
theorem s_X10_reaches_19   {κ : gb_K} (hκ : ∀ q, gb_S RX10 cX10_reaches 7 (gb_rm 2 50) 1 q (κ q)) : gb_S RX10 cX10_reaches 7 (gb_rm 2 50) 1 19 (k_X10_reaches_19 κ) := (s_iconst (by decide +kernel) dX10_reaches_19 (s_ri rfl dX10_reaches_20))
noncomputable def k_X10_reaches_0 (κ : gb_K) : gb_C := (o_al 0 (o_ci 0 (o_pf 10 10 (o_il 1 (o_cs 1 2 f_X10_isGrade (o_zeq (k_X10_reaches_19 κ) (o_il 2 (o_cs 1 2 f_X10_isLoad (o_zeq (k_X10_reaches_19 κ) (o_ci (-1) (o_is 3 (o_ci 0 (o_is 4 (o_ci 0 (o_is 5 (o_j [0, 1, 2, 3, 4, 5] (κ 29)))))))))))))))))
theorem l_X10_reaches_0 : gb_Li (fun κ => k_X10_reaches_0 κ) := (gb_li (q_al 0) (gb_li (q_ci 0) (gb_li (q_pf 10 10) (gb_li (q_il 1) (gb_li (q_cs 1 2 f_X10_isGrade) (q_zeq (l_X10_reaches_19) (gb_li (q_il 2) (gb_li (q_cs 1 2 f_X10_isLoad) (q_zeq (l_X10_reaches_19) (gb_li (q_ci (-1)) (gb_li (q_is 3) (gb_li (q_ci 0) (gb_li (q_is 4) (gb_li (q_ci 0) (gb_li (q_is 5) (q_j [0, 1, 2, 3, 4, 5] 29))))))))))))))))
theorem s_X10_reaches_0   {κ : gb_K} (hκ : ∀ q, gb_S RX10 cX10_reaches 7 (gb_rm 2 50) 1 q (κ q)) : gb_S RX10 cX10_reaches 7 (gb_rm 2 50) 1 0 (k_X10_reaches_0 κ) := (s_aln 0 rfl dX10_reaches_0 (s_iconst (by decide +kernel) dX10_reaches_1 (s_pf (T := TX10) winX10 rfl (Nat.le_of_ble_eq_true rfl) tyX10_ok nmX10 rfl (by decide +kernel) gw_546 rfl dX10_reaches_2 (s_iln 1 rfl dX10_reaches_5 (s_cs c_X10_isGrade (gb_l4 gw_698 gw_699 gw_553 gw_700) v_X10_isGrade.2 ⟨rfl, rfl⟩ ⟨Nat.le_of_ble_eq_true rfl, Nat.le_of_ble_eq_true rfl⟩ dX10_reaches_6 (s_zeq (tgt := 19) (by decide +kernel) dX10_reaches_9 (s_X10_reaches_19 hκ) (s_iln 2 rfl dX10_reaches_12 (s_cs c_X10_isLoad (gb_l4 gw_713 gw_714 gw_553 gw_715) v_X10_isLoad.2 ⟨rfl, rfl⟩ ⟨Nat.le_of_ble_eq_true rfl, Nat.le_of_ble_eq_true rfl⟩ dX10_reaches_13 (s_zne (tgt := 21) (by decide +kernel) dX10_reaches_16 (s_iconst (by decide +kernel) dX10_reaches_21 (s_isn 3 rfl (Nat.le_of_ble_eq_true rfl) dX10_reaches_22 (s_iconst (by decide +kernel) dX10_reaches_23 (s_is (Nat.le_of_ble_eq_true rfl) dX10_reaches_24 (s_iconst (by decide +kernel) dX10_reaches_26 (s_is (Nat.le_of_ble_eq_true rfl) dX10_reaches_27 (s_j (hκ 29)))))))) (s_X10_reaches_19 hκ))))))))))
noncomputable def k_X10_reaches_87 (κ : gb_K) : gb_C := (o_inc 5 1 (o_j [0, 1, 2, 3, 4, 5] (κ 29)))
theorem l_X10_reaches_87 : gb_Li (fun κ => k_X10_reaches_87 κ) := (gb_li (q_inc 5 1) (q_j [0, 1, 2, 3, 4, 5] 29))
theorem s_X10_reaches_87   {κ : gb_K} (hκ : ∀ q, gb_S RX10 cX10_reaches 7 (gb_rm 2 50) 1 q (κ q)) : gb_S RX10 cX10_reaches 7 (gb_rm 2 50) 1 87 (k_X10_reaches_87 κ) := (s_inc (by decide +kernel) (Nat.le_of_ble_eq_true rfl) dX10_reaches_87 (s_goto (tgt := 29) (by decide +kernel) dX10_reaches_90 (s_j (hκ 29))))
noncomputable def k_X10_reaches_80 (κ : gb_K) : gb_C := (o_il 5 (o_is 3 (o_il 6 (o_is 4 (k_X10_reaches_87 κ)))))
theorem l_X10_reaches_80 : gb_Li (fun κ => k_X10_reaches_80 κ) := (gb_li (q_il 5) (gb_li (q_is 3) (gb_li (q_il 6) (gb_li (q_is 4) (l_X10_reaches_87)))))
theorem s_X10_reaches_80   {κ : gb_K} (hκ : ∀ q, gb_S RX10 cX10_reaches 7 (gb_rm 2 50) 1 q (κ q)) : gb_S RX10 cX10_reaches 7 (gb_rm 2 50) 1 80 (k_X10_reaches_80 κ) := (s_il dX10_reaches_80 (s_isn 3 rfl (Nat.le_of_ble_eq_true rfl) dX10_reaches_82 (s_il dX10_reaches_83 (s_is (Nat.le_of_ble_eq_true rfl) dX10_reaches_85 (s_X10_reaches_87 hκ)))))
noncomputable def k_X10_reaches_57 (κ : gb_K) : gb_C := (o_is 6 (o_il 6 (o_ci (-1) (o_ceq (k_X10_reaches_87 κ) (o_il 3 (o_ci (-1) (o_ceq (k_X10_reaches_80 κ) (o_il 6 (o_il 4 (o_clt (k_X10_reaches_80 κ) (k_X10_reaches_87 κ)))))))))))
theorem l_X10_reaches_57 : gb_Li (fun κ => k_X10_reaches_57 κ) := (gb_li (q_is 6) (gb_li (q_il 6) (gb_li (q_ci (-1)) (q_ceq (l_X10_reaches_87) (gb_li (q_il 3) (gb_li (q_ci (-1)) (q_ceq (l_X10_reaches_80) (gb_li (q_il 6) (gb_li (q_il 4) (q_clt (l_X10_reaches_80) (l_X10_reaches_87)))))))))))
theorem s_X10_reaches_57   {κ : gb_K} (hκ : ∀ q, gb_S RX10 cX10_reaches 7 (gb_rm 2 50) 1 q (κ q)) : gb_S RX10 cX10_reaches 7 (gb_rm 2 50) 1 57 (k_X10_reaches_57 κ) := (s_is (Nat.le_of_ble_eq_true rfl) dX10_reaches_57 (s_il dX10_reaches_59 (s_iconst (by decide +kernel) dX10_reaches_61 (s_ceq (tgt := 87) (by decide +kernel) dX10_reaches_62 (s_X10_reaches_87 hκ) (s_iln 3 rfl dX10_reaches_65 (s_iconst (by decide +kernel) dX10_reaches_66 (s_ceq (tgt := 80) (by decide +kernel) dX10_reaches_67 (s_X10_reaches_80 hκ) (s_il dX10_reaches_70 (s_il dX10_reaches_72 (s_clt (tgt := 80) (by decide +kernel) dX10_reaches_74 (s_X10_reaches_80 hκ) (s_goto (tgt := 87) (by decide +kernel) dX10_reaches_77 (s_X10_reaches_87 hκ))))))))))))
noncomputable def k_X10_reaches_29 (κ : gb_K) : gb_C := (o_il 5 (o_ci 6 (o_cge (o_il 3 (o_ci (-1) (o_ceq (o_ci (-2) o_ri) (o_al 0 (o_ci 0 (o_pf 10 9 (o_al 0 (o_il 3 (o_i2l (o_cv 1 10 0 f_X10_tell (o_il 4 o_ri))))))))))) (o_al 0 (o_il 5 (o_cv 1 10 2 f_X10_isClosed (o_zeq (o_al 0 (o_il 5 (o_il 1 (o_il 2 (o_cv 3 10 1 f_X10_below (k_X10_reaches_57 κ)))))) (o_ci (-1) (k_X10_reaches_57 κ)))))))))
theorem l_X10_reaches_29 : gb_Li (fun κ => k_X10_reaches_29 κ) := (gb_li (q_il 5) (gb_li (q_ci 6) (q_cge (gb_li (q_il 3) (gb_li (q_ci (-1)) (q_ceq (gb_li (q_ci (-2)) (gb_li0 _)) (gb_li (q_al 0) (gb_li (q_ci 0) (gb_li (q_pf 10 9) (gb_li (q_al 0) (gb_li (q_il 3) (gb_li q_i2l (gb_li (q_cv 1 10 0 f_X10_tell) (gb_li (q_il 4) (gb_li0 _)))))))))))) (gb_li (q_al 0) (gb_li (q_il 5) (gb_li (q_cv 1 10 2 f_X10_isClosed) (q_zeq (gb_li (q_al 0) (gb_li (q_il 5) (gb_li (q_il 1) (gb_li (q_il 2) (gb_li (q_cv 3 10 1 f_X10_below) (l_X10_reaches_57)))))) (gb_li (q_ci (-1)) (l_X10_reaches_57)))))))))
theorem s_X10_reaches_29   {κ : gb_K} (hκ : ∀ q, gb_S RX10 cX10_reaches 7 (gb_rm 2 50) 1 q (κ q)) : gb_S RX10 cX10_reaches 7 (gb_rm 2 50) 1 29 (k_X10_reaches_29 κ) := (s_il dX10_reaches_29 (s_bipush (by decide +kernel) dX10_reaches_31 (s_cge (tgt := 93) (by decide +kernel) dX10_reaches_33 (s_iln 3 rfl dX10_reaches_93 (s_iconst (by decide +kernel) dX10_reaches_94 (s_cne (tgt := 101) (by decide +kernel) dX10_reaches_95 (s_aln 0 rfl dX10_reaches_101 (s_iconst (by decide +kernel) dX10_reaches_102 (s_pf (T := TX10) winX10 rfl (Nat.le_of_ble_eq_true rfl) tyX10_ok nmX10 rfl (by decide +kernel) gw_548 rfl dX10_reaches_103 (s_aln 0 rfl dX10_reaches_106 (s_iln 3 rfl dX10_reaches_107 (s_i2l dX10_reaches_108 (s_cv (C := RX10) c_X10_tell rfl (gb_l5 gw_732 gw_733 gw_734 gw_553 gw_735) v_X10_tell ⟨rfl, rfl⟩ ⟨Nat.le_of_ble_eq_true rfl, Nat.le_of_ble_eq_true rfl⟩ dX10_reaches_109 (s_il dX10_reaches_112 (s_ri rfl dX10_reaches_114))))))))) (s_bipush (by decide +kernel) dX10_reaches_98 (s_ri rfl dX10_reaches_100))))) (s_aln 0 rfl dX10_reaches_36 (s_il dX10_reaches_37 (s_cv (C := RX10) c_X10_isClosed rfl (gb_l5 gw_614 gw_615 gw_616 gw_553 gw_617) v_X10_isClosed ⟨rfl, rfl⟩ ⟨Nat.le_of_ble_eq_true rfl, Nat.le_of_ble_eq_true rfl⟩ dX10_reaches_39 (s_zeq (tgt := 49) (by decide +kernel) dX10_reaches_42 (s_aln 0 rfl dX10_reaches_49 (s_il dX10_reaches_50 (s_iln 1 rfl dX10_reaches_52 (s_iln 2 rfl dX10_reaches_53 (s_cv (C := RX10) c_X10_below rfl (gb_l5 gw_823 gw_824 gw_825 gw_553 gw_826) v_X10_below ⟨rfl, rfl⟩ ⟨Nat.le_of_ble_eq_true rfl, Nat.le_of_ble_eq_true rfl⟩ dX10_reaches_54 (s_X10_reaches_57 hκ)))))) (s_iconst (by decide +kernel) dX10_reaches_45 (s_goto (tgt := 57) (by decide +kernel) dX10_reaches_46 (s_X10_reaches_57 hκ))))))))))
noncomputable def B_X10_reaches : List (Nat × (gb_K → gb_C)) := [(29, fun κ => k_X10_reaches_29 κ)]
noncomputable def K_X10_reaches : gb_K := gb_fx (gb_tb (B_X10_reaches))
theorem L_X10_reaches : ∀ q, gb_Li (fun κ => gb_tb (B_X10_reaches) κ q) := gb_tb_li (List.forall_mem_cons.mpr ⟨l_X10_reaches_29, (fun _ h => absurd h List.not_mem_nil)⟩)
theorem S_X10_reaches   : ∀ q, gb_S RX10 cX10_reaches 7 (gb_rm 2 50) 1 q (K_X10_reaches q) := fun q => gb_fx_S (L_X10_reaches) (gb_tb_S (List.forall_mem_cons.mpr ⟨fun κ hκ => s_X10_reaches_29 hκ, (fun _ h => absurd h List.not_mem_nil)⟩)) q
noncomputable def f_X10_reaches : gb_F := gb_hide (gb_mf 7 (k_X10_reaches_0 (K_X10_reaches)))
theorem c_X10_reaches : ∀ l, gb_Met l yX10_reaches cX10_reaches 7 (some .int) 1 (gb_rm 2 50) f_X10_reaches := gb_hide_c (gb_met (own := RX10) (rk := 1) rfl (by decide +kernel) ⟨rfl, rfl⟩ (s_X10_reaches_0 (S_X10_reaches)))
theorem dX10_serves_0 : decode cX10_serves 0 = .ok (.aload_n 0, 1) := by decide +kernel
theorem dX10_serves_1 : decode cX10_serves 1 = .ok (.iconst 0, 1) := by decide +kernel
theorem dX10_serves_2 : decode cX10_serves 2 = .ok (.putfield 66, 3) := by decide +kernel
theorem dX10_serves_5 : decode cX10_serves 5 = .ok (.aload_n 0, 1) := by decide +kernel
theorem dX10_serves_6 : decode cX10_serves 6 = .ok (.invokevirtual 309, 3) := by decide +kernel
theorem dX10_serves_9 : decode cX10_serves 9 = .ok (.aload_n 0, 1) := by decide +kernel
theorem dX10_serves_10 : decode cX10_serves 10 = .ok (.getfield 173, 3) := by decide +kernel
theorem dX10_serves_13 : decode cX10_serves 13 = .ok (.iconst (-1), 1) := by decide +kernel
theorem dX10_serves_14 : decode cX10_serves 14 = .ok (.if_icmp .eq 11, 3) := by decide +kernel
theorem dX10_serves_17 : decode cX10_serves 17 = .ok (.bipush (-21), 2) := by decide +kernel
theorem dX10_serves_19 : decode cX10_serves 19 = .ok (.aload_n 0, 1) := by decide +kernel
theorem dX10_serves_20 : decode cX10_serves 20 = .ok (.getfield 173, 3) := by decide +kernel
theorem dX10_serves_23 : decode cX10_serves 23 = .ok (.isub, 1) := by decide +kernel
theorem dX10_serves_24 : decode cX10_serves 24 = .ok (.ireturn, 1) := by decide +kernel
theorem dX10_serves_25 : decode cX10_serves 25 = .ok (.aload_n 0, 1) := by decide +kernel
theorem dX10_serves_26 : decode cX10_serves 26 = .ok (.invokevirtual 312, 3) := by decide +kernel
theorem dX10_serves_29 : decode cX10_serves 29 = .ok (.aload_n 0, 1) := by decide +kernel
theorem dX10_serves_30 : decode cX10_serves 30 = .ok (.iconst 0, 1) := by decide +kernel
theorem dX10_serves_31 : decode cX10_serves 31 = .ok (.putfield 70, 3) := by decide +kernel
theorem dX10_serves_34 : decode cX10_serves 34 = .ok (.iconst 0, 1) := by decide +kernel
theorem dX10_serves_35 : decode cX10_serves 35 = .ok (.istore_n 1, 1) := by decide +kernel
theorem dX10_serves_36 : decode cX10_serves 36 = .ok (.iload_n 1, 1) := by decide +kernel
theorem dX10_serves_37 : decode cX10_serves 37 = .ok (.aload_n 0, 1) := by decide +kernel
theorem dX10_serves_38 : decode cX10_serves 38 = .ok (.getfield 288, 3) := by decide +kernel
theorem dX10_serves_41 : decode cX10_serves 41 = .ok (.if_icmp .ge 20, 3) := by decide +kernel
theorem dX10_serves_44 : decode cX10_serves 44 = .ok (.aload_n 0, 1) := by decide +kernel
theorem dX10_serves_45 : decode cX10_serves 45 = .ok (.aload_n 0, 1) := by decide +kernel
theorem dX10_serves_46 : decode cX10_serves 46 = .ok (.getfield 51, 3) := by decide +kernel
theorem dX10_serves_49 : decode cX10_serves 49 = .ok (.iload_n 1, 1) := by decide +kernel
theorem dX10_serves_50 : decode cX10_serves 50 = .ok (.iaload, 1) := by decide +kernel
theorem dX10_serves_51 : decode cX10_serves 51 = .ok (.i2l, 1) := by decide +kernel
theorem dX10_serves_52 : decode cX10_serves 52 = .ok (.invokevirtual 259, 3) := by decide +kernel
theorem dX10_serves_55 : decode cX10_serves 55 = .ok (.iinc 1 1, 3) := by decide +kernel
theorem dX10_serves_58 : decode cX10_serves 58 = .ok (.goto (-22), 3) := by decide +kernel
theorem dX10_serves_61 : decode cX10_serves 61 = .ok (.aload_n 0, 1) := by decide +kernel
theorem dX10_serves_62 : decode cX10_serves 62 = .ok (.getfield 288, 3) := by decide +kernel
theorem dX10_serves_65 : decode cX10_serves 65 = .ok (.ireturn, 1) := by decide +kernel
theorem v_X10_serves : yX10_serves.cls = RX10 ∧ yX10_serves.cls ≠ "java/lang/invoke/MethodHandle" ∧ yX10_serves.cls ≠ "java/lang/invoke/VarHandle" ∧ (parseMethodDescriptor yX10_serves.desc).map (fun d => d.parameters.length) = some 0 := ⟨rfl, by decide +kernel, by decide +kernel, by decide +kernel⟩
noncomputable def k_X10_serves_0 (κ : gb_K) : gb_C := (o_al 0 (o_ci 0 (o_pf 10 10 (o_al 0 (o_cv 0 10 0 f_X10_readsList (o_al 0 (o_gf 10 18 (o_ci (-1) (o_ceq (o_al 0 (o_cv 0 10 0 f_X10_findsServed (o_al 0 (o_ci 0 (o_pf 10 9 (o_ci 0 (o_is 1 (o_j [0, 1] (κ 36))))))))) (o_ci (-21) (o_al 0 (o_gf 10 18 (o_ib (fun x y => x - y) o_ri)))))))))))))
theorem l_X10_serves_0 : gb_Li (fun κ => k_X10_serves_0 κ) := (gb_li (q_al 0) (gb_li (q_ci 0) (gb_li (q_pf 10 10) (gb_li (q_al 0) (gb_li (q_cv 0 10 0 f_X10_readsList) (gb_li (q_al 0) (gb_li (q_gf 10 18) (gb_li (q_ci (-1)) (q_ceq (gb_li (q_al 0) (gb_li (q_cv 0 10 0 f_X10_findsServed) (gb_li (q_al 0) (gb_li (q_ci 0) (gb_li (q_pf 10 9) (gb_li (q_ci 0) (gb_li (q_is 1) (q_j [0, 1] 36)))))))) (gb_li (q_ci (-21)) (gb_li (q_al 0) (gb_li (q_gf 10 18) (gb_li (q_ib _) (gb_li0 _))))))))))))))
theorem s_X10_serves_0   {κ : gb_K} (hκ : ∀ q, gb_S RX10 cX10_serves 2 (gb_rm 14 314) 1 q (κ q)) : gb_S RX10 cX10_serves 2 (gb_rm 14 314) 1 0 (k_X10_serves_0 κ) := (s_aln 0 rfl dX10_serves_0 (s_iconst (by decide +kernel) dX10_serves_1 (s_pf (T := TX10) winX10 rfl (Nat.le_of_ble_eq_true rfl) tyX10_ok nmX10 rfl (by decide +kernel) gw_546 rfl dX10_serves_2 (s_aln 0 rfl dX10_serves_5 (s_cv (C := RX10) c_X10_readsList rfl (gb_l5 gw_789 gw_790 gw_791 gw_553 gw_792) v_X10_readsList ⟨rfl, rfl⟩ ⟨Nat.le_of_ble_eq_true rfl, Nat.le_of_ble_eq_true rfl⟩ dX10_serves_6 (s_aln 0 rfl dX10_serves_9 (s_gf (T := TX10) winX10 rfl (Nat.le_of_ble_eq_true rfl) gw_645 rfl dX10_serves_10 (s_iconst (by decide +kernel) dX10_serves_13 (s_ceq (tgt := 25) (by decide +kernel) dX10_serves_14 (s_aln 0 rfl dX10_serves_25 (s_cv (C := RX10) c_X10_findsServed rfl (gb_l5 gw_793 gw_794 gw_795 gw_553 gw_796) v_X10_findsServed ⟨rfl, rfl⟩ ⟨Nat.le_of_ble_eq_true rfl, Nat.le_of_ble_eq_true rfl⟩ dX10_serves_26 (s_aln 0 rfl dX10_serves_29 (s_iconst (by decide +kernel) dX10_serves_30 (s_pf (T := TX10) winX10 rfl (Nat.le_of_ble_eq_true rfl) tyX10_ok nmX10 rfl (by decide +kernel) gw_548 rfl dX10_serves_31 (s_iconst (by decide +kernel) dX10_serves_34 (s_isn 1 rfl (Nat.le_of_ble_eq_true rfl) dX10_serves_35 (s_j (hκ 36))))))))) (s_bipush (by decide +kernel) dX10_serves_17 (s_aln 0 rfl dX10_serves_19 (s_gf (T := TX10) winX10 rfl (Nat.le_of_ble_eq_true rfl) gw_645 rfl dX10_serves_20 (s_isub dX10_serves_23 (s_ri rfl dX10_serves_24))))))))))))))
noncomputable def k_X10_serves_36 (κ : gb_K) : gb_C := (o_il 1 (o_al 0 (o_gf 10 29 (o_cge (o_al 0 (o_gf 10 29 o_ri)) (o_al 0 (o_al 0 (o_gf 10 27 (o_il 1 (o_iald (o_i2l (o_cv 1 10 0 f_X10_tell (o_inc 1 1 (o_j [0, 1] (κ 36))))))))))))))
theorem l_X10_serves_36 : gb_Li (fun κ => k_X10_serves_36 κ) := (gb_li (q_il 1) (gb_li (q_al 0) (gb_li (q_gf 10 29) (q_cge (gb_li (q_al 0) (gb_li (q_gf 10 29) (gb_li0 _))) (gb_li (q_al 0) (gb_li (q_al 0) (gb_li (q_gf 10 27) (gb_li (q_il 1) (gb_li q_iald (gb_li q_i2l (gb_li (q_cv 1 10 0 f_X10_tell) (gb_li (q_inc 1 1) (q_j [0, 1] 36)))))))))))))
theorem s_X10_serves_36   {κ : gb_K} (hκ : ∀ q, gb_S RX10 cX10_serves 2 (gb_rm 14 314) 1 q (κ q)) : gb_S RX10 cX10_serves 2 (gb_rm 14 314) 1 36 (k_X10_serves_36 κ) := (s_iln 1 rfl dX10_serves_36 (s_aln 0 rfl dX10_serves_37 (s_gf (T := TX10) winX10 rfl (Nat.le_of_ble_eq_true rfl) gw_768 rfl dX10_serves_38 (s_cge (tgt := 61) (by decide +kernel) dX10_serves_41 (s_aln 0 rfl dX10_serves_61 (s_gf (T := TX10) winX10 rfl (Nat.le_of_ble_eq_true rfl) gw_768 rfl dX10_serves_62 (s_ri rfl dX10_serves_65))) (s_aln 0 rfl dX10_serves_44 (s_aln 0 rfl dX10_serves_45 (s_gf (T := TX10) winX10 rfl (Nat.le_of_ble_eq_true rfl) gw_758 rfl dX10_serves_46 (s_iln 1 rfl dX10_serves_49 (s_iald dX10_serves_50 (s_i2l dX10_serves_51 (s_cv (C := RX10) c_X10_tell rfl (gb_l5 gw_732 gw_733 gw_734 gw_553 gw_735) v_X10_tell ⟨rfl, rfl⟩ ⟨Nat.le_of_ble_eq_true rfl, Nat.le_of_ble_eq_true rfl⟩ dX10_serves_52 (s_inc (by decide +kernel) (Nat.le_of_ble_eq_true rfl) dX10_serves_55 (s_goto (tgt := 36) (by decide +kernel) dX10_serves_58 (s_j (hκ 36)))))))))))))))
noncomputable def B_X10_serves : List (Nat × (gb_K → gb_C)) := [(36, fun κ => k_X10_serves_36 κ)]
noncomputable def K_X10_serves : gb_K := gb_fx (gb_tb (B_X10_serves))
theorem L_X10_serves : ∀ q, gb_Li (fun κ => gb_tb (B_X10_serves) κ q) := gb_tb_li (List.forall_mem_cons.mpr ⟨l_X10_serves_36, (fun _ h => absurd h List.not_mem_nil)⟩)
theorem S_X10_serves   : ∀ q, gb_S RX10 cX10_serves 2 (gb_rm 14 314) 1 q (K_X10_serves q) := fun q => gb_fx_S (L_X10_serves) (gb_tb_S (List.forall_mem_cons.mpr ⟨fun κ hκ => s_X10_serves_36 hκ, (fun _ h => absurd h List.not_mem_nil)⟩)) q
noncomputable def f_X10_serves : gb_F := gb_hide (gb_mf 2 (k_X10_serves_0 (K_X10_serves)))
theorem c_X10_serves : ∀ l, gb_Met l yX10_serves cX10_serves 2 (some .int) 1 (gb_rm 14 314) f_X10_serves := gb_hide_c (gb_met (own := RX10) (rk := 1) rfl (by decide +kernel) ⟨rfl, rfl⟩ (s_X10_serves_0 (S_X10_serves)))
theorem dX10_picks_0 : decode cX10_picks 0 = .ok (.aload_n 0, 1) := by decide +kernel
theorem dX10_picks_1 : decode cX10_picks 1 = .ok (.iconst 0, 1) := by decide +kernel
theorem dX10_picks_2 : decode cX10_picks 2 = .ok (.putfield 66, 3) := by decide +kernel
theorem dX10_picks_5 : decode cX10_picks 5 = .ok (.aload_n 0, 1) := by decide +kernel
theorem dX10_picks_6 : decode cX10_picks 6 = .ok (.invokevirtual 309, 3) := by decide +kernel
theorem dX10_picks_9 : decode cX10_picks 9 = .ok (.aload_n 0, 1) := by decide +kernel
theorem dX10_picks_10 : decode cX10_picks 10 = .ok (.getfield 173, 3) := by decide +kernel
theorem dX10_picks_13 : decode cX10_picks 13 = .ok (.iconst (-1), 1) := by decide +kernel
theorem dX10_picks_14 : decode cX10_picks 14 = .ok (.if_icmp .eq 11, 3) := by decide +kernel
theorem dX10_picks_17 : decode cX10_picks 17 = .ok (.bipush (-21), 2) := by decide +kernel
theorem dX10_picks_19 : decode cX10_picks 19 = .ok (.aload_n 0, 1) := by decide +kernel
theorem dX10_picks_20 : decode cX10_picks 20 = .ok (.getfield 173, 3) := by decide +kernel
theorem dX10_picks_23 : decode cX10_picks 23 = .ok (.isub, 1) := by decide +kernel
theorem dX10_picks_24 : decode cX10_picks 24 = .ok (.ireturn, 1) := by decide +kernel
theorem dX10_picks_25 : decode cX10_picks 25 = .ok (.aload_n 0, 1) := by decide +kernel
theorem dX10_picks_26 : decode cX10_picks 26 = .ok (.iconst (-1), 1) := by decide +kernel
theorem dX10_picks_27 : decode cX10_picks 27 = .ok (.putfield 288, 3) := by decide +kernel
theorem dX10_picks_30 : decode cX10_picks 30 = .ok (.aload_n 0, 1) := by decide +kernel
theorem dX10_picks_31 : decode cX10_picks 31 = .ok (.iconst 0, 1) := by decide +kernel
theorem dX10_picks_32 : decode cX10_picks 32 = .ok (.iconst 0, 1) := by decide +kernel
theorem dX10_picks_33 : decode cX10_picks 33 = .ok (.invokevirtual 306, 3) := by decide +kernel
theorem dX10_picks_36 : decode cX10_picks 36 = .ok (.aload_n 0, 1) := by decide +kernel
theorem dX10_picks_37 : decode cX10_picks 37 = .ok (.iconst 0, 1) := by decide +kernel
theorem dX10_picks_38 : decode cX10_picks 38 = .ok (.putfield 70, 3) := by decide +kernel
theorem dX10_picks_41 : decode cX10_picks 41 = .ok (.iconst 0, 1) := by decide +kernel
theorem dX10_picks_42 : decode cX10_picks 42 = .ok (.istore_n 1, 1) := by decide +kernel
theorem dX10_picks_43 : decode cX10_picks 43 = .ok (.iload_n 1, 1) := by decide +kernel
theorem dX10_picks_44 : decode cX10_picks 44 = .ok (.aload_n 0, 1) := by decide +kernel
theorem dX10_picks_45 : decode cX10_picks 45 = .ok (.getfield 282, 3) := by decide +kernel
theorem dX10_picks_48 : decode cX10_picks 48 = .ok (.if_icmp .ge 20, 3) := by decide +kernel
theorem dX10_picks_51 : decode cX10_picks 51 = .ok (.aload_n 0, 1) := by decide +kernel
theorem dX10_picks_52 : decode cX10_picks 52 = .ok (.aload_n 0, 1) := by decide +kernel
theorem dX10_picks_53 : decode cX10_picks 53 = .ok (.getfield 51, 3) := by decide +kernel
theorem dX10_picks_56 : decode cX10_picks 56 = .ok (.iload_n 1, 1) := by decide +kernel
theorem dX10_picks_57 : decode cX10_picks 57 = .ok (.iaload, 1) := by decide +kernel
theorem dX10_picks_58 : decode cX10_picks 58 = .ok (.i2l, 1) := by decide +kernel
theorem dX10_picks_59 : decode cX10_picks 59 = .ok (.invokevirtual 259, 3) := by decide +kernel
theorem dX10_picks_62 : decode cX10_picks 62 = .ok (.iinc 1 1, 3) := by decide +kernel
theorem dX10_picks_65 : decode cX10_picks 65 = .ok (.goto (-22), 3) := by decide +kernel
theorem dX10_picks_68 : decode cX10_picks 68 = .ok (.aload_n 0, 1) := by decide +kernel
theorem dX10_picks_69 : decode cX10_picks 69 = .ok (.getfield 288, 3) := by decide +kernel
theorem dX10_picks_72 : decode cX10_picks 72 = .ok (.ireturn, 1) := by decide +kernel
theorem v_X10_picks : yX10_picks.cls = RX10 ∧ yX10_picks.cls ≠ "java/lang/invoke/MethodHandle" ∧ yX10_picks.cls ≠ "java/lang/invoke/VarHandle" ∧ (parseMethodDescriptor yX10_picks.desc).map (fun d => d.parameters.length) = some 0 := ⟨rfl, by decide +kernel, by decide +kernel, by decide +kernel⟩
noncomputable def k_X10_picks_0 (κ : gb_K) : gb_C := (o_al 0 (o_ci 0 (o_pf 10 10 (o_al 0 (o_cv 0 10 0 f_X10_readsList (o_al 0 (o_gf 10 18 (o_ci (-1) (o_ceq (o_al 0 (o_ci (-1) (o_pf 10 29 (o_al 0 (o_ci 0 (o_ci 0 (o_cv 2 10 0 f_X10_picksFrom (o_al 0 (o_ci 0 (o_pf 10 9 (o_ci 0 (o_is 1 (o_j [0, 1] (κ 43)))))))))))))) (o_ci (-21) (o_al 0 (o_gf 10 18 (o_ib (fun x y => x - y) o_ri)))))))))))))
theorem l_X10_picks_0 : gb_Li (fun κ => k_X10_picks_0 κ) := (gb_li (q_al 0) (gb_li (q_ci 0) (gb_li (q_pf 10 10) (gb_li (q_al 0) (gb_li (q_cv 0 10 0 f_X10_readsList) (gb_li (q_al 0) (gb_li (q_gf 10 18) (gb_li (q_ci (-1)) (q_ceq (gb_li (q_al 0) (gb_li (q_ci (-1)) (gb_li (q_pf 10 29) (gb_li (q_al 0) (gb_li (q_ci 0) (gb_li (q_ci 0) (gb_li (q_cv 2 10 0 f_X10_picksFrom) (gb_li (q_al 0) (gb_li (q_ci 0) (gb_li (q_pf 10 9) (gb_li (q_ci 0) (gb_li (q_is 1) (q_j [0, 1] 43))))))))))))) (gb_li (q_ci (-21)) (gb_li (q_al 0) (gb_li (q_gf 10 18) (gb_li (q_ib _) (gb_li0 _))))))))))))))
theorem s_X10_picks_0   {κ : gb_K} (hκ : ∀ q, gb_S RX10 cX10_picks 2 (gb_rm 13 303) 1 q (κ q)) : gb_S RX10 cX10_picks 2 (gb_rm 13 303) 1 0 (k_X10_picks_0 κ) := (s_aln 0 rfl dX10_picks_0 (s_iconst (by decide +kernel) dX10_picks_1 (s_pf (T := TX10) winX10 rfl (Nat.le_of_ble_eq_true rfl) tyX10_ok nmX10 rfl (by decide +kernel) gw_546 rfl dX10_picks_2 (s_aln 0 rfl dX10_picks_5 (s_cv (C := RX10) c_X10_readsList rfl (gb_l5 gw_789 gw_790 gw_791 gw_553 gw_792) v_X10_readsList ⟨rfl, rfl⟩ ⟨Nat.le_of_ble_eq_true rfl, Nat.le_of_ble_eq_true rfl⟩ dX10_picks_6 (s_aln 0 rfl dX10_picks_9 (s_gf (T := TX10) winX10 rfl (Nat.le_of_ble_eq_true rfl) gw_645 rfl dX10_picks_10 (s_iconst (by decide +kernel) dX10_picks_13 (s_ceq (tgt := 25) (by decide +kernel) dX10_picks_14 (s_aln 0 rfl dX10_picks_25 (s_iconst (by decide +kernel) dX10_picks_26 (s_pf (T := TX10) winX10 rfl (Nat.le_of_ble_eq_true rfl) tyX10_ok nmX10 rfl (by decide +kernel) gw_768 rfl dX10_picks_27 (s_aln 0 rfl dX10_picks_30 (s_iconst (by decide +kernel) dX10_picks_31 (s_iconst (by decide +kernel) dX10_picks_32 (s_cv (C := RX10) c_X10_picksFrom rfl (gb_l5 gw_785 gw_786 gw_787 gw_553 gw_788) v_X10_picksFrom ⟨rfl, rfl⟩ ⟨Nat.le_of_ble_eq_true rfl, Nat.le_of_ble_eq_true rfl⟩ dX10_picks_33 (s_aln 0 rfl dX10_picks_36 (s_iconst (by decide +kernel) dX10_picks_37 (s_pf (T := TX10) winX10 rfl (Nat.le_of_ble_eq_true rfl) tyX10_ok nmX10 rfl (by decide +kernel) gw_548 rfl dX10_picks_38 (s_iconst (by decide +kernel) dX10_picks_41 (s_isn 1 rfl (Nat.le_of_ble_eq_true rfl) dX10_picks_42 (s_j (hκ 43)))))))))))))) (s_bipush (by decide +kernel) dX10_picks_17 (s_aln 0 rfl dX10_picks_19 (s_gf (T := TX10) winX10 rfl (Nat.le_of_ble_eq_true rfl) gw_645 rfl dX10_picks_20 (s_isub dX10_picks_23 (s_ri rfl dX10_picks_24))))))))))))))
noncomputable def k_X10_picks_43 (κ : gb_K) : gb_C := (o_il 1 (o_al 0 (o_gf 10 25 (o_cge (o_al 0 (o_gf 10 29 o_ri)) (o_al 0 (o_al 0 (o_gf 10 27 (o_il 1 (o_iald (o_i2l (o_cv 1 10 0 f_X10_tell (o_inc 1 1 (o_j [0, 1] (κ 43))))))))))))))
theorem l_X10_picks_43 : gb_Li (fun κ => k_X10_picks_43 κ) := (gb_li (q_il 1) (gb_li (q_al 0) (gb_li (q_gf 10 25) (q_cge (gb_li (q_al 0) (gb_li (q_gf 10 29) (gb_li0 _))) (gb_li (q_al 0) (gb_li (q_al 0) (gb_li (q_gf 10 27) (gb_li (q_il 1) (gb_li q_iald (gb_li q_i2l (gb_li (q_cv 1 10 0 f_X10_tell) (gb_li (q_inc 1 1) (q_j [0, 1] 43)))))))))))))
theorem s_X10_picks_43   {κ : gb_K} (hκ : ∀ q, gb_S RX10 cX10_picks 2 (gb_rm 13 303) 1 q (κ q)) : gb_S RX10 cX10_picks 2 (gb_rm 13 303) 1 43 (k_X10_picks_43 κ) := (s_iln 1 rfl dX10_picks_43 (s_aln 0 rfl dX10_picks_44 (s_gf (T := TX10) winX10 rfl (Nat.le_of_ble_eq_true rfl) gw_754 rfl dX10_picks_45 (s_cge (tgt := 68) (by decide +kernel) dX10_picks_48 (s_aln 0 rfl dX10_picks_68 (s_gf (T := TX10) winX10 rfl (Nat.le_of_ble_eq_true rfl) gw_768 rfl dX10_picks_69 (s_ri rfl dX10_picks_72))) (s_aln 0 rfl dX10_picks_51 (s_aln 0 rfl dX10_picks_52 (s_gf (T := TX10) winX10 rfl (Nat.le_of_ble_eq_true rfl) gw_758 rfl dX10_picks_53 (s_iln 1 rfl dX10_picks_56 (s_iald dX10_picks_57 (s_i2l dX10_picks_58 (s_cv (C := RX10) c_X10_tell rfl (gb_l5 gw_732 gw_733 gw_734 gw_553 gw_735) v_X10_tell ⟨rfl, rfl⟩ ⟨Nat.le_of_ble_eq_true rfl, Nat.le_of_ble_eq_true rfl⟩ dX10_picks_59 (s_inc (by decide +kernel) (Nat.le_of_ble_eq_true rfl) dX10_picks_62 (s_goto (tgt := 43) (by decide +kernel) dX10_picks_65 (s_j (hκ 43)))))))))))))))
noncomputable def B_X10_picks : List (Nat × (gb_K → gb_C)) := [(43, fun κ => k_X10_picks_43 κ)]
noncomputable def K_X10_picks : gb_K := gb_fx (gb_tb (B_X10_picks))
theorem L_X10_picks : ∀ q, gb_Li (fun κ => gb_tb (B_X10_picks) κ q) := gb_tb_li (List.forall_mem_cons.mpr ⟨l_X10_picks_43, (fun _ h => absurd h List.not_mem_nil)⟩)
theorem S_X10_picks   : ∀ q, gb_S RX10 cX10_picks 2 (gb_rm 13 303) 1 q (K_X10_picks q) := fun q => gb_fx_S (L_X10_picks) (gb_tb_S (List.forall_mem_cons.mpr ⟨fun κ hκ => s_X10_picks_43 hκ, (fun _ h => absurd h List.not_mem_nil)⟩)) q
noncomputable def f_X10_picks : gb_F := gb_hide (gb_mf 2 (k_X10_picks_0 (K_X10_picks)))
theorem c_X10_picks : ∀ l, gb_Met l yX10_picks cX10_picks 2 (some .int) 1 (gb_rm 13 303) f_X10_picks := gb_hide_c (gb_met (own := RX10) (rk := 1) rfl (by decide +kernel) ⟨rfl, rfl⟩ (s_X10_picks_0 (S_X10_picks)))
theorem dX10_mixedOfOthers_0 : decode cX10_mixedOfOthers 0 = .ok (.iconst 0, 1) := by decide +kernel
theorem dX10_mixedOfOthers_1 : decode cX10_mixedOfOthers 1 = .ok (.istore_n 2, 1) := by decide +kernel
theorem dX10_mixedOfOthers_2 : decode cX10_mixedOfOthers 2 = .ok (.iconst 0, 1) := by decide +kernel
theorem dX10_mixedOfOthers_3 : decode cX10_mixedOfOthers 3 = .ok (.istore_n 3, 1) := by decide +kernel
theorem dX10_mixedOfOthers_4 : decode cX10_mixedOfOthers 4 = .ok (.iload_n 3, 1) := by decide +kernel
theorem dX10_mixedOfOthers_5 : decode cX10_mixedOfOthers 5 = .ok (.bipush 6, 2) := by decide +kernel
theorem dX10_mixedOfOthers_7 : decode cX10_mixedOfOthers 7 = .ok (.if_icmp .ge 26, 3) := by decide +kernel
theorem dX10_mixedOfOthers_10 : decode cX10_mixedOfOthers 10 = .ok (.iload_n 2, 1) := by decide +kernel
theorem dX10_mixedOfOthers_11 : decode cX10_mixedOfOthers 11 = .ok (.iload_n 3, 1) := by decide +kernel
theorem dX10_mixedOfOthers_12 : decode cX10_mixedOfOthers 12 = .ok (.iload_n 1, 1) := by decide +kernel
theorem dX10_mixedOfOthers_13 : decode cX10_mixedOfOthers 13 = .ok (.if_icmp .ne 7, 3) := by decide +kernel
theorem dX10_mixedOfOthers_16 : decode cX10_mixedOfOthers 16 = .ok (.iconst 0, 1) := by decide +kernel
theorem dX10_mixedOfOthers_17 : decode cX10_mixedOfOthers 17 = .ok (.goto 8, 3) := by decide +kernel
theorem dX10_mixedOfOthers_20 : decode cX10_mixedOfOthers 20 = .ok (.aload_n 0, 1) := by decide +kernel
theorem dX10_mixedOfOthers_21 : decode cX10_mixedOfOthers 21 = .ok (.iload_n 3, 1) := by decide +kernel
theorem dX10_mixedOfOthers_22 : decode cX10_mixedOfOthers 22 = .ok (.invokevirtual 125, 3) := by decide +kernel
theorem dX10_mixedOfOthers_25 : decode cX10_mixedOfOthers 25 = .ok (.iadd, 1) := by decide +kernel
theorem dX10_mixedOfOthers_26 : decode cX10_mixedOfOthers 26 = .ok (.istore_n 2, 1) := by decide +kernel
theorem dX10_mixedOfOthers_27 : decode cX10_mixedOfOthers 27 = .ok (.iinc 3 1, 3) := by decide +kernel
theorem dX10_mixedOfOthers_30 : decode cX10_mixedOfOthers 30 = .ok (.goto (-26), 3) := by decide +kernel
theorem dX10_mixedOfOthers_33 : decode cX10_mixedOfOthers 33 = .ok (.iload_n 2, 1) := by decide +kernel
theorem dX10_mixedOfOthers_34 : decode cX10_mixedOfOthers 34 = .ok (.ireturn, 1) := by decide +kernel
theorem v_X10_mixedOfOthers : yX10_mixedOfOthers.cls = RX10 ∧ yX10_mixedOfOthers.cls ≠ "java/lang/invoke/MethodHandle" ∧ yX10_mixedOfOthers.cls ≠ "java/lang/invoke/VarHandle" ∧ (parseMethodDescriptor yX10_mixedOfOthers.desc).map (fun d => d.parameters.length) = some 1 := ⟨rfl, by decide +kernel, by decide +kernel, by decide +kernel⟩
noncomputable def k_X10_mixedOfOthers_0 (κ : gb_K) : gb_C := (o_ci 0 (o_is 2 (o_ci 0 (o_is 3 (o_j [0, 1, 2, 3] (κ 4))))))
theorem l_X10_mixedOfOthers_0 : gb_Li (fun κ => k_X10_mixedOfOthers_0 κ) := (gb_li (q_ci 0) (gb_li (q_is 2) (gb_li (q_ci 0) (gb_li (q_is 3) (q_j [0, 1, 2, 3] 4)))))
theorem s_X10_mixedOfOthers_0   {κ : gb_K} (hκ : ∀ q, gb_S RX10 cX10_mixedOfOthers 4 (gb_rm 4 94) 1 q (κ q)) : gb_S RX10 cX10_mixedOfOthers 4 (gb_rm 4 94) 1 0 (k_X10_mixedOfOthers_0 κ) := (s_iconst (by decide +kernel) dX10_mixedOfOthers_0 (s_isn 2 rfl (Nat.le_of_ble_eq_true rfl) dX10_mixedOfOthers_1 (s_iconst (by decide +kernel) dX10_mixedOfOthers_2 (s_isn 3 rfl (Nat.le_of_ble_eq_true rfl) dX10_mixedOfOthers_3 (s_j (hκ 4))))))
noncomputable def k_X10_mixedOfOthers_25 (κ : gb_K) : gb_C := (o_ib (fun x y => x + y) (o_is 2 (o_inc 3 1 (o_j [0, 1, 2, 3] (κ 4)))))
theorem l_X10_mixedOfOthers_25 : gb_Li (fun κ => k_X10_mixedOfOthers_25 κ) := (gb_li (q_ib _) (gb_li (q_is 2) (gb_li (q_inc 3 1) (q_j [0, 1, 2, 3] 4))))
theorem s_X10_mixedOfOthers_25   {κ : gb_K} (hκ : ∀ q, gb_S RX10 cX10_mixedOfOthers 4 (gb_rm 4 94) 1 q (κ q)) : gb_S RX10 cX10_mixedOfOthers 4 (gb_rm 4 94) 1 25 (k_X10_mixedOfOthers_25 κ) := (s_iadd dX10_mixedOfOthers_25 (s_isn 2 rfl (Nat.le_of_ble_eq_true rfl) dX10_mixedOfOthers_26 (s_inc (by decide +kernel) (Nat.le_of_ble_eq_true rfl) dX10_mixedOfOthers_27 (s_goto (tgt := 4) (by decide +kernel) dX10_mixedOfOthers_30 (s_j (hκ 4))))))
noncomputable def k_X10_mixedOfOthers_4 (κ : gb_K) : gb_C := (o_il 3 (o_ci 6 (o_cge (o_il 2 o_ri) (o_il 2 (o_il 3 (o_il 1 (o_ceq (o_ci 0 (k_X10_mixedOfOthers_25 κ)) (o_al 0 (o_il 3 (o_cv 1 10 1 f_X10_mixedIn (k_X10_mixedOfOthers_25 κ)))))))))))
theorem l_X10_mixedOfOthers_4 : gb_Li (fun κ => k_X10_mixedOfOthers_4 κ) := (gb_li (q_il 3) (gb_li (q_ci 6) (q_cge (gb_li (q_il 2) (gb_li0 _)) (gb_li (q_il 2) (gb_li (q_il 3) (gb_li (q_il 1) (q_ceq (gb_li (q_ci 0) (l_X10_mixedOfOthers_25)) (gb_li (q_al 0) (gb_li (q_il 3) (gb_li (q_cv 1 10 1 f_X10_mixedIn) (l_X10_mixedOfOthers_25)))))))))))
theorem s_X10_mixedOfOthers_4   {κ : gb_K} (hκ : ∀ q, gb_S RX10 cX10_mixedOfOthers 4 (gb_rm 4 94) 1 q (κ q)) : gb_S RX10 cX10_mixedOfOthers 4 (gb_rm 4 94) 1 4 (k_X10_mixedOfOthers_4 κ) := (s_iln 3 rfl dX10_mixedOfOthers_4 (s_bipush (by decide +kernel) dX10_mixedOfOthers_5 (s_cge (tgt := 33) (by decide +kernel) dX10_mixedOfOthers_7 (s_iln 2 rfl dX10_mixedOfOthers_33 (s_ri rfl dX10_mixedOfOthers_34)) (s_iln 2 rfl dX10_mixedOfOthers_10 (s_iln 3 rfl dX10_mixedOfOthers_11 (s_iln 1 rfl dX10_mixedOfOthers_12 (s_cne (tgt := 20) (by decide +kernel) dX10_mixedOfOthers_13 (s_aln 0 rfl dX10_mixedOfOthers_20 (s_iln 3 rfl dX10_mixedOfOthers_21 (s_cv (C := RX10) c_X10_mixedIn rfl (gb_l5 gw_598 gw_599 gw_600 gw_553 gw_601) v_X10_mixedIn ⟨rfl, rfl⟩ ⟨Nat.le_of_ble_eq_true rfl, Nat.le_of_ble_eq_true rfl⟩ dX10_mixedOfOthers_22 (s_X10_mixedOfOthers_25 hκ)))) (s_iconst (by decide +kernel) dX10_mixedOfOthers_16 (s_goto (tgt := 25) (by decide +kernel) dX10_mixedOfOthers_17 (s_X10_mixedOfOthers_25 hκ))))))))))
noncomputable def B_X10_mixedOfOthers : List (Nat × (gb_K → gb_C)) := [(4, fun κ => k_X10_mixedOfOthers_4 κ)]
noncomputable def K_X10_mixedOfOthers : gb_K := gb_fx (gb_tb (B_X10_mixedOfOthers))
theorem L_X10_mixedOfOthers : ∀ q, gb_Li (fun κ => gb_tb (B_X10_mixedOfOthers) κ q) := gb_tb_li (List.forall_mem_cons.mpr ⟨l_X10_mixedOfOthers_4, (fun _ h => absurd h List.not_mem_nil)⟩)
theorem S_X10_mixedOfOthers   : ∀ q, gb_S RX10 cX10_mixedOfOthers 4 (gb_rm 4 94) 1 q (K_X10_mixedOfOthers q) := fun q => gb_fx_S (L_X10_mixedOfOthers) (gb_tb_S (List.forall_mem_cons.mpr ⟨fun κ hκ => s_X10_mixedOfOthers_4 hκ, (fun _ h => absurd h List.not_mem_nil)⟩)) q
noncomputable def f_X10_mixedOfOthers : gb_F := gb_hide (gb_mf 4 (k_X10_mixedOfOthers_0 (K_X10_mixedOfOthers)))
theorem c_X10_mixedOfOthers : ∀ l, gb_Met l yX10_mixedOfOthers cX10_mixedOfOthers 4 (some .int) 1 (gb_rm 4 94) f_X10_mixedOfOthers := gb_hide_c (gb_met (own := RX10) (rk := 1) rfl (by decide +kernel) ⟨rfl, rfl⟩ (s_X10_mixedOfOthers_0 (S_X10_mixedOfOthers)))
theorem dX10_emptiesFrom_0 : decode cX10_emptiesFrom 0 = .ok (.iload_n 2, 1) := by decide +kernel
theorem dX10_emptiesFrom_1 : decode cX10_emptiesFrom 1 = .ok (.aload_n 0, 1) := by decide +kernel
theorem dX10_emptiesFrom_2 : decode cX10_emptiesFrom 2 = .ok (.iload_n 1, 1) := by decide +kernel
theorem dX10_emptiesFrom_3 : decode cX10_emptiesFrom 3 = .ok (.invokevirtual 84, 3) := by decide +kernel
theorem dX10_emptiesFrom_6 : decode cX10_emptiesFrom 6 = .ok (.if_icmp .ne 46, 3) := by decide +kernel
theorem dX10_emptiesFrom_9 : decode cX10_emptiesFrom 9 = .ok (.aload_n 0, 1) := by decide +kernel
theorem dX10_emptiesFrom_10 : decode cX10_emptiesFrom 10 = .ok (.iload_n 1, 1) := by decide +kernel
theorem dX10_emptiesFrom_11 : decode cX10_emptiesFrom 11 = .ok (.invokevirtual 349, 3) := by decide +kernel
theorem dX10_emptiesFrom_14 : decode cX10_emptiesFrom 14 = .ok (.iload_n 3, 1) := by decide +kernel
theorem dX10_emptiesFrom_15 : decode cX10_emptiesFrom 15 = .ok (.isub, 1) := by decide +kernel
theorem dX10_emptiesFrom_16 : decode cX10_emptiesFrom 16 = .ok (.istore 4, 2) := by decide +kernel
theorem dX10_emptiesFrom_18 : decode cX10_emptiesFrom 18 = .ok (.aload_n 0, 1) := by decide +kernel
theorem dX10_emptiesFrom_19 : decode cX10_emptiesFrom 19 = .ok (.getfield 328, 3) := by decide +kernel
theorem dX10_emptiesFrom_22 : decode cX10_emptiesFrom 22 = .ok (.ifCond .eq 13, 3) := by decide +kernel
theorem dX10_emptiesFrom_25 : decode cX10_emptiesFrom 25 = .ok (.iload 4, 2) := by decide +kernel
theorem dX10_emptiesFrom_27 : decode cX10_emptiesFrom 27 = .ok (.aload_n 0, 1) := by decide +kernel
theorem dX10_emptiesFrom_28 : decode cX10_emptiesFrom 28 = .ok (.getfield 331, 3) := by decide +kernel
theorem dX10_emptiesFrom_31 : decode cX10_emptiesFrom 31 = .ok (.if_icmp .lt 4, 3) := by decide +kernel
theorem dX10_emptiesFrom_34 : decode cX10_emptiesFrom 34 = .ok (.return_, 1) := by decide +kernel
theorem dX10_emptiesFrom_35 : decode cX10_emptiesFrom 35 = .ok (.aload_n 0, 1) := by decide +kernel
theorem dX10_emptiesFrom_36 : decode cX10_emptiesFrom 36 = .ok (.iconst 1, 1) := by decide +kernel
theorem dX10_emptiesFrom_37 : decode cX10_emptiesFrom 37 = .ok (.putfield 328, 3) := by decide +kernel
theorem dX10_emptiesFrom_40 : decode cX10_emptiesFrom 40 = .ok (.aload_n 0, 1) := by decide +kernel
theorem dX10_emptiesFrom_41 : decode cX10_emptiesFrom 41 = .ok (.iload 4, 2) := by decide +kernel
theorem dX10_emptiesFrom_43 : decode cX10_emptiesFrom 43 = .ok (.putfield 331, 3) := by decide +kernel
theorem dX10_emptiesFrom_46 : decode cX10_emptiesFrom 46 = .ok (.aload_n 0, 1) := by decide +kernel
theorem dX10_emptiesFrom_47 : decode cX10_emptiesFrom 47 = .ok (.iload_n 2, 1) := by decide +kernel
theorem dX10_emptiesFrom_48 : decode cX10_emptiesFrom 48 = .ok (.invokevirtual 291, 3) := by decide +kernel
theorem dX10_emptiesFrom_51 : decode cX10_emptiesFrom 51 = .ok (.return_, 1) := by decide +kernel
theorem dX10_emptiesFrom_52 : decode cX10_emptiesFrom 52 = .ok (.aload_n 0, 1) := by decide +kernel
theorem dX10_emptiesFrom_53 : decode cX10_emptiesFrom 53 = .ok (.iload_n 2, 1) := by decide +kernel
theorem dX10_emptiesFrom_54 : decode cX10_emptiesFrom 54 = .ok (.invokevirtual 294, 3) := by decide +kernel
theorem dX10_emptiesFrom_57 : decode cX10_emptiesFrom 57 = .ok (.iconst 0, 1) := by decide +kernel
theorem dX10_emptiesFrom_58 : decode cX10_emptiesFrom 58 = .ok (.istore 4, 2) := by decide +kernel
theorem dX10_emptiesFrom_60 : decode cX10_emptiesFrom 60 = .ok (.iload 4, 2) := by decide +kernel
theorem dX10_emptiesFrom_62 : decode cX10_emptiesFrom 62 = .ok (.bipush 6, 2) := by decide +kernel
theorem dX10_emptiesFrom_64 : decode cX10_emptiesFrom 64 = .ok (.if_icmp .ge 97, 3) := by decide +kernel
theorem dX10_emptiesFrom_67 : decode cX10_emptiesFrom 67 = .ok (.iload 4, 2) := by decide +kernel
theorem dX10_emptiesFrom_69 : decode cX10_emptiesFrom 69 = .ok (.iload_n 1, 1) := by decide +kernel
theorem dX10_emptiesFrom_70 : decode cX10_emptiesFrom 70 = .ok (.if_icmp .eq 85, 3) := by decide +kernel
theorem dX10_emptiesFrom_73 : decode cX10_emptiesFrom 73 = .ok (.aload_n 0, 1) := by decide +kernel
theorem dX10_emptiesFrom_74 : decode cX10_emptiesFrom 74 = .ok (.iload 4, 2) := by decide +kernel
theorem dX10_emptiesFrom_76 : decode cX10_emptiesFrom 76 = .ok (.aload_n 0, 1) := by decide +kernel
theorem dX10_emptiesFrom_77 : decode cX10_emptiesFrom 77 = .ok (.iload_n 1, 1) := by decide +kernel
theorem dX10_emptiesFrom_78 : decode cX10_emptiesFrom 78 = .ok (.iload_n 2, 1) := by decide +kernel
theorem dX10_emptiesFrom_79 : decode cX10_emptiesFrom 79 = .ok (.iconst 0, 1) := by decide +kernel
theorem dX10_emptiesFrom_80 : decode cX10_emptiesFrom 80 = .ok (.invokevirtual 88, 3) := by decide +kernel
theorem dX10_emptiesFrom_83 : decode cX10_emptiesFrom 83 = .ok (.aload_n 0, 1) := by decide +kernel
theorem dX10_emptiesFrom_84 : decode cX10_emptiesFrom 84 = .ok (.iload_n 1, 1) := by decide +kernel
theorem dX10_emptiesFrom_85 : decode cX10_emptiesFrom 85 = .ok (.iload_n 2, 1) := by decide +kernel
theorem dX10_emptiesFrom_86 : decode cX10_emptiesFrom 86 = .ok (.iconst 1, 1) := by decide +kernel
theorem dX10_emptiesFrom_87 : decode cX10_emptiesFrom 87 = .ok (.invokevirtual 88, 3) := by decide +kernel
theorem dX10_emptiesFrom_90 : decode cX10_emptiesFrom 90 = .ok (.aload_n 0, 1) := by decide +kernel
theorem dX10_emptiesFrom_91 : decode cX10_emptiesFrom 91 = .ok (.iload_n 1, 1) := by decide +kernel
theorem dX10_emptiesFrom_92 : decode cX10_emptiesFrom 92 = .ok (.iload_n 2, 1) := by decide +kernel
theorem dX10_emptiesFrom_93 : decode cX10_emptiesFrom 93 = .ok (.iconst 2, 1) := by decide +kernel
theorem dX10_emptiesFrom_94 : decode cX10_emptiesFrom 94 = .ok (.invokevirtual 88, 3) := by decide +kernel
theorem dX10_emptiesFrom_97 : decode cX10_emptiesFrom 97 = .ok (.invokevirtual 244, 3) := by decide +kernel
theorem dX10_emptiesFrom_100 : decode cX10_emptiesFrom 100 = .ok (.ifCond .eq 6, 3) := by decide +kernel
theorem dX10_emptiesFrom_103 : decode cX10_emptiesFrom 103 = .ok (.goto 52, 3) := by decide +kernel
theorem dX10_emptiesFrom_106 : decode cX10_emptiesFrom 106 = .ok (.aload_n 0, 1) := by decide +kernel
theorem dX10_emptiesFrom_107 : decode cX10_emptiesFrom 107 = .ok (.getfield 48, 3) := by decide +kernel
theorem dX10_emptiesFrom_110 : decode cX10_emptiesFrom 110 = .ok (.iload_n 2, 1) := by decide +kernel
theorem dX10_emptiesFrom_111 : decode cX10_emptiesFrom 111 = .ok (.iload 4, 2) := by decide +kernel
theorem dX10_emptiesFrom_113 : decode cX10_emptiesFrom 113 = .ok (.iastore, 1) := by decide +kernel
theorem dX10_emptiesFrom_114 : decode cX10_emptiesFrom 114 = .ok (.aload_n 0, 1) := by decide +kernel
theorem dX10_emptiesFrom_115 : decode cX10_emptiesFrom 115 = .ok (.iload 4, 2) := by decide +kernel
theorem dX10_emptiesFrom_117 : decode cX10_emptiesFrom 117 = .ok (.aload_n 0, 1) := by decide +kernel
theorem dX10_emptiesFrom_118 : decode cX10_emptiesFrom 118 = .ok (.iload_n 1, 1) := by decide +kernel
theorem dX10_emptiesFrom_119 : decode cX10_emptiesFrom 119 = .ok (.iload_n 2, 1) := by decide +kernel
theorem dX10_emptiesFrom_120 : decode cX10_emptiesFrom 120 = .ok (.iconst 0, 1) := by decide +kernel
theorem dX10_emptiesFrom_121 : decode cX10_emptiesFrom 121 = .ok (.invokevirtual 88, 3) := by decide +kernel
theorem dX10_emptiesFrom_124 : decode cX10_emptiesFrom 124 = .ok (.aload_n 0, 1) := by decide +kernel
theorem dX10_emptiesFrom_125 : decode cX10_emptiesFrom 125 = .ok (.iload_n 1, 1) := by decide +kernel
theorem dX10_emptiesFrom_126 : decode cX10_emptiesFrom 126 = .ok (.iload_n 2, 1) := by decide +kernel
theorem dX10_emptiesFrom_127 : decode cX10_emptiesFrom 127 = .ok (.iconst 1, 1) := by decide +kernel
theorem dX10_emptiesFrom_128 : decode cX10_emptiesFrom 128 = .ok (.invokevirtual 88, 3) := by decide +kernel
theorem dX10_emptiesFrom_131 : decode cX10_emptiesFrom 131 = .ok (.aload_n 0, 1) := by decide +kernel
theorem dX10_emptiesFrom_132 : decode cX10_emptiesFrom 132 = .ok (.iload_n 1, 1) := by decide +kernel
theorem dX10_emptiesFrom_133 : decode cX10_emptiesFrom 133 = .ok (.iload_n 2, 1) := by decide +kernel
theorem dX10_emptiesFrom_134 : decode cX10_emptiesFrom 134 = .ok (.iconst 2, 1) := by decide +kernel
theorem dX10_emptiesFrom_135 : decode cX10_emptiesFrom 135 = .ok (.invokevirtual 88, 3) := by decide +kernel
theorem dX10_emptiesFrom_138 : decode cX10_emptiesFrom 138 = .ok (.invokevirtual 251, 3) := by decide +kernel
theorem dX10_emptiesFrom_141 : decode cX10_emptiesFrom 141 = .ok (.aload_n 0, 1) := by decide +kernel
theorem dX10_emptiesFrom_142 : decode cX10_emptiesFrom 142 = .ok (.iload_n 1, 1) := by decide +kernel
theorem dX10_emptiesFrom_143 : decode cX10_emptiesFrom 143 = .ok (.iload_n 2, 1) := by decide +kernel
theorem dX10_emptiesFrom_144 : decode cX10_emptiesFrom 144 = .ok (.iconst 1, 1) := by decide +kernel
theorem dX10_emptiesFrom_145 : decode cX10_emptiesFrom 145 = .ok (.iadd, 1) := by decide +kernel
theorem dX10_emptiesFrom_146 : decode cX10_emptiesFrom 146 = .ok (.iload_n 3, 1) := by decide +kernel
theorem dX10_emptiesFrom_147 : decode cX10_emptiesFrom 147 = .ok (.invokevirtual 352, 3) := by decide +kernel
theorem dX10_emptiesFrom_150 : decode cX10_emptiesFrom 150 = .ok (.aload_n 0, 1) := by decide +kernel
theorem dX10_emptiesFrom_151 : decode cX10_emptiesFrom 151 = .ok (.iload_n 2, 1) := by decide +kernel
theorem dX10_emptiesFrom_152 : decode cX10_emptiesFrom 152 = .ok (.invokevirtual 303, 3) := by decide +kernel
theorem dX10_emptiesFrom_155 : decode cX10_emptiesFrom 155 = .ok (.iinc 4 1, 3) := by decide +kernel
theorem dX10_emptiesFrom_158 : decode cX10_emptiesFrom 158 = .ok (.goto (-98), 3) := by decide +kernel
theorem dX10_emptiesFrom_161 : decode cX10_emptiesFrom 161 = .ok (.return_, 1) := by decide +kernel
theorem v_X10_emptiesFrom : yX10_emptiesFrom.cls = RX10 ∧ yX10_emptiesFrom.cls ≠ "java/lang/invoke/MethodHandle" ∧ yX10_emptiesFrom.cls ≠ "java/lang/invoke/VarHandle" ∧ (parseMethodDescriptor yX10_emptiesFrom.desc).map (fun d => d.parameters.length) = some 3 := ⟨rfl, by decide +kernel, by decide +kernel, by decide +kernel⟩
noncomputable def k_X10_emptiesFrom_35 (r : gb_F) (κ : gb_K) : gb_C := (o_al 0 (o_ci 1 (o_pz 10 32 (o_al 0 (o_il 4 (o_pf 10 33 (o_al 0 (o_il 2 (o_cv 1 10 0 f_X10_findsRow o_rv)))))))))
theorem l_X10_emptiesFrom_35 (r : gb_F) : gb_Li (fun κ => k_X10_emptiesFrom_35 r κ) := (gb_li (q_al 0) (gb_li (q_ci 1) (gb_li (q_pz 10 32) (gb_li (q_al 0) (gb_li (q_il 4) (gb_li (q_pf 10 33) (gb_li (q_al 0) (gb_li (q_il 2) (gb_li (q_cv 1 10 0 f_X10_findsRow) (gb_li0 _))))))))))
theorem s_X10_emptiesFrom_35 {R : Room} {r : gb_F} {fr lo : Nat} (hr : (∀ l, gb_Met l yX10_emptiesFrom cX10_emptiesFrom 5 none 0 (gb_rm fr lo) r) ∧ fr + 1 ≤ R.frames ∧ 8 + (5 + 11) + lo ≤ R.locals) (hR : 5 ≤ R.frames ∧ 117 ≤ R.locals) {κ : gb_K} (hκ : ∀ q, gb_S RX10 cX10_emptiesFrom 5 R 0 q (κ q)) : gb_S RX10 cX10_emptiesFrom 5 R 0 35 (k_X10_emptiesFrom_35 r κ) := (s_aln 0 rfl dX10_emptiesFrom_35 (s_iconst (by decide +kernel) dX10_emptiesFrom_36 (s_pz (T := TX10) winX10 rfl (Nat.le_of_ble_eq_true rfl) tyX10_ok nmX10 rfl (by decide +kernel) gw_808 rfl dX10_emptiesFrom_37 (s_aln 0 rfl dX10_emptiesFrom_40 (s_il dX10_emptiesFrom_41 (s_pf (T := TX10) winX10 rfl (Nat.le_of_ble_eq_true rfl) tyX10_ok nmX10 rfl (by decide +kernel) gw_813 rfl dX10_emptiesFrom_43 (s_aln 0 rfl dX10_emptiesFrom_46 (s_iln 2 rfl dX10_emptiesFrom_47 (s_cv (C := RX10) c_X10_findsRow rfl (gb_l5 gw_769 gw_770 gw_771 gw_553 gw_772) v_X10_findsRow ⟨rfl, rfl⟩ ⟨Nat.le_trans (Nat.le_of_ble_eq_true rfl) hR.1, Nat.le_trans (Nat.le_of_ble_eq_true rfl) hR.2⟩ dX10_emptiesFrom_48 (s_rv rfl dX10_emptiesFrom_51))))))))))
noncomputable def k_X10_emptiesFrom_0 (r : gb_F) (κ : gb_K) : gb_C := (o_il 2 (o_al 0 (o_il 1 (o_cv 1 10 1 f_X10_many (o_ceq (o_al 0 (o_il 1 (o_cv 1 10 1 f_X10_mixedOfOthers (o_il 3 (o_ib (fun x y => x - y) (o_is 4 (o_al 0 (o_gf 10 32 (o_zeq (k_X10_emptiesFrom_35 r κ) (o_il 4 (o_al 0 (o_gf 10 33 (o_clt (k_X10_emptiesFrom_35 r κ) o_rv))))))))))))) (o_al 0 (o_il 2 (o_cv 1 10 0 f_X10_laysDown (o_ci 0 (o_is 4 (o_j [0, 1, 2, 3, 4] (κ 60))))))))))))
theorem l_X10_emptiesFrom_0 (r : gb_F) : gb_Li (fun κ => k_X10_emptiesFrom_0 r κ) := (gb_li (q_il 2) (gb_li (q_al 0) (gb_li (q_il 1) (gb_li (q_cv 1 10 1 f_X10_many) (q_ceq (gb_li (q_al 0) (gb_li (q_il 1) (gb_li (q_cv 1 10 1 f_X10_mixedOfOthers) (gb_li (q_il 3) (gb_li (q_ib _) (gb_li (q_is 4) (gb_li (q_al 0) (gb_li (q_gf 10 32) (q_zeq (l_X10_emptiesFrom_35 r) (gb_li (q_il 4) (gb_li (q_al 0) (gb_li (q_gf 10 33) (q_clt (l_X10_emptiesFrom_35 r) (gb_li0 _)))))))))))))) (gb_li (q_al 0) (gb_li (q_il 2) (gb_li (q_cv 1 10 0 f_X10_laysDown) (gb_li (q_ci 0) (gb_li (q_is 4) (q_j [0, 1, 2, 3, 4] 60)))))))))))
theorem s_X10_emptiesFrom_0 {R : Room} {r : gb_F} {fr lo : Nat} (hr : (∀ l, gb_Met l yX10_emptiesFrom cX10_emptiesFrom 5 none 0 (gb_rm fr lo) r) ∧ fr + 1 ≤ R.frames ∧ 8 + (5 + 11) + lo ≤ R.locals) (hR : 5 ≤ R.frames ∧ 117 ≤ R.locals) {κ : gb_K} (hκ : ∀ q, gb_S RX10 cX10_emptiesFrom 5 R 0 q (κ q)) : gb_S RX10 cX10_emptiesFrom 5 R 0 0 (k_X10_emptiesFrom_0 r κ) := (s_iln 2 rfl dX10_emptiesFrom_0 (s_aln 0 rfl dX10_emptiesFrom_1 (s_iln 1 rfl dX10_emptiesFrom_2 (s_cv (C := RX10) c_X10_many rfl (gb_l5 gw_557 gw_558 gw_559 gw_553 gw_560) v_X10_many ⟨rfl, rfl⟩ ⟨Nat.le_trans (Nat.le_of_ble_eq_true rfl) hR.1, Nat.le_trans (Nat.le_of_ble_eq_true rfl) hR.2⟩ dX10_emptiesFrom_3 (s_cne (tgt := 52) (by decide +kernel) dX10_emptiesFrom_6 (s_aln 0 rfl dX10_emptiesFrom_52 (s_iln 2 rfl dX10_emptiesFrom_53 (s_cv (C := RX10) c_X10_laysDown rfl (gb_l5 gw_764 gw_765 gw_766 gw_553 gw_767) v_X10_laysDown ⟨rfl, rfl⟩ ⟨Nat.le_trans (Nat.le_of_ble_eq_true rfl) hR.1, Nat.le_trans (Nat.le_of_ble_eq_true rfl) hR.2⟩ dX10_emptiesFrom_54 (s_iconst (by decide +kernel) dX10_emptiesFrom_57 (s_is (Nat.le_of_ble_eq_true rfl) dX10_emptiesFrom_58 (s_j (hκ 60))))))) (s_aln 0 rfl dX10_emptiesFrom_9 (s_iln 1 rfl dX10_emptiesFrom_10 (s_cv (C := RX10) c_X10_mixedOfOthers rfl (gb_l5 gw_827 gw_828 gw_829 gw_553 gw_830) v_X10_mixedOfOthers ⟨rfl, rfl⟩ ⟨Nat.le_trans (Nat.le_of_ble_eq_true rfl) hR.1, Nat.le_trans (Nat.le_of_ble_eq_true rfl) hR.2⟩ dX10_emptiesFrom_11 (s_iln 3 rfl dX10_emptiesFrom_14 (s_isub dX10_emptiesFrom_15 (s_is (Nat.le_of_ble_eq_true rfl) dX10_emptiesFrom_16 (s_aln 0 rfl dX10_emptiesFrom_18 (s_gf (T := TX10) winX10 rfl (Nat.le_of_ble_eq_true rfl) gw_808 rfl dX10_emptiesFrom_19 (s_zeq (tgt := 35) (by decide +kernel) dX10_emptiesFrom_22 (s_X10_emptiesFrom_35 hr hR hκ) (s_il dX10_emptiesFrom_25 (s_aln 0 rfl dX10_emptiesFrom_27 (s_gf (T := TX10) winX10 rfl (Nat.le_of_ble_eq_true rfl) gw_813 rfl dX10_emptiesFrom_28 (s_clt (tgt := 35) (by decide +kernel) dX10_emptiesFrom_31 (s_X10_emptiesFrom_35 hr hR hκ) (s_rv rfl dX10_emptiesFrom_34)))))))))))))))))))
noncomputable def k_X10_emptiesFrom_155 (r : gb_F) (κ : gb_K) : gb_C := (o_inc 4 1 (o_j [0, 1, 2, 3, 4] (κ 60)))
theorem l_X10_emptiesFrom_155 (r : gb_F) : gb_Li (fun κ => k_X10_emptiesFrom_155 r κ) := (gb_li (q_inc 4 1) (q_j [0, 1, 2, 3, 4] 60))
theorem s_X10_emptiesFrom_155 {R : Room} {r : gb_F} {fr lo : Nat} (hr : (∀ l, gb_Met l yX10_emptiesFrom cX10_emptiesFrom 5 none 0 (gb_rm fr lo) r) ∧ fr + 1 ≤ R.frames ∧ 8 + (5 + 11) + lo ≤ R.locals) (hR : 5 ≤ R.frames ∧ 117 ≤ R.locals) {κ : gb_K} (hκ : ∀ q, gb_S RX10 cX10_emptiesFrom 5 R 0 q (κ q)) : gb_S RX10 cX10_emptiesFrom 5 R 0 155 (k_X10_emptiesFrom_155 r κ) := (s_inc (by decide +kernel) (Nat.le_of_ble_eq_true rfl) dX10_emptiesFrom_155 (s_goto (tgt := 60) (by decide +kernel) dX10_emptiesFrom_158 (s_j (hκ 60))))
noncomputable def k_X10_emptiesFrom_114 (r : gb_F) (κ : gb_K) : gb_C := (o_al 0 (o_il 4 (o_al 0 (o_il 1 (o_il 2 (o_ci 0 (o_cv 3 10 1 f_X10_layerOf (o_al 0 (o_il 1 (o_il 2 (o_ci 1 (o_cv 3 10 1 f_X10_layerOf (o_al 0 (o_il 1 (o_il 2 (o_ci 2 (o_cv 3 10 1 f_X10_layerOf (o_cv 4 10 0 f_X10_lies (o_al 0 (o_il 1 (o_il 2 (o_ci 1 (o_ib (fun x y => x + y) (o_il 3 (o_cv 3 10 0 r (o_al 0 (o_il 2 (o_cv 1 10 0 f_X10_takesUp (k_X10_emptiesFrom_155 r κ)))))))))))))))))))))))))))))
theorem l_X10_emptiesFrom_114 (r : gb_F) : gb_Li (fun κ => k_X10_emptiesFrom_114 r κ) := (gb_li (q_al 0) (gb_li (q_il 4) (gb_li (q_al 0) (gb_li (q_il 1) (gb_li (q_il 2) (gb_li (q_ci 0) (gb_li (q_cv 3 10 1 f_X10_layerOf) (gb_li (q_al 0) (gb_li (q_il 1) (gb_li (q_il 2) (gb_li (q_ci 1) (gb_li (q_cv 3 10 1 f_X10_layerOf) (gb_li (q_al 0) (gb_li (q_il 1) (gb_li (q_il 2) (gb_li (q_ci 2) (gb_li (q_cv 3 10 1 f_X10_layerOf) (gb_li (q_cv 4 10 0 f_X10_lies) (gb_li (q_al 0) (gb_li (q_il 1) (gb_li (q_il 2) (gb_li (q_ci 1) (gb_li (q_ib _) (gb_li (q_il 3) (gb_li (q_cv 3 10 0 r) (gb_li (q_al 0) (gb_li (q_il 2) (gb_li (q_cv 1 10 0 f_X10_takesUp) (l_X10_emptiesFrom_155 r)))))))))))))))))))))))))))))
theorem s_X10_emptiesFrom_114 {R : Room} {r : gb_F} {fr lo : Nat} (hr : (∀ l, gb_Met l yX10_emptiesFrom cX10_emptiesFrom 5 none 0 (gb_rm fr lo) r) ∧ fr + 1 ≤ R.frames ∧ 8 + (5 + 11) + lo ≤ R.locals) (hR : 5 ≤ R.frames ∧ 117 ≤ R.locals) {κ : gb_K} (hκ : ∀ q, gb_S RX10 cX10_emptiesFrom 5 R 0 q (κ q)) : gb_S RX10 cX10_emptiesFrom 5 R 0 114 (k_X10_emptiesFrom_114 r κ) := (s_aln 0 rfl dX10_emptiesFrom_114 (s_il dX10_emptiesFrom_115 (s_aln 0 rfl dX10_emptiesFrom_117 (s_iln 1 rfl dX10_emptiesFrom_118 (s_iln 2 rfl dX10_emptiesFrom_119 (s_iconst (by decide +kernel) dX10_emptiesFrom_120 (s_cv (C := RX10) c_X10_layerOf rfl (gb_l5 gw_561 gw_562 gw_563 gw_553 gw_564) v_X10_layerOf ⟨rfl, rfl⟩ ⟨Nat.le_trans (Nat.le_of_ble_eq_true rfl) hR.1, Nat.le_trans (Nat.le_of_ble_eq_true rfl) hR.2⟩ dX10_emptiesFrom_121 (s_aln 0 rfl dX10_emptiesFrom_124 (s_iln 1 rfl dX10_emptiesFrom_125 (s_iln 2 rfl dX10_emptiesFrom_126 (s_iconst (by decide +kernel) dX10_emptiesFrom_127 (s_cv (C := RX10) c_X10_layerOf rfl (gb_l5 gw_561 gw_562 gw_563 gw_553 gw_564) v_X10_layerOf ⟨rfl, rfl⟩ ⟨Nat.le_trans (Nat.le_of_ble_eq_true rfl) hR.1, Nat.le_trans (Nat.le_of_ble_eq_true rfl) hR.2⟩ dX10_emptiesFrom_128 (s_aln 0 rfl dX10_emptiesFrom_131 (s_iln 1 rfl dX10_emptiesFrom_132 (s_iln 2 rfl dX10_emptiesFrom_133 (s_iconst (by decide +kernel) dX10_emptiesFrom_134 (s_cv (C := RX10) c_X10_layerOf rfl (gb_l5 gw_561 gw_562 gw_563 gw_553 gw_564) v_X10_layerOf ⟨rfl, rfl⟩ ⟨Nat.le_trans (Nat.le_of_ble_eq_true rfl) hR.1, Nat.le_trans (Nat.le_of_ble_eq_true rfl) hR.2⟩ dX10_emptiesFrom_135 (s_cv (C := RX10) c_X10_lies rfl (gb_l5 gw_709 gw_710 gw_711 gw_553 gw_712) v_X10_lies ⟨rfl, rfl⟩ ⟨Nat.le_trans (Nat.le_of_ble_eq_true rfl) hR.1, Nat.le_trans (Nat.le_of_ble_eq_true rfl) hR.2⟩ dX10_emptiesFrom_138 (s_aln 0 rfl dX10_emptiesFrom_141 (s_iln 1 rfl dX10_emptiesFrom_142 (s_iln 2 rfl dX10_emptiesFrom_143 (s_iconst (by decide +kernel) dX10_emptiesFrom_144 (s_iadd dX10_emptiesFrom_145 (s_iln 3 rfl dX10_emptiesFrom_146 (s_cv (C := RX10) hr.1 rfl (gb_l5 gw_831 gw_832 gw_833 gw_553 gw_834) v_X10_emptiesFrom ⟨rfl, rfl⟩ ⟨hr.2.1, hr.2.2⟩ dX10_emptiesFrom_147 (s_aln 0 rfl dX10_emptiesFrom_150 (s_iln 2 rfl dX10_emptiesFrom_151 (s_cv (C := RX10) c_X10_takesUp rfl (gb_l5 gw_773 gw_774 gw_775 gw_553 gw_776) v_X10_takesUp ⟨rfl, rfl⟩ ⟨Nat.le_trans (Nat.le_of_ble_eq_true rfl) hR.1, Nat.le_trans (Nat.le_of_ble_eq_true rfl) hR.2⟩ dX10_emptiesFrom_152 (s_X10_emptiesFrom_155 hr hR hκ)))))))))))))))))))))))))))))
noncomputable def k_X10_emptiesFrom_60 (r : gb_F) (κ : gb_K) : gb_C := (o_il 4 (o_ci 6 (o_cge o_rv (o_il 4 (o_il 1 (o_ceq (k_X10_emptiesFrom_155 r κ) (o_al 0 (o_il 4 (o_al 0 (o_il 1 (o_il 2 (o_ci 0 (o_cv 3 10 1 f_X10_layerOf (o_al 0 (o_il 1 (o_il 2 (o_ci 1 (o_cv 3 10 1 f_X10_layerOf (o_al 0 (o_il 1 (o_il 2 (o_ci 2 (o_cv 3 10 1 f_X10_layerOf (o_cv 4 10 1 f_X10_whyNot (o_zeq (o_al 0 (o_gf 10 26 (o_il 2 (o_il 4 (o_iast (k_X10_emptiesFrom_114 r κ)))))) (k_X10_emptiesFrom_155 r κ))))))))))))))))))))))))))
theorem l_X10_emptiesFrom_60 (r : gb_F) : gb_Li (fun κ => k_X10_emptiesFrom_60 r κ) := (gb_li (q_il 4) (gb_li (q_ci 6) (q_cge (gb_li0 _) (gb_li (q_il 4) (gb_li (q_il 1) (q_ceq (l_X10_emptiesFrom_155 r) (gb_li (q_al 0) (gb_li (q_il 4) (gb_li (q_al 0) (gb_li (q_il 1) (gb_li (q_il 2) (gb_li (q_ci 0) (gb_li (q_cv 3 10 1 f_X10_layerOf) (gb_li (q_al 0) (gb_li (q_il 1) (gb_li (q_il 2) (gb_li (q_ci 1) (gb_li (q_cv 3 10 1 f_X10_layerOf) (gb_li (q_al 0) (gb_li (q_il 1) (gb_li (q_il 2) (gb_li (q_ci 2) (gb_li (q_cv 3 10 1 f_X10_layerOf) (gb_li (q_cv 4 10 1 f_X10_whyNot) (q_zeq (gb_li (q_al 0) (gb_li (q_gf 10 26) (gb_li (q_il 2) (gb_li (q_il 4) (gb_li q_iast (l_X10_emptiesFrom_114 r)))))) (l_X10_emptiesFrom_155 r))))))))))))))))))))))))))
theorem s_X10_emptiesFrom_60 {R : Room} {r : gb_F} {fr lo : Nat} (hr : (∀ l, gb_Met l yX10_emptiesFrom cX10_emptiesFrom 5 none 0 (gb_rm fr lo) r) ∧ fr + 1 ≤ R.frames ∧ 8 + (5 + 11) + lo ≤ R.locals) (hR : 5 ≤ R.frames ∧ 117 ≤ R.locals) {κ : gb_K} (hκ : ∀ q, gb_S RX10 cX10_emptiesFrom 5 R 0 q (κ q)) : gb_S RX10 cX10_emptiesFrom 5 R 0 60 (k_X10_emptiesFrom_60 r κ) := (s_il dX10_emptiesFrom_60 (s_bipush (by decide +kernel) dX10_emptiesFrom_62 (s_cge (tgt := 161) (by decide +kernel) dX10_emptiesFrom_64 (s_rv rfl dX10_emptiesFrom_161) (s_il dX10_emptiesFrom_67 (s_iln 1 rfl dX10_emptiesFrom_69 (s_ceq (tgt := 155) (by decide +kernel) dX10_emptiesFrom_70 (s_X10_emptiesFrom_155 hr hR hκ) (s_aln 0 rfl dX10_emptiesFrom_73 (s_il dX10_emptiesFrom_74 (s_aln 0 rfl dX10_emptiesFrom_76 (s_iln 1 rfl dX10_emptiesFrom_77 (s_iln 2 rfl dX10_emptiesFrom_78 (s_iconst (by decide +kernel) dX10_emptiesFrom_79 (s_cv (C := RX10) c_X10_layerOf rfl (gb_l5 gw_561 gw_562 gw_563 gw_553 gw_564) v_X10_layerOf ⟨rfl, rfl⟩ ⟨Nat.le_trans (Nat.le_of_ble_eq_true rfl) hR.1, Nat.le_trans (Nat.le_of_ble_eq_true rfl) hR.2⟩ dX10_emptiesFrom_80 (s_aln 0 rfl dX10_emptiesFrom_83 (s_iln 1 rfl dX10_emptiesFrom_84 (s_iln 2 rfl dX10_emptiesFrom_85 (s_iconst (by decide +kernel) dX10_emptiesFrom_86 (s_cv (C := RX10) c_X10_layerOf rfl (gb_l5 gw_561 gw_562 gw_563 gw_553 gw_564) v_X10_layerOf ⟨rfl, rfl⟩ ⟨Nat.le_trans (Nat.le_of_ble_eq_true rfl) hR.1, Nat.le_trans (Nat.le_of_ble_eq_true rfl) hR.2⟩ dX10_emptiesFrom_87 (s_aln 0 rfl dX10_emptiesFrom_90 (s_iln 1 rfl dX10_emptiesFrom_91 (s_iln 2 rfl dX10_emptiesFrom_92 (s_iconst (by decide +kernel) dX10_emptiesFrom_93 (s_cv (C := RX10) c_X10_layerOf rfl (gb_l5 gw_561 gw_562 gw_563 gw_553 gw_564) v_X10_layerOf ⟨rfl, rfl⟩ ⟨Nat.le_trans (Nat.le_of_ble_eq_true rfl) hR.1, Nat.le_trans (Nat.le_of_ble_eq_true rfl) hR.2⟩ dX10_emptiesFrom_94 (s_cv (C := RX10) c_X10_whyNot rfl (gb_l5 gw_716 gw_717 gw_718 gw_553 gw_719) v_X10_whyNot ⟨rfl, rfl⟩ ⟨Nat.le_trans (Nat.le_of_ble_eq_true rfl) hR.1, Nat.le_trans (Nat.le_of_ble_eq_true rfl) hR.2⟩ dX10_emptiesFrom_97 (s_zeq (tgt := 106) (by decide +kernel) dX10_emptiesFrom_100 (s_aln 0 rfl dX10_emptiesFrom_106 (s_gf (T := TX10) winX10 rfl (Nat.le_of_ble_eq_true rfl) gw_759 rfl dX10_emptiesFrom_107 (s_iln 2 rfl dX10_emptiesFrom_110 (s_il dX10_emptiesFrom_111 (s_iast dX10_emptiesFrom_113 (s_X10_emptiesFrom_114 hr hR hκ)))))) (s_goto (tgt := 155) (by decide +kernel) dX10_emptiesFrom_103 (s_X10_emptiesFrom_155 hr hR hκ)))))))))))))))))))))))))))
noncomputable def B_X10_emptiesFrom (r : gb_F) : List (Nat × (gb_K → gb_C)) := [(60, fun κ => k_X10_emptiesFrom_60 r κ)]
noncomputable def K_X10_emptiesFrom (r : gb_F) : gb_K := gb_fx (gb_tb (B_X10_emptiesFrom r))
theorem L_X10_emptiesFrom (r : gb_F) : ∀ q, gb_Li (fun κ => gb_tb (B_X10_emptiesFrom r) κ q) := gb_tb_li (List.forall_mem_cons.mpr ⟨l_X10_emptiesFrom_60 r, (fun _ h => absurd h List.not_mem_nil)⟩)
theorem S_X10_emptiesFrom {R : Room} {r : gb_F} {fr lo : Nat} (hr : (∀ l, gb_Met l yX10_emptiesFrom cX10_emptiesFrom 5 none 0 (gb_rm fr lo) r) ∧ fr + 1 ≤ R.frames ∧ 8 + (5 + 11) + lo ≤ R.locals) (hR : 5 ≤ R.frames ∧ 117 ≤ R.locals) : ∀ q, gb_S RX10 cX10_emptiesFrom 5 R 0 q (K_X10_emptiesFrom r q) := fun q => gb_fx_S (L_X10_emptiesFrom r) (gb_tb_S (List.forall_mem_cons.mpr ⟨fun κ hκ => s_X10_emptiesFrom_60 hr hR hκ, (fun _ h => absurd h List.not_mem_nil)⟩)) q
noncomputable def g_X10_emptiesFrom : Nat → gb_F
  | 0 => fun _ _ => none
  | n + 1 => gb_mf 5 (k_X10_emptiesFrom_0 (g_X10_emptiesFrom n) (K_X10_emptiesFrom (g_X10_emptiesFrom n)))
theorem h_X10_emptiesFrom : ∀ (n : Nat) l, gb_Met l yX10_emptiesFrom cX10_emptiesFrom 5 none 0 (gb_rm (5 + n) (117 + 24 * n)) (g_X10_emptiesFrom n)
  | 0 => gb_met0
  | n + 1 => gb_met (own := RX10) (rk := 0) rfl (by decide +kernel) ⟨rfl, rfl⟩ (s_X10_emptiesFrom_0 ⟨h_X10_emptiesFrom n, by show _ ≤ _ + (n + 1); omega, by show _ ≤ _ + 24 * (n + 1); omega⟩ ⟨by show _ ≤ _ + (n + 1); omega, by show _ ≤ _ + 24 * (n + 1); omega⟩ (S_X10_emptiesFrom ⟨h_X10_emptiesFrom n, by show _ ≤ _ + (n + 1); omega, by show _ ≤ _ + 24 * (n + 1); omega⟩ ⟨by show _ ≤ _ + (n + 1); omega, by show _ ≤ _ + 24 * (n + 1); omega⟩))
noncomputable def f_X10_emptiesFrom : gb_F := gb_hide (g_X10_emptiesFrom 8)
theorem c_X10_emptiesFrom : ∀ l, gb_Met l yX10_emptiesFrom cX10_emptiesFrom 5 none 0 (gb_rm 13 309) f_X10_emptiesFrom := gb_hide_c (h_X10_emptiesFrom 8)
theorem dX10_empties_0 : decode cX10_empties 0 = .ok (.aload_n 0, 1) := by decide +kernel
theorem dX10_empties_1 : decode cX10_empties 1 = .ok (.iconst 0, 1) := by decide +kernel
theorem dX10_empties_2 : decode cX10_empties 2 = .ok (.putfield 66, 3) := by decide +kernel
theorem dX10_empties_5 : decode cX10_empties 5 = .ok (.iload_n 1, 1) := by decide +kernel
theorem dX10_empties_6 : decode cX10_empties 6 = .ok (.invokestatic 233, 3) := by decide +kernel
theorem dX10_empties_9 : decode cX10_empties 9 = .ok (.ifCond .ne 5, 3) := by decide +kernel
theorem dX10_empties_12 : decode cX10_empties 12 = .ok (.iconst (-1), 1) := by decide +kernel
theorem dX10_empties_13 : decode cX10_empties 13 = .ok (.ireturn, 1) := by decide +kernel
theorem dX10_empties_14 : decode cX10_empties 14 = .ok (.aload_n 0, 1) := by decide +kernel
theorem dX10_empties_15 : decode cX10_empties 15 = .ok (.iload_n 1, 1) := by decide +kernel
theorem dX10_empties_16 : decode cX10_empties 16 = .ok (.invokevirtual 134, 3) := by decide +kernel
theorem dX10_empties_19 : decode cX10_empties 19 = .ok (.ifCond .eq 6, 3) := by decide +kernel
theorem dX10_empties_22 : decode cX10_empties 22 = .ok (.bipush (-2), 2) := by decide +kernel
theorem dX10_empties_24 : decode cX10_empties 24 = .ok (.ireturn, 1) := by decide +kernel
theorem dX10_empties_25 : decode cX10_empties 25 = .ok (.aload_n 0, 1) := by decide +kernel
theorem dX10_empties_26 : decode cX10_empties 26 = .ok (.iconst 0, 1) := by decide +kernel
theorem dX10_empties_27 : decode cX10_empties 27 = .ok (.putfield 328, 3) := by decide +kernel
theorem dX10_empties_30 : decode cX10_empties 30 = .ok (.aload_n 0, 1) := by decide +kernel
theorem dX10_empties_31 : decode cX10_empties 31 = .ok (.iload_n 1, 1) := by decide +kernel
theorem dX10_empties_32 : decode cX10_empties 32 = .ok (.iconst 0, 1) := by decide +kernel
theorem dX10_empties_33 : decode cX10_empties 33 = .ok (.aload_n 0, 1) := by decide +kernel
theorem dX10_empties_34 : decode cX10_empties 34 = .ok (.iload_n 1, 1) := by decide +kernel
theorem dX10_empties_35 : decode cX10_empties 35 = .ok (.invokevirtual 349, 3) := by decide +kernel
theorem dX10_empties_38 : decode cX10_empties 38 = .ok (.invokevirtual 352, 3) := by decide +kernel
theorem dX10_empties_41 : decode cX10_empties 41 = .ok (.aload_n 0, 1) := by decide +kernel
theorem dX10_empties_42 : decode cX10_empties 42 = .ok (.getfield 328, 3) := by decide +kernel
theorem dX10_empties_45 : decode cX10_empties 45 = .ok (.ifCond .ne 6, 3) := by decide +kernel
theorem dX10_empties_48 : decode cX10_empties 48 = .ok (.bipush (-3), 2) := by decide +kernel
theorem dX10_empties_50 : decode cX10_empties 50 = .ok (.ireturn, 1) := by decide +kernel
theorem dX10_empties_51 : decode cX10_empties 51 = .ok (.aload_n 0, 1) := by decide +kernel
theorem dX10_empties_52 : decode cX10_empties 52 = .ok (.iconst 0, 1) := by decide +kernel
theorem dX10_empties_53 : decode cX10_empties 53 = .ok (.putfield 70, 3) := by decide +kernel
theorem dX10_empties_56 : decode cX10_empties 56 = .ok (.iconst 0, 1) := by decide +kernel
theorem dX10_empties_57 : decode cX10_empties 57 = .ok (.istore_n 2, 1) := by decide +kernel
theorem dX10_empties_58 : decode cX10_empties 58 = .ok (.iload_n 2, 1) := by decide +kernel
theorem dX10_empties_59 : decode cX10_empties 59 = .ok (.aload_n 0, 1) := by decide +kernel
theorem dX10_empties_60 : decode cX10_empties 60 = .ok (.iload_n 1, 1) := by decide +kernel
theorem dX10_empties_61 : decode cX10_empties 61 = .ok (.invokevirtual 84, 3) := by decide +kernel
theorem dX10_empties_64 : decode cX10_empties 64 = .ok (.if_icmp .ge 20, 3) := by decide +kernel
theorem dX10_empties_67 : decode cX10_empties 67 = .ok (.aload_n 0, 1) := by decide +kernel
theorem dX10_empties_68 : decode cX10_empties 68 = .ok (.aload_n 0, 1) := by decide +kernel
theorem dX10_empties_69 : decode cX10_empties 69 = .ok (.getfield 51, 3) := by decide +kernel
theorem dX10_empties_72 : decode cX10_empties 72 = .ok (.iload_n 2, 1) := by decide +kernel
theorem dX10_empties_73 : decode cX10_empties 73 = .ok (.iaload, 1) := by decide +kernel
theorem dX10_empties_74 : decode cX10_empties 74 = .ok (.i2l, 1) := by decide +kernel
theorem dX10_empties_75 : decode cX10_empties 75 = .ok (.invokevirtual 259, 3) := by decide +kernel
theorem dX10_empties_78 : decode cX10_empties 78 = .ok (.iinc 2 1, 3) := by decide +kernel
theorem dX10_empties_81 : decode cX10_empties 81 = .ok (.goto (-23), 3) := by decide +kernel
theorem dX10_empties_84 : decode cX10_empties 84 = .ok (.aload_n 0, 1) := by decide +kernel
theorem dX10_empties_85 : decode cX10_empties 85 = .ok (.getfield 331, 3) := by decide +kernel
theorem dX10_empties_88 : decode cX10_empties 88 = .ok (.ireturn, 1) := by decide +kernel
theorem v_X10_empties : yX10_empties.cls = RX10 ∧ yX10_empties.cls ≠ "java/lang/invoke/MethodHandle" ∧ yX10_empties.cls ≠ "java/lang/invoke/VarHandle" ∧ (parseMethodDescriptor yX10_empties.desc).map (fun d => d.parameters.length) = some 1 := ⟨rfl, by decide +kernel, by decide +kernel, by decide +kernel⟩
noncomputable def k_X10_empties_0 (κ : gb_K) : gb_C := (o_al 0 (o_ci 0 (o_pf 10 10 (o_il 1 (o_cs 1 2 f_X10_isBin (o_zeq (o_ci (-1) o_ri) (o_al 0 (o_il 1 (o_cv 1 10 2 f_X10_isClosed (o_zeq (o_al 0 (o_ci 0 (o_pz 10 32 (o_al 0 (o_il 1 (o_ci 0 (o_al 0 (o_il 1 (o_cv 1 10 1 f_X10_mixedOfOthers (o_cv 3 10 0 f_X10_emptiesFrom (o_al 0 (o_gf 10 32 (o_zeq (o_ci (-3) o_ri) (o_al 0 (o_ci 0 (o_pf 10 9 (o_ci 0 (o_is 2 (o_j [0, 1, 2] (κ 58)))))))))))))))))))) (o_ci (-2) o_ri)))))))))))
theorem l_X10_empties_0 : gb_Li (fun κ => k_X10_empties_0 κ) := (gb_li (q_al 0) (gb_li (q_ci 0) (gb_li (q_pf 10 10) (gb_li (q_il 1) (gb_li (q_cs 1 2 f_X10_isBin) (q_zeq (gb_li (q_ci (-1)) (gb_li0 _)) (gb_li (q_al 0) (gb_li (q_il 1) (gb_li (q_cv 1 10 2 f_X10_isClosed) (q_zeq (gb_li (q_al 0) (gb_li (q_ci 0) (gb_li (q_pz 10 32) (gb_li (q_al 0) (gb_li (q_il 1) (gb_li (q_ci 0) (gb_li (q_al 0) (gb_li (q_il 1) (gb_li (q_cv 1 10 1 f_X10_mixedOfOthers) (gb_li (q_cv 3 10 0 f_X10_emptiesFrom) (gb_li (q_al 0) (gb_li (q_gf 10 32) (q_zeq (gb_li (q_ci (-3)) (gb_li0 _)) (gb_li (q_al 0) (gb_li (q_ci 0) (gb_li (q_pf 10 9) (gb_li (q_ci 0) (gb_li (q_is 2) (q_j [0, 1, 2] 58))))))))))))))))))) (gb_li (q_ci (-2)) (gb_li0 _))))))))))))
theorem s_X10_empties_0   {κ : gb_K} (hκ : ∀ q, gb_S RX10 cX10_empties 3 (gb_rm 14 333) 1 q (κ q)) : gb_S RX10 cX10_empties 3 (gb_rm 14 333) 1 0 (k_X10_empties_0 κ) := (s_aln 0 rfl dX10_empties_0 (s_iconst (by decide +kernel) dX10_empties_1 (s_pf (T := TX10) winX10 rfl (Nat.le_of_ble_eq_true rfl) tyX10_ok nmX10 rfl (by decide +kernel) gw_546 rfl dX10_empties_2 (s_iln 1 rfl dX10_empties_5 (s_cs c_X10_isBin (gb_l4 gw_705 gw_706 gw_553 gw_707) v_X10_isBin.2 ⟨rfl, rfl⟩ ⟨Nat.le_of_ble_eq_true rfl, Nat.le_of_ble_eq_true rfl⟩ dX10_empties_6 (s_zne (tgt := 14) (by decide +kernel) dX10_empties_9 (s_aln 0 rfl dX10_empties_14 (s_iln 1 rfl dX10_empties_15 (s_cv (C := RX10) c_X10_isClosed rfl (gb_l5 gw_614 gw_615 gw_616 gw_553 gw_617) v_X10_isClosed ⟨rfl, rfl⟩ ⟨Nat.le_of_ble_eq_true rfl, Nat.le_of_ble_eq_true rfl⟩ dX10_empties_16 (s_zeq (tgt := 25) (by decide +kernel) dX10_empties_19 (s_aln 0 rfl dX10_empties_25 (s_iconst (by decide +kernel) dX10_empties_26 (s_pz (T := TX10) winX10 rfl (Nat.le_of_ble_eq_true rfl) tyX10_ok nmX10 rfl (by decide +kernel) gw_808 rfl dX10_empties_27 (s_aln 0 rfl dX10_empties_30 (s_iln 1 rfl dX10_empties_31 (s_iconst (by decide +kernel) dX10_empties_32 (s_aln 0 rfl dX10_empties_33 (s_iln 1 rfl dX10_empties_34 (s_cv (C := RX10) c_X10_mixedOfOthers rfl (gb_l5 gw_827 gw_828 gw_829 gw_553 gw_830) v_X10_mixedOfOthers ⟨rfl, rfl⟩ ⟨Nat.le_of_ble_eq_true rfl, Nat.le_of_ble_eq_true rfl⟩ dX10_empties_35 (s_cv (C := RX10) c_X10_emptiesFrom rfl (gb_l5 gw_831 gw_832 gw_833 gw_553 gw_834) v_X10_emptiesFrom ⟨rfl, rfl⟩ ⟨Nat.le_of_ble_eq_true rfl, Nat.le_of_ble_eq_true rfl⟩ dX10_empties_38 (s_aln 0 rfl dX10_empties_41 (s_gf (T := TX10) winX10 rfl (Nat.le_of_ble_eq_true rfl) gw_808 rfl dX10_empties_42 (s_zne (tgt := 51) (by decide +kernel) dX10_empties_45 (s_aln 0 rfl dX10_empties_51 (s_iconst (by decide +kernel) dX10_empties_52 (s_pf (T := TX10) winX10 rfl (Nat.le_of_ble_eq_true rfl) tyX10_ok nmX10 rfl (by decide +kernel) gw_548 rfl dX10_empties_53 (s_iconst (by decide +kernel) dX10_empties_56 (s_isn 2 rfl (Nat.le_of_ble_eq_true rfl) dX10_empties_57 (s_j (hκ 58))))))) (s_bipush (by decide +kernel) dX10_empties_48 (s_ri rfl dX10_empties_50))))))))))))))) (s_bipush (by decide +kernel) dX10_empties_22 (s_ri rfl dX10_empties_24)))))) (s_iconst (by decide +kernel) dX10_empties_12 (s_ri rfl dX10_empties_13))))))))
noncomputable def k_X10_empties_58 (κ : gb_K) : gb_C := (o_il 2 (o_al 0 (o_il 1 (o_cv 1 10 1 f_X10_many (o_cge (o_al 0 (o_gf 10 33 o_ri)) (o_al 0 (o_al 0 (o_gf 10 27 (o_il 2 (o_iald (o_i2l (o_cv 1 10 0 f_X10_tell (o_inc 2 1 (o_j [0, 1, 2] (κ 58)))))))))))))))
theorem l_X10_empties_58 : gb_Li (fun κ => k_X10_empties_58 κ) := (gb_li (q_il 2) (gb_li (q_al 0) (gb_li (q_il 1) (gb_li (q_cv 1 10 1 f_X10_many) (q_cge (gb_li (q_al 0) (gb_li (q_gf 10 33) (gb_li0 _))) (gb_li (q_al 0) (gb_li (q_al 0) (gb_li (q_gf 10 27) (gb_li (q_il 2) (gb_li q_iald (gb_li q_i2l (gb_li (q_cv 1 10 0 f_X10_tell) (gb_li (q_inc 2 1) (q_j [0, 1, 2] 58))))))))))))))
theorem s_X10_empties_58   {κ : gb_K} (hκ : ∀ q, gb_S RX10 cX10_empties 3 (gb_rm 14 333) 1 q (κ q)) : gb_S RX10 cX10_empties 3 (gb_rm 14 333) 1 58 (k_X10_empties_58 κ) := (s_iln 2 rfl dX10_empties_58 (s_aln 0 rfl dX10_empties_59 (s_iln 1 rfl dX10_empties_60 (s_cv (C := RX10) c_X10_many rfl (gb_l5 gw_557 gw_558 gw_559 gw_553 gw_560) v_X10_many ⟨rfl, rfl⟩ ⟨Nat.le_of_ble_eq_true rfl, Nat.le_of_ble_eq_true rfl⟩ dX10_empties_61 (s_cge (tgt := 84) (by decide +kernel) dX10_empties_64 (s_aln 0 rfl dX10_empties_84 (s_gf (T := TX10) winX10 rfl (Nat.le_of_ble_eq_true rfl) gw_813 rfl dX10_empties_85 (s_ri rfl dX10_empties_88))) (s_aln 0 rfl dX10_empties_67 (s_aln 0 rfl dX10_empties_68 (s_gf (T := TX10) winX10 rfl (Nat.le_of_ble_eq_true rfl) gw_758 rfl dX10_empties_69 (s_iln 2 rfl dX10_empties_72 (s_iald dX10_empties_73 (s_i2l dX10_empties_74 (s_cv (C := RX10) c_X10_tell rfl (gb_l5 gw_732 gw_733 gw_734 gw_553 gw_735) v_X10_tell ⟨rfl, rfl⟩ ⟨Nat.le_of_ble_eq_true rfl, Nat.le_of_ble_eq_true rfl⟩ dX10_empties_75 (s_inc (by decide +kernel) (Nat.le_of_ble_eq_true rfl) dX10_empties_78 (s_goto (tgt := 58) (by decide +kernel) dX10_empties_81 (s_j (hκ 58))))))))))))))))
noncomputable def B_X10_empties : List (Nat × (gb_K → gb_C)) := [(58, fun κ => k_X10_empties_58 κ)]
noncomputable def K_X10_empties : gb_K := gb_fx (gb_tb (B_X10_empties))
theorem L_X10_empties : ∀ q, gb_Li (fun κ => gb_tb (B_X10_empties) κ q) := gb_tb_li (List.forall_mem_cons.mpr ⟨l_X10_empties_58, (fun _ h => absurd h List.not_mem_nil)⟩)
theorem S_X10_empties   : ∀ q, gb_S RX10 cX10_empties 3 (gb_rm 14 333) 1 q (K_X10_empties q) := fun q => gb_fx_S (L_X10_empties) (gb_tb_S (List.forall_mem_cons.mpr ⟨fun κ hκ => s_X10_empties_58 hκ, (fun _ h => absurd h List.not_mem_nil)⟩)) q
noncomputable def f_X10_empties : gb_F := gb_hide (gb_mf 3 (k_X10_empties_0 (K_X10_empties)))
theorem c_X10_empties : ∀ l, gb_Met l yX10_empties cX10_empties 3 (some .int) 1 (gb_rm 14 333) f_X10_empties := gb_hide_c (gb_met (own := RX10) (rk := 1) rfl (by decide +kernel) ⟨rfl, rfl⟩ (s_X10_empties_0 (S_X10_empties)))
theorem dX10_then_0 : decode cX10_then 0 = .ok (.aload_n 0, 1) := by decide +kernel
theorem dX10_then_1 : decode cX10_then 1 = .ok (.iconst 0, 1) := by decide +kernel
theorem dX10_then_2 : decode cX10_then 2 = .ok (.putfield 66, 3) := by decide +kernel
theorem dX10_then_5 : decode cX10_then 5 = .ok (.iload_n 1, 1) := by decide +kernel
theorem dX10_then_6 : decode cX10_then 6 = .ok (.i2l, 1) := by decide +kernel
theorem dX10_then_7 : decode cX10_then 7 = .ok (.lconst 0, 1) := by decide +kernel
theorem dX10_then_8 : decode cX10_then 8 = .ok (.ldc2_w 280, 3) := by decide +kernel
theorem dX10_then_11 : decode cX10_then 11 = .ok (.invokestatic 76, 3) := by decide +kernel
theorem dX10_then_14 : decode cX10_then 14 = .ok (.ifCond .ne 5, 3) := by decide +kernel
theorem dX10_then_17 : decode cX10_then 17 = .ok (.iconst (-1), 1) := by decide +kernel
theorem dX10_then_18 : decode cX10_then 18 = .ok (.ireturn, 1) := by decide +kernel
theorem dX10_then_19 : decode cX10_then 19 = .ok (.iconst 0, 1) := by decide +kernel
theorem dX10_then_20 : decode cX10_then 20 = .ok (.istore_n 2, 1) := by decide +kernel
theorem dX10_then_21 : decode cX10_then 21 = .ok (.iconst 0, 1) := by decide +kernel
theorem dX10_then_22 : decode cX10_then 22 = .ok (.istore_n 3, 1) := by decide +kernel
theorem dX10_then_23 : decode cX10_then 23 = .ok (.iload_n 3, 1) := by decide +kernel
theorem dX10_then_24 : decode cX10_then 24 = .ok (.bipush 6, 2) := by decide +kernel
theorem dX10_then_26 : decode cX10_then 26 = .ok (.if_icmp .ge 76, 3) := by decide +kernel
theorem dX10_then_29 : decode cX10_then 29 = .ok (.iconst 0, 1) := by decide +kernel
theorem dX10_then_30 : decode cX10_then 30 = .ok (.istore 4, 2) := by decide +kernel
theorem dX10_then_32 : decode cX10_then 32 = .ok (.iload 4, 2) := by decide +kernel
theorem dX10_then_34 : decode cX10_then 34 = .ok (.aload_n 0, 1) := by decide +kernel
theorem dX10_then_35 : decode cX10_then 35 = .ok (.iload_n 3, 1) := by decide +kernel
theorem dX10_then_36 : decode cX10_then 36 = .ok (.invokevirtual 84, 3) := by decide +kernel
theorem dX10_then_39 : decode cX10_then 39 = .ok (.if_icmp .ge 57, 3) := by decide +kernel
theorem dX10_then_42 : decode cX10_then 42 = .ok (.aload_n 0, 1) := by decide +kernel
theorem dX10_then_43 : decode cX10_then 43 = .ok (.aload_n 0, 1) := by decide +kernel
theorem dX10_then_44 : decode cX10_then 44 = .ok (.getfield 7, 3) := by decide +kernel
theorem dX10_then_47 : decode cX10_then 47 = .ok (.sipush 174, 3) := by decide +kernel
theorem dX10_then_50 : decode cX10_then 50 = .ok (.iaload, 1) := by decide +kernel
theorem dX10_then_51 : decode cX10_then 51 = .ok (.iload_n 1, 1) := by decide +kernel
theorem dX10_then_52 : decode cX10_then 52 = .ok (.iadd, 1) := by decide +kernel
theorem dX10_then_53 : decode cX10_then 53 = .ok (.iload_n 3, 1) := by decide +kernel
theorem dX10_then_54 : decode cX10_then 54 = .ok (.iload 4, 2) := by decide +kernel
theorem dX10_then_56 : decode cX10_then 56 = .ok (.invokevirtual 107, 3) := by decide +kernel
theorem dX10_then_59 : decode cX10_then 59 = .ok (.aload_n 0, 1) := by decide +kernel
theorem dX10_then_60 : decode cX10_then 60 = .ok (.getfield 7, 3) := by decide +kernel
theorem dX10_then_63 : decode cX10_then 63 = .ok (.iconst 0, 1) := by decide +kernel
theorem dX10_then_64 : decode cX10_then 64 = .ok (.aload_n 0, 1) := by decide +kernel
theorem dX10_then_65 : decode cX10_then 65 = .ok (.iload_n 3, 1) := by decide +kernel
theorem dX10_then_66 : decode cX10_then 66 = .ok (.iload 4, 2) := by decide +kernel
theorem dX10_then_68 : decode cX10_then 68 = .ok (.iconst 0, 1) := by decide +kernel
theorem dX10_then_69 : decode cX10_then 69 = .ok (.invokevirtual 88, 3) := by decide +kernel
theorem dX10_then_72 : decode cX10_then 72 = .ok (.iadd, 1) := by decide +kernel
theorem dX10_then_73 : decode cX10_then 73 = .ok (.iaload, 1) := by decide +kernel
theorem dX10_then_74 : decode cX10_then 74 = .ok (.if_icmp .ge 16, 3) := by decide +kernel
theorem dX10_then_77 : decode cX10_then 77 = .ok (.iload_n 2, 1) := by decide +kernel
theorem dX10_then_78 : decode cX10_then 78 = .ok (.iconst 1, 1) := by decide +kernel
theorem dX10_then_79 : decode cX10_then 79 = .ok (.aload_n 0, 1) := by decide +kernel
theorem dX10_then_80 : decode cX10_then 80 = .ok (.iload_n 3, 1) := by decide +kernel
theorem dX10_then_81 : decode cX10_then 81 = .ok (.iload 4, 2) := by decide +kernel
theorem dX10_then_83 : decode cX10_then 83 = .ok (.iconst 0, 1) := by decide +kernel
theorem dX10_then_84 : decode cX10_then 84 = .ok (.invokevirtual 88, 3) := by decide +kernel
theorem dX10_then_87 : decode cX10_then 87 = .ok (.ishl, 1) := by decide +kernel
theorem dX10_then_88 : decode cX10_then 88 = .ok (.ior, 1) := by decide +kernel
theorem dX10_then_89 : decode cX10_then 89 = .ok (.istore_n 2, 1) := by decide +kernel
theorem dX10_then_90 : decode cX10_then 90 = .ok (.iinc 4 1, 3) := by decide +kernel
theorem dX10_then_93 : decode cX10_then 93 = .ok (.goto (-61), 3) := by decide +kernel
theorem dX10_then_96 : decode cX10_then 96 = .ok (.iinc 3 1, 3) := by decide +kernel
theorem dX10_then_99 : decode cX10_then 99 = .ok (.goto (-76), 3) := by decide +kernel
theorem dX10_then_102 : decode cX10_then 102 = .ok (.aload_n 0, 1) := by decide +kernel
theorem dX10_then_103 : decode cX10_then 103 = .ok (.iconst 0, 1) := by decide +kernel
theorem dX10_then_104 : decode cX10_then 104 = .ok (.putfield 70, 3) := by decide +kernel
theorem dX10_then_107 : decode cX10_then 107 = .ok (.aload_n 0, 1) := by decide +kernel
theorem dX10_then_108 : decode cX10_then 108 = .ok (.aload_n 0, 1) := by decide +kernel
theorem dX10_then_109 : decode cX10_then 109 = .ok (.invokevirtual 315, 3) := by decide +kernel
theorem dX10_then_112 : decode cX10_then 112 = .ok (.aload_n 0, 1) := by decide +kernel
theorem dX10_then_113 : decode cX10_then 113 = .ok (.aload_n 0, 1) := by decide +kernel
theorem dX10_then_114 : decode cX10_then 114 = .ok (.getfield 7, 3) := by decide +kernel
theorem dX10_then_117 : decode cX10_then 117 = .ok (.sipush 174, 3) := by decide +kernel
theorem dX10_then_120 : decode cX10_then 120 = .ok (.iaload, 1) := by decide +kernel
theorem dX10_then_121 : decode cX10_then 121 = .ok (.iload_n 1, 1) := by decide +kernel
theorem dX10_then_122 : decode cX10_then 122 = .ok (.iadd, 1) := by decide +kernel
theorem dX10_then_123 : decode cX10_then 123 = .ok (.invokevirtual 131, 3) := by decide +kernel
theorem dX10_then_126 : decode cX10_then 126 = .ok (.isub, 1) := by decide +kernel
theorem dX10_then_127 : decode cX10_then 127 = .ok (.i2l, 1) := by decide +kernel
theorem dX10_then_128 : decode cX10_then 128 = .ok (.invokevirtual 259, 3) := by decide +kernel
theorem dX10_then_131 : decode cX10_then 131 = .ok (.aload_n 0, 1) := by decide +kernel
theorem dX10_then_132 : decode cX10_then 132 = .ok (.iload_n 2, 1) := by decide +kernel
theorem dX10_then_133 : decode cX10_then 133 = .ok (.i2l, 1) := by decide +kernel
theorem dX10_then_134 : decode cX10_then 134 = .ok (.invokevirtual 259, 3) := by decide +kernel
theorem dX10_then_137 : decode cX10_then 137 = .ok (.aload_n 0, 1) := by decide +kernel
theorem dX10_then_138 : decode cX10_then 138 = .ok (.aload_n 0, 1) := by decide +kernel
theorem dX10_then_139 : decode cX10_then 139 = .ok (.getfield 7, 3) := by decide +kernel
theorem dX10_then_142 : decode cX10_then 142 = .ok (.sipush 174, 3) := by decide +kernel
theorem dX10_then_145 : decode cX10_then 145 = .ok (.iaload, 1) := by decide +kernel
theorem dX10_then_146 : decode cX10_then 146 = .ok (.iload_n 1, 1) := by decide +kernel
theorem dX10_then_147 : decode cX10_then 147 = .ok (.iadd, 1) := by decide +kernel
theorem dX10_then_148 : decode cX10_then 148 = .ok (.invokevirtual 131, 3) := by decide +kernel
theorem dX10_then_151 : decode cX10_then 151 = .ok (.ireturn, 1) := by decide +kernel
theorem v_X10_then : yX10_then.cls = RX10 ∧ yX10_then.cls ≠ "java/lang/invoke/MethodHandle" ∧ yX10_then.cls ≠ "java/lang/invoke/VarHandle" ∧ (parseMethodDescriptor yX10_then.desc).map (fun d => d.parameters.length) = some 1 := ⟨rfl, by decide +kernel, by decide +kernel, by decide +kernel⟩
noncomputable def k_X10_then_0 (κ : gb_K) : gb_C := (o_al 0 (o_ci 0 (o_pf 10 10 (o_il 1 (o_i2l (o_cl 0 (o_cl 999 (o_cs 3 2 f_X10_in (o_zeq (o_ci (-1) o_ri) (o_ci 0 (o_is 2 (o_ci 0 (o_is 3 (o_j [0, 1, 2, 3] (κ 23)))))))))))))))
theorem l_X10_then_0 : gb_Li (fun κ => k_X10_then_0 κ) := (gb_li (q_al 0) (gb_li (q_ci 0) (gb_li (q_pf 10 10) (gb_li (q_il 1) (gb_li q_i2l (gb_li (q_cl 0) (gb_li (q_cl 999) (gb_li (q_cs 3 2 f_X10_in) (q_zeq (gb_li (q_ci (-1)) (gb_li0 _)) (gb_li (q_ci 0) (gb_li (q_is 2) (gb_li (q_ci 0) (gb_li (q_is 3) (q_j [0, 1, 2, 3] 23))))))))))))))
theorem s_X10_then_0   {κ : gb_K} (hκ : ∀ q, gb_S RX10 cX10_then 5 (gb_rm 7 159) 1 q (κ q)) : gb_S RX10 cX10_then 5 (gb_rm 7 159) 1 0 (k_X10_then_0 κ) := (s_aln 0 rfl dX10_then_0 (s_iconst (by decide +kernel) dX10_then_1 (s_pf (T := TX10) winX10 rfl (Nat.le_of_ble_eq_true rfl) tyX10_ok nmX10 rfl (by decide +kernel) gw_546 rfl dX10_then_2 (s_iln 1 rfl dX10_then_5 (s_i2l dX10_then_6 (s_lconst (by decide +kernel) dX10_then_7 (s_ldc2 gw_753 dX10_then_8 (s_cs c_X10_in (gb_l4 gw_551 gw_552 gw_553 gw_554) v_X10_in.2 ⟨rfl, rfl⟩ ⟨Nat.le_of_ble_eq_true rfl, Nat.le_of_ble_eq_true rfl⟩ dX10_then_11 (s_zne (tgt := 19) (by decide +kernel) dX10_then_14 (s_iconst (by decide +kernel) dX10_then_19 (s_isn 2 rfl (Nat.le_of_ble_eq_true rfl) dX10_then_20 (s_iconst (by decide +kernel) dX10_then_21 (s_isn 3 rfl (Nat.le_of_ble_eq_true rfl) dX10_then_22 (s_j (hκ 23)))))) (s_iconst (by decide +kernel) dX10_then_17 (s_ri rfl dX10_then_18)))))))))))
noncomputable def k_X10_then_147 (κ : gb_K) : gb_C := (o_ib (fun x y => x + y) (o_cv 1 10 1 f_X10_allOn o_ri))
theorem l_X10_then_147 : gb_Li (fun κ => k_X10_then_147 κ) := (gb_li (q_ib _) (gb_li (q_cv 1 10 1 f_X10_allOn) (gb_li0 _)))
theorem s_X10_then_147   {κ : gb_K} (hκ : ∀ q, gb_S RX10 cX10_then 5 (gb_rm 7 159) 1 q (κ q)) : gb_S RX10 cX10_then 5 (gb_rm 7 159) 1 147 (k_X10_then_147 κ) := (s_iadd dX10_then_147 (s_cv (C := RX10) c_X10_allOn rfl (gb_l5 gw_606 gw_607 gw_608 gw_553 gw_609) v_X10_allOn ⟨rfl, rfl⟩ ⟨Nat.le_of_ble_eq_true rfl, Nat.le_of_ble_eq_true rfl⟩ dX10_then_148 (s_ri rfl dX10_then_151)))
noncomputable def k_X10_then_23 (κ : gb_K) : gb_C := (o_il 3 (o_ci 6 (o_cge (o_al 0 (o_ci 0 (o_pf 10 9 (o_al 0 (o_al 0 (o_cv 0 10 1 f_X10_allNow (o_al 0 (o_al 0 (o_gf 10 0 (o_ci 174 (o_iald (o_il 1 (o_ib (fun x y => x + y) (o_cv 1 10 1 f_X10_allOn (o_ib (fun x y => x - y) (o_i2l (o_cv 1 10 0 f_X10_tell (o_al 0 (o_il 2 (o_i2l (o_cv 1 10 0 f_X10_tell (o_al 0 (o_al 0 (o_gf 10 0 (o_ci 174 (o_iald (o_il 1 (k_X10_then_147 κ)))))))))))))))))))))))))))) (o_ci 0 (o_is 4 (o_j [0, 1, 2, 3, 4] (κ 32)))))))
theorem l_X10_then_23 : gb_Li (fun κ => k_X10_then_23 κ) := (gb_li (q_il 3) (gb_li (q_ci 6) (q_cge (gb_li (q_al 0) (gb_li (q_ci 0) (gb_li (q_pf 10 9) (gb_li (q_al 0) (gb_li (q_al 0) (gb_li (q_cv 0 10 1 f_X10_allNow) (gb_li (q_al 0) (gb_li (q_al 0) (gb_li (q_gf 10 0) (gb_li (q_ci 174) (gb_li q_iald (gb_li (q_il 1) (gb_li (q_ib _) (gb_li (q_cv 1 10 1 f_X10_allOn) (gb_li (q_ib _) (gb_li q_i2l (gb_li (q_cv 1 10 0 f_X10_tell) (gb_li (q_al 0) (gb_li (q_il 2) (gb_li q_i2l (gb_li (q_cv 1 10 0 f_X10_tell) (gb_li (q_al 0) (gb_li (q_al 0) (gb_li (q_gf 10 0) (gb_li (q_ci 174) (gb_li q_iald (gb_li (q_il 1) (l_X10_then_147)))))))))))))))))))))))))))) (gb_li (q_ci 0) (gb_li (q_is 4) (q_j [0, 1, 2, 3, 4] 32))))))
theorem s_X10_then_23   {κ : gb_K} (hκ : ∀ q, gb_S RX10 cX10_then 5 (gb_rm 7 159) 1 q (κ q)) : gb_S RX10 cX10_then 5 (gb_rm 7 159) 1 23 (k_X10_then_23 κ) := (s_iln 3 rfl dX10_then_23 (s_bipush (by decide +kernel) dX10_then_24 (s_cge (tgt := 102) (by decide +kernel) dX10_then_26 (s_aln 0 rfl dX10_then_102 (s_iconst (by decide +kernel) dX10_then_103 (s_pf (T := TX10) winX10 rfl (Nat.le_of_ble_eq_true rfl) tyX10_ok nmX10 rfl (by decide +kernel) gw_548 rfl dX10_then_104 (s_aln 0 rfl dX10_then_107 (s_aln 0 rfl dX10_then_108 (s_cv (C := RX10) c_X10_allNow rfl (gb_l5 gw_797 gw_798 gw_799 gw_553 gw_800) v_X10_allNow ⟨rfl, rfl⟩ ⟨Nat.le_of_ble_eq_true rfl, Nat.le_of_ble_eq_true rfl⟩ dX10_then_109 (s_aln 0 rfl dX10_then_112 (s_aln 0 rfl dX10_then_113 (s_gf (T := TX10) winX10 rfl (Nat.le_of_ble_eq_true rfl) gw_545 rfl dX10_then_114 (s_sipush (by decide +kernel) dX10_then_117 (s_iald dX10_then_120 (s_iln 1 rfl dX10_then_121 (s_iadd dX10_then_122 (s_cv (C := RX10) c_X10_allOn rfl (gb_l5 gw_606 gw_607 gw_608 gw_553 gw_609) v_X10_allOn ⟨rfl, rfl⟩ ⟨Nat.le_of_ble_eq_true rfl, Nat.le_of_ble_eq_true rfl⟩ dX10_then_123 (s_isub dX10_then_126 (s_i2l dX10_then_127 (s_cv (C := RX10) c_X10_tell rfl (gb_l5 gw_732 gw_733 gw_734 gw_553 gw_735) v_X10_tell ⟨rfl, rfl⟩ ⟨Nat.le_of_ble_eq_true rfl, Nat.le_of_ble_eq_true rfl⟩ dX10_then_128 (s_aln 0 rfl dX10_then_131 (s_iln 2 rfl dX10_then_132 (s_i2l dX10_then_133 (s_cv (C := RX10) c_X10_tell rfl (gb_l5 gw_732 gw_733 gw_734 gw_553 gw_735) v_X10_tell ⟨rfl, rfl⟩ ⟨Nat.le_of_ble_eq_true rfl, Nat.le_of_ble_eq_true rfl⟩ dX10_then_134 (s_aln 0 rfl dX10_then_137 (s_aln 0 rfl dX10_then_138 (s_gf (T := TX10) winX10 rfl (Nat.le_of_ble_eq_true rfl) gw_545 rfl dX10_then_139 (s_sipush (by decide +kernel) dX10_then_142 (s_iald dX10_then_145 (s_iln 1 rfl dX10_then_146 (s_X10_then_147 hκ)))))))))))))))))))))))))))) (s_iconst (by decide +kernel) dX10_then_29 (s_is (Nat.le_of_ble_eq_true rfl) dX10_then_30 (s_j (hκ 32)))))))
noncomputable def k_X10_then_90 (κ : gb_K) : gb_C := (o_inc 4 1 (o_j [0, 1, 2, 3, 4] (κ 32)))
theorem l_X10_then_90 : gb_Li (fun κ => k_X10_then_90 κ) := (gb_li (q_inc 4 1) (q_j [0, 1, 2, 3, 4] 32))
theorem s_X10_then_90   {κ : gb_K} (hκ : ∀ q, gb_S RX10 cX10_then 5 (gb_rm 7 159) 1 q (κ q)) : gb_S RX10 cX10_then 5 (gb_rm 7 159) 1 90 (k_X10_then_90 κ) := (s_inc (by decide +kernel) (Nat.le_of_ble_eq_true rfl) dX10_then_90 (s_goto (tgt := 32) (by decide +kernel) dX10_then_93 (s_j (hκ 32))))
noncomputable def k_X10_then_81 (κ : gb_K) : gb_C := (o_il 4 (o_ci 0 (o_cv 3 10 1 f_X10_layerOf (o_ib (fun x y => x <<< (y &&& 31)) (o_ib (fun x y => x ||| y) (o_is 2 (k_X10_then_90 κ)))))))
theorem l_X10_then_81 : gb_Li (fun κ => k_X10_then_81 κ) := (gb_li (q_il 4) (gb_li (q_ci 0) (gb_li (q_cv 3 10 1 f_X10_layerOf) (gb_li (q_ib _) (gb_li (q_ib _) (gb_li (q_is 2) (l_X10_then_90)))))))
theorem s_X10_then_81   {κ : gb_K} (hκ : ∀ q, gb_S RX10 cX10_then 5 (gb_rm 7 159) 1 q (κ q)) : gb_S RX10 cX10_then 5 (gb_rm 7 159) 1 81 (k_X10_then_81 κ) := (s_il dX10_then_81 (s_iconst (by decide +kernel) dX10_then_83 (s_cv (C := RX10) c_X10_layerOf rfl (gb_l5 gw_561 gw_562 gw_563 gw_553 gw_564) v_X10_layerOf ⟨rfl, rfl⟩ ⟨Nat.le_of_ble_eq_true rfl, Nat.le_of_ble_eq_true rfl⟩ dX10_then_84 (s_ishl dX10_then_87 (s_ior dX10_then_88 (s_isn 2 rfl (Nat.le_of_ble_eq_true rfl) dX10_then_89 (s_X10_then_90 hκ)))))))
noncomputable def k_X10_then_32 (κ : gb_K) : gb_C := (o_il 4 (o_al 0 (o_il 3 (o_cv 1 10 1 f_X10_many (o_cge (o_inc 3 1 (o_j [0, 1, 2, 3] (κ 23))) (o_al 0 (o_al 0 (o_gf 10 0 (o_ci 174 (o_iald (o_il 1 (o_ib (fun x y => x + y) (o_il 3 (o_il 4 (o_cv 3 10 1 f_X10_unitOn (o_al 0 (o_gf 10 0 (o_ci 0 (o_al 0 (o_il 3 (o_il 4 (o_ci 0 (o_cv 3 10 1 f_X10_layerOf (o_ib (fun x y => x + y) (o_iald (o_cge (k_X10_then_90 κ) (o_il 2 (o_ci 1 (o_al 0 (o_il 3 (k_X10_then_81 κ)))))))))))))))))))))))))))))))
theorem l_X10_then_32 : gb_Li (fun κ => k_X10_then_32 κ) := (gb_li (q_il 4) (gb_li (q_al 0) (gb_li (q_il 3) (gb_li (q_cv 1 10 1 f_X10_many) (q_cge (gb_li (q_inc 3 1) (q_j [0, 1, 2, 3] 23)) (gb_li (q_al 0) (gb_li (q_al 0) (gb_li (q_gf 10 0) (gb_li (q_ci 174) (gb_li q_iald (gb_li (q_il 1) (gb_li (q_ib _) (gb_li (q_il 3) (gb_li (q_il 4) (gb_li (q_cv 3 10 1 f_X10_unitOn) (gb_li (q_al 0) (gb_li (q_gf 10 0) (gb_li (q_ci 0) (gb_li (q_al 0) (gb_li (q_il 3) (gb_li (q_il 4) (gb_li (q_ci 0) (gb_li (q_cv 3 10 1 f_X10_layerOf) (gb_li (q_ib _) (gb_li q_iald (q_cge (l_X10_then_90) (gb_li (q_il 2) (gb_li (q_ci 1) (gb_li (q_al 0) (gb_li (q_il 3) (l_X10_then_81)))))))))))))))))))))))))))))))
theorem s_X10_then_32   {κ : gb_K} (hκ : ∀ q, gb_S RX10 cX10_then 5 (gb_rm 7 159) 1 q (κ q)) : gb_S RX10 cX10_then 5 (gb_rm 7 159) 1 32 (k_X10_then_32 κ) := (s_il dX10_then_32 (s_aln 0 rfl dX10_then_34 (s_iln 3 rfl dX10_then_35 (s_cv (C := RX10) c_X10_many rfl (gb_l5 gw_557 gw_558 gw_559 gw_553 gw_560) v_X10_many ⟨rfl, rfl⟩ ⟨Nat.le_of_ble_eq_true rfl, Nat.le_of_ble_eq_true rfl⟩ dX10_then_36 (s_cge (tgt := 96) (by decide +kernel) dX10_then_39 (s_inc (by decide +kernel) (Nat.le_of_ble_eq_true rfl) dX10_then_96 (s_goto (tgt := 23) (by decide +kernel) dX10_then_99 (s_j (hκ 23)))) (s_aln 0 rfl dX10_then_42 (s_aln 0 rfl dX10_then_43 (s_gf (T := TX10) winX10 rfl (Nat.le_of_ble_eq_true rfl) gw_545 rfl dX10_then_44 (s_sipush (by decide +kernel) dX10_then_47 (s_iald dX10_then_50 (s_iln 1 rfl dX10_then_51 (s_iadd dX10_then_52 (s_iln 3 rfl dX10_then_53 (s_il dX10_then_54 (s_cv (C := RX10) c_X10_unitOn rfl (gb_l5 gw_577 gw_578 gw_579 gw_553 gw_580) v_X10_unitOn ⟨rfl, rfl⟩ ⟨Nat.le_of_ble_eq_true rfl, Nat.le_of_ble_eq_true rfl⟩ dX10_then_56 (s_aln 0 rfl dX10_then_59 (s_gf (T := TX10) winX10 rfl (Nat.le_of_ble_eq_true rfl) gw_545 rfl dX10_then_60 (s_iconst (by decide +kernel) dX10_then_63 (s_aln 0 rfl dX10_then_64 (s_iln 3 rfl dX10_then_65 (s_il dX10_then_66 (s_iconst (by decide +kernel) dX10_then_68 (s_cv (C := RX10) c_X10_layerOf rfl (gb_l5 gw_561 gw_562 gw_563 gw_553 gw_564) v_X10_layerOf ⟨rfl, rfl⟩ ⟨Nat.le_of_ble_eq_true rfl, Nat.le_of_ble_eq_true rfl⟩ dX10_then_69 (s_iadd dX10_then_72 (s_iald dX10_then_73 (s_cge (tgt := 90) (by decide +kernel) dX10_then_74 (s_X10_then_90 hκ) (s_iln 2 rfl dX10_then_77 (s_iconst (by decide +kernel) dX10_then_78 (s_aln 0 rfl dX10_then_79 (s_iln 3 rfl dX10_then_80 (s_X10_then_81 hκ)))))))))))))))))))))))))))))))
noncomputable def B_X10_then : List (Nat × (gb_K → gb_C)) := [(23, fun κ => k_X10_then_23 κ), (32, fun κ => k_X10_then_32 κ)]
noncomputable def K_X10_then : gb_K := gb_fx (gb_tb (B_X10_then))
theorem L_X10_then : ∀ q, gb_Li (fun κ => gb_tb (B_X10_then) κ q) := gb_tb_li (List.forall_mem_cons.mpr ⟨l_X10_then_23, List.forall_mem_cons.mpr ⟨l_X10_then_32, (fun _ h => absurd h List.not_mem_nil)⟩⟩)
theorem S_X10_then   : ∀ q, gb_S RX10 cX10_then 5 (gb_rm 7 159) 1 q (K_X10_then q) := fun q => gb_fx_S (L_X10_then) (gb_tb_S (List.forall_mem_cons.mpr ⟨fun κ hκ => s_X10_then_23 hκ, List.forall_mem_cons.mpr ⟨fun κ hκ => s_X10_then_32 hκ, (fun _ h => absurd h List.not_mem_nil)⟩⟩)) q
noncomputable def f_X10_then : gb_F := gb_hide (gb_mf 5 (k_X10_then_0 (K_X10_then)))
theorem c_X10_then : ∀ l, gb_Met l yX10_then cX10_then 5 (some .int) 1 (gb_rm 7 159) f_X10_then := gb_hide_c (gb_met (own := RX10) (rk := 1) rfl (by decide +kernel) ⟨rfl, rfl⟩ (s_X10_then_0 (S_X10_then)))
theorem dX10_falls_0 : decode cX10_falls 0 = .ok (.aload_n 0, 1) := by decide +kernel
theorem dX10_falls_1 : decode cX10_falls 1 = .ok (.iconst 0, 1) := by decide +kernel
theorem dX10_falls_2 : decode cX10_falls 2 = .ok (.putfield 66, 3) := by decide +kernel
theorem dX10_falls_5 : decode cX10_falls 5 = .ok (.iload_n 1, 1) := by decide +kernel
theorem dX10_falls_6 : decode cX10_falls 6 = .ok (.invokestatic 233, 3) := by decide +kernel
theorem dX10_falls_9 : decode cX10_falls 9 = .ok (.ifCond .ne 5, 3) := by decide +kernel
theorem dX10_falls_12 : decode cX10_falls 12 = .ok (.iconst (-1), 1) := by decide +kernel
theorem dX10_falls_13 : decode cX10_falls 13 = .ok (.ireturn, 1) := by decide +kernel
theorem dX10_falls_14 : decode cX10_falls 14 = .ok (.iconst 0, 1) := by decide +kernel
theorem dX10_falls_15 : decode cX10_falls 15 = .ok (.istore_n 3, 1) := by decide +kernel
theorem dX10_falls_16 : decode cX10_falls 16 = .ok (.iload_n 3, 1) := by decide +kernel
theorem dX10_falls_17 : decode cX10_falls 17 = .ok (.sipush 1000, 3) := by decide +kernel
theorem dX10_falls_20 : decode cX10_falls 20 = .ok (.if_icmp .ge 30, 3) := by decide +kernel
theorem dX10_falls_23 : decode cX10_falls 23 = .ok (.aload_n 0, 1) := by decide +kernel
theorem dX10_falls_24 : decode cX10_falls 24 = .ok (.aload_n 0, 1) := by decide +kernel
theorem dX10_falls_25 : decode cX10_falls 25 = .ok (.getfield 7, 3) := by decide +kernel
theorem dX10_falls_28 : decode cX10_falls 28 = .ok (.sipush 174, 3) := by decide +kernel
theorem dX10_falls_31 : decode cX10_falls 31 = .ok (.iaload, 1) := by decide +kernel
theorem dX10_falls_32 : decode cX10_falls 32 = .ok (.iload_n 3, 1) := by decide +kernel
theorem dX10_falls_33 : decode cX10_falls 33 = .ok (.iadd, 1) := by decide +kernel
theorem dX10_falls_34 : decode cX10_falls 34 = .ok (.iload_n 1, 1) := by decide +kernel
theorem dX10_falls_35 : decode cX10_falls 35 = .ok (.invokevirtual 128, 3) := by decide +kernel
theorem dX10_falls_38 : decode cX10_falls 38 = .ok (.iload_n 2, 1) := by decide +kernel
theorem dX10_falls_39 : decode cX10_falls 39 = .ok (.if_icmp .ge 5, 3) := by decide +kernel
theorem dX10_falls_42 : decode cX10_falls 42 = .ok (.iload_n 3, 1) := by decide +kernel
theorem dX10_falls_43 : decode cX10_falls 43 = .ok (.ireturn, 1) := by decide +kernel
theorem dX10_falls_44 : decode cX10_falls 44 = .ok (.iinc 3 1, 3) := by decide +kernel
theorem dX10_falls_47 : decode cX10_falls 47 = .ok (.goto (-31), 3) := by decide +kernel
theorem dX10_falls_50 : decode cX10_falls 50 = .ok (.bipush (-2), 2) := by decide +kernel
theorem dX10_falls_52 : decode cX10_falls 52 = .ok (.ireturn, 1) := by decide +kernel
theorem v_X10_falls : yX10_falls.cls = RX10 ∧ yX10_falls.cls ≠ "java/lang/invoke/MethodHandle" ∧ yX10_falls.cls ≠ "java/lang/invoke/VarHandle" ∧ (parseMethodDescriptor yX10_falls.desc).map (fun d => d.parameters.length) = some 2 := ⟨rfl, by decide +kernel, by decide +kernel, by decide +kernel⟩
noncomputable def k_X10_falls_0 (κ : gb_K) : gb_C := (o_al 0 (o_ci 0 (o_pf 10 10 (o_il 1 (o_cs 1 2 f_X10_isBin (o_zeq (o_ci (-1) o_ri) (o_ci 0 (o_is 3 (o_j [0, 1, 2, 3] (κ 16))))))))))
theorem l_X10_falls_0 : gb_Li (fun κ => k_X10_falls_0 κ) := (gb_li (q_al 0) (gb_li (q_ci 0) (gb_li (q_pf 10 10) (gb_li (q_il 1) (gb_li (q_cs 1 2 f_X10_isBin) (q_zeq (gb_li (q_ci (-1)) (gb_li0 _)) (gb_li (q_ci 0) (gb_li (q_is 3) (q_j [0, 1, 2, 3] 16)))))))))
theorem s_X10_falls_0   {κ : gb_K} (hκ : ∀ q, gb_S RX10 cX10_falls 4 (gb_rm 5 116) 1 q (κ q)) : gb_S RX10 cX10_falls 4 (gb_rm 5 116) 1 0 (k_X10_falls_0 κ) := (s_aln 0 rfl dX10_falls_0 (s_iconst (by decide +kernel) dX10_falls_1 (s_pf (T := TX10) winX10 rfl (Nat.le_of_ble_eq_true rfl) tyX10_ok nmX10 rfl (by decide +kernel) gw_546 rfl dX10_falls_2 (s_iln 1 rfl dX10_falls_5 (s_cs c_X10_isBin (gb_l4 gw_705 gw_706 gw_553 gw_707) v_X10_isBin.2 ⟨rfl, rfl⟩ ⟨Nat.le_of_ble_eq_true rfl, Nat.le_of_ble_eq_true rfl⟩ dX10_falls_6 (s_zne (tgt := 14) (by decide +kernel) dX10_falls_9 (s_iconst (by decide +kernel) dX10_falls_14 (s_isn 3 rfl (Nat.le_of_ble_eq_true rfl) dX10_falls_15 (s_j (hκ 16)))) (s_iconst (by decide +kernel) dX10_falls_12 (s_ri rfl dX10_falls_13))))))))
noncomputable def k_X10_falls_16 (κ : gb_K) : gb_C := (o_il 3 (o_ci 1000 (o_cge (o_ci (-2) o_ri) (o_al 0 (o_al 0 (o_gf 10 0 (o_ci 174 (o_iald (o_il 3 (o_ib (fun x y => x + y) (o_il 1 (o_cv 2 10 1 f_X10_valueOn (o_il 2 (o_cge (o_inc 3 1 (o_j [0, 1, 2, 3] (κ 16))) (o_il 3 o_ri)))))))))))))))
theorem l_X10_falls_16 : gb_Li (fun κ => k_X10_falls_16 κ) := (gb_li (q_il 3) (gb_li (q_ci 1000) (q_cge (gb_li (q_ci (-2)) (gb_li0 _)) (gb_li (q_al 0) (gb_li (q_al 0) (gb_li (q_gf 10 0) (gb_li (q_ci 174) (gb_li q_iald (gb_li (q_il 3) (gb_li (q_ib _) (gb_li (q_il 1) (gb_li (q_cv 2 10 1 f_X10_valueOn) (gb_li (q_il 2) (q_cge (gb_li (q_inc 3 1) (q_j [0, 1, 2, 3] 16)) (gb_li (q_il 3) (gb_li0 _))))))))))))))))
theorem s_X10_falls_16   {κ : gb_K} (hκ : ∀ q, gb_S RX10 cX10_falls 4 (gb_rm 5 116) 1 q (κ q)) : gb_S RX10 cX10_falls 4 (gb_rm 5 116) 1 16 (k_X10_falls_16 κ) := (s_iln 3 rfl dX10_falls_16 (s_sipush (by decide +kernel) dX10_falls_17 (s_cge (tgt := 50) (by decide +kernel) dX10_falls_20 (s_bipush (by decide +kernel) dX10_falls_50 (s_ri rfl dX10_falls_52)) (s_aln 0 rfl dX10_falls_23 (s_aln 0 rfl dX10_falls_24 (s_gf (T := TX10) winX10 rfl (Nat.le_of_ble_eq_true rfl) gw_545 rfl dX10_falls_25 (s_sipush (by decide +kernel) dX10_falls_28 (s_iald dX10_falls_31 (s_iln 3 rfl dX10_falls_32 (s_iadd dX10_falls_33 (s_iln 1 rfl dX10_falls_34 (s_cv (C := RX10) c_X10_valueOn rfl (gb_l5 gw_602 gw_603 gw_604 gw_553 gw_605) v_X10_valueOn ⟨rfl, rfl⟩ ⟨Nat.le_of_ble_eq_true rfl, Nat.le_of_ble_eq_true rfl⟩ dX10_falls_35 (s_iln 2 rfl dX10_falls_38 (s_cge (tgt := 44) (by decide +kernel) dX10_falls_39 (s_inc (by decide +kernel) (Nat.le_of_ble_eq_true rfl) dX10_falls_44 (s_goto (tgt := 16) (by decide +kernel) dX10_falls_47 (s_j (hκ 16)))) (s_iln 3 rfl dX10_falls_42 (s_ri rfl dX10_falls_43))))))))))))))))
noncomputable def B_X10_falls : List (Nat × (gb_K → gb_C)) := [(16, fun κ => k_X10_falls_16 κ)]
noncomputable def K_X10_falls : gb_K := gb_fx (gb_tb (B_X10_falls))
theorem L_X10_falls : ∀ q, gb_Li (fun κ => gb_tb (B_X10_falls) κ q) := gb_tb_li (List.forall_mem_cons.mpr ⟨l_X10_falls_16, (fun _ h => absurd h List.not_mem_nil)⟩)
theorem S_X10_falls   : ∀ q, gb_S RX10 cX10_falls 4 (gb_rm 5 116) 1 q (K_X10_falls q) := fun q => gb_fx_S (L_X10_falls) (gb_tb_S (List.forall_mem_cons.mpr ⟨fun κ hκ => s_X10_falls_16 hκ, (fun _ h => absurd h List.not_mem_nil)⟩)) q
noncomputable def f_X10_falls : gb_F := gb_hide (gb_mf 4 (k_X10_falls_0 (K_X10_falls)))
theorem c_X10_falls : ∀ l, gb_Met l yX10_falls cX10_falls 4 (some .int) 1 (gb_rm 5 116) f_X10_falls := gb_hide_c (gb_met (own := RX10) (rk := 1) rfl (by decide +kernel) ⟨rfl, rfl⟩ (s_X10_falls_0 (S_X10_falls)))
theorem dX10_old_0 : decode cX10_old 0 = .ok (.aload_n 0, 1) := by decide +kernel
theorem dX10_old_1 : decode cX10_old 1 = .ok (.iconst 0, 1) := by decide +kernel
theorem dX10_old_2 : decode cX10_old 2 = .ok (.putfield 66, 3) := by decide +kernel
theorem dX10_old_5 : decode cX10_old 5 = .ok (.aload_n 0, 1) := by decide +kernel
theorem dX10_old_6 : decode cX10_old 6 = .ok (.iconst 0, 1) := by decide +kernel
theorem dX10_old_7 : decode cX10_old 7 = .ok (.putfield 70, 3) := by decide +kernel
theorem dX10_old_10 : decode cX10_old 10 = .ok (.iconst 0, 1) := by decide +kernel
theorem dX10_old_11 : decode cX10_old 11 = .ok (.istore_n 1, 1) := by decide +kernel
theorem dX10_old_12 : decode cX10_old 12 = .ok (.iconst 0, 1) := by decide +kernel
theorem dX10_old_13 : decode cX10_old 13 = .ok (.istore_n 2, 1) := by decide +kernel
theorem dX10_old_14 : decode cX10_old 14 = .ok (.iconst 0, 1) := by decide +kernel
theorem dX10_old_15 : decode cX10_old 15 = .ok (.istore_n 3, 1) := by decide +kernel
theorem dX10_old_16 : decode cX10_old 16 = .ok (.iload_n 3, 1) := by decide +kernel
theorem dX10_old_17 : decode cX10_old 17 = .ok (.bipush 6, 2) := by decide +kernel
theorem dX10_old_19 : decode cX10_old 19 = .ok (.if_icmp .ge 100, 3) := by decide +kernel
theorem dX10_old_22 : decode cX10_old 22 = .ok (.iconst 0, 1) := by decide +kernel
theorem dX10_old_23 : decode cX10_old 23 = .ok (.istore 4, 2) := by decide +kernel
theorem dX10_old_25 : decode cX10_old 25 = .ok (.iconst 0, 1) := by decide +kernel
theorem dX10_old_26 : decode cX10_old 26 = .ok (.istore 5, 2) := by decide +kernel
theorem dX10_old_28 : decode cX10_old 28 = .ok (.iload 5, 2) := by decide +kernel
theorem dX10_old_30 : decode cX10_old 30 = .ok (.aload_n 0, 1) := by decide +kernel
theorem dX10_old_31 : decode cX10_old 31 = .ok (.iload_n 3, 1) := by decide +kernel
theorem dX10_old_32 : decode cX10_old 32 = .ok (.invokevirtual 84, 3) := by decide +kernel
theorem dX10_old_35 : decode cX10_old 35 = .ok (.if_icmp .ge 51, 3) := by decide +kernel
theorem dX10_old_38 : decode cX10_old 38 = .ok (.iload 4, 2) := by decide +kernel
theorem dX10_old_40 : decode cX10_old 40 = .ok (.aload_n 0, 1) := by decide +kernel
theorem dX10_old_41 : decode cX10_old 41 = .ok (.iload_n 3, 1) := by decide +kernel
theorem dX10_old_42 : decode cX10_old 42 = .ok (.iload 5, 2) := by decide +kernel
theorem dX10_old_44 : decode cX10_old 44 = .ok (.invokevirtual 159, 3) := by decide +kernel
theorem dX10_old_47 : decode cX10_old 47 = .ok (.aload_n 0, 1) := by decide +kernel
theorem dX10_old_48 : decode cX10_old 48 = .ok (.getfield 7, 3) := by decide +kernel
theorem dX10_old_51 : decode cX10_old 51 = .ok (.iconst 0, 1) := by decide +kernel
theorem dX10_old_52 : decode cX10_old 52 = .ok (.aload_n 0, 1) := by decide +kernel
theorem dX10_old_53 : decode cX10_old 53 = .ok (.iload_n 3, 1) := by decide +kernel
theorem dX10_old_54 : decode cX10_old 54 = .ok (.iload 5, 2) := by decide +kernel
theorem dX10_old_56 : decode cX10_old 56 = .ok (.iconst 0, 1) := by decide +kernel
theorem dX10_old_57 : decode cX10_old 57 = .ok (.invokevirtual 88, 3) := by decide +kernel
theorem dX10_old_60 : decode cX10_old 60 = .ok (.iadd, 1) := by decide +kernel
theorem dX10_old_61 : decode cX10_old 61 = .ok (.iaload, 1) := by decide +kernel
theorem dX10_old_62 : decode cX10_old 62 = .ok (.if_icmp .ge 14, 3) := by decide +kernel
theorem dX10_old_65 : decode cX10_old 65 = .ok (.aload_n 0, 1) := by decide +kernel
theorem dX10_old_66 : decode cX10_old 66 = .ok (.iload_n 3, 1) := by decide +kernel
theorem dX10_old_67 : decode cX10_old 67 = .ok (.iload 5, 2) := by decide +kernel
theorem dX10_old_69 : decode cX10_old 69 = .ok (.iconst 1, 1) := by decide +kernel
theorem dX10_old_70 : decode cX10_old 70 = .ok (.invokevirtual 88, 3) := by decide +kernel
theorem dX10_old_73 : decode cX10_old 73 = .ok (.goto 4, 3) := by decide +kernel
theorem dX10_old_76 : decode cX10_old 76 = .ok (.iconst 0, 1) := by decide +kernel
theorem dX10_old_77 : decode cX10_old 77 = .ok (.iadd, 1) := by decide +kernel
theorem dX10_old_78 : decode cX10_old 78 = .ok (.istore 4, 2) := by decide +kernel
theorem dX10_old_80 : decode cX10_old 80 = .ok (.iinc 5 1, 3) := by decide +kernel
theorem dX10_old_83 : decode cX10_old 83 = .ok (.goto (-55), 3) := by decide +kernel
theorem dX10_old_86 : decode cX10_old 86 = .ok (.aload_n 0, 1) := by decide +kernel
theorem dX10_old_87 : decode cX10_old 87 = .ok (.iload 4, 2) := by decide +kernel
theorem dX10_old_89 : decode cX10_old 89 = .ok (.i2l, 1) := by decide +kernel
theorem dX10_old_90 : decode cX10_old 90 = .ok (.invokevirtual 259, 3) := by decide +kernel
theorem dX10_old_93 : decode cX10_old 93 = .ok (.iload_n 1, 1) := by decide +kernel
theorem dX10_old_94 : decode cX10_old 94 = .ok (.iload 4, 2) := by decide +kernel
theorem dX10_old_96 : decode cX10_old 96 = .ok (.iadd, 1) := by decide +kernel
theorem dX10_old_97 : decode cX10_old 97 = .ok (.istore_n 1, 1) := by decide +kernel
theorem dX10_old_98 : decode cX10_old 98 = .ok (.iload_n 2, 1) := by decide +kernel
theorem dX10_old_99 : decode cX10_old 99 = .ok (.iload 4, 2) := by decide +kernel
theorem dX10_old_101 : decode cX10_old 101 = .ok (.ifCond .le 9, 3) := by decide +kernel
theorem dX10_old_104 : decode cX10_old 104 = .ok (.iconst 1, 1) := by decide +kernel
theorem dX10_old_105 : decode cX10_old 105 = .ok (.iload_n 3, 1) := by decide +kernel
theorem dX10_old_106 : decode cX10_old 106 = .ok (.ishl, 1) := by decide +kernel
theorem dX10_old_107 : decode cX10_old 107 = .ok (.goto 4, 3) := by decide +kernel
theorem dX10_old_110 : decode cX10_old 110 = .ok (.iconst 0, 1) := by decide +kernel
theorem dX10_old_111 : decode cX10_old 111 = .ok (.ior, 1) := by decide +kernel
theorem dX10_old_112 : decode cX10_old 112 = .ok (.istore_n 2, 1) := by decide +kernel
theorem dX10_old_113 : decode cX10_old 113 = .ok (.iinc 3 1, 3) := by decide +kernel
theorem dX10_old_116 : decode cX10_old 116 = .ok (.goto (-100), 3) := by decide +kernel
theorem dX10_old_119 : decode cX10_old 119 = .ok (.aload_n 0, 1) := by decide +kernel
theorem dX10_old_120 : decode cX10_old 120 = .ok (.iload_n 2, 1) := by decide +kernel
theorem dX10_old_121 : decode cX10_old 121 = .ok (.i2l, 1) := by decide +kernel
theorem dX10_old_122 : decode cX10_old 122 = .ok (.invokevirtual 259, 3) := by decide +kernel
theorem dX10_old_125 : decode cX10_old 125 = .ok (.iload_n 1, 1) := by decide +kernel
theorem dX10_old_126 : decode cX10_old 126 = .ok (.ireturn, 1) := by decide +kernel
theorem v_X10_old : yX10_old.cls = RX10 ∧ yX10_old.cls ≠ "java/lang/invoke/MethodHandle" ∧ yX10_old.cls ≠ "java/lang/invoke/VarHandle" ∧ (parseMethodDescriptor yX10_old.desc).map (fun d => d.parameters.length) = some 0 := ⟨rfl, by decide +kernel, by decide +kernel, by decide +kernel⟩
noncomputable def k_X10_old_0 (κ : gb_K) : gb_C := (o_al 0 (o_ci 0 (o_pf 10 10 (o_al 0 (o_ci 0 (o_pf 10 9 (o_ci 0 (o_is 1 (o_ci 0 (o_is 2 (o_ci 0 (o_is 3 (o_j [0, 1, 2, 3] (κ 16))))))))))))))
theorem l_X10_old_0 : gb_Li (fun κ => k_X10_old_0 κ) := (gb_li (q_al 0) (gb_li (q_ci 0) (gb_li (q_pf 10 10) (gb_li (q_al 0) (gb_li (q_ci 0) (gb_li (q_pf 10 9) (gb_li (q_ci 0) (gb_li (q_is 1) (gb_li (q_ci 0) (gb_li (q_is 2) (gb_li (q_ci 0) (gb_li (q_is 3) (q_j [0, 1, 2, 3] 16)))))))))))))
theorem s_X10_old_0   {κ : gb_K} (hκ : ∀ q, gb_S RX10 cX10_old 6 (gb_rm 3 70) 1 q (κ q)) : gb_S RX10 cX10_old 6 (gb_rm 3 70) 1 0 (k_X10_old_0 κ) := (s_aln 0 rfl dX10_old_0 (s_iconst (by decide +kernel) dX10_old_1 (s_pf (T := TX10) winX10 rfl (Nat.le_of_ble_eq_true rfl) tyX10_ok nmX10 rfl (by decide +kernel) gw_546 rfl dX10_old_2 (s_aln 0 rfl dX10_old_5 (s_iconst (by decide +kernel) dX10_old_6 (s_pf (T := TX10) winX10 rfl (Nat.le_of_ble_eq_true rfl) tyX10_ok nmX10 rfl (by decide +kernel) gw_548 rfl dX10_old_7 (s_iconst (by decide +kernel) dX10_old_10 (s_isn 1 rfl (Nat.le_of_ble_eq_true rfl) dX10_old_11 (s_iconst (by decide +kernel) dX10_old_12 (s_isn 2 rfl (Nat.le_of_ble_eq_true rfl) dX10_old_13 (s_iconst (by decide +kernel) dX10_old_14 (s_isn 3 rfl (Nat.le_of_ble_eq_true rfl) dX10_old_15 (s_j (hκ 16))))))))))))))
noncomputable def k_X10_old_16 (κ : gb_K) : gb_C := (o_il 3 (o_ci 6 (o_cge (o_al 0 (o_il 2 (o_i2l (o_cv 1 10 0 f_X10_tell (o_il 1 o_ri))))) (o_ci 0 (o_is 4 (o_ci 0 (o_is 5 (o_j [0, 1, 2, 3, 4, 5] (κ 28)))))))))
theorem l_X10_old_16 : gb_Li (fun κ => k_X10_old_16 κ) := (gb_li (q_il 3) (gb_li (q_ci 6) (q_cge (gb_li (q_al 0) (gb_li (q_il 2) (gb_li q_i2l (gb_li (q_cv 1 10 0 f_X10_tell) (gb_li (q_il 1) (gb_li0 _)))))) (gb_li (q_ci 0) (gb_li (q_is 4) (gb_li (q_ci 0) (gb_li (q_is 5) (q_j [0, 1, 2, 3, 4, 5] 28))))))))
theorem s_X10_old_16   {κ : gb_K} (hκ : ∀ q, gb_S RX10 cX10_old 6 (gb_rm 3 70) 1 q (κ q)) : gb_S RX10 cX10_old 6 (gb_rm 3 70) 1 16 (k_X10_old_16 κ) := (s_iln 3 rfl dX10_old_16 (s_bipush (by decide +kernel) dX10_old_17 (s_cge (tgt := 119) (by decide +kernel) dX10_old_19 (s_aln 0 rfl dX10_old_119 (s_iln 2 rfl dX10_old_120 (s_i2l dX10_old_121 (s_cv (C := RX10) c_X10_tell rfl (gb_l5 gw_732 gw_733 gw_734 gw_553 gw_735) v_X10_tell ⟨rfl, rfl⟩ ⟨Nat.le_of_ble_eq_true rfl, Nat.le_of_ble_eq_true rfl⟩ dX10_old_122 (s_iln 1 rfl dX10_old_125 (s_ri rfl dX10_old_126)))))) (s_iconst (by decide +kernel) dX10_old_22 (s_is (Nat.le_of_ble_eq_true rfl) dX10_old_23 (s_iconst (by decide +kernel) dX10_old_25 (s_is (Nat.le_of_ble_eq_true rfl) dX10_old_26 (s_j (hκ 28)))))))))
noncomputable def k_X10_old_77 (κ : gb_K) : gb_C := (o_ib (fun x y => x + y) (o_is 4 (o_inc 5 1 (o_j [0, 1, 2, 3, 4, 5] (κ 28)))))
theorem l_X10_old_77 : gb_Li (fun κ => k_X10_old_77 κ) := (gb_li (q_ib _) (gb_li (q_is 4) (gb_li (q_inc 5 1) (q_j [0, 1, 2, 3, 4, 5] 28))))
theorem s_X10_old_77   {κ : gb_K} (hκ : ∀ q, gb_S RX10 cX10_old 6 (gb_rm 3 70) 1 q (κ q)) : gb_S RX10 cX10_old 6 (gb_rm 3 70) 1 77 (k_X10_old_77 κ) := (s_iadd dX10_old_77 (s_is (Nat.le_of_ble_eq_true rfl) dX10_old_78 (s_inc (by decide +kernel) (Nat.le_of_ble_eq_true rfl) dX10_old_80 (s_goto (tgt := 28) (by decide +kernel) dX10_old_83 (s_j (hκ 28))))))
noncomputable def k_X10_old_111 (κ : gb_K) : gb_C := (o_ib (fun x y => x ||| y) (o_is 2 (o_inc 3 1 (o_j [0, 1, 2, 3] (κ 16)))))
theorem l_X10_old_111 : gb_Li (fun κ => k_X10_old_111 κ) := (gb_li (q_ib _) (gb_li (q_is 2) (gb_li (q_inc 3 1) (q_j [0, 1, 2, 3] 16))))
theorem s_X10_old_111   {κ : gb_K} (hκ : ∀ q, gb_S RX10 cX10_old 6 (gb_rm 3 70) 1 q (κ q)) : gb_S RX10 cX10_old 6 (gb_rm 3 70) 1 111 (k_X10_old_111 κ) := (s_ior dX10_old_111 (s_isn 2 rfl (Nat.le_of_ble_eq_true rfl) dX10_old_112 (s_inc (by decide +kernel) (Nat.le_of_ble_eq_true rfl) dX10_old_113 (s_goto (tgt := 16) (by decide +kernel) dX10_old_116 (s_j (hκ 16))))))
noncomputable def k_X10_old_28 (κ : gb_K) : gb_C := (o_il 5 (o_al 0 (o_il 3 (o_cv 1 10 1 f_X10_many (o_cge (o_al 0 (o_il 4 (o_i2l (o_cv 1 10 0 f_X10_tell (o_il 1 (o_il 4 (o_ib (fun x y => x + y) (o_is 1 (o_il 2 (o_il 4 (o_zle (o_ci 0 (k_X10_old_111 κ)) (o_ci 1 (o_il 3 (o_ib (fun x y => x <<< (y &&& 31)) (k_X10_old_111 κ))))))))))))))) (o_il 4 (o_al 0 (o_il 3 (o_il 5 (o_cv 2 10 1 f_X10_unit (o_al 0 (o_gf 10 0 (o_ci 0 (o_al 0 (o_il 3 (o_il 5 (o_ci 0 (o_cv 3 10 1 f_X10_layerOf (o_ib (fun x y => x + y) (o_iald (o_cge (o_ci 0 (k_X10_old_77 κ)) (o_al 0 (o_il 3 (o_il 5 (o_ci 1 (o_cv 3 10 1 f_X10_layerOf (k_X10_old_77 κ)))))))))))))))))))))))))))
theorem l_X10_old_28 : gb_Li (fun κ => k_X10_old_28 κ) := (gb_li (q_il 5) (gb_li (q_al 0) (gb_li (q_il 3) (gb_li (q_cv 1 10 1 f_X10_many) (q_cge (gb_li (q_al 0) (gb_li (q_il 4) (gb_li q_i2l (gb_li (q_cv 1 10 0 f_X10_tell) (gb_li (q_il 1) (gb_li (q_il 4) (gb_li (q_ib _) (gb_li (q_is 1) (gb_li (q_il 2) (gb_li (q_il 4) (q_zle (gb_li (q_ci 0) (l_X10_old_111)) (gb_li (q_ci 1) (gb_li (q_il 3) (gb_li (q_ib _) (l_X10_old_111))))))))))))))) (gb_li (q_il 4) (gb_li (q_al 0) (gb_li (q_il 3) (gb_li (q_il 5) (gb_li (q_cv 2 10 1 f_X10_unit) (gb_li (q_al 0) (gb_li (q_gf 10 0) (gb_li (q_ci 0) (gb_li (q_al 0) (gb_li (q_il 3) (gb_li (q_il 5) (gb_li (q_ci 0) (gb_li (q_cv 3 10 1 f_X10_layerOf) (gb_li (q_ib _) (gb_li q_iald (q_cge (gb_li (q_ci 0) (l_X10_old_77)) (gb_li (q_al 0) (gb_li (q_il 3) (gb_li (q_il 5) (gb_li (q_ci 1) (gb_li (q_cv 3 10 1 f_X10_layerOf) (l_X10_old_77)))))))))))))))))))))))))))
theorem s_X10_old_28   {κ : gb_K} (hκ : ∀ q, gb_S RX10 cX10_old 6 (gb_rm 3 70) 1 q (κ q)) : gb_S RX10 cX10_old 6 (gb_rm 3 70) 1 28 (k_X10_old_28 κ) := (s_il dX10_old_28 (s_aln 0 rfl dX10_old_30 (s_iln 3 rfl dX10_old_31 (s_cv (C := RX10) c_X10_many rfl (gb_l5 gw_557 gw_558 gw_559 gw_553 gw_560) v_X10_many ⟨rfl, rfl⟩ ⟨Nat.le_of_ble_eq_true rfl, Nat.le_of_ble_eq_true rfl⟩ dX10_old_32 (s_cge (tgt := 86) (by decide +kernel) dX10_old_35 (s_aln 0 rfl dX10_old_86 (s_il dX10_old_87 (s_i2l dX10_old_89 (s_cv (C := RX10) c_X10_tell rfl (gb_l5 gw_732 gw_733 gw_734 gw_553 gw_735) v_X10_tell ⟨rfl, rfl⟩ ⟨Nat.le_of_ble_eq_true rfl, Nat.le_of_ble_eq_true rfl⟩ dX10_old_90 (s_iln 1 rfl dX10_old_93 (s_il dX10_old_94 (s_iadd dX10_old_96 (s_isn 1 rfl (Nat.le_of_ble_eq_true rfl) dX10_old_97 (s_iln 2 rfl dX10_old_98 (s_il dX10_old_99 (s_zle (tgt := 110) (by decide +kernel) dX10_old_101 (s_iconst (by decide +kernel) dX10_old_110 (s_X10_old_111 hκ)) (s_iconst (by decide +kernel) dX10_old_104 (s_iln 3 rfl dX10_old_105 (s_ishl dX10_old_106 (s_goto (tgt := 111) (by decide +kernel) dX10_old_107 (s_X10_old_111 hκ)))))))))))))))) (s_il dX10_old_38 (s_aln 0 rfl dX10_old_40 (s_iln 3 rfl dX10_old_41 (s_il dX10_old_42 (s_cv (C := RX10) c_X10_unit rfl (gb_l5 gw_635 gw_636 gw_637 gw_553 gw_638) v_X10_unit ⟨rfl, rfl⟩ ⟨Nat.le_of_ble_eq_true rfl, Nat.le_of_ble_eq_true rfl⟩ dX10_old_44 (s_aln 0 rfl dX10_old_47 (s_gf (T := TX10) winX10 rfl (Nat.le_of_ble_eq_true rfl) gw_545 rfl dX10_old_48 (s_iconst (by decide +kernel) dX10_old_51 (s_aln 0 rfl dX10_old_52 (s_iln 3 rfl dX10_old_53 (s_il dX10_old_54 (s_iconst (by decide +kernel) dX10_old_56 (s_cv (C := RX10) c_X10_layerOf rfl (gb_l5 gw_561 gw_562 gw_563 gw_553 gw_564) v_X10_layerOf ⟨rfl, rfl⟩ ⟨Nat.le_of_ble_eq_true rfl, Nat.le_of_ble_eq_true rfl⟩ dX10_old_57 (s_iadd dX10_old_60 (s_iald dX10_old_61 (s_cge (tgt := 76) (by decide +kernel) dX10_old_62 (s_iconst (by decide +kernel) dX10_old_76 (s_X10_old_77 hκ)) (s_aln 0 rfl dX10_old_65 (s_iln 3 rfl dX10_old_66 (s_il dX10_old_67 (s_iconst (by decide +kernel) dX10_old_69 (s_cv (C := RX10) c_X10_layerOf rfl (gb_l5 gw_561 gw_562 gw_563 gw_553 gw_564) v_X10_layerOf ⟨rfl, rfl⟩ ⟨Nat.le_of_ble_eq_true rfl, Nat.le_of_ble_eq_true rfl⟩ dX10_old_70 (s_goto (tgt := 77) (by decide +kernel) dX10_old_73 (s_X10_old_77 hκ))))))))))))))))))))))))))))
noncomputable def B_X10_old : List (Nat × (gb_K → gb_C)) := [(16, fun κ => k_X10_old_16 κ), (28, fun κ => k_X10_old_28 κ)]
noncomputable def K_X10_old : gb_K := gb_fx (gb_tb (B_X10_old))
theorem L_X10_old : ∀ q, gb_Li (fun κ => gb_tb (B_X10_old) κ q) := gb_tb_li (List.forall_mem_cons.mpr ⟨l_X10_old_16, List.forall_mem_cons.mpr ⟨l_X10_old_28, (fun _ h => absurd h List.not_mem_nil)⟩⟩)
theorem S_X10_old   : ∀ q, gb_S RX10 cX10_old 6 (gb_rm 3 70) 1 q (K_X10_old q) := fun q => gb_fx_S (L_X10_old) (gb_tb_S (List.forall_mem_cons.mpr ⟨fun κ hκ => s_X10_old_16 hκ, List.forall_mem_cons.mpr ⟨fun κ hκ => s_X10_old_28 hκ, (fun _ h => absurd h List.not_mem_nil)⟩⟩)) q
noncomputable def f_X10_old : gb_F := gb_hide (gb_mf 6 (k_X10_old_0 (K_X10_old)))
theorem c_X10_old : ∀ l, gb_Met l yX10_old cX10_old 6 (some .int) 1 (gb_rm 3 70) f_X10_old := gb_hide_c (gb_met (own := RX10) (rk := 1) rfl (by decide +kernel) ⟨rfl, rfl⟩ (s_X10_old_0 (S_X10_old)))
