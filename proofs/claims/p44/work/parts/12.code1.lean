/-! CODE: printed by wip/p44/gen.py -/
theorem dX4_start_0 : decode cX4_start 0 = .ok (.aload_n 0, 1) := by decide +kernel
theorem dX4_start_1 : decode cX4_start 1 = .ok (.iconst 0, 1) := by decide +kernel
theorem dX4_start_2 : decode cX4_start 2 = .ok (.putfield 13, 3) := by decide +kernel
theorem dX4_start_5 : decode cX4_start 5 = .ok (.return_, 1) := by decide +kernel
theorem v_X4_start : yX4_start.cls = RX4 ∧ yX4_start.cls ≠ "java/lang/invoke/MethodHandle" ∧ yX4_start.cls ≠ "java/lang/invoke/VarHandle" ∧ (parseMethodDescriptor yX4_start.desc).map (fun d => d.parameters.length) = some 0 := ⟨rfl, by decide +kernel, by decide +kernel, by decide +kernel⟩
noncomputable def k_X4_start_0 (κ : gb_K) : gb_C := (o_al 0 (o_ci 0 (o_pf 4 1 o_rv)))
theorem l_X4_start_0 : gb_Li (fun κ => k_X4_start_0 κ) := (gb_li (q_al 0) (gb_li (q_ci 0) (gb_li (q_pf 4 1) (gb_li0 _))))
theorem s_X4_start_0   {κ : gb_K} (hκ : ∀ q, gb_S RX4 cX4_start 1 (gb_rm 0 0) 0 q (κ q)) : gb_S RX4 cX4_start 1 (gb_rm 0 0) 0 0 (k_X4_start_0 κ) := (s_aln 0 rfl dX4_start_0 (s_iconst (by decide +kernel) dX4_start_1 (s_pf (T := TX4) winX4 rfl (Nat.le_of_ble_eq_true rfl) tyX4_ok nmX4 rfl (by decide +kernel) gw_101 rfl dX4_start_2 (s_rv rfl dX4_start_5))))
noncomputable def f_X4_start : gb_F := gb_hide (gb_mf 1 (k_X4_start_0 gb_n))
theorem c_X4_start : ∀ l, gb_Met l yX4_start cX4_start 1 none 0 (gb_rm 0 0) f_X4_start := gb_hide_c (gb_met (own := RX4) (rk := 0) rfl (by decide +kernel) ⟨rfl, rfl⟩ (s_X4_start_0 gb_S_n))
theorem dX4_add_0 : decode cX4_add 0 = .ok (.aload_n 0, 1) := by decide +kernel
theorem dX4_add_1 : decode cX4_add 1 = .ok (.getfield 13, 3) := by decide +kernel
theorem dX4_add_4 : decode cX4_add 4 = .ok (.bipush 8, 2) := by decide +kernel
theorem dX4_add_6 : decode cX4_add 6 = .ok (.if_icmp .ge 23, 3) := by decide +kernel
theorem dX4_add_9 : decode cX4_add 9 = .ok (.aload_n 0, 1) := by decide +kernel
theorem dX4_add_10 : decode cX4_add 10 = .ok (.getfield 9, 3) := by decide +kernel
theorem dX4_add_13 : decode cX4_add 13 = .ok (.aload_n 0, 1) := by decide +kernel
theorem dX4_add_14 : decode cX4_add 14 = .ok (.getfield 13, 3) := by decide +kernel
theorem dX4_add_17 : decode cX4_add 17 = .ok (.lload_n 1, 1) := by decide +kernel
theorem dX4_add_18 : decode cX4_add 18 = .ok (.lastore, 1) := by decide +kernel
theorem dX4_add_19 : decode cX4_add 19 = .ok (.aload_n 0, 1) := by decide +kernel
theorem dX4_add_20 : decode cX4_add 20 = .ok (.dup, 1) := by decide +kernel
theorem dX4_add_21 : decode cX4_add 21 = .ok (.getfield 13, 3) := by decide +kernel
theorem dX4_add_24 : decode cX4_add 24 = .ok (.iconst 1, 1) := by decide +kernel
theorem dX4_add_25 : decode cX4_add 25 = .ok (.iadd, 1) := by decide +kernel
theorem dX4_add_26 : decode cX4_add 26 = .ok (.putfield 13, 3) := by decide +kernel
theorem dX4_add_29 : decode cX4_add 29 = .ok (.return_, 1) := by decide +kernel
theorem v_X4_add : yX4_add.cls = RX4 ∧ yX4_add.cls ≠ "java/lang/invoke/MethodHandle" ∧ yX4_add.cls ≠ "java/lang/invoke/VarHandle" ∧ (parseMethodDescriptor yX4_add.desc).map (fun d => d.parameters.length) = some 1 := ⟨rfl, by decide +kernel, by decide +kernel, by decide +kernel⟩
noncomputable def k_X4_add_29 (κ : gb_K) : gb_C := o_rv
theorem l_X4_add_29 : gb_Li (fun κ => k_X4_add_29 κ) := (gb_li0 _)
theorem s_X4_add_29   {κ : gb_K} (hκ : ∀ q, gb_S RX4 cX4_add 3 (gb_rm 0 0) 0 q (κ q)) : gb_S RX4 cX4_add 3 (gb_rm 0 0) 0 29 (k_X4_add_29 κ) := (s_rv rfl dX4_add_29)
noncomputable def k_X4_add_0 (κ : gb_K) : gb_C := (o_al 0 (o_gf 4 1 (o_ci 8 (o_cge (k_X4_add_29 κ) (o_al 0 (o_gf 4 0 (o_al 0 (o_gf 4 1 (o_ll 1 (o_last (o_al 0 (o_dup (o_gf 4 1 (o_ci 1 (o_ib (fun x y => x + y) (o_pf 4 1 (k_X4_add_29 κ)))))))))))))))))
theorem l_X4_add_0 : gb_Li (fun κ => k_X4_add_0 κ) := (gb_li (q_al 0) (gb_li (q_gf 4 1) (gb_li (q_ci 8) (q_cge (l_X4_add_29) (gb_li (q_al 0) (gb_li (q_gf 4 0) (gb_li (q_al 0) (gb_li (q_gf 4 1) (gb_li (q_ll 1) (gb_li q_last (gb_li (q_al 0) (gb_li q_dup (gb_li (q_gf 4 1) (gb_li (q_ci 1) (gb_li (q_ib _) (gb_li (q_pf 4 1) (l_X4_add_29)))))))))))))))))
theorem s_X4_add_0   {κ : gb_K} (hκ : ∀ q, gb_S RX4 cX4_add 3 (gb_rm 0 0) 0 q (κ q)) : gb_S RX4 cX4_add 3 (gb_rm 0 0) 0 0 (k_X4_add_0 κ) := (s_aln 0 rfl dX4_add_0 (s_gf (T := TX4) winX4 rfl (Nat.le_of_ble_eq_true rfl) gw_101 rfl dX4_add_1 (s_bipush (by decide +kernel) dX4_add_4 (s_cge (tgt := 29) (by decide +kernel) dX4_add_6 (s_X4_add_29 hκ) (s_aln 0 rfl dX4_add_9 (s_gf (T := TX4) winX4 rfl (Nat.le_of_ble_eq_true rfl) gw_102 rfl dX4_add_10 (s_aln 0 rfl dX4_add_13 (s_gf (T := TX4) winX4 rfl (Nat.le_of_ble_eq_true rfl) gw_101 rfl dX4_add_14 (s_lln 1 rfl dX4_add_17 (s_last dX4_add_18 (s_aln 0 rfl dX4_add_19 (s_dup dX4_add_20 (s_gf (T := TX4) winX4 rfl (Nat.le_of_ble_eq_true rfl) gw_101 rfl dX4_add_21 (s_iconst (by decide +kernel) dX4_add_24 (s_iadd dX4_add_25 (s_pf (T := TX4) winX4 rfl (Nat.le_of_ble_eq_true rfl) tyX4_ok nmX4 rfl (by decide +kernel) gw_101 rfl dX4_add_26 (s_X4_add_29 hκ)))))))))))))))))
noncomputable def f_X4_add : gb_F := gb_hide (gb_mf 3 (k_X4_add_0 gb_n))
theorem c_X4_add : ∀ l, gb_Met l yX4_add cX4_add 3 none 0 (gb_rm 0 0) f_X4_add := gb_hide_c (gb_met (own := RX4) (rk := 0) rfl (by decide +kernel) ⟨rfl, rfl⟩ (s_X4_add_0 gb_S_n))
theorem dX5_copy_0 : decode cX5_copy 0 = .ok (.iconst 0, 1) := by decide +kernel
theorem dX5_copy_1 : decode cX5_copy 1 = .ok (.istore_n 2, 1) := by decide +kernel
theorem dX5_copy_2 : decode cX5_copy 2 = .ok (.iload_n 2, 1) := by decide +kernel
theorem dX5_copy_3 : decode cX5_copy 3 = .ok (.bipush 6, 2) := by decide +kernel
theorem dX5_copy_5 : decode cX5_copy 5 = .ok (.if_icmp .ge 45, 3) := by decide +kernel
theorem dX5_copy_8 : decode cX5_copy 8 = .ok (.aload_n 0, 1) := by decide +kernel
theorem dX5_copy_9 : decode cX5_copy 9 = .ok (.getfield 9, 3) := by decide +kernel
theorem dX5_copy_12 : decode cX5_copy 12 = .ok (.iload_n 2, 1) := by decide +kernel
theorem dX5_copy_13 : decode cX5_copy 13 = .ok (.aload_n 1, 1) := by decide +kernel
theorem dX5_copy_14 : decode cX5_copy 14 = .ok (.getfield 9, 3) := by decide +kernel
theorem dX5_copy_17 : decode cX5_copy 17 = .ok (.iload_n 2, 1) := by decide +kernel
theorem dX5_copy_18 : decode cX5_copy 18 = .ok (.iaload, 1) := by decide +kernel
theorem dX5_copy_19 : decode cX5_copy 19 = .ok (.iastore, 1) := by decide +kernel
theorem dX5_copy_20 : decode cX5_copy 20 = .ok (.aload_n 0, 1) := by decide +kernel
theorem dX5_copy_21 : decode cX5_copy 21 = .ok (.getfield 15, 3) := by decide +kernel
theorem dX5_copy_24 : decode cX5_copy 24 = .ok (.iload_n 2, 1) := by decide +kernel
theorem dX5_copy_25 : decode cX5_copy 25 = .ok (.aload_n 1, 1) := by decide +kernel
theorem dX5_copy_26 : decode cX5_copy 26 = .ok (.getfield 15, 3) := by decide +kernel
theorem dX5_copy_29 : decode cX5_copy 29 = .ok (.iload_n 2, 1) := by decide +kernel
theorem dX5_copy_30 : decode cX5_copy 30 = .ok (.iaload, 1) := by decide +kernel
theorem dX5_copy_31 : decode cX5_copy 31 = .ok (.iastore, 1) := by decide +kernel
theorem dX5_copy_32 : decode cX5_copy 32 = .ok (.aload_n 0, 1) := by decide +kernel
theorem dX5_copy_33 : decode cX5_copy 33 = .ok (.getfield 24, 3) := by decide +kernel
theorem dX5_copy_36 : decode cX5_copy 36 = .ok (.iload_n 2, 1) := by decide +kernel
theorem dX5_copy_37 : decode cX5_copy 37 = .ok (.aload_n 1, 1) := by decide +kernel
theorem dX5_copy_38 : decode cX5_copy 38 = .ok (.getfield 24, 3) := by decide +kernel
theorem dX5_copy_41 : decode cX5_copy 41 = .ok (.iload_n 2, 1) := by decide +kernel
theorem dX5_copy_42 : decode cX5_copy 42 = .ok (.iaload, 1) := by decide +kernel
theorem dX5_copy_43 : decode cX5_copy 43 = .ok (.iastore, 1) := by decide +kernel
theorem dX5_copy_44 : decode cX5_copy 44 = .ok (.iinc 2 1, 3) := by decide +kernel
theorem dX5_copy_47 : decode cX5_copy 47 = .ok (.goto (-45), 3) := by decide +kernel
theorem dX5_copy_50 : decode cX5_copy 50 = .ok (.iconst 0, 1) := by decide +kernel
theorem dX5_copy_51 : decode cX5_copy 51 = .ok (.istore_n 2, 1) := by decide +kernel
theorem dX5_copy_52 : decode cX5_copy 52 = .ok (.iload_n 2, 1) := by decide +kernel
theorem dX5_copy_53 : decode cX5_copy 53 = .ok (.bipush 6, 2) := by decide +kernel
theorem dX5_copy_55 : decode cX5_copy 55 = .ok (.if_icmp .ge 21, 3) := by decide +kernel
theorem dX5_copy_58 : decode cX5_copy 58 = .ok (.aload_n 0, 1) := by decide +kernel
theorem dX5_copy_59 : decode cX5_copy 59 = .ok (.getfield 18, 3) := by decide +kernel
theorem dX5_copy_62 : decode cX5_copy 62 = .ok (.iload_n 2, 1) := by decide +kernel
theorem dX5_copy_63 : decode cX5_copy 63 = .ok (.aload_n 1, 1) := by decide +kernel
theorem dX5_copy_64 : decode cX5_copy 64 = .ok (.getfield 18, 3) := by decide +kernel
theorem dX5_copy_67 : decode cX5_copy 67 = .ok (.iload_n 2, 1) := by decide +kernel
theorem dX5_copy_68 : decode cX5_copy 68 = .ok (.iaload, 1) := by decide +kernel
theorem dX5_copy_69 : decode cX5_copy 69 = .ok (.iastore, 1) := by decide +kernel
theorem dX5_copy_70 : decode cX5_copy 70 = .ok (.iinc 2 1, 3) := by decide +kernel
theorem dX5_copy_73 : decode cX5_copy 73 = .ok (.goto (-21), 3) := by decide +kernel
theorem dX5_copy_76 : decode cX5_copy 76 = .ok (.iconst 0, 1) := by decide +kernel
theorem dX5_copy_77 : decode cX5_copy 77 = .ok (.istore_n 2, 1) := by decide +kernel
theorem dX5_copy_78 : decode cX5_copy 78 = .ok (.iload_n 2, 1) := by decide +kernel
theorem dX5_copy_79 : decode cX5_copy 79 = .ok (.bipush 36, 2) := by decide +kernel
theorem dX5_copy_81 : decode cX5_copy 81 = .ok (.if_icmp .ge 21, 3) := by decide +kernel
theorem dX5_copy_84 : decode cX5_copy 84 = .ok (.aload_n 0, 1) := by decide +kernel
theorem dX5_copy_85 : decode cX5_copy 85 = .ok (.getfield 21, 3) := by decide +kernel
theorem dX5_copy_88 : decode cX5_copy 88 = .ok (.iload_n 2, 1) := by decide +kernel
theorem dX5_copy_89 : decode cX5_copy 89 = .ok (.aload_n 1, 1) := by decide +kernel
theorem dX5_copy_90 : decode cX5_copy 90 = .ok (.getfield 21, 3) := by decide +kernel
theorem dX5_copy_93 : decode cX5_copy 93 = .ok (.iload_n 2, 1) := by decide +kernel
theorem dX5_copy_94 : decode cX5_copy 94 = .ok (.iaload, 1) := by decide +kernel
theorem dX5_copy_95 : decode cX5_copy 95 = .ok (.iastore, 1) := by decide +kernel
theorem dX5_copy_96 : decode cX5_copy 96 = .ok (.iinc 2 1, 3) := by decide +kernel
theorem dX5_copy_99 : decode cX5_copy 99 = .ok (.goto (-21), 3) := by decide +kernel
theorem dX5_copy_102 : decode cX5_copy 102 = .ok (.return_, 1) := by decide +kernel
theorem v_X5_copy : yX5_copy.cls = RX5 ∧ yX5_copy.cls ≠ "java/lang/invoke/MethodHandle" ∧ yX5_copy.cls ≠ "java/lang/invoke/VarHandle" ∧ (parseMethodDescriptor yX5_copy.desc).map (fun d => d.parameters.length) = some 1 := ⟨rfl, by decide +kernel, by decide +kernel, by decide +kernel⟩
noncomputable def k_X5_copy_0 (κ : gb_K) : gb_C := (o_ci 0 (o_is 2 (o_j [0, 1, 2] (κ 2))))
theorem l_X5_copy_0 : gb_Li (fun κ => k_X5_copy_0 κ) := (gb_li (q_ci 0) (gb_li (q_is 2) (q_j [0, 1, 2] 2)))
theorem s_X5_copy_0   {κ : gb_K} (hκ : ∀ q, gb_S RX5 cX5_copy 3 (gb_rm 0 0) 0 q (κ q)) : gb_S RX5 cX5_copy 3 (gb_rm 0 0) 0 0 (k_X5_copy_0 κ) := (s_iconst (by decide +kernel) dX5_copy_0 (s_isn 2 rfl (Nat.le_of_ble_eq_true rfl) dX5_copy_1 (s_j (hκ 2))))
noncomputable def k_X5_copy_2 (κ : gb_K) : gb_C := (o_il 2 (o_ci 6 (o_cge (o_ci 0 (o_is 2 (o_j [0, 1, 2] (κ 52)))) (o_al 0 (o_gf 5 0 (o_il 2 (o_al 1 (o_gf 5 0 (o_il 2 (o_iald (o_iast (o_al 0 (o_gf 5 1 (o_il 2 (o_al 1 (o_gf 5 1 (o_il 2 (o_iald (o_iast (o_al 0 (o_gf 5 4 (o_il 2 (o_al 1 (o_gf 5 4 (o_il 2 (o_iald (o_iast (o_inc 2 1 (o_j [0, 1, 2] (κ 2))))))))))))))))))))))))))))))
theorem l_X5_copy_2 : gb_Li (fun κ => k_X5_copy_2 κ) := (gb_li (q_il 2) (gb_li (q_ci 6) (q_cge (gb_li (q_ci 0) (gb_li (q_is 2) (q_j [0, 1, 2] 52))) (gb_li (q_al 0) (gb_li (q_gf 5 0) (gb_li (q_il 2) (gb_li (q_al 1) (gb_li (q_gf 5 0) (gb_li (q_il 2) (gb_li q_iald (gb_li q_iast (gb_li (q_al 0) (gb_li (q_gf 5 1) (gb_li (q_il 2) (gb_li (q_al 1) (gb_li (q_gf 5 1) (gb_li (q_il 2) (gb_li q_iald (gb_li q_iast (gb_li (q_al 0) (gb_li (q_gf 5 4) (gb_li (q_il 2) (gb_li (q_al 1) (gb_li (q_gf 5 4) (gb_li (q_il 2) (gb_li q_iald (gb_li q_iast (gb_li (q_inc 2 1) (q_j [0, 1, 2] 2)))))))))))))))))))))))))))))
theorem s_X5_copy_2   {κ : gb_K} (hκ : ∀ q, gb_S RX5 cX5_copy 3 (gb_rm 0 0) 0 q (κ q)) : gb_S RX5 cX5_copy 3 (gb_rm 0 0) 0 2 (k_X5_copy_2 κ) := (s_iln 2 rfl dX5_copy_2 (s_bipush (by decide +kernel) dX5_copy_3 (s_cge (tgt := 50) (by decide +kernel) dX5_copy_5 (s_iconst (by decide +kernel) dX5_copy_50 (s_isn 2 rfl (Nat.le_of_ble_eq_true rfl) dX5_copy_51 (s_j (hκ 52)))) (s_aln 0 rfl dX5_copy_8 (s_gf (T := TX5) winX5 rfl (Nat.le_of_ble_eq_true rfl) gw_103 rfl dX5_copy_9 (s_iln 2 rfl dX5_copy_12 (s_aln 1 rfl dX5_copy_13 (s_gf (T := TX5) winX5 rfl (Nat.le_of_ble_eq_true rfl) gw_103 rfl dX5_copy_14 (s_iln 2 rfl dX5_copy_17 (s_iald dX5_copy_18 (s_iast dX5_copy_19 (s_aln 0 rfl dX5_copy_20 (s_gf (T := TX5) winX5 rfl (Nat.le_of_ble_eq_true rfl) gw_104 rfl dX5_copy_21 (s_iln 2 rfl dX5_copy_24 (s_aln 1 rfl dX5_copy_25 (s_gf (T := TX5) winX5 rfl (Nat.le_of_ble_eq_true rfl) gw_104 rfl dX5_copy_26 (s_iln 2 rfl dX5_copy_29 (s_iald dX5_copy_30 (s_iast dX5_copy_31 (s_aln 0 rfl dX5_copy_32 (s_gf (T := TX5) winX5 rfl (Nat.le_of_ble_eq_true rfl) gw_105 rfl dX5_copy_33 (s_iln 2 rfl dX5_copy_36 (s_aln 1 rfl dX5_copy_37 (s_gf (T := TX5) winX5 rfl (Nat.le_of_ble_eq_true rfl) gw_105 rfl dX5_copy_38 (s_iln 2 rfl dX5_copy_41 (s_iald dX5_copy_42 (s_iast dX5_copy_43 (s_inc (by decide +kernel) (Nat.le_of_ble_eq_true rfl) dX5_copy_44 (s_goto (tgt := 2) (by decide +kernel) dX5_copy_47 (s_j (hκ 2)))))))))))))))))))))))))))))))
noncomputable def k_X5_copy_52 (κ : gb_K) : gb_C := (o_il 2 (o_ci 6 (o_cge (o_ci 0 (o_is 2 (o_j [0, 1, 2] (κ 78)))) (o_al 0 (o_gf 5 2 (o_il 2 (o_al 1 (o_gf 5 2 (o_il 2 (o_iald (o_iast (o_inc 2 1 (o_j [0, 1, 2] (κ 52))))))))))))))
theorem l_X5_copy_52 : gb_Li (fun κ => k_X5_copy_52 κ) := (gb_li (q_il 2) (gb_li (q_ci 6) (q_cge (gb_li (q_ci 0) (gb_li (q_is 2) (q_j [0, 1, 2] 78))) (gb_li (q_al 0) (gb_li (q_gf 5 2) (gb_li (q_il 2) (gb_li (q_al 1) (gb_li (q_gf 5 2) (gb_li (q_il 2) (gb_li q_iald (gb_li q_iast (gb_li (q_inc 2 1) (q_j [0, 1, 2] 52)))))))))))))
theorem s_X5_copy_52   {κ : gb_K} (hκ : ∀ q, gb_S RX5 cX5_copy 3 (gb_rm 0 0) 0 q (κ q)) : gb_S RX5 cX5_copy 3 (gb_rm 0 0) 0 52 (k_X5_copy_52 κ) := (s_iln 2 rfl dX5_copy_52 (s_bipush (by decide +kernel) dX5_copy_53 (s_cge (tgt := 76) (by decide +kernel) dX5_copy_55 (s_iconst (by decide +kernel) dX5_copy_76 (s_isn 2 rfl (Nat.le_of_ble_eq_true rfl) dX5_copy_77 (s_j (hκ 78)))) (s_aln 0 rfl dX5_copy_58 (s_gf (T := TX5) winX5 rfl (Nat.le_of_ble_eq_true rfl) gw_106 rfl dX5_copy_59 (s_iln 2 rfl dX5_copy_62 (s_aln 1 rfl dX5_copy_63 (s_gf (T := TX5) winX5 rfl (Nat.le_of_ble_eq_true rfl) gw_106 rfl dX5_copy_64 (s_iln 2 rfl dX5_copy_67 (s_iald dX5_copy_68 (s_iast dX5_copy_69 (s_inc (by decide +kernel) (Nat.le_of_ble_eq_true rfl) dX5_copy_70 (s_goto (tgt := 52) (by decide +kernel) dX5_copy_73 (s_j (hκ 52)))))))))))))))
noncomputable def k_X5_copy_78 (κ : gb_K) : gb_C := (o_il 2 (o_ci 36 (o_cge o_rv (o_al 0 (o_gf 5 3 (o_il 2 (o_al 1 (o_gf 5 3 (o_il 2 (o_iald (o_iast (o_inc 2 1 (o_j [0, 1, 2] (κ 78))))))))))))))
theorem l_X5_copy_78 : gb_Li (fun κ => k_X5_copy_78 κ) := (gb_li (q_il 2) (gb_li (q_ci 36) (q_cge (gb_li0 _) (gb_li (q_al 0) (gb_li (q_gf 5 3) (gb_li (q_il 2) (gb_li (q_al 1) (gb_li (q_gf 5 3) (gb_li (q_il 2) (gb_li q_iald (gb_li q_iast (gb_li (q_inc 2 1) (q_j [0, 1, 2] 78)))))))))))))
theorem s_X5_copy_78   {κ : gb_K} (hκ : ∀ q, gb_S RX5 cX5_copy 3 (gb_rm 0 0) 0 q (κ q)) : gb_S RX5 cX5_copy 3 (gb_rm 0 0) 0 78 (k_X5_copy_78 κ) := (s_iln 2 rfl dX5_copy_78 (s_bipush (by decide +kernel) dX5_copy_79 (s_cge (tgt := 102) (by decide +kernel) dX5_copy_81 (s_rv rfl dX5_copy_102) (s_aln 0 rfl dX5_copy_84 (s_gf (T := TX5) winX5 rfl (Nat.le_of_ble_eq_true rfl) gw_107 rfl dX5_copy_85 (s_iln 2 rfl dX5_copy_88 (s_aln 1 rfl dX5_copy_89 (s_gf (T := TX5) winX5 rfl (Nat.le_of_ble_eq_true rfl) gw_107 rfl dX5_copy_90 (s_iln 2 rfl dX5_copy_93 (s_iald dX5_copy_94 (s_iast dX5_copy_95 (s_inc (by decide +kernel) (Nat.le_of_ble_eq_true rfl) dX5_copy_96 (s_goto (tgt := 78) (by decide +kernel) dX5_copy_99 (s_j (hκ 78)))))))))))))))
noncomputable def B_X5_copy : List (Nat × (gb_K → gb_C)) := [(2, fun κ => k_X5_copy_2 κ), (52, fun κ => k_X5_copy_52 κ), (78, fun κ => k_X5_copy_78 κ)]
noncomputable def K_X5_copy : gb_K := gb_fx (gb_tb (B_X5_copy))
theorem L_X5_copy : ∀ q, gb_Li (fun κ => gb_tb (B_X5_copy) κ q) := gb_tb_li (List.forall_mem_cons.mpr ⟨l_X5_copy_2, List.forall_mem_cons.mpr ⟨l_X5_copy_52, List.forall_mem_cons.mpr ⟨l_X5_copy_78, (fun _ h => absurd h List.not_mem_nil)⟩⟩⟩)
theorem S_X5_copy   : ∀ q, gb_S RX5 cX5_copy 3 (gb_rm 0 0) 0 q (K_X5_copy q) := fun q => gb_fx_S (L_X5_copy) (gb_tb_S (List.forall_mem_cons.mpr ⟨fun κ hκ => s_X5_copy_2 hκ, List.forall_mem_cons.mpr ⟨fun κ hκ => s_X5_copy_52 hκ, List.forall_mem_cons.mpr ⟨fun κ hκ => s_X5_copy_78 hκ, (fun _ h => absurd h List.not_mem_nil)⟩⟩⟩)) q
noncomputable def f_X5_copy : gb_F := gb_hide (gb_mf 3 (k_X5_copy_0 (K_X5_copy)))
theorem c_X5_copy : ∀ l, gb_Met l yX5_copy cX5_copy 3 none 0 (gb_rm 0 0) f_X5_copy := gb_hide_c (gb_met (own := RX5) (rk := 0) rfl (by decide +kernel) ⟨rfl, rfl⟩ (s_X5_copy_0 (S_X5_copy)))
theorem dX5_may_0 : decode cX5_may 0 = .ok (.aload_n 0, 1) := by decide +kernel
theorem dX5_may_1 : decode cX5_may 1 = .ok (.getfield 24, 3) := by decide +kernel
theorem dX5_may_4 : decode cX5_may 4 = .ok (.iload_n 1, 1) := by decide +kernel
theorem dX5_may_5 : decode cX5_may 5 = .ok (.iaload, 1) := by decide +kernel
theorem dX5_may_6 : decode cX5_may 6 = .ok (.iconst 1, 1) := by decide +kernel
theorem dX5_may_7 : decode cX5_may 7 = .ok (.iload_n 2, 1) := by decide +kernel
theorem dX5_may_8 : decode cX5_may 8 = .ok (.ishl, 1) := by decide +kernel
theorem dX5_may_9 : decode cX5_may 9 = .ok (.iand, 1) := by decide +kernel
theorem dX5_may_10 : decode cX5_may 10 = .ok (.ifCond .ne 7, 3) := by decide +kernel
theorem dX5_may_13 : decode cX5_may 13 = .ok (.iconst 1, 1) := by decide +kernel
theorem dX5_may_14 : decode cX5_may 14 = .ok (.goto 4, 3) := by decide +kernel
theorem dX5_may_17 : decode cX5_may 17 = .ok (.iconst 0, 1) := by decide +kernel
theorem dX5_may_18 : decode cX5_may 18 = .ok (.ireturn, 1) := by decide +kernel
theorem v_X5_may : yX5_may.cls = RX5 ∧ yX5_may.cls ≠ "java/lang/invoke/MethodHandle" ∧ yX5_may.cls ≠ "java/lang/invoke/VarHandle" ∧ (parseMethodDescriptor yX5_may.desc).map (fun d => d.parameters.length) = some 2 := ⟨rfl, by decide +kernel, by decide +kernel, by decide +kernel⟩
noncomputable def k_X5_may_18 (κ : gb_K) : gb_C := o_rz
theorem l_X5_may_18 : gb_Li (fun κ => k_X5_may_18 κ) := (gb_li0 _)
theorem s_X5_may_18   {κ : gb_K} (hκ : ∀ q, gb_S RX5 cX5_may 3 (gb_rm 0 0) 2 q (κ q)) : gb_S RX5 cX5_may 3 (gb_rm 0 0) 2 18 (k_X5_may_18 κ) := (s_rz rfl dX5_may_18)
noncomputable def k_X5_may_0 (κ : gb_K) : gb_C := (o_al 0 (o_gf 5 4 (o_il 1 (o_iald (o_ci 1 (o_il 2 (o_ib (fun x y => x <<< (y &&& 31)) (o_ib (fun x y => x &&& y) (o_zeq (o_ci 1 (k_X5_may_18 κ)) (o_ci 0 (k_X5_may_18 κ)))))))))))
theorem l_X5_may_0 : gb_Li (fun κ => k_X5_may_0 κ) := (gb_li (q_al 0) (gb_li (q_gf 5 4) (gb_li (q_il 1) (gb_li q_iald (gb_li (q_ci 1) (gb_li (q_il 2) (gb_li (q_ib _) (gb_li (q_ib _) (q_zeq (gb_li (q_ci 1) (l_X5_may_18)) (gb_li (q_ci 0) (l_X5_may_18)))))))))))
theorem s_X5_may_0   {κ : gb_K} (hκ : ∀ q, gb_S RX5 cX5_may 3 (gb_rm 0 0) 2 q (κ q)) : gb_S RX5 cX5_may 3 (gb_rm 0 0) 2 0 (k_X5_may_0 κ) := (s_aln 0 rfl dX5_may_0 (s_gf (T := TX5) winX5 rfl (Nat.le_of_ble_eq_true rfl) gw_105 rfl dX5_may_1 (s_iln 1 rfl dX5_may_4 (s_iald dX5_may_5 (s_iconst (by decide +kernel) dX5_may_6 (s_iln 2 rfl dX5_may_7 (s_ishl dX5_may_8 (s_iand dX5_may_9 (s_zne (tgt := 17) (by decide +kernel) dX5_may_10 (s_iconst (by decide +kernel) dX5_may_17 (s_X5_may_18 hκ)) (s_iconst (by decide +kernel) dX5_may_13 (s_goto (tgt := 18) (by decide +kernel) dX5_may_14 (s_X5_may_18 hκ))))))))))))
noncomputable def f_X5_may : gb_F := gb_hide (gb_mf 3 (k_X5_may_0 gb_n))
theorem c_X5_may : ∀ l, gb_Met l yX5_may cX5_may 3 (some .boolean) 2 (gb_rm 0 0) f_X5_may := gb_hide_c (gb_met (own := RX5) (rk := 2) rfl (by decide +kernel) ⟨rfl, rfl⟩ (s_X5_may_0 gb_S_n))
theorem dX5_lossOf_0 : decode cX5_lossOf 0 = .ok (.aload_n 0, 1) := by decide +kernel
theorem dX5_lossOf_1 : decode cX5_lossOf 1 = .ok (.getfield 21, 3) := by decide +kernel
theorem dX5_lossOf_4 : decode cX5_lossOf 4 = .ok (.iload_n 1, 1) := by decide +kernel
theorem dX5_lossOf_5 : decode cX5_lossOf 5 = .ok (.bipush 6, 2) := by decide +kernel
theorem dX5_lossOf_7 : decode cX5_lossOf 7 = .ok (.imul, 1) := by decide +kernel
theorem dX5_lossOf_8 : decode cX5_lossOf 8 = .ok (.iload_n 2, 1) := by decide +kernel
theorem dX5_lossOf_9 : decode cX5_lossOf 9 = .ok (.iadd, 1) := by decide +kernel
theorem dX5_lossOf_10 : decode cX5_lossOf 10 = .ok (.iaload, 1) := by decide +kernel
theorem dX5_lossOf_11 : decode cX5_lossOf 11 = .ok (.ireturn, 1) := by decide +kernel
theorem v_X5_lossOf : yX5_lossOf.cls = RX5 ∧ yX5_lossOf.cls ≠ "java/lang/invoke/MethodHandle" ∧ yX5_lossOf.cls ≠ "java/lang/invoke/VarHandle" ∧ (parseMethodDescriptor yX5_lossOf.desc).map (fun d => d.parameters.length) = some 2 := ⟨rfl, by decide +kernel, by decide +kernel, by decide +kernel⟩
noncomputable def k_X5_lossOf_0 (κ : gb_K) : gb_C := (o_al 0 (o_gf 5 3 (o_il 1 (o_ci 6 (o_ib (fun x y => x * y) (o_il 2 (o_ib (fun x y => x + y) (o_iald o_ri))))))))
theorem l_X5_lossOf_0 : gb_Li (fun κ => k_X5_lossOf_0 κ) := (gb_li (q_al 0) (gb_li (q_gf 5 3) (gb_li (q_il 1) (gb_li (q_ci 6) (gb_li (q_ib _) (gb_li (q_il 2) (gb_li (q_ib _) (gb_li q_iald (gb_li0 _)))))))))
theorem s_X5_lossOf_0   {κ : gb_K} (hκ : ∀ q, gb_S RX5 cX5_lossOf 3 (gb_rm 0 0) 1 q (κ q)) : gb_S RX5 cX5_lossOf 3 (gb_rm 0 0) 1 0 (k_X5_lossOf_0 κ) := (s_aln 0 rfl dX5_lossOf_0 (s_gf (T := TX5) winX5 rfl (Nat.le_of_ble_eq_true rfl) gw_107 rfl dX5_lossOf_1 (s_iln 1 rfl dX5_lossOf_4 (s_bipush (by decide +kernel) dX5_lossOf_5 (s_imul dX5_lossOf_7 (s_iln 2 rfl dX5_lossOf_8 (s_iadd dX5_lossOf_9 (s_iald dX5_lossOf_10 (s_ri rfl dX5_lossOf_11)))))))))
noncomputable def f_X5_lossOf : gb_F := gb_hide (gb_mf 3 (k_X5_lossOf_0 gb_n))
theorem c_X5_lossOf : ∀ l, gb_Met l yX5_lossOf cX5_lossOf 3 (some .int) 1 (gb_rm 0 0) f_X5_lossOf := gb_hide_c (gb_met (own := RX5) (rk := 1) rfl (by decide +kernel) ⟨rfl, rfl⟩ (s_X5_lossOf_0 gb_S_n))
theorem dX5_clear_0 : decode cX5_clear 0 = .ok (.iconst 0, 1) := by decide +kernel
theorem dX5_clear_1 : decode cX5_clear 1 = .ok (.istore_n 1, 1) := by decide +kernel
theorem dX5_clear_2 : decode cX5_clear 2 = .ok (.iload_n 1, 1) := by decide +kernel
theorem dX5_clear_3 : decode cX5_clear 3 = .ok (.bipush 6, 2) := by decide +kernel
theorem dX5_clear_5 : decode cX5_clear 5 = .ok (.if_icmp .ge 38, 3) := by decide +kernel
theorem dX5_clear_8 : decode cX5_clear 8 = .ok (.aload_n 0, 1) := by decide +kernel
theorem dX5_clear_9 : decode cX5_clear 9 = .ok (.getfield 9, 3) := by decide +kernel
theorem dX5_clear_12 : decode cX5_clear 12 = .ok (.iload_n 1, 1) := by decide +kernel
theorem dX5_clear_13 : decode cX5_clear 13 = .ok (.iconst 0, 1) := by decide +kernel
theorem dX5_clear_14 : decode cX5_clear 14 = .ok (.iastore, 1) := by decide +kernel
theorem dX5_clear_15 : decode cX5_clear 15 = .ok (.aload_n 0, 1) := by decide +kernel
theorem dX5_clear_16 : decode cX5_clear 16 = .ok (.getfield 15, 3) := by decide +kernel
theorem dX5_clear_19 : decode cX5_clear 19 = .ok (.iload_n 1, 1) := by decide +kernel
theorem dX5_clear_20 : decode cX5_clear 20 = .ok (.bipush 99, 2) := by decide +kernel
theorem dX5_clear_22 : decode cX5_clear 22 = .ok (.iastore, 1) := by decide +kernel
theorem dX5_clear_23 : decode cX5_clear 23 = .ok (.aload_n 0, 1) := by decide +kernel
theorem dX5_clear_24 : decode cX5_clear 24 = .ok (.getfield 24, 3) := by decide +kernel
theorem dX5_clear_27 : decode cX5_clear 27 = .ok (.iload_n 1, 1) := by decide +kernel
theorem dX5_clear_28 : decode cX5_clear 28 = .ok (.iconst 0, 1) := by decide +kernel
theorem dX5_clear_29 : decode cX5_clear 29 = .ok (.iastore, 1) := by decide +kernel
theorem dX5_clear_30 : decode cX5_clear 30 = .ok (.aload_n 0, 1) := by decide +kernel
theorem dX5_clear_31 : decode cX5_clear 31 = .ok (.getfield 27, 3) := by decide +kernel
theorem dX5_clear_34 : decode cX5_clear 34 = .ok (.iload_n 1, 1) := by decide +kernel
theorem dX5_clear_35 : decode cX5_clear 35 = .ok (.iconst 0, 1) := by decide +kernel
theorem dX5_clear_36 : decode cX5_clear 36 = .ok (.iastore, 1) := by decide +kernel
theorem dX5_clear_37 : decode cX5_clear 37 = .ok (.iinc 1 1, 3) := by decide +kernel
theorem dX5_clear_40 : decode cX5_clear 40 = .ok (.goto (-38), 3) := by decide +kernel
theorem dX5_clear_43 : decode cX5_clear 43 = .ok (.iconst 0, 1) := by decide +kernel
theorem dX5_clear_44 : decode cX5_clear 44 = .ok (.istore_n 1, 1) := by decide +kernel
theorem dX5_clear_45 : decode cX5_clear 45 = .ok (.iload_n 1, 1) := by decide +kernel
theorem dX5_clear_46 : decode cX5_clear 46 = .ok (.bipush 6, 2) := by decide +kernel
theorem dX5_clear_48 : decode cX5_clear 48 = .ok (.if_icmp .ge 16, 3) := by decide +kernel
theorem dX5_clear_51 : decode cX5_clear 51 = .ok (.aload_n 0, 1) := by decide +kernel
theorem dX5_clear_52 : decode cX5_clear 52 = .ok (.getfield 18, 3) := by decide +kernel
theorem dX5_clear_55 : decode cX5_clear 55 = .ok (.iload_n 1, 1) := by decide +kernel
theorem dX5_clear_56 : decode cX5_clear 56 = .ok (.iconst 0, 1) := by decide +kernel
theorem dX5_clear_57 : decode cX5_clear 57 = .ok (.iastore, 1) := by decide +kernel
theorem dX5_clear_58 : decode cX5_clear 58 = .ok (.iinc 1 1, 3) := by decide +kernel
theorem dX5_clear_61 : decode cX5_clear 61 = .ok (.goto (-16), 3) := by decide +kernel
theorem dX5_clear_64 : decode cX5_clear 64 = .ok (.iconst 0, 1) := by decide +kernel
theorem dX5_clear_65 : decode cX5_clear 65 = .ok (.istore_n 1, 1) := by decide +kernel
theorem dX5_clear_66 : decode cX5_clear 66 = .ok (.iload_n 1, 1) := by decide +kernel
theorem dX5_clear_67 : decode cX5_clear 67 = .ok (.bipush 36, 2) := by decide +kernel
theorem dX5_clear_69 : decode cX5_clear 69 = .ok (.if_icmp .ge 16, 3) := by decide +kernel
theorem dX5_clear_72 : decode cX5_clear 72 = .ok (.aload_n 0, 1) := by decide +kernel
theorem dX5_clear_73 : decode cX5_clear 73 = .ok (.getfield 21, 3) := by decide +kernel
theorem dX5_clear_76 : decode cX5_clear 76 = .ok (.iload_n 1, 1) := by decide +kernel
theorem dX5_clear_77 : decode cX5_clear 77 = .ok (.iconst 0, 1) := by decide +kernel
theorem dX5_clear_78 : decode cX5_clear 78 = .ok (.iastore, 1) := by decide +kernel
theorem dX5_clear_79 : decode cX5_clear 79 = .ok (.iinc 1 1, 3) := by decide +kernel
theorem dX5_clear_82 : decode cX5_clear 82 = .ok (.goto (-16), 3) := by decide +kernel
theorem dX5_clear_85 : decode cX5_clear 85 = .ok (.aload_n 0, 1) := by decide +kernel
theorem dX5_clear_86 : decode cX5_clear 86 = .ok (.iconst 0, 1) := by decide +kernel
theorem dX5_clear_87 : decode cX5_clear 87 = .ok (.putfield 51, 3) := by decide +kernel
theorem dX5_clear_90 : decode cX5_clear 90 = .ok (.aload_n 0, 1) := by decide +kernel
theorem dX5_clear_91 : decode cX5_clear 91 = .ok (.iconst 0, 1) := by decide +kernel
theorem dX5_clear_92 : decode cX5_clear 92 = .ok (.putfield 55, 3) := by decide +kernel
theorem dX5_clear_95 : decode cX5_clear 95 = .ok (.return_, 1) := by decide +kernel
theorem v_X5_clear : yX5_clear.cls = RX5 ∧ yX5_clear.cls ≠ "java/lang/invoke/MethodHandle" ∧ yX5_clear.cls ≠ "java/lang/invoke/VarHandle" ∧ (parseMethodDescriptor yX5_clear.desc).map (fun d => d.parameters.length) = some 0 := ⟨rfl, by decide +kernel, by decide +kernel, by decide +kernel⟩
noncomputable def k_X5_clear_0 (κ : gb_K) : gb_C := (o_ci 0 (o_is 1 (o_j [0, 1] (κ 2))))
theorem l_X5_clear_0 : gb_Li (fun κ => k_X5_clear_0 κ) := (gb_li (q_ci 0) (gb_li (q_is 1) (q_j [0, 1] 2)))
theorem s_X5_clear_0   {κ : gb_K} (hκ : ∀ q, gb_S RX5 cX5_clear 2 (gb_rm 0 0) 0 q (κ q)) : gb_S RX5 cX5_clear 2 (gb_rm 0 0) 0 0 (k_X5_clear_0 κ) := (s_iconst (by decide +kernel) dX5_clear_0 (s_isn 1 rfl (Nat.le_of_ble_eq_true rfl) dX5_clear_1 (s_j (hκ 2))))
noncomputable def k_X5_clear_2 (κ : gb_K) : gb_C := (o_il 1 (o_ci 6 (o_cge (o_ci 0 (o_is 1 (o_j [0, 1] (κ 45)))) (o_al 0 (o_gf 5 0 (o_il 1 (o_ci 0 (o_iast (o_al 0 (o_gf 5 1 (o_il 1 (o_ci 99 (o_iast (o_al 0 (o_gf 5 4 (o_il 1 (o_ci 0 (o_iast (o_al 0 (o_gf 5 5 (o_il 1 (o_ci 0 (o_iast (o_inc 1 1 (o_j [0, 1] (κ 2))))))))))))))))))))))))))
theorem l_X5_clear_2 : gb_Li (fun κ => k_X5_clear_2 κ) := (gb_li (q_il 1) (gb_li (q_ci 6) (q_cge (gb_li (q_ci 0) (gb_li (q_is 1) (q_j [0, 1] 45))) (gb_li (q_al 0) (gb_li (q_gf 5 0) (gb_li (q_il 1) (gb_li (q_ci 0) (gb_li q_iast (gb_li (q_al 0) (gb_li (q_gf 5 1) (gb_li (q_il 1) (gb_li (q_ci 99) (gb_li q_iast (gb_li (q_al 0) (gb_li (q_gf 5 4) (gb_li (q_il 1) (gb_li (q_ci 0) (gb_li q_iast (gb_li (q_al 0) (gb_li (q_gf 5 5) (gb_li (q_il 1) (gb_li (q_ci 0) (gb_li q_iast (gb_li (q_inc 1 1) (q_j [0, 1] 2)))))))))))))))))))))))))
theorem s_X5_clear_2   {κ : gb_K} (hκ : ∀ q, gb_S RX5 cX5_clear 2 (gb_rm 0 0) 0 q (κ q)) : gb_S RX5 cX5_clear 2 (gb_rm 0 0) 0 2 (k_X5_clear_2 κ) := (s_iln 1 rfl dX5_clear_2 (s_bipush (by decide +kernel) dX5_clear_3 (s_cge (tgt := 43) (by decide +kernel) dX5_clear_5 (s_iconst (by decide +kernel) dX5_clear_43 (s_isn 1 rfl (Nat.le_of_ble_eq_true rfl) dX5_clear_44 (s_j (hκ 45)))) (s_aln 0 rfl dX5_clear_8 (s_gf (T := TX5) winX5 rfl (Nat.le_of_ble_eq_true rfl) gw_103 rfl dX5_clear_9 (s_iln 1 rfl dX5_clear_12 (s_iconst (by decide +kernel) dX5_clear_13 (s_iast dX5_clear_14 (s_aln 0 rfl dX5_clear_15 (s_gf (T := TX5) winX5 rfl (Nat.le_of_ble_eq_true rfl) gw_104 rfl dX5_clear_16 (s_iln 1 rfl dX5_clear_19 (s_bipush (by decide +kernel) dX5_clear_20 (s_iast dX5_clear_22 (s_aln 0 rfl dX5_clear_23 (s_gf (T := TX5) winX5 rfl (Nat.le_of_ble_eq_true rfl) gw_105 rfl dX5_clear_24 (s_iln 1 rfl dX5_clear_27 (s_iconst (by decide +kernel) dX5_clear_28 (s_iast dX5_clear_29 (s_aln 0 rfl dX5_clear_30 (s_gf (T := TX5) winX5 rfl (Nat.le_of_ble_eq_true rfl) gw_108 rfl dX5_clear_31 (s_iln 1 rfl dX5_clear_34 (s_iconst (by decide +kernel) dX5_clear_35 (s_iast dX5_clear_36 (s_inc (by decide +kernel) (Nat.le_of_ble_eq_true rfl) dX5_clear_37 (s_goto (tgt := 2) (by decide +kernel) dX5_clear_40 (s_j (hκ 2)))))))))))))))))))))))))))
noncomputable def k_X5_clear_45 (κ : gb_K) : gb_C := (o_il 1 (o_ci 6 (o_cge (o_ci 0 (o_is 1 (o_j [0, 1] (κ 66)))) (o_al 0 (o_gf 5 2 (o_il 1 (o_ci 0 (o_iast (o_inc 1 1 (o_j [0, 1] (κ 45)))))))))))
theorem l_X5_clear_45 : gb_Li (fun κ => k_X5_clear_45 κ) := (gb_li (q_il 1) (gb_li (q_ci 6) (q_cge (gb_li (q_ci 0) (gb_li (q_is 1) (q_j [0, 1] 66))) (gb_li (q_al 0) (gb_li (q_gf 5 2) (gb_li (q_il 1) (gb_li (q_ci 0) (gb_li q_iast (gb_li (q_inc 1 1) (q_j [0, 1] 45))))))))))
theorem s_X5_clear_45   {κ : gb_K} (hκ : ∀ q, gb_S RX5 cX5_clear 2 (gb_rm 0 0) 0 q (κ q)) : gb_S RX5 cX5_clear 2 (gb_rm 0 0) 0 45 (k_X5_clear_45 κ) := (s_iln 1 rfl dX5_clear_45 (s_bipush (by decide +kernel) dX5_clear_46 (s_cge (tgt := 64) (by decide +kernel) dX5_clear_48 (s_iconst (by decide +kernel) dX5_clear_64 (s_isn 1 rfl (Nat.le_of_ble_eq_true rfl) dX5_clear_65 (s_j (hκ 66)))) (s_aln 0 rfl dX5_clear_51 (s_gf (T := TX5) winX5 rfl (Nat.le_of_ble_eq_true rfl) gw_106 rfl dX5_clear_52 (s_iln 1 rfl dX5_clear_55 (s_iconst (by decide +kernel) dX5_clear_56 (s_iast dX5_clear_57 (s_inc (by decide +kernel) (Nat.le_of_ble_eq_true rfl) dX5_clear_58 (s_goto (tgt := 45) (by decide +kernel) dX5_clear_61 (s_j (hκ 45))))))))))))
noncomputable def k_X5_clear_66 (κ : gb_K) : gb_C := (o_il 1 (o_ci 36 (o_cge (o_al 0 (o_ci 0 (o_pf 5 6 (o_al 0 (o_ci 0 (o_pf 5 7 o_rv)))))) (o_al 0 (o_gf 5 3 (o_il 1 (o_ci 0 (o_iast (o_inc 1 1 (o_j [0, 1] (κ 66)))))))))))
theorem l_X5_clear_66 : gb_Li (fun κ => k_X5_clear_66 κ) := (gb_li (q_il 1) (gb_li (q_ci 36) (q_cge (gb_li (q_al 0) (gb_li (q_ci 0) (gb_li (q_pf 5 6) (gb_li (q_al 0) (gb_li (q_ci 0) (gb_li (q_pf 5 7) (gb_li0 _))))))) (gb_li (q_al 0) (gb_li (q_gf 5 3) (gb_li (q_il 1) (gb_li (q_ci 0) (gb_li q_iast (gb_li (q_inc 1 1) (q_j [0, 1] 66))))))))))
theorem s_X5_clear_66   {κ : gb_K} (hκ : ∀ q, gb_S RX5 cX5_clear 2 (gb_rm 0 0) 0 q (κ q)) : gb_S RX5 cX5_clear 2 (gb_rm 0 0) 0 66 (k_X5_clear_66 κ) := (s_iln 1 rfl dX5_clear_66 (s_bipush (by decide +kernel) dX5_clear_67 (s_cge (tgt := 85) (by decide +kernel) dX5_clear_69 (s_aln 0 rfl dX5_clear_85 (s_iconst (by decide +kernel) dX5_clear_86 (s_pf (T := TX5) winX5 rfl (Nat.le_of_ble_eq_true rfl) tyX5_ok nmX5 rfl (by decide +kernel) gw_109 rfl dX5_clear_87 (s_aln 0 rfl dX5_clear_90 (s_iconst (by decide +kernel) dX5_clear_91 (s_pf (T := TX5) winX5 rfl (Nat.le_of_ble_eq_true rfl) tyX5_ok nmX5 rfl (by decide +kernel) gw_110 rfl dX5_clear_92 (s_rv rfl dX5_clear_95))))))) (s_aln 0 rfl dX5_clear_72 (s_gf (T := TX5) winX5 rfl (Nat.le_of_ble_eq_true rfl) gw_107 rfl dX5_clear_73 (s_iln 1 rfl dX5_clear_76 (s_iconst (by decide +kernel) dX5_clear_77 (s_iast dX5_clear_78 (s_inc (by decide +kernel) (Nat.le_of_ble_eq_true rfl) dX5_clear_79 (s_goto (tgt := 66) (by decide +kernel) dX5_clear_82 (s_j (hκ 66))))))))))))
noncomputable def B_X5_clear : List (Nat × (gb_K → gb_C)) := [(2, fun κ => k_X5_clear_2 κ), (45, fun κ => k_X5_clear_45 κ), (66, fun κ => k_X5_clear_66 κ)]
noncomputable def K_X5_clear : gb_K := gb_fx (gb_tb (B_X5_clear))
theorem L_X5_clear : ∀ q, gb_Li (fun κ => gb_tb (B_X5_clear) κ q) := gb_tb_li (List.forall_mem_cons.mpr ⟨l_X5_clear_2, List.forall_mem_cons.mpr ⟨l_X5_clear_45, List.forall_mem_cons.mpr ⟨l_X5_clear_66, (fun _ h => absurd h List.not_mem_nil)⟩⟩⟩)
theorem S_X5_clear   : ∀ q, gb_S RX5 cX5_clear 2 (gb_rm 0 0) 0 q (K_X5_clear q) := fun q => gb_fx_S (L_X5_clear) (gb_tb_S (List.forall_mem_cons.mpr ⟨fun κ hκ => s_X5_clear_2 hκ, List.forall_mem_cons.mpr ⟨fun κ hκ => s_X5_clear_45 hκ, List.forall_mem_cons.mpr ⟨fun κ hκ => s_X5_clear_66 hκ, (fun _ h => absurd h List.not_mem_nil)⟩⟩⟩)) q
noncomputable def f_X5_clear : gb_F := gb_hide (gb_mf 2 (k_X5_clear_0 (K_X5_clear)))
theorem c_X5_clear : ∀ l, gb_Met l yX5_clear cX5_clear 2 none 0 (gb_rm 0 0) f_X5_clear := gb_hide_c (gb_met (own := RX5) (rk := 0) rfl (by decide +kernel) ⟨rfl, rfl⟩ (s_X5_clear_0 (S_X5_clear)))
theorem dX5_readGrade_0 : decode cX5_readGrade 0 = .ok (.aload_n 1, 1) := by decide +kernel
theorem dX5_readGrade_1 : decode cX5_readGrade 1 = .ok (.aload_n 0, 1) := by decide +kernel
theorem dX5_readGrade_2 : decode cX5_readGrade 2 = .ok (.getfield 51, 3) := by decide +kernel
theorem dX5_readGrade_5 : decode cX5_readGrade 5 = .ok (.invokevirtual 68, 3) := by decide +kernel
theorem dX5_readGrade_8 : decode cX5_readGrade 8 = .ok (.istore_n 2, 1) := by decide +kernel
theorem dX5_readGrade_9 : decode cX5_readGrade 9 = .ok (.iload_n 2, 1) := by decide +kernel
theorem dX5_readGrade_10 : decode cX5_readGrade 10 = .ok (.ifCond .lt 12, 3) := by decide +kernel
theorem dX5_readGrade_13 : decode cX5_readGrade 13 = .ok (.aload_n 1, 1) := by decide +kernel
theorem dX5_readGrade_14 : decode cX5_readGrade 14 = .ok (.bipush 119, 2) := by decide +kernel
theorem dX5_readGrade_16 : decode cX5_readGrade 16 = .ok (.invokevirtual 47, 3) := by decide +kernel
theorem dX5_readGrade_19 : decode cX5_readGrade 19 = .ok (.ifCond .ne 5, 3) := by decide +kernel
theorem dX5_readGrade_22 : decode cX5_readGrade 22 = .ok (.iconst 0, 1) := by decide +kernel
theorem dX5_readGrade_23 : decode cX5_readGrade 23 = .ok (.ireturn, 1) := by decide +kernel
theorem dX5_readGrade_24 : decode cX5_readGrade 24 = .ok (.aload_n 1, 1) := by decide +kernel
theorem dX5_readGrade_25 : decode cX5_readGrade 25 = .ok (.iconst 0, 1) := by decide +kernel
theorem dX5_readGrade_26 : decode cX5_readGrade 26 = .ok (.sipush 999, 3) := by decide +kernel
theorem dX5_readGrade_29 : decode cX5_readGrade 29 = .ok (.invokevirtual 72, 3) := by decide +kernel
theorem dX5_readGrade_32 : decode cX5_readGrade 32 = .ok (.istore_n 3, 1) := by decide +kernel
theorem dX5_readGrade_33 : decode cX5_readGrade 33 = .ok (.iload_n 3, 1) := by decide +kernel
theorem dX5_readGrade_34 : decode cX5_readGrade 34 = .ok (.ifCond .lt 12, 3) := by decide +kernel
theorem dX5_readGrade_37 : decode cX5_readGrade 37 = .ok (.aload_n 1, 1) := by decide +kernel
theorem dX5_readGrade_38 : decode cX5_readGrade 38 = .ok (.bipush 107, 2) := by decide +kernel
theorem dX5_readGrade_40 : decode cX5_readGrade 40 = .ok (.invokevirtual 47, 3) := by decide +kernel
theorem dX5_readGrade_43 : decode cX5_readGrade 43 = .ok (.ifCond .ne 5, 3) := by decide +kernel
theorem dX5_readGrade_46 : decode cX5_readGrade 46 = .ok (.iconst 0, 1) := by decide +kernel
theorem dX5_readGrade_47 : decode cX5_readGrade 47 = .ok (.ireturn, 1) := by decide +kernel
theorem dX5_readGrade_48 : decode cX5_readGrade 48 = .ok (.aload_n 1, 1) := by decide +kernel
theorem dX5_readGrade_49 : decode cX5_readGrade 49 = .ok (.iconst 0, 1) := by decide +kernel
theorem dX5_readGrade_50 : decode cX5_readGrade 50 = .ok (.bipush 99, 2) := by decide +kernel
theorem dX5_readGrade_52 : decode cX5_readGrade 52 = .ok (.invokevirtual 72, 3) := by decide +kernel
theorem dX5_readGrade_55 : decode cX5_readGrade 55 = .ok (.istore 4, 2) := by decide +kernel
theorem dX5_readGrade_57 : decode cX5_readGrade 57 = .ok (.iload 4, 2) := by decide +kernel
theorem dX5_readGrade_59 : decode cX5_readGrade 59 = .ok (.ifCond .ge 5, 3) := by decide +kernel
theorem dX5_readGrade_62 : decode cX5_readGrade 62 = .ok (.iconst 0, 1) := by decide +kernel
theorem dX5_readGrade_63 : decode cX5_readGrade 63 = .ok (.ireturn, 1) := by decide +kernel
theorem dX5_readGrade_64 : decode cX5_readGrade 64 = .ok (.aload_n 0, 1) := by decide +kernel
theorem dX5_readGrade_65 : decode cX5_readGrade 65 = .ok (.getfield 9, 3) := by decide +kernel
theorem dX5_readGrade_68 : decode cX5_readGrade 68 = .ok (.iload_n 2, 1) := by decide +kernel
theorem dX5_readGrade_69 : decode cX5_readGrade 69 = .ok (.iload_n 3, 1) := by decide +kernel
theorem dX5_readGrade_70 : decode cX5_readGrade 70 = .ok (.iastore, 1) := by decide +kernel
theorem dX5_readGrade_71 : decode cX5_readGrade 71 = .ok (.aload_n 0, 1) := by decide +kernel
theorem dX5_readGrade_72 : decode cX5_readGrade 72 = .ok (.getfield 15, 3) := by decide +kernel
theorem dX5_readGrade_75 : decode cX5_readGrade 75 = .ok (.iload_n 2, 1) := by decide +kernel
theorem dX5_readGrade_76 : decode cX5_readGrade 76 = .ok (.iload 4, 2) := by decide +kernel
theorem dX5_readGrade_78 : decode cX5_readGrade 78 = .ok (.iastore, 1) := by decide +kernel
theorem dX5_readGrade_79 : decode cX5_readGrade 79 = .ok (.aload_n 0, 1) := by decide +kernel
theorem dX5_readGrade_80 : decode cX5_readGrade 80 = .ok (.dup, 1) := by decide +kernel
theorem dX5_readGrade_81 : decode cX5_readGrade 81 = .ok (.getfield 51, 3) := by decide +kernel
theorem dX5_readGrade_84 : decode cX5_readGrade 84 = .ok (.iconst 1, 1) := by decide +kernel
theorem dX5_readGrade_85 : decode cX5_readGrade 85 = .ok (.iload_n 2, 1) := by decide +kernel
theorem dX5_readGrade_86 : decode cX5_readGrade 86 = .ok (.ishl, 1) := by decide +kernel
theorem dX5_readGrade_87 : decode cX5_readGrade 87 = .ok (.ior, 1) := by decide +kernel
theorem dX5_readGrade_88 : decode cX5_readGrade 88 = .ok (.putfield 51, 3) := by decide +kernel
theorem dX5_readGrade_91 : decode cX5_readGrade 91 = .ok (.iconst 1, 1) := by decide +kernel
theorem dX5_readGrade_92 : decode cX5_readGrade 92 = .ok (.ireturn, 1) := by decide +kernel
theorem v_X5_readGrade : yX5_readGrade.cls = RX5 ∧ yX5_readGrade.cls ≠ "java/lang/invoke/MethodHandle" ∧ yX5_readGrade.cls ≠ "java/lang/invoke/VarHandle" ∧ (parseMethodDescriptor yX5_readGrade.desc).map (fun d => d.parameters.length) = some 1 := ⟨rfl, by decide +kernel, by decide +kernel, by decide +kernel⟩
noncomputable def k_X5_readGrade_22 (κ : gb_K) : gb_C := (o_ci 0 o_rz)
theorem l_X5_readGrade_22 : gb_Li (fun κ => k_X5_readGrade_22 κ) := (gb_li (q_ci 0) (gb_li0 _))
theorem s_X5_readGrade_22   {κ : gb_K} (hκ : ∀ q, gb_S RX5 cX5_readGrade 5 (gb_rm 3 68) 2 q (κ q)) : gb_S RX5 cX5_readGrade 5 (gb_rm 3 68) 2 22 (k_X5_readGrade_22 κ) := (s_iconst (by decide +kernel) dX5_readGrade_22 (s_rz rfl dX5_readGrade_23))
noncomputable def k_X5_readGrade_46 (κ : gb_K) : gb_C := (o_ci 0 o_rz)
theorem l_X5_readGrade_46 : gb_Li (fun κ => k_X5_readGrade_46 κ) := (gb_li (q_ci 0) (gb_li0 _))
theorem s_X5_readGrade_46   {κ : gb_K} (hκ : ∀ q, gb_S RX5 cX5_readGrade 5 (gb_rm 3 68) 2 q (κ q)) : gb_S RX5 cX5_readGrade 5 (gb_rm 3 68) 2 46 (k_X5_readGrade_46 κ) := (s_iconst (by decide +kernel) dX5_readGrade_46 (s_rz rfl dX5_readGrade_47))
noncomputable def k_X5_readGrade_63 (κ : gb_K) : gb_C := o_rz
theorem l_X5_readGrade_63 : gb_Li (fun κ => k_X5_readGrade_63 κ) := (gb_li0 _)
theorem s_X5_readGrade_63   {κ : gb_K} (hκ : ∀ q, gb_S RX5 cX5_readGrade 5 (gb_rm 3 68) 2 q (κ q)) : gb_S RX5 cX5_readGrade 5 (gb_rm 3 68) 2 63 (k_X5_readGrade_63 κ) := (s_rz rfl dX5_readGrade_63)
noncomputable def k_X5_readGrade_65 (κ : gb_K) : gb_C := (o_gf 5 0 (o_il 2 (o_il 3 (o_iast (o_al 0 (o_gf 5 1 (o_il 2 (o_il 4 (o_iast (o_al 0 (o_dup (o_gf 5 6 (o_ci 1 (o_il 2 (o_ib (fun x y => x <<< (y &&& 31)) (o_ib (fun x y => x ||| y) (o_pf 5 6 (o_ci 1 o_rz))))))))))))))))))
theorem l_X5_readGrade_65 : gb_Li (fun κ => k_X5_readGrade_65 κ) := (gb_li (q_gf 5 0) (gb_li (q_il 2) (gb_li (q_il 3) (gb_li q_iast (gb_li (q_al 0) (gb_li (q_gf 5 1) (gb_li (q_il 2) (gb_li (q_il 4) (gb_li q_iast (gb_li (q_al 0) (gb_li q_dup (gb_li (q_gf 5 6) (gb_li (q_ci 1) (gb_li (q_il 2) (gb_li (q_ib _) (gb_li (q_ib _) (gb_li (q_pf 5 6) (gb_li (q_ci 1) (gb_li0 _)))))))))))))))))))
theorem s_X5_readGrade_65   {κ : gb_K} (hκ : ∀ q, gb_S RX5 cX5_readGrade 5 (gb_rm 3 68) 2 q (κ q)) : gb_S RX5 cX5_readGrade 5 (gb_rm 3 68) 2 65 (k_X5_readGrade_65 κ) := (s_gf (T := TX5) winX5 rfl (Nat.le_of_ble_eq_true rfl) gw_103 rfl dX5_readGrade_65 (s_iln 2 rfl dX5_readGrade_68 (s_iln 3 rfl dX5_readGrade_69 (s_iast dX5_readGrade_70 (s_aln 0 rfl dX5_readGrade_71 (s_gf (T := TX5) winX5 rfl (Nat.le_of_ble_eq_true rfl) gw_104 rfl dX5_readGrade_72 (s_iln 2 rfl dX5_readGrade_75 (s_il dX5_readGrade_76 (s_iast dX5_readGrade_78 (s_aln 0 rfl dX5_readGrade_79 (s_dup dX5_readGrade_80 (s_gf (T := TX5) winX5 rfl (Nat.le_of_ble_eq_true rfl) gw_109 rfl dX5_readGrade_81 (s_iconst (by decide +kernel) dX5_readGrade_84 (s_iln 2 rfl dX5_readGrade_85 (s_ishl dX5_readGrade_86 (s_ior dX5_readGrade_87 (s_pf (T := TX5) winX5 rfl (Nat.le_of_ble_eq_true rfl) tyX5_ok nmX5 rfl (by decide +kernel) gw_109 rfl dX5_readGrade_88 (s_iconst (by decide +kernel) dX5_readGrade_91 (s_rz rfl dX5_readGrade_92)))))))))))))))))))
noncomputable def k_X5_readGrade_0 (κ : gb_K) : gb_C := (o_al 1 (o_al 0 (o_gf 5 6 (o_cv 1 8 1 f_X8_newNumber (o_is 2 (o_il 2 (o_zlt (k_X5_readGrade_22 κ) (o_al 1 (o_ci 119 (o_cv 1 8 2 f_X8_takes (o_zeq (k_X5_readGrade_22 κ) (o_al 1 (o_ci 0 (o_ci 999 (o_cv 2 8 1 f_X8_number (o_is 3 (o_il 3 (o_zlt (k_X5_readGrade_46 κ) (o_al 1 (o_ci 107 (o_cv 1 8 2 f_X8_takes (o_zeq (k_X5_readGrade_46 κ) (o_al 1 (o_ci 0 (o_ci 99 (o_cv 2 8 1 f_X8_number (o_is 4 (o_il 4 (o_zge (o_al 0 (k_X5_readGrade_65 κ)) (o_ci 0 (k_X5_readGrade_63 κ)))))))))))))))))))))))))))))))
theorem l_X5_readGrade_0 : gb_Li (fun κ => k_X5_readGrade_0 κ) := (gb_li (q_al 1) (gb_li (q_al 0) (gb_li (q_gf 5 6) (gb_li (q_cv 1 8 1 f_X8_newNumber) (gb_li (q_is 2) (gb_li (q_il 2) (q_zlt (l_X5_readGrade_22) (gb_li (q_al 1) (gb_li (q_ci 119) (gb_li (q_cv 1 8 2 f_X8_takes) (q_zeq (l_X5_readGrade_22) (gb_li (q_al 1) (gb_li (q_ci 0) (gb_li (q_ci 999) (gb_li (q_cv 2 8 1 f_X8_number) (gb_li (q_is 3) (gb_li (q_il 3) (q_zlt (l_X5_readGrade_46) (gb_li (q_al 1) (gb_li (q_ci 107) (gb_li (q_cv 1 8 2 f_X8_takes) (q_zeq (l_X5_readGrade_46) (gb_li (q_al 1) (gb_li (q_ci 0) (gb_li (q_ci 99) (gb_li (q_cv 2 8 1 f_X8_number) (gb_li (q_is 4) (gb_li (q_il 4) (q_zge (gb_li (q_al 0) (l_X5_readGrade_65)) (gb_li (q_ci 0) (l_X5_readGrade_63)))))))))))))))))))))))))))))))
theorem s_X5_readGrade_0   {κ : gb_K} (hκ : ∀ q, gb_S RX5 cX5_readGrade 5 (gb_rm 3 68) 2 q (κ q)) : gb_S RX5 cX5_readGrade 5 (gb_rm 3 68) 2 0 (k_X5_readGrade_0 κ) := (s_aln 1 rfl dX5_readGrade_0 (s_aln 0 rfl dX5_readGrade_1 (s_gf (T := TX5) winX5 rfl (Nat.le_of_ble_eq_true rfl) gw_109 rfl dX5_readGrade_2 (s_cv (C := RX8) c_X8_newNumber rfl (gb_l5 gw_111 gw_54 gw_55 gw_46 gw_56) v_X8_newNumber ⟨rfl, rfl⟩ ⟨Nat.le_of_ble_eq_true rfl, Nat.le_of_ble_eq_true rfl⟩ dX5_readGrade_5 (s_isn 2 rfl (Nat.le_of_ble_eq_true rfl) dX5_readGrade_8 (s_iln 2 rfl dX5_readGrade_9 (s_zlt (tgt := 22) (by decide +kernel) dX5_readGrade_10 (s_X5_readGrade_22 hκ) (s_aln 1 rfl dX5_readGrade_13 (s_bipush (by decide +kernel) dX5_readGrade_14 (s_cv (C := RX8) c_X8_takes rfl (gb_l5 gw_112 gw_58 gw_59 gw_46 gw_60) v_X8_takes ⟨rfl, rfl⟩ ⟨Nat.le_of_ble_eq_true rfl, Nat.le_of_ble_eq_true rfl⟩ dX5_readGrade_16 (s_zne (tgt := 24) (by decide +kernel) dX5_readGrade_19 (s_aln 1 rfl dX5_readGrade_24 (s_iconst (by decide +kernel) dX5_readGrade_25 (s_sipush (by decide +kernel) dX5_readGrade_26 (s_cv (C := RX8) c_X8_number rfl (gb_l5 gw_113 gw_62 gw_63 gw_46 gw_64) v_X8_number ⟨rfl, rfl⟩ ⟨Nat.le_of_ble_eq_true rfl, Nat.le_of_ble_eq_true rfl⟩ dX5_readGrade_29 (s_isn 3 rfl (Nat.le_of_ble_eq_true rfl) dX5_readGrade_32 (s_iln 3 rfl dX5_readGrade_33 (s_zlt (tgt := 46) (by decide +kernel) dX5_readGrade_34 (s_X5_readGrade_46 hκ) (s_aln 1 rfl dX5_readGrade_37 (s_bipush (by decide +kernel) dX5_readGrade_38 (s_cv (C := RX8) c_X8_takes rfl (gb_l5 gw_112 gw_58 gw_59 gw_46 gw_60) v_X8_takes ⟨rfl, rfl⟩ ⟨Nat.le_of_ble_eq_true rfl, Nat.le_of_ble_eq_true rfl⟩ dX5_readGrade_40 (s_zne (tgt := 48) (by decide +kernel) dX5_readGrade_43 (s_aln 1 rfl dX5_readGrade_48 (s_iconst (by decide +kernel) dX5_readGrade_49 (s_bipush (by decide +kernel) dX5_readGrade_50 (s_cv (C := RX8) c_X8_number rfl (gb_l5 gw_113 gw_62 gw_63 gw_46 gw_64) v_X8_number ⟨rfl, rfl⟩ ⟨Nat.le_of_ble_eq_true rfl, Nat.le_of_ble_eq_true rfl⟩ dX5_readGrade_52 (s_is (Nat.le_of_ble_eq_true rfl) dX5_readGrade_55 (s_il dX5_readGrade_57 (s_zge (tgt := 64) (by decide +kernel) dX5_readGrade_59 (s_aln 0 rfl dX5_readGrade_64 (s_X5_readGrade_65 hκ)) (s_iconst (by decide +kernel) dX5_readGrade_62 (s_X5_readGrade_63 hκ))))))))) (s_X5_readGrade_46 hκ)))))))))))) (s_X5_readGrade_22 hκ))))))))))))
noncomputable def f_X5_readGrade : gb_F := gb_hide (gb_mf 5 (k_X5_readGrade_0 gb_n))
theorem c_X5_readGrade : ∀ l, gb_Met l yX5_readGrade cX5_readGrade 5 (some .boolean) 2 (gb_rm 3 68) f_X5_readGrade := gb_hide_c (gb_met (own := RX5) (rk := 2) rfl (by decide +kernel) ⟨rfl, rfl⟩ (s_X5_readGrade_0 gb_S_n))
theorem dX5_readBin_0 : decode cX5_readBin 0 = .ok (.aload_n 1, 1) := by decide +kernel
theorem dX5_readBin_1 : decode cX5_readBin 1 = .ok (.aload_n 0, 1) := by decide +kernel
theorem dX5_readBin_2 : decode cX5_readBin 2 = .ok (.getfield 55, 3) := by decide +kernel
theorem dX5_readBin_5 : decode cX5_readBin 5 = .ok (.invokevirtual 68, 3) := by decide +kernel
theorem dX5_readBin_8 : decode cX5_readBin 8 = .ok (.istore_n 2, 1) := by decide +kernel
theorem dX5_readBin_9 : decode cX5_readBin 9 = .ok (.iload_n 2, 1) := by decide +kernel
theorem dX5_readBin_10 : decode cX5_readBin 10 = .ok (.ifCond .lt 12, 3) := by decide +kernel
theorem dX5_readBin_13 : decode cX5_readBin 13 = .ok (.aload_n 1, 1) := by decide +kernel
theorem dX5_readBin_14 : decode cX5_readBin 14 = .ok (.bipush 99, 2) := by decide +kernel
theorem dX5_readBin_16 : decode cX5_readBin 16 = .ok (.invokevirtual 47, 3) := by decide +kernel
theorem dX5_readBin_19 : decode cX5_readBin 19 = .ok (.ifCond .ne 5, 3) := by decide +kernel
theorem dX5_readBin_22 : decode cX5_readBin 22 = .ok (.iconst 0, 1) := by decide +kernel
theorem dX5_readBin_23 : decode cX5_readBin 23 = .ok (.ireturn, 1) := by decide +kernel
theorem dX5_readBin_24 : decode cX5_readBin 24 = .ok (.aload_n 1, 1) := by decide +kernel
theorem dX5_readBin_25 : decode cX5_readBin 25 = .ok (.iconst 0, 1) := by decide +kernel
theorem dX5_readBin_26 : decode cX5_readBin 26 = .ok (.bipush 99, 2) := by decide +kernel
theorem dX5_readBin_28 : decode cX5_readBin 28 = .ok (.invokevirtual 72, 3) := by decide +kernel
theorem dX5_readBin_31 : decode cX5_readBin 31 = .ok (.istore_n 3, 1) := by decide +kernel
theorem dX5_readBin_32 : decode cX5_readBin 32 = .ok (.iload_n 3, 1) := by decide +kernel
theorem dX5_readBin_33 : decode cX5_readBin 33 = .ok (.ifCond .ge 5, 3) := by decide +kernel
theorem dX5_readBin_36 : decode cX5_readBin 36 = .ok (.iconst 0, 1) := by decide +kernel
theorem dX5_readBin_37 : decode cX5_readBin 37 = .ok (.ireturn, 1) := by decide +kernel
theorem dX5_readBin_38 : decode cX5_readBin 38 = .ok (.aload_n 0, 1) := by decide +kernel
theorem dX5_readBin_39 : decode cX5_readBin 39 = .ok (.getfield 18, 3) := by decide +kernel
theorem dX5_readBin_42 : decode cX5_readBin 42 = .ok (.iload_n 2, 1) := by decide +kernel
theorem dX5_readBin_43 : decode cX5_readBin 43 = .ok (.iload_n 3, 1) := by decide +kernel
theorem dX5_readBin_44 : decode cX5_readBin 44 = .ok (.iastore, 1) := by decide +kernel
theorem dX5_readBin_45 : decode cX5_readBin 45 = .ok (.aload_n 0, 1) := by decide +kernel
theorem dX5_readBin_46 : decode cX5_readBin 46 = .ok (.dup, 1) := by decide +kernel
theorem dX5_readBin_47 : decode cX5_readBin 47 = .ok (.getfield 55, 3) := by decide +kernel
theorem dX5_readBin_50 : decode cX5_readBin 50 = .ok (.iconst 1, 1) := by decide +kernel
theorem dX5_readBin_51 : decode cX5_readBin 51 = .ok (.iload_n 2, 1) := by decide +kernel
theorem dX5_readBin_52 : decode cX5_readBin 52 = .ok (.ishl, 1) := by decide +kernel
theorem dX5_readBin_53 : decode cX5_readBin 53 = .ok (.ior, 1) := by decide +kernel
theorem dX5_readBin_54 : decode cX5_readBin 54 = .ok (.putfield 55, 3) := by decide +kernel
theorem dX5_readBin_57 : decode cX5_readBin 57 = .ok (.iconst 1, 1) := by decide +kernel
theorem dX5_readBin_58 : decode cX5_readBin 58 = .ok (.ireturn, 1) := by decide +kernel
theorem v_X5_readBin : yX5_readBin.cls = RX5 ∧ yX5_readBin.cls ≠ "java/lang/invoke/MethodHandle" ∧ yX5_readBin.cls ≠ "java/lang/invoke/VarHandle" ∧ (parseMethodDescriptor yX5_readBin.desc).map (fun d => d.parameters.length) = some 1 := ⟨rfl, by decide +kernel, by decide +kernel, by decide +kernel⟩
noncomputable def k_X5_readBin_22 (κ : gb_K) : gb_C := (o_ci 0 o_rz)
theorem l_X5_readBin_22 : gb_Li (fun κ => k_X5_readBin_22 κ) := (gb_li (q_ci 0) (gb_li0 _))
theorem s_X5_readBin_22   {κ : gb_K} (hκ : ∀ q, gb_S RX5 cX5_readBin 4 (gb_rm 3 68) 2 q (κ q)) : gb_S RX5 cX5_readBin 4 (gb_rm 3 68) 2 22 (k_X5_readBin_22 κ) := (s_iconst (by decide +kernel) dX5_readBin_22 (s_rz rfl dX5_readBin_23))
noncomputable def k_X5_readBin_54 (κ : gb_K) : gb_C := (o_pf 5 7 (o_ci 1 o_rz))
theorem l_X5_readBin_54 : gb_Li (fun κ => k_X5_readBin_54 κ) := (gb_li (q_pf 5 7) (gb_li (q_ci 1) (gb_li0 _)))
theorem s_X5_readBin_54   {κ : gb_K} (hκ : ∀ q, gb_S RX5 cX5_readBin 4 (gb_rm 3 68) 2 q (κ q)) : gb_S RX5 cX5_readBin 4 (gb_rm 3 68) 2 54 (k_X5_readBin_54 κ) := (s_pf (T := TX5) winX5 rfl (Nat.le_of_ble_eq_true rfl) tyX5_ok nmX5 rfl (by decide +kernel) gw_110 rfl dX5_readBin_54 (s_iconst (by decide +kernel) dX5_readBin_57 (s_rz rfl dX5_readBin_58)))
noncomputable def k_X5_readBin_0 (κ : gb_K) : gb_C := (o_al 1 (o_al 0 (o_gf 5 7 (o_cv 1 8 1 f_X8_newNumber (o_is 2 (o_il 2 (o_zlt (k_X5_readBin_22 κ) (o_al 1 (o_ci 99 (o_cv 1 8 2 f_X8_takes (o_zeq (k_X5_readBin_22 κ) (o_al 1 (o_ci 0 (o_ci 99 (o_cv 2 8 1 f_X8_number (o_is 3 (o_il 3 (o_zge (o_al 0 (o_gf 5 2 (o_il 2 (o_il 3 (o_iast (o_al 0 (o_dup (o_gf 5 7 (o_ci 1 (o_il 2 (o_ib (fun x y => x <<< (y &&& 31)) (o_ib (fun x y => x ||| y) (k_X5_readBin_54 κ))))))))))))) (o_ci 0 o_rz)))))))))))))))))))
theorem l_X5_readBin_0 : gb_Li (fun κ => k_X5_readBin_0 κ) := (gb_li (q_al 1) (gb_li (q_al 0) (gb_li (q_gf 5 7) (gb_li (q_cv 1 8 1 f_X8_newNumber) (gb_li (q_is 2) (gb_li (q_il 2) (q_zlt (l_X5_readBin_22) (gb_li (q_al 1) (gb_li (q_ci 99) (gb_li (q_cv 1 8 2 f_X8_takes) (q_zeq (l_X5_readBin_22) (gb_li (q_al 1) (gb_li (q_ci 0) (gb_li (q_ci 99) (gb_li (q_cv 2 8 1 f_X8_number) (gb_li (q_is 3) (gb_li (q_il 3) (q_zge (gb_li (q_al 0) (gb_li (q_gf 5 2) (gb_li (q_il 2) (gb_li (q_il 3) (gb_li q_iast (gb_li (q_al 0) (gb_li q_dup (gb_li (q_gf 5 7) (gb_li (q_ci 1) (gb_li (q_il 2) (gb_li (q_ib _) (gb_li (q_ib _) (l_X5_readBin_54))))))))))))) (gb_li (q_ci 0) (gb_li0 _))))))))))))))))))))
theorem s_X5_readBin_0   {κ : gb_K} (hκ : ∀ q, gb_S RX5 cX5_readBin 4 (gb_rm 3 68) 2 q (κ q)) : gb_S RX5 cX5_readBin 4 (gb_rm 3 68) 2 0 (k_X5_readBin_0 κ) := (s_aln 1 rfl dX5_readBin_0 (s_aln 0 rfl dX5_readBin_1 (s_gf (T := TX5) winX5 rfl (Nat.le_of_ble_eq_true rfl) gw_110 rfl dX5_readBin_2 (s_cv (C := RX8) c_X8_newNumber rfl (gb_l5 gw_111 gw_54 gw_55 gw_46 gw_56) v_X8_newNumber ⟨rfl, rfl⟩ ⟨Nat.le_of_ble_eq_true rfl, Nat.le_of_ble_eq_true rfl⟩ dX5_readBin_5 (s_isn 2 rfl (Nat.le_of_ble_eq_true rfl) dX5_readBin_8 (s_iln 2 rfl dX5_readBin_9 (s_zlt (tgt := 22) (by decide +kernel) dX5_readBin_10 (s_X5_readBin_22 hκ) (s_aln 1 rfl dX5_readBin_13 (s_bipush (by decide +kernel) dX5_readBin_14 (s_cv (C := RX8) c_X8_takes rfl (gb_l5 gw_112 gw_58 gw_59 gw_46 gw_60) v_X8_takes ⟨rfl, rfl⟩ ⟨Nat.le_of_ble_eq_true rfl, Nat.le_of_ble_eq_true rfl⟩ dX5_readBin_16 (s_zne (tgt := 24) (by decide +kernel) dX5_readBin_19 (s_aln 1 rfl dX5_readBin_24 (s_iconst (by decide +kernel) dX5_readBin_25 (s_bipush (by decide +kernel) dX5_readBin_26 (s_cv (C := RX8) c_X8_number rfl (gb_l5 gw_113 gw_62 gw_63 gw_46 gw_64) v_X8_number ⟨rfl, rfl⟩ ⟨Nat.le_of_ble_eq_true rfl, Nat.le_of_ble_eq_true rfl⟩ dX5_readBin_28 (s_isn 3 rfl (Nat.le_of_ble_eq_true rfl) dX5_readBin_31 (s_iln 3 rfl dX5_readBin_32 (s_zge (tgt := 38) (by decide +kernel) dX5_readBin_33 (s_aln 0 rfl dX5_readBin_38 (s_gf (T := TX5) winX5 rfl (Nat.le_of_ble_eq_true rfl) gw_106 rfl dX5_readBin_39 (s_iln 2 rfl dX5_readBin_42 (s_iln 3 rfl dX5_readBin_43 (s_iast dX5_readBin_44 (s_aln 0 rfl dX5_readBin_45 (s_dup dX5_readBin_46 (s_gf (T := TX5) winX5 rfl (Nat.le_of_ble_eq_true rfl) gw_110 rfl dX5_readBin_47 (s_iconst (by decide +kernel) dX5_readBin_50 (s_iln 2 rfl dX5_readBin_51 (s_ishl dX5_readBin_52 (s_ior dX5_readBin_53 (s_X5_readBin_54 hκ))))))))))))) (s_iconst (by decide +kernel) dX5_readBin_36 (s_rz rfl dX5_readBin_37))))))))) (s_X5_readBin_22 hκ))))))))))))
noncomputable def f_X5_readBin : gb_F := gb_hide (gb_mf 4 (k_X5_readBin_0 gb_n))
theorem c_X5_readBin : ∀ l, gb_Met l yX5_readBin cX5_readBin 4 (some .boolean) 2 (gb_rm 3 68) f_X5_readBin := gb_hide_c (gb_met (own := RX5) (rk := 2) rfl (by decide +kernel) ⟨rfl, rfl⟩ (s_X5_readBin_0 gb_S_n))
theorem dX5_readPair_0 : decode cX5_readPair 0 = .ok (.aload_n 1, 1) := by decide +kernel
theorem dX5_readPair_1 : decode cX5_readPair 1 = .ok (.iconst 0, 1) := by decide +kernel
theorem dX5_readPair_2 : decode cX5_readPair 2 = .ok (.invokevirtual 68, 3) := by decide +kernel
theorem dX5_readPair_5 : decode cX5_readPair 5 = .ok (.istore_n 3, 1) := by decide +kernel
theorem dX5_readPair_6 : decode cX5_readPair 6 = .ok (.iload_n 3, 1) := by decide +kernel
theorem dX5_readPair_7 : decode cX5_readPair 7 = .ok (.ifCond .ge 5, 3) := by decide +kernel
theorem dX5_readPair_10 : decode cX5_readPair 10 = .ok (.iconst 0, 1) := by decide +kernel
theorem dX5_readPair_11 : decode cX5_readPair 11 = .ok (.ireturn, 1) := by decide +kernel
theorem dX5_readPair_12 : decode cX5_readPair 12 = .ok (.aload_n 1, 1) := by decide +kernel
theorem dX5_readPair_13 : decode cX5_readPair 13 = .ok (.aload_n 0, 1) := by decide +kernel
theorem dX5_readPair_14 : decode cX5_readPair 14 = .ok (.getfield 27, 3) := by decide +kernel
theorem dX5_readPair_17 : decode cX5_readPair 17 = .ok (.iload_n 3, 1) := by decide +kernel
theorem dX5_readPair_18 : decode cX5_readPair 18 = .ok (.iaload, 1) := by decide +kernel
theorem dX5_readPair_19 : decode cX5_readPair 19 = .ok (.iconst 1, 1) := by decide +kernel
theorem dX5_readPair_20 : decode cX5_readPair 20 = .ok (.iload_n 3, 1) := by decide +kernel
theorem dX5_readPair_21 : decode cX5_readPair 21 = .ok (.ishl, 1) := by decide +kernel
theorem dX5_readPair_22 : decode cX5_readPair 22 = .ok (.ior, 1) := by decide +kernel
theorem dX5_readPair_23 : decode cX5_readPair 23 = .ok (.invokevirtual 68, 3) := by decide +kernel
theorem dX5_readPair_26 : decode cX5_readPair 26 = .ok (.istore 4, 2) := by decide +kernel
theorem dX5_readPair_28 : decode cX5_readPair 28 = .ok (.iload 4, 2) := by decide +kernel
theorem dX5_readPair_30 : decode cX5_readPair 30 = .ok (.ifCond .ge 5, 3) := by decide +kernel
theorem dX5_readPair_33 : decode cX5_readPair 33 = .ok (.iconst 0, 1) := by decide +kernel
theorem dX5_readPair_34 : decode cX5_readPair 34 = .ok (.ireturn, 1) := by decide +kernel
theorem dX5_readPair_35 : decode cX5_readPair 35 = .ok (.iload_n 2, 1) := by decide +kernel
theorem dX5_readPair_36 : decode cX5_readPair 36 = .ok (.ifCond .eq 13, 3) := by decide +kernel
theorem dX5_readPair_39 : decode cX5_readPair 39 = .ok (.aload_n 1, 1) := by decide +kernel
theorem dX5_readPair_40 : decode cX5_readPair 40 = .ok (.iconst 1, 1) := by decide +kernel
theorem dX5_readPair_41 : decode cX5_readPair 41 = .ok (.bipush 99, 2) := by decide +kernel
theorem dX5_readPair_43 : decode cX5_readPair 43 = .ok (.invokevirtual 72, 3) := by decide +kernel
theorem dX5_readPair_46 : decode cX5_readPair 46 = .ok (.goto 4, 3) := by decide +kernel
theorem dX5_readPair_49 : decode cX5_readPair 49 = .ok (.iconst 0, 1) := by decide +kernel
theorem dX5_readPair_50 : decode cX5_readPair 50 = .ok (.istore 5, 2) := by decide +kernel
theorem dX5_readPair_52 : decode cX5_readPair 52 = .ok (.iload 5, 2) := by decide +kernel
theorem dX5_readPair_54 : decode cX5_readPair 54 = .ok (.ifCond .ge 5, 3) := by decide +kernel
theorem dX5_readPair_57 : decode cX5_readPair 57 = .ok (.iconst 0, 1) := by decide +kernel
theorem dX5_readPair_58 : decode cX5_readPair 58 = .ok (.ireturn, 1) := by decide +kernel
theorem dX5_readPair_59 : decode cX5_readPair 59 = .ok (.aload_n 0, 1) := by decide +kernel
theorem dX5_readPair_60 : decode cX5_readPair 60 = .ok (.getfield 21, 3) := by decide +kernel
theorem dX5_readPair_63 : decode cX5_readPair 63 = .ok (.iload_n 3, 1) := by decide +kernel
theorem dX5_readPair_64 : decode cX5_readPair 64 = .ok (.bipush 6, 2) := by decide +kernel
theorem dX5_readPair_66 : decode cX5_readPair 66 = .ok (.imul, 1) := by decide +kernel
theorem dX5_readPair_67 : decode cX5_readPair 67 = .ok (.iload 4, 2) := by decide +kernel
theorem dX5_readPair_69 : decode cX5_readPair 69 = .ok (.iadd, 1) := by decide +kernel
theorem dX5_readPair_70 : decode cX5_readPair 70 = .ok (.iload 5, 2) := by decide +kernel
theorem dX5_readPair_72 : decode cX5_readPair 72 = .ok (.iastore, 1) := by decide +kernel
theorem dX5_readPair_73 : decode cX5_readPair 73 = .ok (.aload_n 0, 1) := by decide +kernel
theorem dX5_readPair_74 : decode cX5_readPair 74 = .ok (.getfield 21, 3) := by decide +kernel
theorem dX5_readPair_77 : decode cX5_readPair 77 = .ok (.iload 4, 2) := by decide +kernel
theorem dX5_readPair_79 : decode cX5_readPair 79 = .ok (.bipush 6, 2) := by decide +kernel
theorem dX5_readPair_81 : decode cX5_readPair 81 = .ok (.imul, 1) := by decide +kernel
theorem dX5_readPair_82 : decode cX5_readPair 82 = .ok (.iload_n 3, 1) := by decide +kernel
theorem dX5_readPair_83 : decode cX5_readPair 83 = .ok (.iadd, 1) := by decide +kernel
theorem dX5_readPair_84 : decode cX5_readPair 84 = .ok (.iload 5, 2) := by decide +kernel
theorem dX5_readPair_86 : decode cX5_readPair 86 = .ok (.iastore, 1) := by decide +kernel
theorem dX5_readPair_87 : decode cX5_readPair 87 = .ok (.aload_n 0, 1) := by decide +kernel
theorem dX5_readPair_88 : decode cX5_readPair 88 = .ok (.getfield 27, 3) := by decide +kernel
theorem dX5_readPair_91 : decode cX5_readPair 91 = .ok (.iload_n 3, 1) := by decide +kernel
theorem dX5_readPair_92 : decode cX5_readPair 92 = .ok (.dup2, 1) := by decide +kernel
theorem dX5_readPair_93 : decode cX5_readPair 93 = .ok (.iaload, 1) := by decide +kernel
theorem dX5_readPair_94 : decode cX5_readPair 94 = .ok (.iconst 1, 1) := by decide +kernel
theorem dX5_readPair_95 : decode cX5_readPair 95 = .ok (.iload 4, 2) := by decide +kernel
theorem dX5_readPair_97 : decode cX5_readPair 97 = .ok (.ishl, 1) := by decide +kernel
theorem dX5_readPair_98 : decode cX5_readPair 98 = .ok (.ior, 1) := by decide +kernel
theorem dX5_readPair_99 : decode cX5_readPair 99 = .ok (.iastore, 1) := by decide +kernel
theorem dX5_readPair_100 : decode cX5_readPair 100 = .ok (.aload_n 0, 1) := by decide +kernel
theorem dX5_readPair_101 : decode cX5_readPair 101 = .ok (.getfield 27, 3) := by decide +kernel
theorem dX5_readPair_104 : decode cX5_readPair 104 = .ok (.iload 4, 2) := by decide +kernel
theorem dX5_readPair_106 : decode cX5_readPair 106 = .ok (.dup2, 1) := by decide +kernel
theorem dX5_readPair_107 : decode cX5_readPair 107 = .ok (.iaload, 1) := by decide +kernel
theorem dX5_readPair_108 : decode cX5_readPair 108 = .ok (.iconst 1, 1) := by decide +kernel
theorem dX5_readPair_109 : decode cX5_readPair 109 = .ok (.iload_n 3, 1) := by decide +kernel
theorem dX5_readPair_110 : decode cX5_readPair 110 = .ok (.ishl, 1) := by decide +kernel
theorem dX5_readPair_111 : decode cX5_readPair 111 = .ok (.ior, 1) := by decide +kernel
theorem dX5_readPair_112 : decode cX5_readPair 112 = .ok (.iastore, 1) := by decide +kernel
theorem dX5_readPair_113 : decode cX5_readPair 113 = .ok (.iload_n 2, 1) := by decide +kernel
theorem dX5_readPair_114 : decode cX5_readPair 114 = .ok (.ifCond .ne 29, 3) := by decide +kernel
theorem dX5_readPair_117 : decode cX5_readPair 117 = .ok (.aload_n 0, 1) := by decide +kernel
theorem dX5_readPair_118 : decode cX5_readPair 118 = .ok (.getfield 24, 3) := by decide +kernel
theorem dX5_readPair_121 : decode cX5_readPair 121 = .ok (.iload_n 3, 1) := by decide +kernel
theorem dX5_readPair_122 : decode cX5_readPair 122 = .ok (.dup2, 1) := by decide +kernel
theorem dX5_readPair_123 : decode cX5_readPair 123 = .ok (.iaload, 1) := by decide +kernel
theorem dX5_readPair_124 : decode cX5_readPair 124 = .ok (.iconst 1, 1) := by decide +kernel
theorem dX5_readPair_125 : decode cX5_readPair 125 = .ok (.iload 4, 2) := by decide +kernel
theorem dX5_readPair_127 : decode cX5_readPair 127 = .ok (.ishl, 1) := by decide +kernel
theorem dX5_readPair_128 : decode cX5_readPair 128 = .ok (.ior, 1) := by decide +kernel
theorem dX5_readPair_129 : decode cX5_readPair 129 = .ok (.iastore, 1) := by decide +kernel
theorem dX5_readPair_130 : decode cX5_readPair 130 = .ok (.aload_n 0, 1) := by decide +kernel
theorem dX5_readPair_131 : decode cX5_readPair 131 = .ok (.getfield 24, 3) := by decide +kernel
theorem dX5_readPair_134 : decode cX5_readPair 134 = .ok (.iload 4, 2) := by decide +kernel
theorem dX5_readPair_136 : decode cX5_readPair 136 = .ok (.dup2, 1) := by decide +kernel
theorem dX5_readPair_137 : decode cX5_readPair 137 = .ok (.iaload, 1) := by decide +kernel
theorem dX5_readPair_138 : decode cX5_readPair 138 = .ok (.iconst 1, 1) := by decide +kernel
theorem dX5_readPair_139 : decode cX5_readPair 139 = .ok (.iload_n 3, 1) := by decide +kernel
theorem dX5_readPair_140 : decode cX5_readPair 140 = .ok (.ishl, 1) := by decide +kernel
theorem dX5_readPair_141 : decode cX5_readPair 141 = .ok (.ior, 1) := by decide +kernel
theorem dX5_readPair_142 : decode cX5_readPair 142 = .ok (.iastore, 1) := by decide +kernel
theorem dX5_readPair_143 : decode cX5_readPair 143 = .ok (.iconst 1, 1) := by decide +kernel
theorem dX5_readPair_144 : decode cX5_readPair 144 = .ok (.ireturn, 1) := by decide +kernel
theorem v_X5_readPair : yX5_readPair.cls = RX5 ∧ yX5_readPair.cls ≠ "java/lang/invoke/MethodHandle" ∧ yX5_readPair.cls ≠ "java/lang/invoke/VarHandle" ∧ (parseMethodDescriptor yX5_readPair.desc).map (fun d => d.parameters.length) = some 2 := ⟨rfl, by decide +kernel, by decide +kernel, by decide +kernel⟩
noncomputable def k_X5_readPair_143 (κ : gb_K) : gb_C := (o_ci 1 o_rz)
theorem l_X5_readPair_143 : gb_Li (fun κ => k_X5_readPair_143 κ) := (gb_li (q_ci 1) (gb_li0 _))
theorem s_X5_readPair_143   {κ : gb_K} (hκ : ∀ q, gb_S RX5 cX5_readPair 6 (gb_rm 3 68) 2 q (κ q)) : gb_S RX5 cX5_readPair 6 (gb_rm 3 68) 2 143 (k_X5_readPair_143 κ) := (s_iconst (by decide +kernel) dX5_readPair_143 (s_rz rfl dX5_readPair_144))
noncomputable def k_X5_readPair_140 (κ : gb_K) : gb_C := (o_ib (fun x y => x <<< (y &&& 31)) (o_ib (fun x y => x ||| y) (o_iast (k_X5_readPair_143 κ))))
theorem l_X5_readPair_140 : gb_Li (fun κ => k_X5_readPair_140 κ) := (gb_li (q_ib _) (gb_li (q_ib _) (gb_li q_iast (l_X5_readPair_143))))
theorem s_X5_readPair_140   {κ : gb_K} (hκ : ∀ q, gb_S RX5 cX5_readPair 6 (gb_rm 3 68) 2 q (κ q)) : gb_S RX5 cX5_readPair 6 (gb_rm 3 68) 2 140 (k_X5_readPair_140 κ) := (s_ishl dX5_readPair_140 (s_ior dX5_readPair_141 (s_iast dX5_readPair_142 (s_X5_readPair_143 hκ))))
noncomputable def k_X5_readPair_99 (κ : gb_K) : gb_C := (o_iast (o_al 0 (o_gf 5 5 (o_il 4 (o_dup2 (o_iald (o_ci 1 (o_il 3 (o_ib (fun x y => x <<< (y &&& 31)) (o_ib (fun x y => x ||| y) (o_iast (o_il 2 (o_zeq (o_al 0 (o_gf 5 4 (o_il 3 (o_dup2 (o_iald (o_ci 1 (o_il 4 (o_ib (fun x y => x <<< (y &&& 31)) (o_ib (fun x y => x ||| y) (o_iast (o_al 0 (o_gf 5 4 (o_il 4 (o_dup2 (o_iald (o_ci 1 (o_il 3 (k_X5_readPair_140 κ)))))))))))))))))) (k_X5_readPair_143 κ))))))))))))))
theorem l_X5_readPair_99 : gb_Li (fun κ => k_X5_readPair_99 κ) := (gb_li q_iast (gb_li (q_al 0) (gb_li (q_gf 5 5) (gb_li (q_il 4) (gb_li q_dup2 (gb_li q_iald (gb_li (q_ci 1) (gb_li (q_il 3) (gb_li (q_ib _) (gb_li (q_ib _) (gb_li q_iast (gb_li (q_il 2) (q_zeq (gb_li (q_al 0) (gb_li (q_gf 5 4) (gb_li (q_il 3) (gb_li q_dup2 (gb_li q_iald (gb_li (q_ci 1) (gb_li (q_il 4) (gb_li (q_ib _) (gb_li (q_ib _) (gb_li q_iast (gb_li (q_al 0) (gb_li (q_gf 5 4) (gb_li (q_il 4) (gb_li q_dup2 (gb_li q_iald (gb_li (q_ci 1) (gb_li (q_il 3) (l_X5_readPair_140)))))))))))))))))) (l_X5_readPair_143))))))))))))))
theorem s_X5_readPair_99   {κ : gb_K} (hκ : ∀ q, gb_S RX5 cX5_readPair 6 (gb_rm 3 68) 2 q (κ q)) : gb_S RX5 cX5_readPair 6 (gb_rm 3 68) 2 99 (k_X5_readPair_99 κ) := (s_iast dX5_readPair_99 (s_aln 0 rfl dX5_readPair_100 (s_gf (T := TX5) winX5 rfl (Nat.le_of_ble_eq_true rfl) gw_108 rfl dX5_readPair_101 (s_il dX5_readPair_104 (s_dup2 dX5_readPair_106 (s_iald dX5_readPair_107 (s_iconst (by decide +kernel) dX5_readPair_108 (s_iln 3 rfl dX5_readPair_109 (s_ishl dX5_readPair_110 (s_ior dX5_readPair_111 (s_iast dX5_readPair_112 (s_iln 2 rfl dX5_readPair_113 (s_zne (tgt := 143) (by decide +kernel) dX5_readPair_114 (s_X5_readPair_143 hκ) (s_aln 0 rfl dX5_readPair_117 (s_gf (T := TX5) winX5 rfl (Nat.le_of_ble_eq_true rfl) gw_105 rfl dX5_readPair_118 (s_iln 3 rfl dX5_readPair_121 (s_dup2 dX5_readPair_122 (s_iald dX5_readPair_123 (s_iconst (by decide +kernel) dX5_readPair_124 (s_il dX5_readPair_125 (s_ishl dX5_readPair_127 (s_ior dX5_readPair_128 (s_iast dX5_readPair_129 (s_aln 0 rfl dX5_readPair_130 (s_gf (T := TX5) winX5 rfl (Nat.le_of_ble_eq_true rfl) gw_105 rfl dX5_readPair_131 (s_il dX5_readPair_134 (s_dup2 dX5_readPair_136 (s_iald dX5_readPair_137 (s_iconst (by decide +kernel) dX5_readPair_138 (s_iln 3 rfl dX5_readPair_139 (s_X5_readPair_140 hκ)))))))))))))))))))))))))))))))
noncomputable def k_X5_readPair_50 (κ : gb_K) : gb_C := (o_is 5 (o_il 5 (o_zge (o_al 0 (o_gf 5 3 (o_il 3 (o_ci 6 (o_ib (fun x y => x * y) (o_il 4 (o_ib (fun x y => x + y) (o_il 5 (o_iast (o_al 0 (o_gf 5 3 (o_il 4 (o_ci 6 (o_ib (fun x y => x * y) (o_il 3 (o_ib (fun x y => x + y) (o_il 5 (o_iast (o_al 0 (o_gf 5 5 (o_il 3 (o_dup2 (o_iald (o_ci 1 (o_il 4 (o_ib (fun x y => x <<< (y &&& 31)) (o_ib (fun x y => x ||| y) (k_X5_readPair_99 κ)))))))))))))))))))))))))))) (o_ci 0 o_rz))))
theorem l_X5_readPair_50 : gb_Li (fun κ => k_X5_readPair_50 κ) := (gb_li (q_is 5) (gb_li (q_il 5) (q_zge (gb_li (q_al 0) (gb_li (q_gf 5 3) (gb_li (q_il 3) (gb_li (q_ci 6) (gb_li (q_ib _) (gb_li (q_il 4) (gb_li (q_ib _) (gb_li (q_il 5) (gb_li q_iast (gb_li (q_al 0) (gb_li (q_gf 5 3) (gb_li (q_il 4) (gb_li (q_ci 6) (gb_li (q_ib _) (gb_li (q_il 3) (gb_li (q_ib _) (gb_li (q_il 5) (gb_li q_iast (gb_li (q_al 0) (gb_li (q_gf 5 5) (gb_li (q_il 3) (gb_li q_dup2 (gb_li q_iald (gb_li (q_ci 1) (gb_li (q_il 4) (gb_li (q_ib _) (gb_li (q_ib _) (l_X5_readPair_99)))))))))))))))))))))))))))) (gb_li (q_ci 0) (gb_li0 _)))))
theorem s_X5_readPair_50   {κ : gb_K} (hκ : ∀ q, gb_S RX5 cX5_readPair 6 (gb_rm 3 68) 2 q (κ q)) : gb_S RX5 cX5_readPair 6 (gb_rm 3 68) 2 50 (k_X5_readPair_50 κ) := (s_is (Nat.le_of_ble_eq_true rfl) dX5_readPair_50 (s_il dX5_readPair_52 (s_zge (tgt := 59) (by decide +kernel) dX5_readPair_54 (s_aln 0 rfl dX5_readPair_59 (s_gf (T := TX5) winX5 rfl (Nat.le_of_ble_eq_true rfl) gw_107 rfl dX5_readPair_60 (s_iln 3 rfl dX5_readPair_63 (s_bipush (by decide +kernel) dX5_readPair_64 (s_imul dX5_readPair_66 (s_il dX5_readPair_67 (s_iadd dX5_readPair_69 (s_il dX5_readPair_70 (s_iast dX5_readPair_72 (s_aln 0 rfl dX5_readPair_73 (s_gf (T := TX5) winX5 rfl (Nat.le_of_ble_eq_true rfl) gw_107 rfl dX5_readPair_74 (s_il dX5_readPair_77 (s_bipush (by decide +kernel) dX5_readPair_79 (s_imul dX5_readPair_81 (s_iln 3 rfl dX5_readPair_82 (s_iadd dX5_readPair_83 (s_il dX5_readPair_84 (s_iast dX5_readPair_86 (s_aln 0 rfl dX5_readPair_87 (s_gf (T := TX5) winX5 rfl (Nat.le_of_ble_eq_true rfl) gw_108 rfl dX5_readPair_88 (s_iln 3 rfl dX5_readPair_91 (s_dup2 dX5_readPair_92 (s_iald dX5_readPair_93 (s_iconst (by decide +kernel) dX5_readPair_94 (s_il dX5_readPair_95 (s_ishl dX5_readPair_97 (s_ior dX5_readPair_98 (s_X5_readPair_99 hκ)))))))))))))))))))))))))))) (s_iconst (by decide +kernel) dX5_readPair_57 (s_rz rfl dX5_readPair_58)))))
noncomputable def k_X5_readPair_0 (κ : gb_K) : gb_C := (o_al 1 (o_ci 0 (o_cv 1 8 1 f_X8_newNumber (o_is 3 (o_il 3 (o_zge (o_al 1 (o_al 0 (o_gf 5 5 (o_il 3 (o_iald (o_ci 1 (o_il 3 (o_ib (fun x y => x <<< (y &&& 31)) (o_ib (fun x y => x ||| y) (o_cv 1 8 1 f_X8_newNumber (o_is 4 (o_il 4 (o_zge (o_il 2 (o_zeq (o_ci 0 (k_X5_readPair_50 κ)) (o_al 1 (o_ci 1 (o_ci 99 (o_cv 2 8 1 f_X8_number (k_X5_readPair_50 κ))))))) (o_ci 0 o_rz)))))))))))))) (o_ci 0 o_rz)))))))
theorem l_X5_readPair_0 : gb_Li (fun κ => k_X5_readPair_0 κ) := (gb_li (q_al 1) (gb_li (q_ci 0) (gb_li (q_cv 1 8 1 f_X8_newNumber) (gb_li (q_is 3) (gb_li (q_il 3) (q_zge (gb_li (q_al 1) (gb_li (q_al 0) (gb_li (q_gf 5 5) (gb_li (q_il 3) (gb_li q_iald (gb_li (q_ci 1) (gb_li (q_il 3) (gb_li (q_ib _) (gb_li (q_ib _) (gb_li (q_cv 1 8 1 f_X8_newNumber) (gb_li (q_is 4) (gb_li (q_il 4) (q_zge (gb_li (q_il 2) (q_zeq (gb_li (q_ci 0) (l_X5_readPair_50)) (gb_li (q_al 1) (gb_li (q_ci 1) (gb_li (q_ci 99) (gb_li (q_cv 2 8 1 f_X8_number) (l_X5_readPair_50))))))) (gb_li (q_ci 0) (gb_li0 _))))))))))))))) (gb_li (q_ci 0) (gb_li0 _))))))))
theorem s_X5_readPair_0   {κ : gb_K} (hκ : ∀ q, gb_S RX5 cX5_readPair 6 (gb_rm 3 68) 2 q (κ q)) : gb_S RX5 cX5_readPair 6 (gb_rm 3 68) 2 0 (k_X5_readPair_0 κ) := (s_aln 1 rfl dX5_readPair_0 (s_iconst (by decide +kernel) dX5_readPair_1 (s_cv (C := RX8) c_X8_newNumber rfl (gb_l5 gw_111 gw_54 gw_55 gw_46 gw_56) v_X8_newNumber ⟨rfl, rfl⟩ ⟨Nat.le_of_ble_eq_true rfl, Nat.le_of_ble_eq_true rfl⟩ dX5_readPair_2 (s_isn 3 rfl (Nat.le_of_ble_eq_true rfl) dX5_readPair_5 (s_iln 3 rfl dX5_readPair_6 (s_zge (tgt := 12) (by decide +kernel) dX5_readPair_7 (s_aln 1 rfl dX5_readPair_12 (s_aln 0 rfl dX5_readPair_13 (s_gf (T := TX5) winX5 rfl (Nat.le_of_ble_eq_true rfl) gw_108 rfl dX5_readPair_14 (s_iln 3 rfl dX5_readPair_17 (s_iald dX5_readPair_18 (s_iconst (by decide +kernel) dX5_readPair_19 (s_iln 3 rfl dX5_readPair_20 (s_ishl dX5_readPair_21 (s_ior dX5_readPair_22 (s_cv (C := RX8) c_X8_newNumber rfl (gb_l5 gw_111 gw_54 gw_55 gw_46 gw_56) v_X8_newNumber ⟨rfl, rfl⟩ ⟨Nat.le_of_ble_eq_true rfl, Nat.le_of_ble_eq_true rfl⟩ dX5_readPair_23 (s_is (Nat.le_of_ble_eq_true rfl) dX5_readPair_26 (s_il dX5_readPair_28 (s_zge (tgt := 35) (by decide +kernel) dX5_readPair_30 (s_iln 2 rfl dX5_readPair_35 (s_zeq (tgt := 49) (by decide +kernel) dX5_readPair_36 (s_iconst (by decide +kernel) dX5_readPair_49 (s_X5_readPair_50 hκ)) (s_aln 1 rfl dX5_readPair_39 (s_iconst (by decide +kernel) dX5_readPair_40 (s_bipush (by decide +kernel) dX5_readPair_41 (s_cv (C := RX8) c_X8_number rfl (gb_l5 gw_113 gw_62 gw_63 gw_46 gw_64) v_X8_number ⟨rfl, rfl⟩ ⟨Nat.le_of_ble_eq_true rfl, Nat.le_of_ble_eq_true rfl⟩ dX5_readPair_43 (s_goto (tgt := 50) (by decide +kernel) dX5_readPair_46 (s_X5_readPair_50 hκ)))))))) (s_iconst (by decide +kernel) dX5_readPair_33 (s_rz rfl dX5_readPair_34))))))))))))))) (s_iconst (by decide +kernel) dX5_readPair_10 (s_rz rfl dX5_readPair_11))))))))
noncomputable def f_X5_readPair : gb_F := gb_hide (gb_mf 6 (k_X5_readPair_0 gb_n))
theorem c_X5_readPair : ∀ l, gb_Met l yX5_readPair cX5_readPair 6 (some .boolean) 2 (gb_rm 3 68) f_X5_readPair := gb_hide_c (gb_met (own := RX5) (rk := 2) rfl (by decide +kernel) ⟨rfl, rfl⟩ (s_X5_readPair_0 gb_S_n))
theorem dX5_readLine_0 : decode cX5_readLine 0 = .ok (.aload_n 1, 1) := by decide +kernel
theorem dX5_readLine_1 : decode cX5_readLine 1 = .ok (.bipush 103, 2) := by decide +kernel
theorem dX5_readLine_3 : decode cX5_readLine 3 = .ok (.invokevirtual 47, 3) := by decide +kernel
theorem dX5_readLine_6 : decode cX5_readLine 6 = .ok (.ifCond .eq 9, 3) := by decide +kernel
theorem dX5_readLine_9 : decode cX5_readLine 9 = .ok (.aload_n 0, 1) := by decide +kernel
theorem dX5_readLine_10 : decode cX5_readLine 10 = .ok (.aload_n 1, 1) := by decide +kernel
theorem dX5_readLine_11 : decode cX5_readLine 11 = .ok (.invokevirtual 58, 3) := by decide +kernel
theorem dX5_readLine_14 : decode cX5_readLine 14 = .ok (.ireturn, 1) := by decide +kernel
theorem dX5_readLine_15 : decode cX5_readLine 15 = .ok (.aload_n 1, 1) := by decide +kernel
theorem dX5_readLine_16 : decode cX5_readLine 16 = .ok (.bipush 98, 2) := by decide +kernel
theorem dX5_readLine_18 : decode cX5_readLine 18 = .ok (.invokevirtual 47, 3) := by decide +kernel
theorem dX5_readLine_21 : decode cX5_readLine 21 = .ok (.ifCond .eq 9, 3) := by decide +kernel
theorem dX5_readLine_24 : decode cX5_readLine 24 = .ok (.aload_n 0, 1) := by decide +kernel
theorem dX5_readLine_25 : decode cX5_readLine 25 = .ok (.aload_n 1, 1) := by decide +kernel
theorem dX5_readLine_26 : decode cX5_readLine 26 = .ok (.invokevirtual 61, 3) := by decide +kernel
theorem dX5_readLine_29 : decode cX5_readLine 29 = .ok (.ireturn, 1) := by decide +kernel
theorem dX5_readLine_30 : decode cX5_readLine 30 = .ok (.aload_n 1, 1) := by decide +kernel
theorem dX5_readLine_31 : decode cX5_readLine 31 = .ok (.bipush 108, 2) := by decide +kernel
theorem dX5_readLine_33 : decode cX5_readLine 33 = .ok (.invokevirtual 47, 3) := by decide +kernel
theorem dX5_readLine_36 : decode cX5_readLine 36 = .ok (.ifCond .eq 10, 3) := by decide +kernel
theorem dX5_readLine_39 : decode cX5_readLine 39 = .ok (.aload_n 0, 1) := by decide +kernel
theorem dX5_readLine_40 : decode cX5_readLine 40 = .ok (.aload_n 1, 1) := by decide +kernel
theorem dX5_readLine_41 : decode cX5_readLine 41 = .ok (.iconst 1, 1) := by decide +kernel
theorem dX5_readLine_42 : decode cX5_readLine 42 = .ok (.invokevirtual 64, 3) := by decide +kernel
theorem dX5_readLine_45 : decode cX5_readLine 45 = .ok (.ireturn, 1) := by decide +kernel
theorem dX5_readLine_46 : decode cX5_readLine 46 = .ok (.aload_n 1, 1) := by decide +kernel
theorem dX5_readLine_47 : decode cX5_readLine 47 = .ok (.bipush 120, 2) := by decide +kernel
theorem dX5_readLine_49 : decode cX5_readLine 49 = .ok (.invokevirtual 47, 3) := by decide +kernel
theorem dX5_readLine_52 : decode cX5_readLine 52 = .ok (.ifCond .eq 16, 3) := by decide +kernel
theorem dX5_readLine_55 : decode cX5_readLine 55 = .ok (.aload_n 0, 1) := by decide +kernel
theorem dX5_readLine_56 : decode cX5_readLine 56 = .ok (.aload_n 1, 1) := by decide +kernel
theorem dX5_readLine_57 : decode cX5_readLine 57 = .ok (.iconst 0, 1) := by decide +kernel
theorem dX5_readLine_58 : decode cX5_readLine 58 = .ok (.invokevirtual 64, 3) := by decide +kernel
theorem dX5_readLine_61 : decode cX5_readLine 61 = .ok (.ifCond .eq 7, 3) := by decide +kernel
theorem dX5_readLine_64 : decode cX5_readLine 64 = .ok (.iconst 1, 1) := by decide +kernel
theorem dX5_readLine_65 : decode cX5_readLine 65 = .ok (.goto 4, 3) := by decide +kernel
theorem dX5_readLine_68 : decode cX5_readLine 68 = .ok (.iconst 0, 1) := by decide +kernel
theorem dX5_readLine_69 : decode cX5_readLine 69 = .ok (.ireturn, 1) := by decide +kernel
theorem v_X5_readLine : yX5_readLine.cls = RX5 ∧ yX5_readLine.cls ≠ "java/lang/invoke/MethodHandle" ∧ yX5_readLine.cls ≠ "java/lang/invoke/VarHandle" ∧ (parseMethodDescriptor yX5_readLine.desc).map (fun d => d.parameters.length) = some 1 := ⟨rfl, by decide +kernel, by decide +kernel, by decide +kernel⟩
noncomputable def k_X5_readLine_69 (κ : gb_K) : gb_C := o_rz
theorem l_X5_readLine_69 : gb_Li (fun κ => k_X5_readLine_69 κ) := (gb_li0 _)
theorem s_X5_readLine_69   {κ : gb_K} (hκ : ∀ q, gb_S RX5 cX5_readLine 2 (gb_rm 4 93) 2 q (κ q)) : gb_S RX5 cX5_readLine 2 (gb_rm 4 93) 2 69 (k_X5_readLine_69 κ) := (s_rz rfl dX5_readLine_69)
noncomputable def k_X5_readLine_68 (κ : gb_K) : gb_C := (o_ci 0 (k_X5_readLine_69 κ))
theorem l_X5_readLine_68 : gb_Li (fun κ => k_X5_readLine_68 κ) := (gb_li (q_ci 0) (l_X5_readLine_69))
theorem s_X5_readLine_68   {κ : gb_K} (hκ : ∀ q, gb_S RX5 cX5_readLine 2 (gb_rm 4 93) 2 q (κ q)) : gb_S RX5 cX5_readLine 2 (gb_rm 4 93) 2 68 (k_X5_readLine_68 κ) := (s_iconst (by decide +kernel) dX5_readLine_68 (s_X5_readLine_69 hκ))
noncomputable def k_X5_readLine_0 (κ : gb_K) : gb_C := (o_al 1 (o_ci 103 (o_cv 1 8 2 f_X8_takes (o_zeq (o_al 1 (o_ci 98 (o_cv 1 8 2 f_X8_takes (o_zeq (o_al 1 (o_ci 108 (o_cv 1 8 2 f_X8_takes (o_zeq (o_al 1 (o_ci 120 (o_cv 1 8 2 f_X8_takes (o_zeq (k_X5_readLine_68 κ) (o_al 0 (o_al 1 (o_ci 0 (o_cv 2 5 2 f_X5_readPair (o_zeq (k_X5_readLine_68 κ) (o_ci 1 (k_X5_readLine_69 κ))))))))))) (o_al 0 (o_al 1 (o_ci 1 (o_cv 2 5 2 f_X5_readPair o_rz)))))))) (o_al 0 (o_al 1 (o_cv 1 5 2 f_X5_readBin o_rz))))))) (o_al 0 (o_al 1 (o_cv 1 5 2 f_X5_readGrade o_rz)))))))
theorem l_X5_readLine_0 : gb_Li (fun κ => k_X5_readLine_0 κ) := (gb_li (q_al 1) (gb_li (q_ci 103) (gb_li (q_cv 1 8 2 f_X8_takes) (q_zeq (gb_li (q_al 1) (gb_li (q_ci 98) (gb_li (q_cv 1 8 2 f_X8_takes) (q_zeq (gb_li (q_al 1) (gb_li (q_ci 108) (gb_li (q_cv 1 8 2 f_X8_takes) (q_zeq (gb_li (q_al 1) (gb_li (q_ci 120) (gb_li (q_cv 1 8 2 f_X8_takes) (q_zeq (l_X5_readLine_68) (gb_li (q_al 0) (gb_li (q_al 1) (gb_li (q_ci 0) (gb_li (q_cv 2 5 2 f_X5_readPair) (q_zeq (l_X5_readLine_68) (gb_li (q_ci 1) (l_X5_readLine_69))))))))))) (gb_li (q_al 0) (gb_li (q_al 1) (gb_li (q_ci 1) (gb_li (q_cv 2 5 2 f_X5_readPair) (gb_li0 _))))))))) (gb_li (q_al 0) (gb_li (q_al 1) (gb_li (q_cv 1 5 2 f_X5_readBin) (gb_li0 _)))))))) (gb_li (q_al 0) (gb_li (q_al 1) (gb_li (q_cv 1 5 2 f_X5_readGrade) (gb_li0 _))))))))
theorem s_X5_readLine_0   {κ : gb_K} (hκ : ∀ q, gb_S RX5 cX5_readLine 2 (gb_rm 4 93) 2 q (κ q)) : gb_S RX5 cX5_readLine 2 (gb_rm 4 93) 2 0 (k_X5_readLine_0 κ) := (s_aln 1 rfl dX5_readLine_0 (s_bipush (by decide +kernel) dX5_readLine_1 (s_cv (C := RX8) c_X8_takes rfl (gb_l5 gw_112 gw_58 gw_59 gw_46 gw_60) v_X8_takes ⟨rfl, rfl⟩ ⟨Nat.le_of_ble_eq_true rfl, Nat.le_of_ble_eq_true rfl⟩ dX5_readLine_3 (s_zeq (tgt := 15) (by decide +kernel) dX5_readLine_6 (s_aln 1 rfl dX5_readLine_15 (s_bipush (by decide +kernel) dX5_readLine_16 (s_cv (C := RX8) c_X8_takes rfl (gb_l5 gw_112 gw_58 gw_59 gw_46 gw_60) v_X8_takes ⟨rfl, rfl⟩ ⟨Nat.le_of_ble_eq_true rfl, Nat.le_of_ble_eq_true rfl⟩ dX5_readLine_18 (s_zeq (tgt := 30) (by decide +kernel) dX5_readLine_21 (s_aln 1 rfl dX5_readLine_30 (s_bipush (by decide +kernel) dX5_readLine_31 (s_cv (C := RX8) c_X8_takes rfl (gb_l5 gw_112 gw_58 gw_59 gw_46 gw_60) v_X8_takes ⟨rfl, rfl⟩ ⟨Nat.le_of_ble_eq_true rfl, Nat.le_of_ble_eq_true rfl⟩ dX5_readLine_33 (s_zeq (tgt := 46) (by decide +kernel) dX5_readLine_36 (s_aln 1 rfl dX5_readLine_46 (s_bipush (by decide +kernel) dX5_readLine_47 (s_cv (C := RX8) c_X8_takes rfl (gb_l5 gw_112 gw_58 gw_59 gw_46 gw_60) v_X8_takes ⟨rfl, rfl⟩ ⟨Nat.le_of_ble_eq_true rfl, Nat.le_of_ble_eq_true rfl⟩ dX5_readLine_49 (s_zeq (tgt := 68) (by decide +kernel) dX5_readLine_52 (s_X5_readLine_68 hκ) (s_aln 0 rfl dX5_readLine_55 (s_aln 1 rfl dX5_readLine_56 (s_iconst (by decide +kernel) dX5_readLine_57 (s_cv (C := RX5) c_X5_readPair rfl (gb_l5 gw_114 gw_115 gw_116 gw_117 gw_118) v_X5_readPair ⟨rfl, rfl⟩ ⟨Nat.le_of_ble_eq_true rfl, Nat.le_of_ble_eq_true rfl⟩ dX5_readLine_58 (s_zeq (tgt := 68) (by decide +kernel) dX5_readLine_61 (s_X5_readLine_68 hκ) (s_iconst (by decide +kernel) dX5_readLine_64 (s_goto (tgt := 69) (by decide +kernel) dX5_readLine_65 (s_X5_readLine_69 hκ)))))))))))) (s_aln 0 rfl dX5_readLine_39 (s_aln 1 rfl dX5_readLine_40 (s_iconst (by decide +kernel) dX5_readLine_41 (s_cv (C := RX5) c_X5_readPair rfl (gb_l5 gw_114 gw_115 gw_116 gw_117 gw_118) v_X5_readPair ⟨rfl, rfl⟩ ⟨Nat.le_of_ble_eq_true rfl, Nat.le_of_ble_eq_true rfl⟩ dX5_readLine_42 (s_rz rfl dX5_readLine_45))))))))) (s_aln 0 rfl dX5_readLine_24 (s_aln 1 rfl dX5_readLine_25 (s_cv (C := RX5) c_X5_readBin rfl (gb_l5 gw_119 gw_120 gw_121 gw_117 gw_122) v_X5_readBin ⟨rfl, rfl⟩ ⟨Nat.le_of_ble_eq_true rfl, Nat.le_of_ble_eq_true rfl⟩ dX5_readLine_26 (s_rz rfl dX5_readLine_29)))))))) (s_aln 0 rfl dX5_readLine_9 (s_aln 1 rfl dX5_readLine_10 (s_cv (C := RX5) c_X5_readGrade rfl (gb_l5 gw_123 gw_124 gw_125 gw_117 gw_126) v_X5_readGrade ⟨rfl, rfl⟩ ⟨Nat.le_of_ble_eq_true rfl, Nat.le_of_ble_eq_true rfl⟩ dX5_readLine_11 (s_rz rfl dX5_readLine_14))))))))
noncomputable def f_X5_readLine : gb_F := gb_hide (gb_mf 2 (k_X5_readLine_0 gb_n))
theorem c_X5_readLine : ∀ l, gb_Met l yX5_readLine cX5_readLine 2 (some .boolean) 2 (gb_rm 4 93) f_X5_readLine := gb_hide_c (gb_met (own := RX5) (rk := 2) rfl (by decide +kernel) ⟨rfl, rfl⟩ (s_X5_readLine_0 gb_S_n))
theorem dX5_read_0 : decode cX5_read 0 = .ok (.aload_n 0, 1) := by decide +kernel
theorem dX5_read_1 : decode cX5_read 1 = .ok (.invokevirtual 30, 3) := by decide +kernel
theorem dX5_read_4 : decode cX5_read 4 = .ok (.aload_n 1, 1) := by decide +kernel
theorem dX5_read_5 : decode cX5_read 5 = .ok (.invokevirtual 33, 3) := by decide +kernel
theorem dX5_read_8 : decode cX5_read 8 = .ok (.ifCond .eq 5, 3) := by decide +kernel
theorem dX5_read_11 : decode cX5_read 11 = .ok (.iconst 0, 1) := by decide +kernel
theorem dX5_read_12 : decode cX5_read 12 = .ok (.ireturn, 1) := by decide +kernel
theorem dX5_read_13 : decode cX5_read 13 = .ok (.iconst 1, 1) := by decide +kernel
theorem dX5_read_14 : decode cX5_read 14 = .ok (.istore_n 2, 1) := by decide +kernel
theorem dX5_read_15 : decode cX5_read 15 = .ok (.iload_n 2, 1) := by decide +kernel
theorem dX5_read_16 : decode cX5_read 16 = .ok (.sipush 200, 3) := by decide +kernel
theorem dX5_read_19 : decode cX5_read 19 = .ok (.if_icmp .gt 45, 3) := by decide +kernel
theorem dX5_read_22 : decode cX5_read 22 = .ok (.aload_n 0, 1) := by decide +kernel
theorem dX5_read_23 : decode cX5_read 23 = .ok (.aload_n 1, 1) := by decide +kernel
theorem dX5_read_24 : decode cX5_read 24 = .ok (.invokevirtual 39, 3) := by decide +kernel
theorem dX5_read_27 : decode cX5_read 27 = .ok (.ifCond .ne 8, 3) := by decide +kernel
theorem dX5_read_30 : decode cX5_read 30 = .ok (.aload_n 1, 1) := by decide +kernel
theorem dX5_read_31 : decode cX5_read 31 = .ok (.invokevirtual 43, 3) := by decide +kernel
theorem dX5_read_34 : decode cX5_read 34 = .ok (.ireturn, 1) := by decide +kernel
theorem dX5_read_35 : decode cX5_read 35 = .ok (.aload_n 1, 1) := by decide +kernel
theorem dX5_read_36 : decode cX5_read 36 = .ok (.invokevirtual 33, 3) := by decide +kernel
theorem dX5_read_39 : decode cX5_read 39 = .ok (.ifCond .eq 5, 3) := by decide +kernel
theorem dX5_read_42 : decode cX5_read 42 = .ok (.iload_n 2, 1) := by decide +kernel
theorem dX5_read_43 : decode cX5_read 43 = .ok (.ireturn, 1) := by decide +kernel
theorem dX5_read_44 : decode cX5_read 44 = .ok (.aload_n 1, 1) := by decide +kernel
theorem dX5_read_45 : decode cX5_read 45 = .ok (.bipush 59, 2) := by decide +kernel
theorem dX5_read_47 : decode cX5_read 47 = .ok (.invokevirtual 47, 3) := by decide +kernel
theorem dX5_read_50 : decode cX5_read 50 = .ok (.ifCond .ne 8, 3) := by decide +kernel
theorem dX5_read_53 : decode cX5_read 53 = .ok (.aload_n 1, 1) := by decide +kernel
theorem dX5_read_54 : decode cX5_read 54 = .ok (.invokevirtual 43, 3) := by decide +kernel
theorem dX5_read_57 : decode cX5_read 57 = .ok (.ireturn, 1) := by decide +kernel
theorem dX5_read_58 : decode cX5_read 58 = .ok (.iinc 2 1, 3) := by decide +kernel
theorem dX5_read_61 : decode cX5_read 61 = .ok (.goto (-46), 3) := by decide +kernel
theorem dX5_read_64 : decode cX5_read 64 = .ok (.aload_n 1, 1) := by decide +kernel
theorem dX5_read_65 : decode cX5_read 65 = .ok (.invokevirtual 43, 3) := by decide +kernel
theorem dX5_read_68 : decode cX5_read 68 = .ok (.ireturn, 1) := by decide +kernel
theorem v_X5_read : yX5_read.cls = RX5 ∧ yX5_read.cls ≠ "java/lang/invoke/MethodHandle" ∧ yX5_read.cls ≠ "java/lang/invoke/VarHandle" ∧ (parseMethodDescriptor yX5_read.desc).map (fun d => d.parameters.length) = some 1 := ⟨rfl, by decide +kernel, by decide +kernel, by decide +kernel⟩
noncomputable def k_X5_read_0 (κ : gb_K) : gb_C := (o_al 0 (o_cv 0 5 0 f_X5_clear (o_al 1 (o_cv 0 8 2 f_X8_ended (o_zeq (o_ci 1 (o_is 2 (o_j [0, 1, 2] (κ 15)))) (o_ci 0 o_ri))))))
theorem l_X5_read_0 : gb_Li (fun κ => k_X5_read_0 κ) := (gb_li (q_al 0) (gb_li (q_cv 0 5 0 f_X5_clear) (gb_li (q_al 1) (gb_li (q_cv 0 8 2 f_X8_ended) (q_zeq (gb_li (q_ci 1) (gb_li (q_is 2) (q_j [0, 1, 2] 15))) (gb_li (q_ci 0) (gb_li0 _)))))))
theorem s_X5_read_0   {κ : gb_K} (hκ : ∀ q, gb_S RX5 cX5_read 3 (gb_rm 5 114) 1 q (κ q)) : gb_S RX5 cX5_read 3 (gb_rm 5 114) 1 0 (k_X5_read_0 κ) := (s_aln 0 rfl dX5_read_0 (s_cv (C := RX5) c_X5_clear rfl (gb_l5 gw_127 gw_128 gw_129 gw_117 gw_130) v_X5_clear ⟨rfl, rfl⟩ ⟨Nat.le_of_ble_eq_true rfl, Nat.le_of_ble_eq_true rfl⟩ dX5_read_1 (s_aln 1 rfl dX5_read_4 (s_cv (C := RX8) c_X8_ended rfl (gb_l5 gw_131 gw_44 gw_45 gw_46 gw_47) v_X8_ended ⟨rfl, rfl⟩ ⟨Nat.le_of_ble_eq_true rfl, Nat.le_of_ble_eq_true rfl⟩ dX5_read_5 (s_zeq (tgt := 13) (by decide +kernel) dX5_read_8 (s_iconst (by decide +kernel) dX5_read_13 (s_isn 2 rfl (Nat.le_of_ble_eq_true rfl) dX5_read_14 (s_j (hκ 15)))) (s_iconst (by decide +kernel) dX5_read_11 (s_ri rfl dX5_read_12)))))))
noncomputable def k_X5_read_15 (κ : gb_K) : gb_C := (o_il 2 (o_ci 200 (o_cgt (o_al 1 (o_cv 0 8 1 f_X8_fault o_ri)) (o_al 0 (o_al 1 (o_cv 1 5 2 f_X5_readLine (o_zeq (o_al 1 (o_cv 0 8 1 f_X8_fault o_ri)) (o_al 1 (o_cv 0 8 2 f_X8_ended (o_zeq (o_al 1 (o_ci 59 (o_cv 1 8 2 f_X8_takes (o_zeq (o_al 1 (o_cv 0 8 1 f_X8_fault o_ri)) (o_inc 2 1 (o_j [0, 1, 2] (κ 15))))))) (o_il 2 o_ri)))))))))))
theorem l_X5_read_15 : gb_Li (fun κ => k_X5_read_15 κ) := (gb_li (q_il 2) (gb_li (q_ci 200) (q_cgt (gb_li (q_al 1) (gb_li (q_cv 0 8 1 f_X8_fault) (gb_li0 _))) (gb_li (q_al 0) (gb_li (q_al 1) (gb_li (q_cv 1 5 2 f_X5_readLine) (q_zeq (gb_li (q_al 1) (gb_li (q_cv 0 8 1 f_X8_fault) (gb_li0 _))) (gb_li (q_al 1) (gb_li (q_cv 0 8 2 f_X8_ended) (q_zeq (gb_li (q_al 1) (gb_li (q_ci 59) (gb_li (q_cv 1 8 2 f_X8_takes) (q_zeq (gb_li (q_al 1) (gb_li (q_cv 0 8 1 f_X8_fault) (gb_li0 _))) (gb_li (q_inc 2 1) (q_j [0, 1, 2] 15)))))) (gb_li (q_il 2) (gb_li0 _))))))))))))
theorem s_X5_read_15   {κ : gb_K} (hκ : ∀ q, gb_S RX5 cX5_read 3 (gb_rm 5 114) 1 q (κ q)) : gb_S RX5 cX5_read 3 (gb_rm 5 114) 1 15 (k_X5_read_15 κ) := (s_iln 2 rfl dX5_read_15 (s_sipush (by decide +kernel) dX5_read_16 (s_cgt (tgt := 64) (by decide +kernel) dX5_read_19 (s_aln 1 rfl dX5_read_64 (s_cv (C := RX8) c_X8_fault rfl (gb_l5 gw_132 gw_70 gw_71 gw_46 gw_72) v_X8_fault ⟨rfl, rfl⟩ ⟨Nat.le_of_ble_eq_true rfl, Nat.le_of_ble_eq_true rfl⟩ dX5_read_65 (s_ri rfl dX5_read_68))) (s_aln 0 rfl dX5_read_22 (s_aln 1 rfl dX5_read_23 (s_cv (C := RX5) c_X5_readLine rfl (gb_l5 gw_133 gw_134 gw_135 gw_117 gw_136) v_X5_readLine ⟨rfl, rfl⟩ ⟨Nat.le_of_ble_eq_true rfl, Nat.le_of_ble_eq_true rfl⟩ dX5_read_24 (s_zne (tgt := 35) (by decide +kernel) dX5_read_27 (s_aln 1 rfl dX5_read_35 (s_cv (C := RX8) c_X8_ended rfl (gb_l5 gw_131 gw_44 gw_45 gw_46 gw_47) v_X8_ended ⟨rfl, rfl⟩ ⟨Nat.le_of_ble_eq_true rfl, Nat.le_of_ble_eq_true rfl⟩ dX5_read_36 (s_zeq (tgt := 44) (by decide +kernel) dX5_read_39 (s_aln 1 rfl dX5_read_44 (s_bipush (by decide +kernel) dX5_read_45 (s_cv (C := RX8) c_X8_takes rfl (gb_l5 gw_112 gw_58 gw_59 gw_46 gw_60) v_X8_takes ⟨rfl, rfl⟩ ⟨Nat.le_of_ble_eq_true rfl, Nat.le_of_ble_eq_true rfl⟩ dX5_read_47 (s_zne (tgt := 58) (by decide +kernel) dX5_read_50 (s_inc (by decide +kernel) (Nat.le_of_ble_eq_true rfl) dX5_read_58 (s_goto (tgt := 15) (by decide +kernel) dX5_read_61 (s_j (hκ 15)))) (s_aln 1 rfl dX5_read_53 (s_cv (C := RX8) c_X8_fault rfl (gb_l5 gw_132 gw_70 gw_71 gw_46 gw_72) v_X8_fault ⟨rfl, rfl⟩ ⟨Nat.le_of_ble_eq_true rfl, Nat.le_of_ble_eq_true rfl⟩ dX5_read_54 (s_ri rfl dX5_read_57))))))) (s_iln 2 rfl dX5_read_42 (s_ri rfl dX5_read_43))))) (s_aln 1 rfl dX5_read_30 (s_cv (C := RX8) c_X8_fault rfl (gb_l5 gw_132 gw_70 gw_71 gw_46 gw_72) v_X8_fault ⟨rfl, rfl⟩ ⟨Nat.le_of_ble_eq_true rfl, Nat.le_of_ble_eq_true rfl⟩ dX5_read_31 (s_ri rfl dX5_read_34))))))))))
noncomputable def B_X5_read : List (Nat × (gb_K → gb_C)) := [(15, fun κ => k_X5_read_15 κ)]
noncomputable def K_X5_read : gb_K := gb_fx (gb_tb (B_X5_read))
theorem L_X5_read : ∀ q, gb_Li (fun κ => gb_tb (B_X5_read) κ q) := gb_tb_li (List.forall_mem_cons.mpr ⟨l_X5_read_15, (fun _ h => absurd h List.not_mem_nil)⟩)
theorem S_X5_read   : ∀ q, gb_S RX5 cX5_read 3 (gb_rm 5 114) 1 q (K_X5_read q) := fun q => gb_fx_S (L_X5_read) (gb_tb_S (List.forall_mem_cons.mpr ⟨fun κ hκ => s_X5_read_15 hκ, (fun _ h => absurd h List.not_mem_nil)⟩)) q
noncomputable def f_X5_read : gb_F := gb_hide (gb_mf 3 (k_X5_read_0 (K_X5_read)))
theorem c_X5_read : ∀ l, gb_Met l yX5_read cX5_read 3 (some .int) 1 (gb_rm 5 114) f_X5_read := gb_hide_c (gb_met (own := RX5) (rk := 1) rfl (by decide +kernel) ⟨rfl, rfl⟩ (s_X5_read_0 (S_X5_read)))
theorem dX7_clear_0 : decode cX7_clear 0 = .ok (.iconst 0, 1) := by decide +kernel
theorem dX7_clear_1 : decode cX7_clear 1 = .ok (.istore_n 1, 1) := by decide +kernel
theorem dX7_clear_2 : decode cX7_clear 2 = .ok (.iload_n 1, 1) := by decide +kernel
theorem dX7_clear_3 : decode cX7_clear 3 = .ok (.bipush 6, 2) := by decide +kernel
theorem dX7_clear_5 : decode cX7_clear 5 = .ok (.if_icmp .ge 24, 3) := by decide +kernel
theorem dX7_clear_8 : decode cX7_clear 8 = .ok (.aload_n 0, 1) := by decide +kernel
theorem dX7_clear_9 : decode cX7_clear 9 = .ok (.getfield 9, 3) := by decide +kernel
theorem dX7_clear_12 : decode cX7_clear 12 = .ok (.iload_n 1, 1) := by decide +kernel
theorem dX7_clear_13 : decode cX7_clear 13 = .ok (.aload_n 0, 1) := by decide +kernel
theorem dX7_clear_14 : decode cX7_clear 14 = .ok (.getfield 36, 3) := by decide +kernel
theorem dX7_clear_17 : decode cX7_clear 17 = .ok (.getfield 55, 3) := by decide +kernel
theorem dX7_clear_20 : decode cX7_clear 20 = .ok (.iload_n 1, 1) := by decide +kernel
theorem dX7_clear_21 : decode cX7_clear 21 = .ok (.iaload, 1) := by decide +kernel
theorem dX7_clear_22 : decode cX7_clear 22 = .ok (.iastore, 1) := by decide +kernel
theorem dX7_clear_23 : decode cX7_clear 23 = .ok (.iinc 1 1, 3) := by decide +kernel
theorem dX7_clear_26 : decode cX7_clear 26 = .ok (.goto (-24), 3) := by decide +kernel
theorem dX7_clear_29 : decode cX7_clear 29 = .ok (.iconst 0, 1) := by decide +kernel
theorem dX7_clear_30 : decode cX7_clear 30 = .ok (.istore_n 1, 1) := by decide +kernel
theorem dX7_clear_31 : decode cX7_clear 31 = .ok (.iload_n 1, 1) := by decide +kernel
theorem dX7_clear_32 : decode cX7_clear 32 = .ok (.bipush 6, 2) := by decide +kernel
theorem dX7_clear_34 : decode cX7_clear 34 = .ok (.if_icmp .ge 30, 3) := by decide +kernel
theorem dX7_clear_37 : decode cX7_clear 37 = .ok (.aload_n 0, 1) := by decide +kernel
theorem dX7_clear_38 : decode cX7_clear 38 = .ok (.getfield 15, 3) := by decide +kernel
theorem dX7_clear_41 : decode cX7_clear 41 = .ok (.iload_n 1, 1) := by decide +kernel
theorem dX7_clear_42 : decode cX7_clear 42 = .ok (.iconst 0, 1) := by decide +kernel
theorem dX7_clear_43 : decode cX7_clear 43 = .ok (.iastore, 1) := by decide +kernel
theorem dX7_clear_44 : decode cX7_clear 44 = .ok (.aload_n 0, 1) := by decide +kernel
theorem dX7_clear_45 : decode cX7_clear 45 = .ok (.getfield 18, 3) := by decide +kernel
theorem dX7_clear_48 : decode cX7_clear 48 = .ok (.iload_n 1, 1) := by decide +kernel
theorem dX7_clear_49 : decode cX7_clear 49 = .ok (.iconst 0, 1) := by decide +kernel
theorem dX7_clear_50 : decode cX7_clear 50 = .ok (.iastore, 1) := by decide +kernel
theorem dX7_clear_51 : decode cX7_clear 51 = .ok (.aload_n 0, 1) := by decide +kernel
theorem dX7_clear_52 : decode cX7_clear 52 = .ok (.getfield 21, 3) := by decide +kernel
theorem dX7_clear_55 : decode cX7_clear 55 = .ok (.iload_n 1, 1) := by decide +kernel
theorem dX7_clear_56 : decode cX7_clear 56 = .ok (.iconst 0, 1) := by decide +kernel
theorem dX7_clear_57 : decode cX7_clear 57 = .ok (.iastore, 1) := by decide +kernel
theorem dX7_clear_58 : decode cX7_clear 58 = .ok (.iinc 1 1, 3) := by decide +kernel
theorem dX7_clear_61 : decode cX7_clear 61 = .ok (.goto (-30), 3) := by decide +kernel
theorem dX7_clear_64 : decode cX7_clear 64 = .ok (.iconst 0, 1) := by decide +kernel
theorem dX7_clear_65 : decode cX7_clear 65 = .ok (.istore_n 1, 1) := by decide +kernel
theorem dX7_clear_66 : decode cX7_clear 66 = .ok (.iload_n 1, 1) := by decide +kernel
theorem dX7_clear_67 : decode cX7_clear 67 = .ok (.bipush 36, 2) := by decide +kernel
theorem dX7_clear_69 : decode cX7_clear 69 = .ok (.if_icmp .ge 16, 3) := by decide +kernel
theorem dX7_clear_72 : decode cX7_clear 72 = .ok (.aload_n 0, 1) := by decide +kernel
theorem dX7_clear_73 : decode cX7_clear 73 = .ok (.getfield 33, 3) := by decide +kernel
theorem dX7_clear_76 : decode cX7_clear 76 = .ok (.iload_n 1, 1) := by decide +kernel
theorem dX7_clear_77 : decode cX7_clear 77 = .ok (.iconst 0, 1) := by decide +kernel
theorem dX7_clear_78 : decode cX7_clear 78 = .ok (.iastore, 1) := by decide +kernel
theorem dX7_clear_79 : decode cX7_clear 79 = .ok (.iinc 1 1, 3) := by decide +kernel
theorem dX7_clear_82 : decode cX7_clear 82 = .ok (.goto (-16), 3) := by decide +kernel
theorem dX7_clear_85 : decode cX7_clear 85 = .ok (.aload_n 0, 1) := by decide +kernel
theorem dX7_clear_86 : decode cX7_clear 86 = .ok (.iconst 0, 1) := by decide +kernel
theorem dX7_clear_87 : decode cX7_clear 87 = .ok (.putfield 44, 3) := by decide +kernel
theorem dX7_clear_90 : decode cX7_clear 90 = .ok (.aload_n 0, 1) := by decide +kernel
theorem dX7_clear_91 : decode cX7_clear 91 = .ok (.iconst 0, 1) := by decide +kernel
theorem dX7_clear_92 : decode cX7_clear 92 = .ok (.putfield 48, 3) := by decide +kernel
theorem dX7_clear_95 : decode cX7_clear 95 = .ok (.return_, 1) := by decide +kernel
theorem v_X7_clear : yX7_clear.cls = RX7 ∧ yX7_clear.cls ≠ "java/lang/invoke/MethodHandle" ∧ yX7_clear.cls ≠ "java/lang/invoke/VarHandle" ∧ (parseMethodDescriptor yX7_clear.desc).map (fun d => d.parameters.length) = some 0 := ⟨rfl, by decide +kernel, by decide +kernel, by decide +kernel⟩
noncomputable def k_X7_clear_0 (κ : gb_K) : gb_C := (o_ci 0 (o_is 1 (o_j [0, 1] (κ 2))))
theorem l_X7_clear_0 : gb_Li (fun κ => k_X7_clear_0 κ) := (gb_li (q_ci 0) (gb_li (q_is 1) (q_j [0, 1] 2)))
theorem s_X7_clear_0   {κ : gb_K} (hκ : ∀ q, gb_S RX7 cX7_clear 2 (gb_rm 0 0) 0 q (κ q)) : gb_S RX7 cX7_clear 2 (gb_rm 0 0) 0 0 (k_X7_clear_0 κ) := (s_iconst (by decide +kernel) dX7_clear_0 (s_isn 1 rfl (Nat.le_of_ble_eq_true rfl) dX7_clear_1 (s_j (hκ 2))))
noncomputable def k_X7_clear_2 (κ : gb_K) : gb_C := (o_il 1 (o_ci 6 (o_cge (o_ci 0 (o_is 1 (o_j [0, 1] (κ 31)))) (o_al 0 (o_gf 7 1 (o_il 1 (o_al 0 (o_gf 7 0 (o_gf 5 0 (o_il 1 (o_iald (o_iast (o_inc 1 1 (o_j [0, 1] (κ 2)))))))))))))))
theorem l_X7_clear_2 : gb_Li (fun κ => k_X7_clear_2 κ) := (gb_li (q_il 1) (gb_li (q_ci 6) (q_cge (gb_li (q_ci 0) (gb_li (q_is 1) (q_j [0, 1] 31))) (gb_li (q_al 0) (gb_li (q_gf 7 1) (gb_li (q_il 1) (gb_li (q_al 0) (gb_li (q_gf 7 0) (gb_li (q_gf 5 0) (gb_li (q_il 1) (gb_li q_iald (gb_li q_iast (gb_li (q_inc 1 1) (q_j [0, 1] 2))))))))))))))
theorem s_X7_clear_2   {κ : gb_K} (hκ : ∀ q, gb_S RX7 cX7_clear 2 (gb_rm 0 0) 0 q (κ q)) : gb_S RX7 cX7_clear 2 (gb_rm 0 0) 0 2 (k_X7_clear_2 κ) := (s_iln 1 rfl dX7_clear_2 (s_bipush (by decide +kernel) dX7_clear_3 (s_cge (tgt := 29) (by decide +kernel) dX7_clear_5 (s_iconst (by decide +kernel) dX7_clear_29 (s_isn 1 rfl (Nat.le_of_ble_eq_true rfl) dX7_clear_30 (s_j (hκ 31)))) (s_aln 0 rfl dX7_clear_8 (s_gf (T := TX7) winX7 rfl (Nat.le_of_ble_eq_true rfl) gw_86 rfl dX7_clear_9 (s_iln 1 rfl dX7_clear_12 (s_aln 0 rfl dX7_clear_13 (s_gf (T := TX7) winX7 rfl (Nat.le_of_ble_eq_true rfl) gw_137 rfl dX7_clear_14 (s_gf (T := TX5) winX5 rfl (Nat.le_of_ble_eq_true rfl) gw_138 rfl dX7_clear_17 (s_iln 1 rfl dX7_clear_20 (s_iald dX7_clear_21 (s_iast dX7_clear_22 (s_inc (by decide +kernel) (Nat.le_of_ble_eq_true rfl) dX7_clear_23 (s_goto (tgt := 2) (by decide +kernel) dX7_clear_26 (s_j (hκ 2))))))))))))))))
noncomputable def k_X7_clear_31 (κ : gb_K) : gb_C := (o_il 1 (o_ci 6 (o_cge (o_ci 0 (o_is 1 (o_j [0, 1] (κ 66)))) (o_al 0 (o_gf 7 2 (o_il 1 (o_ci 0 (o_iast (o_al 0 (o_gf 7 3 (o_il 1 (o_ci 0 (o_iast (o_al 0 (o_gf 7 4 (o_il 1 (o_ci 0 (o_iast (o_inc 1 1 (o_j [0, 1] (κ 31)))))))))))))))))))))
theorem l_X7_clear_31 : gb_Li (fun κ => k_X7_clear_31 κ) := (gb_li (q_il 1) (gb_li (q_ci 6) (q_cge (gb_li (q_ci 0) (gb_li (q_is 1) (q_j [0, 1] 66))) (gb_li (q_al 0) (gb_li (q_gf 7 2) (gb_li (q_il 1) (gb_li (q_ci 0) (gb_li q_iast (gb_li (q_al 0) (gb_li (q_gf 7 3) (gb_li (q_il 1) (gb_li (q_ci 0) (gb_li q_iast (gb_li (q_al 0) (gb_li (q_gf 7 4) (gb_li (q_il 1) (gb_li (q_ci 0) (gb_li q_iast (gb_li (q_inc 1 1) (q_j [0, 1] 31))))))))))))))))))))
theorem s_X7_clear_31   {κ : gb_K} (hκ : ∀ q, gb_S RX7 cX7_clear 2 (gb_rm 0 0) 0 q (κ q)) : gb_S RX7 cX7_clear 2 (gb_rm 0 0) 0 31 (k_X7_clear_31 κ) := (s_iln 1 rfl dX7_clear_31 (s_bipush (by decide +kernel) dX7_clear_32 (s_cge (tgt := 64) (by decide +kernel) dX7_clear_34 (s_iconst (by decide +kernel) dX7_clear_64 (s_isn 1 rfl (Nat.le_of_ble_eq_true rfl) dX7_clear_65 (s_j (hκ 66)))) (s_aln 0 rfl dX7_clear_37 (s_gf (T := TX7) winX7 rfl (Nat.le_of_ble_eq_true rfl) gw_6 rfl dX7_clear_38 (s_iln 1 rfl dX7_clear_41 (s_iconst (by decide +kernel) dX7_clear_42 (s_iast dX7_clear_43 (s_aln 0 rfl dX7_clear_44 (s_gf (T := TX7) winX7 rfl (Nat.le_of_ble_eq_true rfl) gw_79 rfl dX7_clear_45 (s_iln 1 rfl dX7_clear_48 (s_iconst (by decide +kernel) dX7_clear_49 (s_iast dX7_clear_50 (s_aln 0 rfl dX7_clear_51 (s_gf (T := TX7) winX7 rfl (Nat.le_of_ble_eq_true rfl) gw_80 rfl dX7_clear_52 (s_iln 1 rfl dX7_clear_55 (s_iconst (by decide +kernel) dX7_clear_56 (s_iast dX7_clear_57 (s_inc (by decide +kernel) (Nat.le_of_ble_eq_true rfl) dX7_clear_58 (s_goto (tgt := 31) (by decide +kernel) dX7_clear_61 (s_j (hκ 31))))))))))))))))))))))
noncomputable def k_X7_clear_66 (κ : gb_K) : gb_C := (o_il 1 (o_ci 36 (o_cge (o_al 0 (o_ci 0 (o_pf 7 9 (o_al 0 (o_ci 0 (o_pf 7 10 o_rv)))))) (o_al 0 (o_gf 7 8 (o_il 1 (o_ci 0 (o_iast (o_inc 1 1 (o_j [0, 1] (κ 66)))))))))))
theorem l_X7_clear_66 : gb_Li (fun κ => k_X7_clear_66 κ) := (gb_li (q_il 1) (gb_li (q_ci 36) (q_cge (gb_li (q_al 0) (gb_li (q_ci 0) (gb_li (q_pf 7 9) (gb_li (q_al 0) (gb_li (q_ci 0) (gb_li (q_pf 7 10) (gb_li0 _))))))) (gb_li (q_al 0) (gb_li (q_gf 7 8) (gb_li (q_il 1) (gb_li (q_ci 0) (gb_li q_iast (gb_li (q_inc 1 1) (q_j [0, 1] 66))))))))))
theorem s_X7_clear_66   {κ : gb_K} (hκ : ∀ q, gb_S RX7 cX7_clear 2 (gb_rm 0 0) 0 q (κ q)) : gb_S RX7 cX7_clear 2 (gb_rm 0 0) 0 66 (k_X7_clear_66 κ) := (s_iln 1 rfl dX7_clear_66 (s_bipush (by decide +kernel) dX7_clear_67 (s_cge (tgt := 85) (by decide +kernel) dX7_clear_69 (s_aln 0 rfl dX7_clear_85 (s_iconst (by decide +kernel) dX7_clear_86 (s_pf (T := TX7) winX7 rfl (Nat.le_of_ble_eq_true rfl) tyX7_ok nmX7 rfl (by decide +kernel) gw_5 rfl dX7_clear_87 (s_aln 0 rfl dX7_clear_90 (s_iconst (by decide +kernel) dX7_clear_91 (s_pf (T := TX7) winX7 rfl (Nat.le_of_ble_eq_true rfl) tyX7_ok nmX7 rfl (by decide +kernel) gw_87 rfl dX7_clear_92 (s_rv rfl dX7_clear_95))))))) (s_aln 0 rfl dX7_clear_72 (s_gf (T := TX7) winX7 rfl (Nat.le_of_ble_eq_true rfl) gw_81 rfl dX7_clear_73 (s_iln 1 rfl dX7_clear_76 (s_iconst (by decide +kernel) dX7_clear_77 (s_iast dX7_clear_78 (s_inc (by decide +kernel) (Nat.le_of_ble_eq_true rfl) dX7_clear_79 (s_goto (tgt := 66) (by decide +kernel) dX7_clear_82 (s_j (hκ 66))))))))))))
noncomputable def B_X7_clear : List (Nat × (gb_K → gb_C)) := [(2, fun κ => k_X7_clear_2 κ), (31, fun κ => k_X7_clear_31 κ), (66, fun κ => k_X7_clear_66 κ)]
noncomputable def K_X7_clear : gb_K := gb_fx (gb_tb (B_X7_clear))
theorem L_X7_clear : ∀ q, gb_Li (fun κ => gb_tb (B_X7_clear) κ q) := gb_tb_li (List.forall_mem_cons.mpr ⟨l_X7_clear_2, List.forall_mem_cons.mpr ⟨l_X7_clear_31, List.forall_mem_cons.mpr ⟨l_X7_clear_66, (fun _ h => absurd h List.not_mem_nil)⟩⟩⟩)
theorem S_X7_clear   : ∀ q, gb_S RX7 cX7_clear 2 (gb_rm 0 0) 0 q (K_X7_clear q) := fun q => gb_fx_S (L_X7_clear) (gb_tb_S (List.forall_mem_cons.mpr ⟨fun κ hκ => s_X7_clear_2 hκ, List.forall_mem_cons.mpr ⟨fun κ hκ => s_X7_clear_31 hκ, List.forall_mem_cons.mpr ⟨fun κ hκ => s_X7_clear_66 hκ, (fun _ h => absurd h List.not_mem_nil)⟩⟩⟩)) q
noncomputable def f_X7_clear : gb_F := gb_hide (gb_mf 2 (k_X7_clear_0 (K_X7_clear)))
theorem c_X7_clear : ∀ l, gb_Met l yX7_clear cX7_clear 2 none 0 (gb_rm 0 0) f_X7_clear := gb_hide_c (gb_met (own := RX7) (rk := 0) rfl (by decide +kernel) ⟨rfl, rfl⟩ (s_X7_clear_0 (S_X7_clear)))
theorem dX7_gradesIn_0 : decode cX7_gradesIn 0 = .ok (.iconst 0, 1) := by decide +kernel
theorem dX7_gradesIn_1 : decode cX7_gradesIn 1 = .ok (.istore_n 2, 1) := by decide +kernel
theorem dX7_gradesIn_2 : decode cX7_gradesIn 2 = .ok (.iconst 0, 1) := by decide +kernel
theorem dX7_gradesIn_3 : decode cX7_gradesIn 3 = .ok (.istore_n 3, 1) := by decide +kernel
theorem dX7_gradesIn_4 : decode cX7_gradesIn 4 = .ok (.iload_n 3, 1) := by decide +kernel
theorem dX7_gradesIn_5 : decode cX7_gradesIn 5 = .ok (.bipush 6, 2) := by decide +kernel
theorem dX7_gradesIn_7 : decode cX7_gradesIn 7 = .ok (.if_icmp .ge 29, 3) := by decide +kernel
theorem dX7_gradesIn_10 : decode cX7_gradesIn 10 = .ok (.aload_n 0, 1) := by decide +kernel
theorem dX7_gradesIn_11 : decode cX7_gradesIn 11 = .ok (.getfield 33, 3) := by decide +kernel
theorem dX7_gradesIn_14 : decode cX7_gradesIn 14 = .ok (.iload_n 1, 1) := by decide +kernel
theorem dX7_gradesIn_15 : decode cX7_gradesIn 15 = .ok (.bipush 6, 2) := by decide +kernel
theorem dX7_gradesIn_17 : decode cX7_gradesIn 17 = .ok (.imul, 1) := by decide +kernel
theorem dX7_gradesIn_18 : decode cX7_gradesIn 18 = .ok (.iload_n 3, 1) := by decide +kernel
theorem dX7_gradesIn_19 : decode cX7_gradesIn 19 = .ok (.iadd, 1) := by decide +kernel
theorem dX7_gradesIn_20 : decode cX7_gradesIn 20 = .ok (.iaload, 1) := by decide +kernel
theorem dX7_gradesIn_21 : decode cX7_gradesIn 21 = .ok (.ifCond .le 9, 3) := by decide +kernel
theorem dX7_gradesIn_24 : decode cX7_gradesIn 24 = .ok (.iload_n 2, 1) := by decide +kernel
theorem dX7_gradesIn_25 : decode cX7_gradesIn 25 = .ok (.iconst 1, 1) := by decide +kernel
theorem dX7_gradesIn_26 : decode cX7_gradesIn 26 = .ok (.iload_n 3, 1) := by decide +kernel
theorem dX7_gradesIn_27 : decode cX7_gradesIn 27 = .ok (.ishl, 1) := by decide +kernel
theorem dX7_gradesIn_28 : decode cX7_gradesIn 28 = .ok (.ior, 1) := by decide +kernel
theorem dX7_gradesIn_29 : decode cX7_gradesIn 29 = .ok (.istore_n 2, 1) := by decide +kernel
theorem dX7_gradesIn_30 : decode cX7_gradesIn 30 = .ok (.iinc 3 1, 3) := by decide +kernel
theorem dX7_gradesIn_33 : decode cX7_gradesIn 33 = .ok (.goto (-29), 3) := by decide +kernel
theorem dX7_gradesIn_36 : decode cX7_gradesIn 36 = .ok (.iload_n 2, 1) := by decide +kernel
theorem dX7_gradesIn_37 : decode cX7_gradesIn 37 = .ok (.ireturn, 1) := by decide +kernel
theorem v_X7_gradesIn : yX7_gradesIn.cls = RX7 ∧ yX7_gradesIn.cls ≠ "java/lang/invoke/MethodHandle" ∧ yX7_gradesIn.cls ≠ "java/lang/invoke/VarHandle" ∧ (parseMethodDescriptor yX7_gradesIn.desc).map (fun d => d.parameters.length) = some 1 := ⟨rfl, by decide +kernel, by decide +kernel, by decide +kernel⟩
noncomputable def k_X7_gradesIn_0 (κ : gb_K) : gb_C := (o_ci 0 (o_is 2 (o_ci 0 (o_is 3 (o_j [0, 1, 2, 3] (κ 4))))))
theorem l_X7_gradesIn_0 : gb_Li (fun κ => k_X7_gradesIn_0 κ) := (gb_li (q_ci 0) (gb_li (q_is 2) (gb_li (q_ci 0) (gb_li (q_is 3) (q_j [0, 1, 2, 3] 4)))))
theorem s_X7_gradesIn_0   {κ : gb_K} (hκ : ∀ q, gb_S RX7 cX7_gradesIn 4 (gb_rm 0 0) 1 q (κ q)) : gb_S RX7 cX7_gradesIn 4 (gb_rm 0 0) 1 0 (k_X7_gradesIn_0 κ) := (s_iconst (by decide +kernel) dX7_gradesIn_0 (s_isn 2 rfl (Nat.le_of_ble_eq_true rfl) dX7_gradesIn_1 (s_iconst (by decide +kernel) dX7_gradesIn_2 (s_isn 3 rfl (Nat.le_of_ble_eq_true rfl) dX7_gradesIn_3 (s_j (hκ 4))))))
noncomputable def k_X7_gradesIn_30 (κ : gb_K) : gb_C := (o_inc 3 1 (o_j [0, 1, 2, 3] (κ 4)))
theorem l_X7_gradesIn_30 : gb_Li (fun κ => k_X7_gradesIn_30 κ) := (gb_li (q_inc 3 1) (q_j [0, 1, 2, 3] 4))
theorem s_X7_gradesIn_30   {κ : gb_K} (hκ : ∀ q, gb_S RX7 cX7_gradesIn 4 (gb_rm 0 0) 1 q (κ q)) : gb_S RX7 cX7_gradesIn 4 (gb_rm 0 0) 1 30 (k_X7_gradesIn_30 κ) := (s_inc (by decide +kernel) (Nat.le_of_ble_eq_true rfl) dX7_gradesIn_30 (s_goto (tgt := 4) (by decide +kernel) dX7_gradesIn_33 (s_j (hκ 4))))
noncomputable def k_X7_gradesIn_4 (κ : gb_K) : gb_C := (o_il 3 (o_ci 6 (o_cge (o_il 2 o_ri) (o_al 0 (o_gf 7 8 (o_il 1 (o_ci 6 (o_ib (fun x y => x * y) (o_il 3 (o_ib (fun x y => x + y) (o_iald (o_zle (k_X7_gradesIn_30 κ) (o_il 2 (o_ci 1 (o_il 3 (o_ib (fun x y => x <<< (y &&& 31)) (o_ib (fun x y => x ||| y) (o_is 2 (k_X7_gradesIn_30 κ)))))))))))))))))))
theorem l_X7_gradesIn_4 : gb_Li (fun κ => k_X7_gradesIn_4 κ) := (gb_li (q_il 3) (gb_li (q_ci 6) (q_cge (gb_li (q_il 2) (gb_li0 _)) (gb_li (q_al 0) (gb_li (q_gf 7 8) (gb_li (q_il 1) (gb_li (q_ci 6) (gb_li (q_ib _) (gb_li (q_il 3) (gb_li (q_ib _) (gb_li q_iald (q_zle (l_X7_gradesIn_30) (gb_li (q_il 2) (gb_li (q_ci 1) (gb_li (q_il 3) (gb_li (q_ib _) (gb_li (q_ib _) (gb_li (q_is 2) (l_X7_gradesIn_30)))))))))))))))))))
theorem s_X7_gradesIn_4   {κ : gb_K} (hκ : ∀ q, gb_S RX7 cX7_gradesIn 4 (gb_rm 0 0) 1 q (κ q)) : gb_S RX7 cX7_gradesIn 4 (gb_rm 0 0) 1 4 (k_X7_gradesIn_4 κ) := (s_iln 3 rfl dX7_gradesIn_4 (s_bipush (by decide +kernel) dX7_gradesIn_5 (s_cge (tgt := 36) (by decide +kernel) dX7_gradesIn_7 (s_iln 2 rfl dX7_gradesIn_36 (s_ri rfl dX7_gradesIn_37)) (s_aln 0 rfl dX7_gradesIn_10 (s_gf (T := TX7) winX7 rfl (Nat.le_of_ble_eq_true rfl) gw_81 rfl dX7_gradesIn_11 (s_iln 1 rfl dX7_gradesIn_14 (s_bipush (by decide +kernel) dX7_gradesIn_15 (s_imul dX7_gradesIn_17 (s_iln 3 rfl dX7_gradesIn_18 (s_iadd dX7_gradesIn_19 (s_iald dX7_gradesIn_20 (s_zle (tgt := 30) (by decide +kernel) dX7_gradesIn_21 (s_X7_gradesIn_30 hκ) (s_iln 2 rfl dX7_gradesIn_24 (s_iconst (by decide +kernel) dX7_gradesIn_25 (s_iln 3 rfl dX7_gradesIn_26 (s_ishl dX7_gradesIn_27 (s_ior dX7_gradesIn_28 (s_isn 2 rfl (Nat.le_of_ble_eq_true rfl) dX7_gradesIn_29 (s_X7_gradesIn_30 hκ)))))))))))))))))))
noncomputable def B_X7_gradesIn : List (Nat × (gb_K → gb_C)) := [(4, fun κ => k_X7_gradesIn_4 κ)]
noncomputable def K_X7_gradesIn : gb_K := gb_fx (gb_tb (B_X7_gradesIn))
theorem L_X7_gradesIn : ∀ q, gb_Li (fun κ => gb_tb (B_X7_gradesIn) κ q) := gb_tb_li (List.forall_mem_cons.mpr ⟨l_X7_gradesIn_4, (fun _ h => absurd h List.not_mem_nil)⟩)
theorem S_X7_gradesIn   : ∀ q, gb_S RX7 cX7_gradesIn 4 (gb_rm 0 0) 1 q (K_X7_gradesIn q) := fun q => gb_fx_S (L_X7_gradesIn) (gb_tb_S (List.forall_mem_cons.mpr ⟨fun κ hκ => s_X7_gradesIn_4 hκ, (fun _ h => absurd h List.not_mem_nil)⟩)) q
noncomputable def f_X7_gradesIn : gb_F := gb_hide (gb_mf 4 (k_X7_gradesIn_0 (K_X7_gradesIn)))
theorem c_X7_gradesIn : ∀ l, gb_Met l yX7_gradesIn cX7_gradesIn 4 (some .int) 1 (gb_rm 0 0) f_X7_gradesIn := gb_hide_c (gb_met (own := RX7) (rk := 1) rfl (by decide +kernel) ⟨rfl, rfl⟩ (s_X7_gradesIn_0 (S_X7_gradesIn)))
theorem dX7_tonsOf_0 : decode cX7_tonsOf 0 = .ok (.iconst 0, 1) := by decide +kernel
theorem dX7_tonsOf_1 : decode cX7_tonsOf 1 = .ok (.istore_n 2, 1) := by decide +kernel
theorem dX7_tonsOf_2 : decode cX7_tonsOf 2 = .ok (.iconst 0, 1) := by decide +kernel
theorem dX7_tonsOf_3 : decode cX7_tonsOf 3 = .ok (.istore_n 3, 1) := by decide +kernel
theorem dX7_tonsOf_4 : decode cX7_tonsOf 4 = .ok (.iload_n 3, 1) := by decide +kernel
theorem dX7_tonsOf_5 : decode cX7_tonsOf 5 = .ok (.bipush 6, 2) := by decide +kernel
theorem dX7_tonsOf_7 : decode cX7_tonsOf 7 = .ok (.if_icmp .ge 23, 3) := by decide +kernel
theorem dX7_tonsOf_10 : decode cX7_tonsOf 10 = .ok (.iload_n 2, 1) := by decide +kernel
theorem dX7_tonsOf_11 : decode cX7_tonsOf 11 = .ok (.aload_n 0, 1) := by decide +kernel
theorem dX7_tonsOf_12 : decode cX7_tonsOf 12 = .ok (.getfield 33, 3) := by decide +kernel
theorem dX7_tonsOf_15 : decode cX7_tonsOf 15 = .ok (.iload_n 3, 1) := by decide +kernel
theorem dX7_tonsOf_16 : decode cX7_tonsOf 16 = .ok (.bipush 6, 2) := by decide +kernel
theorem dX7_tonsOf_18 : decode cX7_tonsOf 18 = .ok (.imul, 1) := by decide +kernel
theorem dX7_tonsOf_19 : decode cX7_tonsOf 19 = .ok (.iload_n 1, 1) := by decide +kernel
theorem dX7_tonsOf_20 : decode cX7_tonsOf 20 = .ok (.iadd, 1) := by decide +kernel
theorem dX7_tonsOf_21 : decode cX7_tonsOf 21 = .ok (.iaload, 1) := by decide +kernel
theorem dX7_tonsOf_22 : decode cX7_tonsOf 22 = .ok (.iadd, 1) := by decide +kernel
theorem dX7_tonsOf_23 : decode cX7_tonsOf 23 = .ok (.istore_n 2, 1) := by decide +kernel
theorem dX7_tonsOf_24 : decode cX7_tonsOf 24 = .ok (.iinc 3 1, 3) := by decide +kernel
theorem dX7_tonsOf_27 : decode cX7_tonsOf 27 = .ok (.goto (-23), 3) := by decide +kernel
theorem dX7_tonsOf_30 : decode cX7_tonsOf 30 = .ok (.iload_n 2, 1) := by decide +kernel
theorem dX7_tonsOf_31 : decode cX7_tonsOf 31 = .ok (.ireturn, 1) := by decide +kernel
theorem v_X7_tonsOf : yX7_tonsOf.cls = RX7 ∧ yX7_tonsOf.cls ≠ "java/lang/invoke/MethodHandle" ∧ yX7_tonsOf.cls ≠ "java/lang/invoke/VarHandle" ∧ (parseMethodDescriptor yX7_tonsOf.desc).map (fun d => d.parameters.length) = some 1 := ⟨rfl, by decide +kernel, by decide +kernel, by decide +kernel⟩
noncomputable def k_X7_tonsOf_0 (κ : gb_K) : gb_C := (o_ci 0 (o_is 2 (o_ci 0 (o_is 3 (o_j [0, 1, 2, 3] (κ 4))))))
theorem l_X7_tonsOf_0 : gb_Li (fun κ => k_X7_tonsOf_0 κ) := (gb_li (q_ci 0) (gb_li (q_is 2) (gb_li (q_ci 0) (gb_li (q_is 3) (q_j [0, 1, 2, 3] 4)))))
theorem s_X7_tonsOf_0   {κ : gb_K} (hκ : ∀ q, gb_S RX7 cX7_tonsOf 4 (gb_rm 0 0) 1 q (κ q)) : gb_S RX7 cX7_tonsOf 4 (gb_rm 0 0) 1 0 (k_X7_tonsOf_0 κ) := (s_iconst (by decide +kernel) dX7_tonsOf_0 (s_isn 2 rfl (Nat.le_of_ble_eq_true rfl) dX7_tonsOf_1 (s_iconst (by decide +kernel) dX7_tonsOf_2 (s_isn 3 rfl (Nat.le_of_ble_eq_true rfl) dX7_tonsOf_3 (s_j (hκ 4))))))
noncomputable def k_X7_tonsOf_4 (κ : gb_K) : gb_C := (o_il 3 (o_ci 6 (o_cge (o_il 2 o_ri) (o_il 2 (o_al 0 (o_gf 7 8 (o_il 3 (o_ci 6 (o_ib (fun x y => x * y) (o_il 1 (o_ib (fun x y => x + y) (o_iald (o_ib (fun x y => x + y) (o_is 2 (o_inc 3 1 (o_j [0, 1, 2, 3] (κ 4)))))))))))))))))
theorem l_X7_tonsOf_4 : gb_Li (fun κ => k_X7_tonsOf_4 κ) := (gb_li (q_il 3) (gb_li (q_ci 6) (q_cge (gb_li (q_il 2) (gb_li0 _)) (gb_li (q_il 2) (gb_li (q_al 0) (gb_li (q_gf 7 8) (gb_li (q_il 3) (gb_li (q_ci 6) (gb_li (q_ib _) (gb_li (q_il 1) (gb_li (q_ib _) (gb_li q_iald (gb_li (q_ib _) (gb_li (q_is 2) (gb_li (q_inc 3 1) (q_j [0, 1, 2, 3] 4))))))))))))))))
theorem s_X7_tonsOf_4   {κ : gb_K} (hκ : ∀ q, gb_S RX7 cX7_tonsOf 4 (gb_rm 0 0) 1 q (κ q)) : gb_S RX7 cX7_tonsOf 4 (gb_rm 0 0) 1 4 (k_X7_tonsOf_4 κ) := (s_iln 3 rfl dX7_tonsOf_4 (s_bipush (by decide +kernel) dX7_tonsOf_5 (s_cge (tgt := 30) (by decide +kernel) dX7_tonsOf_7 (s_iln 2 rfl dX7_tonsOf_30 (s_ri rfl dX7_tonsOf_31)) (s_iln 2 rfl dX7_tonsOf_10 (s_aln 0 rfl dX7_tonsOf_11 (s_gf (T := TX7) winX7 rfl (Nat.le_of_ble_eq_true rfl) gw_81 rfl dX7_tonsOf_12 (s_iln 3 rfl dX7_tonsOf_15 (s_bipush (by decide +kernel) dX7_tonsOf_16 (s_imul dX7_tonsOf_18 (s_iln 1 rfl dX7_tonsOf_19 (s_iadd dX7_tonsOf_20 (s_iald dX7_tonsOf_21 (s_iadd dX7_tonsOf_22 (s_isn 2 rfl (Nat.le_of_ble_eq_true rfl) dX7_tonsOf_23 (s_inc (by decide +kernel) (Nat.le_of_ble_eq_true rfl) dX7_tonsOf_24 (s_goto (tgt := 4) (by decide +kernel) dX7_tonsOf_27 (s_j (hκ 4))))))))))))))))))
noncomputable def B_X7_tonsOf : List (Nat × (gb_K → gb_C)) := [(4, fun κ => k_X7_tonsOf_4 κ)]
noncomputable def K_X7_tonsOf : gb_K := gb_fx (gb_tb (B_X7_tonsOf))
theorem L_X7_tonsOf : ∀ q, gb_Li (fun κ => gb_tb (B_X7_tonsOf) κ q) := gb_tb_li (List.forall_mem_cons.mpr ⟨l_X7_tonsOf_4, (fun _ h => absurd h List.not_mem_nil)⟩)
theorem S_X7_tonsOf   : ∀ q, gb_S RX7 cX7_tonsOf 4 (gb_rm 0 0) 1 q (K_X7_tonsOf q) := fun q => gb_fx_S (L_X7_tonsOf) (gb_tb_S (List.forall_mem_cons.mpr ⟨fun κ hκ => s_X7_tonsOf_4 hκ, (fun _ h => absurd h List.not_mem_nil)⟩)) q
noncomputable def f_X7_tonsOf : gb_F := gb_hide (gb_mf 4 (k_X7_tonsOf_0 (K_X7_tonsOf)))
theorem c_X7_tonsOf : ∀ l, gb_Met l yX7_tonsOf cX7_tonsOf 4 (some .int) 1 (gb_rm 0 0) f_X7_tonsOf := gb_hide_c (gb_met (own := RX7) (rk := 1) rfl (by decide +kernel) ⟨rfl, rfl⟩ (s_X7_tonsOf_0 (S_X7_tonsOf)))
theorem dX7_tonsInAll_0 : decode cX7_tonsInAll 0 = .ok (.iconst 0, 1) := by decide +kernel
theorem dX7_tonsInAll_1 : decode cX7_tonsInAll 1 = .ok (.istore_n 1, 1) := by decide +kernel
theorem dX7_tonsInAll_2 : decode cX7_tonsInAll 2 = .ok (.iconst 0, 1) := by decide +kernel
theorem dX7_tonsInAll_3 : decode cX7_tonsInAll 3 = .ok (.istore_n 2, 1) := by decide +kernel
theorem dX7_tonsInAll_4 : decode cX7_tonsInAll 4 = .ok (.iload_n 2, 1) := by decide +kernel
theorem dX7_tonsInAll_5 : decode cX7_tonsInAll 5 = .ok (.bipush 6, 2) := by decide +kernel
theorem dX7_tonsInAll_7 : decode cX7_tonsInAll 7 = .ok (.if_icmp .ge 18, 3) := by decide +kernel
theorem dX7_tonsInAll_10 : decode cX7_tonsInAll 10 = .ok (.iload_n 1, 1) := by decide +kernel
theorem dX7_tonsInAll_11 : decode cX7_tonsInAll 11 = .ok (.aload_n 0, 1) := by decide +kernel
theorem dX7_tonsInAll_12 : decode cX7_tonsInAll 12 = .ok (.getfield 21, 3) := by decide +kernel
theorem dX7_tonsInAll_15 : decode cX7_tonsInAll 15 = .ok (.iload_n 2, 1) := by decide +kernel
theorem dX7_tonsInAll_16 : decode cX7_tonsInAll 16 = .ok (.iaload, 1) := by decide +kernel
theorem dX7_tonsInAll_17 : decode cX7_tonsInAll 17 = .ok (.iadd, 1) := by decide +kernel
theorem dX7_tonsInAll_18 : decode cX7_tonsInAll 18 = .ok (.istore_n 1, 1) := by decide +kernel
theorem dX7_tonsInAll_19 : decode cX7_tonsInAll 19 = .ok (.iinc 2 1, 3) := by decide +kernel
theorem dX7_tonsInAll_22 : decode cX7_tonsInAll 22 = .ok (.goto (-18), 3) := by decide +kernel
theorem dX7_tonsInAll_25 : decode cX7_tonsInAll 25 = .ok (.iload_n 1, 1) := by decide +kernel
theorem dX7_tonsInAll_26 : decode cX7_tonsInAll 26 = .ok (.ireturn, 1) := by decide +kernel
theorem v_X7_tonsInAll : yX7_tonsInAll.cls = RX7 ∧ yX7_tonsInAll.cls ≠ "java/lang/invoke/MethodHandle" ∧ yX7_tonsInAll.cls ≠ "java/lang/invoke/VarHandle" ∧ (parseMethodDescriptor yX7_tonsInAll.desc).map (fun d => d.parameters.length) = some 0 := ⟨rfl, by decide +kernel, by decide +kernel, by decide +kernel⟩
noncomputable def k_X7_tonsInAll_0 (κ : gb_K) : gb_C := (o_ci 0 (o_is 1 (o_ci 0 (o_is 2 (o_j [0, 1, 2] (κ 4))))))
theorem l_X7_tonsInAll_0 : gb_Li (fun κ => k_X7_tonsInAll_0 κ) := (gb_li (q_ci 0) (gb_li (q_is 1) (gb_li (q_ci 0) (gb_li (q_is 2) (q_j [0, 1, 2] 4)))))
theorem s_X7_tonsInAll_0   {κ : gb_K} (hκ : ∀ q, gb_S RX7 cX7_tonsInAll 3 (gb_rm 0 0) 1 q (κ q)) : gb_S RX7 cX7_tonsInAll 3 (gb_rm 0 0) 1 0 (k_X7_tonsInAll_0 κ) := (s_iconst (by decide +kernel) dX7_tonsInAll_0 (s_isn 1 rfl (Nat.le_of_ble_eq_true rfl) dX7_tonsInAll_1 (s_iconst (by decide +kernel) dX7_tonsInAll_2 (s_isn 2 rfl (Nat.le_of_ble_eq_true rfl) dX7_tonsInAll_3 (s_j (hκ 4))))))
noncomputable def k_X7_tonsInAll_4 (κ : gb_K) : gb_C := (o_il 2 (o_ci 6 (o_cge (o_il 1 o_ri) (o_il 1 (o_al 0 (o_gf 7 4 (o_il 2 (o_iald (o_ib (fun x y => x + y) (o_is 1 (o_inc 2 1 (o_j [0, 1, 2] (κ 4)))))))))))))
theorem l_X7_tonsInAll_4 : gb_Li (fun κ => k_X7_tonsInAll_4 κ) := (gb_li (q_il 2) (gb_li (q_ci 6) (q_cge (gb_li (q_il 1) (gb_li0 _)) (gb_li (q_il 1) (gb_li (q_al 0) (gb_li (q_gf 7 4) (gb_li (q_il 2) (gb_li q_iald (gb_li (q_ib _) (gb_li (q_is 1) (gb_li (q_inc 2 1) (q_j [0, 1, 2] 4))))))))))))
theorem s_X7_tonsInAll_4   {κ : gb_K} (hκ : ∀ q, gb_S RX7 cX7_tonsInAll 3 (gb_rm 0 0) 1 q (κ q)) : gb_S RX7 cX7_tonsInAll 3 (gb_rm 0 0) 1 4 (k_X7_tonsInAll_4 κ) := (s_iln 2 rfl dX7_tonsInAll_4 (s_bipush (by decide +kernel) dX7_tonsInAll_5 (s_cge (tgt := 25) (by decide +kernel) dX7_tonsInAll_7 (s_iln 1 rfl dX7_tonsInAll_25 (s_ri rfl dX7_tonsInAll_26)) (s_iln 1 rfl dX7_tonsInAll_10 (s_aln 0 rfl dX7_tonsInAll_11 (s_gf (T := TX7) winX7 rfl (Nat.le_of_ble_eq_true rfl) gw_80 rfl dX7_tonsInAll_12 (s_iln 2 rfl dX7_tonsInAll_15 (s_iald dX7_tonsInAll_16 (s_iadd dX7_tonsInAll_17 (s_isn 1 rfl (Nat.le_of_ble_eq_true rfl) dX7_tonsInAll_18 (s_inc (by decide +kernel) (Nat.le_of_ble_eq_true rfl) dX7_tonsInAll_19 (s_goto (tgt := 4) (by decide +kernel) dX7_tonsInAll_22 (s_j (hκ 4))))))))))))))
noncomputable def B_X7_tonsInAll : List (Nat × (gb_K → gb_C)) := [(4, fun κ => k_X7_tonsInAll_4 κ)]
noncomputable def K_X7_tonsInAll : gb_K := gb_fx (gb_tb (B_X7_tonsInAll))
theorem L_X7_tonsInAll : ∀ q, gb_Li (fun κ => gb_tb (B_X7_tonsInAll) κ q) := gb_tb_li (List.forall_mem_cons.mpr ⟨l_X7_tonsInAll_4, (fun _ h => absurd h List.not_mem_nil)⟩)
theorem S_X7_tonsInAll   : ∀ q, gb_S RX7 cX7_tonsInAll 3 (gb_rm 0 0) 1 q (K_X7_tonsInAll q) := fun q => gb_fx_S (L_X7_tonsInAll) (gb_tb_S (List.forall_mem_cons.mpr ⟨fun κ hκ => s_X7_tonsInAll_4 hκ, (fun _ h => absurd h List.not_mem_nil)⟩)) q
noncomputable def f_X7_tonsInAll : gb_F := gb_hide (gb_mf 3 (k_X7_tonsInAll_0 (K_X7_tonsInAll)))
theorem c_X7_tonsInAll : ∀ l, gb_Met l yX7_tonsInAll cX7_tonsInAll 3 (some .int) 1 (gb_rm 0 0) f_X7_tonsInAll := gb_hide_c (gb_met (own := RX7) (rk := 1) rfl (by decide +kernel) ⟨rfl, rfl⟩ (s_X7_tonsInAll_0 (S_X7_tonsInAll)))
theorem dX7_layersInAll_0 : decode cX7_layersInAll 0 = .ok (.iconst 0, 1) := by decide +kernel
theorem dX7_layersInAll_1 : decode cX7_layersInAll 1 = .ok (.istore_n 1, 1) := by decide +kernel
theorem dX7_layersInAll_2 : decode cX7_layersInAll 2 = .ok (.iconst 0, 1) := by decide +kernel
theorem dX7_layersInAll_3 : decode cX7_layersInAll 3 = .ok (.istore_n 2, 1) := by decide +kernel
theorem dX7_layersInAll_4 : decode cX7_layersInAll 4 = .ok (.iload_n 2, 1) := by decide +kernel
theorem dX7_layersInAll_5 : decode cX7_layersInAll 5 = .ok (.bipush 6, 2) := by decide +kernel
theorem dX7_layersInAll_7 : decode cX7_layersInAll 7 = .ok (.if_icmp .ge 18, 3) := by decide +kernel
theorem dX7_layersInAll_10 : decode cX7_layersInAll 10 = .ok (.iload_n 1, 1) := by decide +kernel
theorem dX7_layersInAll_11 : decode cX7_layersInAll 11 = .ok (.aload_n 0, 1) := by decide +kernel
theorem dX7_layersInAll_12 : decode cX7_layersInAll 12 = .ok (.getfield 18, 3) := by decide +kernel
theorem dX7_layersInAll_15 : decode cX7_layersInAll 15 = .ok (.iload_n 2, 1) := by decide +kernel
theorem dX7_layersInAll_16 : decode cX7_layersInAll 16 = .ok (.iaload, 1) := by decide +kernel
theorem dX7_layersInAll_17 : decode cX7_layersInAll 17 = .ok (.iadd, 1) := by decide +kernel
theorem dX7_layersInAll_18 : decode cX7_layersInAll 18 = .ok (.istore_n 1, 1) := by decide +kernel
theorem dX7_layersInAll_19 : decode cX7_layersInAll 19 = .ok (.iinc 2 1, 3) := by decide +kernel
theorem dX7_layersInAll_22 : decode cX7_layersInAll 22 = .ok (.goto (-18), 3) := by decide +kernel
theorem dX7_layersInAll_25 : decode cX7_layersInAll 25 = .ok (.iload_n 1, 1) := by decide +kernel
theorem dX7_layersInAll_26 : decode cX7_layersInAll 26 = .ok (.ireturn, 1) := by decide +kernel
theorem v_X7_layersInAll : yX7_layersInAll.cls = RX7 ∧ yX7_layersInAll.cls ≠ "java/lang/invoke/MethodHandle" ∧ yX7_layersInAll.cls ≠ "java/lang/invoke/VarHandle" ∧ (parseMethodDescriptor yX7_layersInAll.desc).map (fun d => d.parameters.length) = some 0 := ⟨rfl, by decide +kernel, by decide +kernel, by decide +kernel⟩
noncomputable def k_X7_layersInAll_0 (κ : gb_K) : gb_C := (o_ci 0 (o_is 1 (o_ci 0 (o_is 2 (o_j [0, 1, 2] (κ 4))))))
theorem l_X7_layersInAll_0 : gb_Li (fun κ => k_X7_layersInAll_0 κ) := (gb_li (q_ci 0) (gb_li (q_is 1) (gb_li (q_ci 0) (gb_li (q_is 2) (q_j [0, 1, 2] 4)))))
theorem s_X7_layersInAll_0   {κ : gb_K} (hκ : ∀ q, gb_S RX7 cX7_layersInAll 3 (gb_rm 0 0) 1 q (κ q)) : gb_S RX7 cX7_layersInAll 3 (gb_rm 0 0) 1 0 (k_X7_layersInAll_0 κ) := (s_iconst (by decide +kernel) dX7_layersInAll_0 (s_isn 1 rfl (Nat.le_of_ble_eq_true rfl) dX7_layersInAll_1 (s_iconst (by decide +kernel) dX7_layersInAll_2 (s_isn 2 rfl (Nat.le_of_ble_eq_true rfl) dX7_layersInAll_3 (s_j (hκ 4))))))
noncomputable def k_X7_layersInAll_4 (κ : gb_K) : gb_C := (o_il 2 (o_ci 6 (o_cge (o_il 1 o_ri) (o_il 1 (o_al 0 (o_gf 7 3 (o_il 2 (o_iald (o_ib (fun x y => x + y) (o_is 1 (o_inc 2 1 (o_j [0, 1, 2] (κ 4)))))))))))))
theorem l_X7_layersInAll_4 : gb_Li (fun κ => k_X7_layersInAll_4 κ) := (gb_li (q_il 2) (gb_li (q_ci 6) (q_cge (gb_li (q_il 1) (gb_li0 _)) (gb_li (q_il 1) (gb_li (q_al 0) (gb_li (q_gf 7 3) (gb_li (q_il 2) (gb_li q_iald (gb_li (q_ib _) (gb_li (q_is 1) (gb_li (q_inc 2 1) (q_j [0, 1, 2] 4))))))))))))
theorem s_X7_layersInAll_4   {κ : gb_K} (hκ : ∀ q, gb_S RX7 cX7_layersInAll 3 (gb_rm 0 0) 1 q (κ q)) : gb_S RX7 cX7_layersInAll 3 (gb_rm 0 0) 1 4 (k_X7_layersInAll_4 κ) := (s_iln 2 rfl dX7_layersInAll_4 (s_bipush (by decide +kernel) dX7_layersInAll_5 (s_cge (tgt := 25) (by decide +kernel) dX7_layersInAll_7 (s_iln 1 rfl dX7_layersInAll_25 (s_ri rfl dX7_layersInAll_26)) (s_iln 1 rfl dX7_layersInAll_10 (s_aln 0 rfl dX7_layersInAll_11 (s_gf (T := TX7) winX7 rfl (Nat.le_of_ble_eq_true rfl) gw_79 rfl dX7_layersInAll_12 (s_iln 2 rfl dX7_layersInAll_15 (s_iald dX7_layersInAll_16 (s_iadd dX7_layersInAll_17 (s_isn 1 rfl (Nat.le_of_ble_eq_true rfl) dX7_layersInAll_18 (s_inc (by decide +kernel) (Nat.le_of_ble_eq_true rfl) dX7_layersInAll_19 (s_goto (tgt := 4) (by decide +kernel) dX7_layersInAll_22 (s_j (hκ 4))))))))))))))
noncomputable def B_X7_layersInAll : List (Nat × (gb_K → gb_C)) := [(4, fun κ => k_X7_layersInAll_4 κ)]
noncomputable def K_X7_layersInAll : gb_K := gb_fx (gb_tb (B_X7_layersInAll))
theorem L_X7_layersInAll : ∀ q, gb_Li (fun κ => gb_tb (B_X7_layersInAll) κ q) := gb_tb_li (List.forall_mem_cons.mpr ⟨l_X7_layersInAll_4, (fun _ h => absurd h List.not_mem_nil)⟩)
theorem S_X7_layersInAll   : ∀ q, gb_S RX7 cX7_layersInAll 3 (gb_rm 0 0) 1 q (K_X7_layersInAll q) := fun q => gb_fx_S (L_X7_layersInAll) (gb_tb_S (List.forall_mem_cons.mpr ⟨fun κ hκ => s_X7_layersInAll_4 hκ, (fun _ h => absurd h List.not_mem_nil)⟩)) q
noncomputable def f_X7_layersInAll : gb_F := gb_hide (gb_mf 3 (k_X7_layersInAll_0 (K_X7_layersInAll)))
theorem c_X7_layersInAll : ∀ l, gb_Met l yX7_layersInAll cX7_layersInAll 3 (some .int) 1 (gb_rm 0 0) f_X7_layersInAll := gb_hide_c (gb_met (own := RX7) (rk := 1) rfl (by decide +kernel) ⟨rfl, rfl⟩ (s_X7_layersInAll_0 (S_X7_layersInAll)))
theorem dX7_closedBins_0 : decode cX7_closedBins 0 = .ok (.iconst 0, 1) := by decide +kernel
theorem dX7_closedBins_1 : decode cX7_closedBins 1 = .ok (.istore_n 1, 1) := by decide +kernel
theorem dX7_closedBins_2 : decode cX7_closedBins 2 = .ok (.iconst 0, 1) := by decide +kernel
theorem dX7_closedBins_3 : decode cX7_closedBins 3 = .ok (.istore_n 2, 1) := by decide +kernel
theorem dX7_closedBins_4 : decode cX7_closedBins 4 = .ok (.iload_n 2, 1) := by decide +kernel
theorem dX7_closedBins_5 : decode cX7_closedBins 5 = .ok (.bipush 6, 2) := by decide +kernel
theorem dX7_closedBins_7 : decode cX7_closedBins 7 = .ok (.if_icmp .ge 23, 3) := by decide +kernel
theorem dX7_closedBins_10 : decode cX7_closedBins 10 = .ok (.aload_n 0, 1) := by decide +kernel
theorem dX7_closedBins_11 : decode cX7_closedBins 11 = .ok (.iload_n 2, 1) := by decide +kernel
theorem dX7_closedBins_12 : decode cX7_closedBins 12 = .ok (.invokevirtual 60, 3) := by decide +kernel
theorem dX7_closedBins_15 : decode cX7_closedBins 15 = .ok (.ifCond .eq 9, 3) := by decide +kernel
theorem dX7_closedBins_18 : decode cX7_closedBins 18 = .ok (.iload_n 1, 1) := by decide +kernel
theorem dX7_closedBins_19 : decode cX7_closedBins 19 = .ok (.iconst 1, 1) := by decide +kernel
theorem dX7_closedBins_20 : decode cX7_closedBins 20 = .ok (.iload_n 2, 1) := by decide +kernel
theorem dX7_closedBins_21 : decode cX7_closedBins 21 = .ok (.ishl, 1) := by decide +kernel
theorem dX7_closedBins_22 : decode cX7_closedBins 22 = .ok (.ior, 1) := by decide +kernel
theorem dX7_closedBins_23 : decode cX7_closedBins 23 = .ok (.istore_n 1, 1) := by decide +kernel
theorem dX7_closedBins_24 : decode cX7_closedBins 24 = .ok (.iinc 2 1, 3) := by decide +kernel
theorem dX7_closedBins_27 : decode cX7_closedBins 27 = .ok (.goto (-23), 3) := by decide +kernel
theorem dX7_closedBins_30 : decode cX7_closedBins 30 = .ok (.iload_n 1, 1) := by decide +kernel
theorem dX7_closedBins_31 : decode cX7_closedBins 31 = .ok (.ireturn, 1) := by decide +kernel
theorem v_X7_closedBins : yX7_closedBins.cls = RX7 ∧ yX7_closedBins.cls ≠ "java/lang/invoke/MethodHandle" ∧ yX7_closedBins.cls ≠ "java/lang/invoke/VarHandle" ∧ (parseMethodDescriptor yX7_closedBins.desc).map (fun d => d.parameters.length) = some 0 := ⟨rfl, by decide +kernel, by decide +kernel, by decide +kernel⟩
noncomputable def k_X7_closedBins_0 (κ : gb_K) : gb_C := (o_ci 0 (o_is 1 (o_ci 0 (o_is 2 (o_j [0, 1, 2] (κ 4))))))
theorem l_X7_closedBins_0 : gb_Li (fun κ => k_X7_closedBins_0 κ) := (gb_li (q_ci 0) (gb_li (q_is 1) (gb_li (q_ci 0) (gb_li (q_is 2) (q_j [0, 1, 2] 4)))))
theorem s_X7_closedBins_0   {κ : gb_K} (hκ : ∀ q, gb_S RX7 cX7_closedBins 3 (gb_rm 1 21) 1 q (κ q)) : gb_S RX7 cX7_closedBins 3 (gb_rm 1 21) 1 0 (k_X7_closedBins_0 κ) := (s_iconst (by decide +kernel) dX7_closedBins_0 (s_isn 1 rfl (Nat.le_of_ble_eq_true rfl) dX7_closedBins_1 (s_iconst (by decide +kernel) dX7_closedBins_2 (s_isn 2 rfl (Nat.le_of_ble_eq_true rfl) dX7_closedBins_3 (s_j (hκ 4))))))
noncomputable def k_X7_closedBins_24 (κ : gb_K) : gb_C := (o_inc 2 1 (o_j [0, 1, 2] (κ 4)))
theorem l_X7_closedBins_24 : gb_Li (fun κ => k_X7_closedBins_24 κ) := (gb_li (q_inc 2 1) (q_j [0, 1, 2] 4))
theorem s_X7_closedBins_24   {κ : gb_K} (hκ : ∀ q, gb_S RX7 cX7_closedBins 3 (gb_rm 1 21) 1 q (κ q)) : gb_S RX7 cX7_closedBins 3 (gb_rm 1 21) 1 24 (k_X7_closedBins_24 κ) := (s_inc (by decide +kernel) (Nat.le_of_ble_eq_true rfl) dX7_closedBins_24 (s_goto (tgt := 4) (by decide +kernel) dX7_closedBins_27 (s_j (hκ 4))))
noncomputable def k_X7_closedBins_4 (κ : gb_K) : gb_C := (o_il 2 (o_ci 6 (o_cge (o_il 1 o_ri) (o_al 0 (o_il 2 (o_cv 1 7 2 f_X7_closed (o_zeq (k_X7_closedBins_24 κ) (o_il 1 (o_ci 1 (o_il 2 (o_ib (fun x y => x <<< (y &&& 31)) (o_ib (fun x y => x ||| y) (o_is 1 (k_X7_closedBins_24 κ))))))))))))))
theorem l_X7_closedBins_4 : gb_Li (fun κ => k_X7_closedBins_4 κ) := (gb_li (q_il 2) (gb_li (q_ci 6) (q_cge (gb_li (q_il 1) (gb_li0 _)) (gb_li (q_al 0) (gb_li (q_il 2) (gb_li (q_cv 1 7 2 f_X7_closed) (q_zeq (l_X7_closedBins_24) (gb_li (q_il 1) (gb_li (q_ci 1) (gb_li (q_il 2) (gb_li (q_ib _) (gb_li (q_ib _) (gb_li (q_is 1) (l_X7_closedBins_24))))))))))))))
theorem s_X7_closedBins_4   {κ : gb_K} (hκ : ∀ q, gb_S RX7 cX7_closedBins 3 (gb_rm 1 21) 1 q (κ q)) : gb_S RX7 cX7_closedBins 3 (gb_rm 1 21) 1 4 (k_X7_closedBins_4 κ) := (s_iln 2 rfl dX7_closedBins_4 (s_bipush (by decide +kernel) dX7_closedBins_5 (s_cge (tgt := 30) (by decide +kernel) dX7_closedBins_7 (s_iln 1 rfl dX7_closedBins_30 (s_ri rfl dX7_closedBins_31)) (s_aln 0 rfl dX7_closedBins_10 (s_iln 2 rfl dX7_closedBins_11 (s_cv (C := RX7) c_X7_closed rfl (gb_l5 gw_139 gw_9 gw_10 gw_11 gw_12) v_X7_closed ⟨rfl, rfl⟩ ⟨Nat.le_of_ble_eq_true rfl, Nat.le_of_ble_eq_true rfl⟩ dX7_closedBins_12 (s_zeq (tgt := 24) (by decide +kernel) dX7_closedBins_15 (s_X7_closedBins_24 hκ) (s_iln 1 rfl dX7_closedBins_18 (s_iconst (by decide +kernel) dX7_closedBins_19 (s_iln 2 rfl dX7_closedBins_20 (s_ishl dX7_closedBins_21 (s_ior dX7_closedBins_22 (s_isn 1 rfl (Nat.le_of_ble_eq_true rfl) dX7_closedBins_23 (s_X7_closedBins_24 hκ))))))))))))))
noncomputable def B_X7_closedBins : List (Nat × (gb_K → gb_C)) := [(4, fun κ => k_X7_closedBins_4 κ)]
noncomputable def K_X7_closedBins : gb_K := gb_fx (gb_tb (B_X7_closedBins))
theorem L_X7_closedBins : ∀ q, gb_Li (fun κ => gb_tb (B_X7_closedBins) κ q) := gb_tb_li (List.forall_mem_cons.mpr ⟨l_X7_closedBins_4, (fun _ h => absurd h List.not_mem_nil)⟩)
theorem S_X7_closedBins   : ∀ q, gb_S RX7 cX7_closedBins 3 (gb_rm 1 21) 1 q (K_X7_closedBins q) := fun q => gb_fx_S (L_X7_closedBins) (gb_tb_S (List.forall_mem_cons.mpr ⟨fun κ hκ => s_X7_closedBins_4 hκ, (fun _ h => absurd h List.not_mem_nil)⟩)) q
noncomputable def f_X7_closedBins : gb_F := gb_hide (gb_mf 3 (k_X7_closedBins_0 (K_X7_closedBins)))
theorem c_X7_closedBins : ∀ l, gb_Met l yX7_closedBins cX7_closedBins 3 (some .int) 1 (gb_rm 1 21) f_X7_closedBins := gb_hide_c (gb_met (own := RX7) (rk := 1) rfl (by decide +kernel) ⟨rfl, rfl⟩ (s_X7_closedBins_0 (S_X7_closedBins)))
theorem dX7_emptyBins_0 : decode cX7_emptyBins 0 = .ok (.iconst 0, 1) := by decide +kernel
theorem dX7_emptyBins_1 : decode cX7_emptyBins 1 = .ok (.istore_n 1, 1) := by decide +kernel
theorem dX7_emptyBins_2 : decode cX7_emptyBins 2 = .ok (.iconst 0, 1) := by decide +kernel
theorem dX7_emptyBins_3 : decode cX7_emptyBins 3 = .ok (.istore_n 2, 1) := by decide +kernel
theorem dX7_emptyBins_4 : decode cX7_emptyBins 4 = .ok (.iload_n 2, 1) := by decide +kernel
theorem dX7_emptyBins_5 : decode cX7_emptyBins 5 = .ok (.bipush 6, 2) := by decide +kernel
theorem dX7_emptyBins_7 : decode cX7_emptyBins 7 = .ok (.if_icmp .ge 24, 3) := by decide +kernel
theorem dX7_emptyBins_10 : decode cX7_emptyBins 10 = .ok (.aload_n 0, 1) := by decide +kernel
theorem dX7_emptyBins_11 : decode cX7_emptyBins 11 = .ok (.getfield 18, 3) := by decide +kernel
theorem dX7_emptyBins_14 : decode cX7_emptyBins 14 = .ok (.iload_n 2, 1) := by decide +kernel
theorem dX7_emptyBins_15 : decode cX7_emptyBins 15 = .ok (.iaload, 1) := by decide +kernel
theorem dX7_emptyBins_16 : decode cX7_emptyBins 16 = .ok (.ifCond .ne 9, 3) := by decide +kernel
theorem dX7_emptyBins_19 : decode cX7_emptyBins 19 = .ok (.iload_n 1, 1) := by decide +kernel
theorem dX7_emptyBins_20 : decode cX7_emptyBins 20 = .ok (.iconst 1, 1) := by decide +kernel
theorem dX7_emptyBins_21 : decode cX7_emptyBins 21 = .ok (.iload_n 2, 1) := by decide +kernel
theorem dX7_emptyBins_22 : decode cX7_emptyBins 22 = .ok (.ishl, 1) := by decide +kernel
theorem dX7_emptyBins_23 : decode cX7_emptyBins 23 = .ok (.ior, 1) := by decide +kernel
theorem dX7_emptyBins_24 : decode cX7_emptyBins 24 = .ok (.istore_n 1, 1) := by decide +kernel
theorem dX7_emptyBins_25 : decode cX7_emptyBins 25 = .ok (.iinc 2 1, 3) := by decide +kernel
theorem dX7_emptyBins_28 : decode cX7_emptyBins 28 = .ok (.goto (-24), 3) := by decide +kernel
theorem dX7_emptyBins_31 : decode cX7_emptyBins 31 = .ok (.iload_n 1, 1) := by decide +kernel
theorem dX7_emptyBins_32 : decode cX7_emptyBins 32 = .ok (.ireturn, 1) := by decide +kernel
theorem v_X7_emptyBins : yX7_emptyBins.cls = RX7 ∧ yX7_emptyBins.cls ≠ "java/lang/invoke/MethodHandle" ∧ yX7_emptyBins.cls ≠ "java/lang/invoke/VarHandle" ∧ (parseMethodDescriptor yX7_emptyBins.desc).map (fun d => d.parameters.length) = some 0 := ⟨rfl, by decide +kernel, by decide +kernel, by decide +kernel⟩
noncomputable def k_X7_emptyBins_0 (κ : gb_K) : gb_C := (o_ci 0 (o_is 1 (o_ci 0 (o_is 2 (o_j [0, 1, 2] (κ 4))))))
theorem l_X7_emptyBins_0 : gb_Li (fun κ => k_X7_emptyBins_0 κ) := (gb_li (q_ci 0) (gb_li (q_is 1) (gb_li (q_ci 0) (gb_li (q_is 2) (q_j [0, 1, 2] 4)))))
theorem s_X7_emptyBins_0   {κ : gb_K} (hκ : ∀ q, gb_S RX7 cX7_emptyBins 3 (gb_rm 0 0) 1 q (κ q)) : gb_S RX7 cX7_emptyBins 3 (gb_rm 0 0) 1 0 (k_X7_emptyBins_0 κ) := (s_iconst (by decide +kernel) dX7_emptyBins_0 (s_isn 1 rfl (Nat.le_of_ble_eq_true rfl) dX7_emptyBins_1 (s_iconst (by decide +kernel) dX7_emptyBins_2 (s_isn 2 rfl (Nat.le_of_ble_eq_true rfl) dX7_emptyBins_3 (s_j (hκ 4))))))
noncomputable def k_X7_emptyBins_25 (κ : gb_K) : gb_C := (o_inc 2 1 (o_j [0, 1, 2] (κ 4)))
theorem l_X7_emptyBins_25 : gb_Li (fun κ => k_X7_emptyBins_25 κ) := (gb_li (q_inc 2 1) (q_j [0, 1, 2] 4))
theorem s_X7_emptyBins_25   {κ : gb_K} (hκ : ∀ q, gb_S RX7 cX7_emptyBins 3 (gb_rm 0 0) 1 q (κ q)) : gb_S RX7 cX7_emptyBins 3 (gb_rm 0 0) 1 25 (k_X7_emptyBins_25 κ) := (s_inc (by decide +kernel) (Nat.le_of_ble_eq_true rfl) dX7_emptyBins_25 (s_goto (tgt := 4) (by decide +kernel) dX7_emptyBins_28 (s_j (hκ 4))))
noncomputable def k_X7_emptyBins_4 (κ : gb_K) : gb_C := (o_il 2 (o_ci 6 (o_cge (o_il 1 o_ri) (o_al 0 (o_gf 7 3 (o_il 2 (o_iald (o_zeq (o_il 1 (o_ci 1 (o_il 2 (o_ib (fun x y => x <<< (y &&& 31)) (o_ib (fun x y => x ||| y) (o_is 1 (k_X7_emptyBins_25 κ))))))) (k_X7_emptyBins_25 κ)))))))))
theorem l_X7_emptyBins_4 : gb_Li (fun κ => k_X7_emptyBins_4 κ) := (gb_li (q_il 2) (gb_li (q_ci 6) (q_cge (gb_li (q_il 1) (gb_li0 _)) (gb_li (q_al 0) (gb_li (q_gf 7 3) (gb_li (q_il 2) (gb_li q_iald (q_zeq (gb_li (q_il 1) (gb_li (q_ci 1) (gb_li (q_il 2) (gb_li (q_ib _) (gb_li (q_ib _) (gb_li (q_is 1) (l_X7_emptyBins_25))))))) (l_X7_emptyBins_25)))))))))
theorem s_X7_emptyBins_4   {κ : gb_K} (hκ : ∀ q, gb_S RX7 cX7_emptyBins 3 (gb_rm 0 0) 1 q (κ q)) : gb_S RX7 cX7_emptyBins 3 (gb_rm 0 0) 1 4 (k_X7_emptyBins_4 κ) := (s_iln 2 rfl dX7_emptyBins_4 (s_bipush (by decide +kernel) dX7_emptyBins_5 (s_cge (tgt := 31) (by decide +kernel) dX7_emptyBins_7 (s_iln 1 rfl dX7_emptyBins_31 (s_ri rfl dX7_emptyBins_32)) (s_aln 0 rfl dX7_emptyBins_10 (s_gf (T := TX7) winX7 rfl (Nat.le_of_ble_eq_true rfl) gw_79 rfl dX7_emptyBins_11 (s_iln 2 rfl dX7_emptyBins_14 (s_iald dX7_emptyBins_15 (s_zne (tgt := 25) (by decide +kernel) dX7_emptyBins_16 (s_X7_emptyBins_25 hκ) (s_iln 1 rfl dX7_emptyBins_19 (s_iconst (by decide +kernel) dX7_emptyBins_20 (s_iln 2 rfl dX7_emptyBins_21 (s_ishl dX7_emptyBins_22 (s_ior dX7_emptyBins_23 (s_isn 1 rfl (Nat.le_of_ble_eq_true rfl) dX7_emptyBins_24 (s_X7_emptyBins_25 hκ)))))))))))))))
noncomputable def B_X7_emptyBins : List (Nat × (gb_K → gb_C)) := [(4, fun κ => k_X7_emptyBins_4 κ)]
noncomputable def K_X7_emptyBins : gb_K := gb_fx (gb_tb (B_X7_emptyBins))
theorem L_X7_emptyBins : ∀ q, gb_Li (fun κ => gb_tb (B_X7_emptyBins) κ q) := gb_tb_li (List.forall_mem_cons.mpr ⟨l_X7_emptyBins_4, (fun _ h => absurd h List.not_mem_nil)⟩)
theorem S_X7_emptyBins   : ∀ q, gb_S RX7 cX7_emptyBins 3 (gb_rm 0 0) 1 q (K_X7_emptyBins q) := fun q => gb_fx_S (L_X7_emptyBins) (gb_tb_S (List.forall_mem_cons.mpr ⟨fun κ hκ => s_X7_emptyBins_4 hκ, (fun _ h => absurd h List.not_mem_nil)⟩)) q
noncomputable def f_X7_emptyBins : gb_F := gb_hide (gb_mf 3 (k_X7_emptyBins_0 (K_X7_emptyBins)))
theorem c_X7_emptyBins : ∀ l, gb_Met l yX7_emptyBins cX7_emptyBins 3 (some .int) 1 (gb_rm 0 0) f_X7_emptyBins := gb_hide_c (gb_met (own := RX7) (rk := 1) rfl (by decide +kernel) ⟨rfl, rfl⟩ (s_X7_emptyBins_0 (S_X7_emptyBins)))
theorem dX7_onTop_0 : decode cX7_onTop 0 = .ok (.aload_n 0, 1) := by decide +kernel
theorem dX7_onTop_1 : decode cX7_onTop 1 = .ok (.getfield 18, 3) := by decide +kernel
theorem dX7_onTop_4 : decode cX7_onTop 4 = .ok (.iload_n 1, 1) := by decide +kernel
theorem dX7_onTop_5 : decode cX7_onTop 5 = .ok (.iaload, 1) := by decide +kernel
theorem dX7_onTop_6 : decode cX7_onTop 6 = .ok (.ifCond .ne 5, 3) := by decide +kernel
theorem dX7_onTop_9 : decode cX7_onTop 9 = .ok (.iconst 0, 1) := by decide +kernel
theorem dX7_onTop_10 : decode cX7_onTop 10 = .ok (.ireturn, 1) := by decide +kernel
theorem dX7_onTop_11 : decode cX7_onTop 11 = .ok (.iload_n 1, 1) := by decide +kernel
theorem dX7_onTop_12 : decode cX7_onTop 12 = .ok (.aload_n 0, 1) := by decide +kernel
theorem dX7_onTop_13 : decode cX7_onTop 13 = .ok (.getfield 18, 3) := by decide +kernel
theorem dX7_onTop_16 : decode cX7_onTop 16 = .ok (.iload_n 1, 1) := by decide +kernel
theorem dX7_onTop_17 : decode cX7_onTop 17 = .ok (.iaload, 1) := by decide +kernel
theorem dX7_onTop_18 : decode cX7_onTop 18 = .ok (.iconst 1, 1) := by decide +kernel
theorem dX7_onTop_19 : decode cX7_onTop 19 = .ok (.isub, 1) := by decide +kernel
theorem dX7_onTop_20 : decode cX7_onTop 20 = .ok (.invokestatic 51, 3) := by decide +kernel
theorem dX7_onTop_23 : decode cX7_onTop 23 = .ok (.istore 4, 2) := by decide +kernel
theorem dX7_onTop_25 : decode cX7_onTop 25 = .ok (.aload_n 0, 1) := by decide +kernel
theorem dX7_onTop_26 : decode cX7_onTop 26 = .ok (.getfield 24, 3) := by decide +kernel
theorem dX7_onTop_29 : decode cX7_onTop 29 = .ok (.iload 4, 2) := by decide +kernel
theorem dX7_onTop_31 : decode cX7_onTop 31 = .ok (.iaload, 1) := by decide +kernel
theorem dX7_onTop_32 : decode cX7_onTop 32 = .ok (.iload_n 2, 1) := by decide +kernel
theorem dX7_onTop_33 : decode cX7_onTop 33 = .ok (.if_icmp .ne 18, 3) := by decide +kernel
theorem dX7_onTop_36 : decode cX7_onTop 36 = .ok (.aload_n 0, 1) := by decide +kernel
theorem dX7_onTop_37 : decode cX7_onTop 37 = .ok (.getfield 30, 3) := by decide +kernel
theorem dX7_onTop_40 : decode cX7_onTop 40 = .ok (.iload 4, 2) := by decide +kernel
theorem dX7_onTop_42 : decode cX7_onTop 42 = .ok (.iaload, 1) := by decide +kernel
theorem dX7_onTop_43 : decode cX7_onTop 43 = .ok (.iload_n 3, 1) := by decide +kernel
theorem dX7_onTop_44 : decode cX7_onTop 44 = .ok (.if_icmp .ne 7, 3) := by decide +kernel
theorem dX7_onTop_47 : decode cX7_onTop 47 = .ok (.iconst 1, 1) := by decide +kernel
theorem dX7_onTop_48 : decode cX7_onTop 48 = .ok (.goto 4, 3) := by decide +kernel
theorem dX7_onTop_51 : decode cX7_onTop 51 = .ok (.iconst 0, 1) := by decide +kernel
theorem dX7_onTop_52 : decode cX7_onTop 52 = .ok (.ireturn, 1) := by decide +kernel
theorem v_X7_onTop : yX7_onTop.cls = RX7 ∧ yX7_onTop.cls ≠ "java/lang/invoke/MethodHandle" ∧ yX7_onTop.cls ≠ "java/lang/invoke/VarHandle" ∧ (parseMethodDescriptor yX7_onTop.desc).map (fun d => d.parameters.length) = some 3 := ⟨rfl, by decide +kernel, by decide +kernel, by decide +kernel⟩
noncomputable def k_X7_onTop_52 (κ : gb_K) : gb_C := o_rz
theorem l_X7_onTop_52 : gb_Li (fun κ => k_X7_onTop_52 κ) := (gb_li0 _)
theorem s_X7_onTop_52   {κ : gb_K} (hκ : ∀ q, gb_S RX7 cX7_onTop 5 (gb_rm 1 21) 2 q (κ q)) : gb_S RX7 cX7_onTop 5 (gb_rm 1 21) 2 52 (k_X7_onTop_52 κ) := (s_rz rfl dX7_onTop_52)
noncomputable def k_X7_onTop_51 (κ : gb_K) : gb_C := (o_ci 0 (k_X7_onTop_52 κ))
theorem l_X7_onTop_51 : gb_Li (fun κ => k_X7_onTop_51 κ) := (gb_li (q_ci 0) (l_X7_onTop_52))
theorem s_X7_onTop_51   {κ : gb_K} (hκ : ∀ q, gb_S RX7 cX7_onTop 5 (gb_rm 1 21) 2 q (κ q)) : gb_S RX7 cX7_onTop 5 (gb_rm 1 21) 2 51 (k_X7_onTop_51 κ) := (s_iconst (by decide +kernel) dX7_onTop_51 (s_X7_onTop_52 hκ))
noncomputable def k_X7_onTop_0 (κ : gb_K) : gb_C := (o_al 0 (o_gf 7 3 (o_il 1 (o_iald (o_zeq (o_ci 0 o_rz) (o_il 1 (o_al 0 (o_gf 7 3 (o_il 1 (o_iald (o_ci 1 (o_ib (fun x y => x - y) (o_cs 2 1 f_X7_place (o_is 4 (o_al 0 (o_gf 7 5 (o_il 4 (o_iald (o_il 2 (o_ceq (o_al 0 (o_gf 7 7 (o_il 4 (o_iald (o_il 3 (o_ceq (o_ci 1 (k_X7_onTop_52 κ)) (k_X7_onTop_51 κ))))))) (k_X7_onTop_51 κ)))))))))))))))))))))
theorem l_X7_onTop_0 : gb_Li (fun κ => k_X7_onTop_0 κ) := (gb_li (q_al 0) (gb_li (q_gf 7 3) (gb_li (q_il 1) (gb_li q_iald (q_zeq (gb_li (q_ci 0) (gb_li0 _)) (gb_li (q_il 1) (gb_li (q_al 0) (gb_li (q_gf 7 3) (gb_li (q_il 1) (gb_li q_iald (gb_li (q_ci 1) (gb_li (q_ib _) (gb_li (q_cs 2 1 f_X7_place) (gb_li (q_is 4) (gb_li (q_al 0) (gb_li (q_gf 7 5) (gb_li (q_il 4) (gb_li q_iald (gb_li (q_il 2) (q_ceq (gb_li (q_al 0) (gb_li (q_gf 7 7) (gb_li (q_il 4) (gb_li q_iald (gb_li (q_il 3) (q_ceq (gb_li (q_ci 1) (l_X7_onTop_52)) (l_X7_onTop_51))))))) (l_X7_onTop_51)))))))))))))))))))))
theorem s_X7_onTop_0   {κ : gb_K} (hκ : ∀ q, gb_S RX7 cX7_onTop 5 (gb_rm 1 21) 2 q (κ q)) : gb_S RX7 cX7_onTop 5 (gb_rm 1 21) 2 0 (k_X7_onTop_0 κ) := (s_aln 0 rfl dX7_onTop_0 (s_gf (T := TX7) winX7 rfl (Nat.le_of_ble_eq_true rfl) gw_79 rfl dX7_onTop_1 (s_iln 1 rfl dX7_onTop_4 (s_iald dX7_onTop_5 (s_zne (tgt := 11) (by decide +kernel) dX7_onTop_6 (s_iln 1 rfl dX7_onTop_11 (s_aln 0 rfl dX7_onTop_12 (s_gf (T := TX7) winX7 rfl (Nat.le_of_ble_eq_true rfl) gw_79 rfl dX7_onTop_13 (s_iln 1 rfl dX7_onTop_16 (s_iald dX7_onTop_17 (s_iconst (by decide +kernel) dX7_onTop_18 (s_isub dX7_onTop_19 (s_cs c_X7_place (gb_l4 gw_83 gw_23 gw_11 gw_24) v_X7_place.2 ⟨rfl, rfl⟩ ⟨Nat.le_of_ble_eq_true rfl, Nat.le_of_ble_eq_true rfl⟩ dX7_onTop_20 (s_is (Nat.le_of_ble_eq_true rfl) dX7_onTop_23 (s_aln 0 rfl dX7_onTop_25 (s_gf (T := TX7) winX7 rfl (Nat.le_of_ble_eq_true rfl) gw_84 rfl dX7_onTop_26 (s_il dX7_onTop_29 (s_iald dX7_onTop_31 (s_iln 2 rfl dX7_onTop_32 (s_cne (tgt := 51) (by decide +kernel) dX7_onTop_33 (s_X7_onTop_51 hκ) (s_aln 0 rfl dX7_onTop_36 (s_gf (T := TX7) winX7 rfl (Nat.le_of_ble_eq_true rfl) gw_82 rfl dX7_onTop_37 (s_il dX7_onTop_40 (s_iald dX7_onTop_42 (s_iln 3 rfl dX7_onTop_43 (s_cne (tgt := 51) (by decide +kernel) dX7_onTop_44 (s_X7_onTop_51 hκ) (s_iconst (by decide +kernel) dX7_onTop_47 (s_goto (tgt := 52) (by decide +kernel) dX7_onTop_48 (s_X7_onTop_52 hκ)))))))))))))))))))))))) (s_iconst (by decide +kernel) dX7_onTop_9 (s_rz rfl dX7_onTop_10)))))))
noncomputable def f_X7_onTop : gb_F := gb_hide (gb_mf 5 (k_X7_onTop_0 gb_n))
theorem c_X7_onTop : ∀ l, gb_Met l yX7_onTop cX7_onTop 5 (some .boolean) 2 (gb_rm 1 21) f_X7_onTop := gb_hide_c (gb_met (own := RX7) (rk := 2) rfl (by decide +kernel) ⟨rfl, rfl⟩ (s_X7_onTop_0 gb_S_n))
theorem dX7_why_0 : decode cX7_why 0 = .ok (.aload_n 0, 1) := by decide +kernel
theorem dX7_why_1 : decode cX7_why 1 = .ok (.iload_n 1, 1) := by decide +kernel
theorem dX7_why_2 : decode cX7_why 2 = .ok (.invokevirtual 60, 3) := by decide +kernel
theorem dX7_why_5 : decode cX7_why 5 = .ok (.ifCond .eq 6, 3) := by decide +kernel
theorem dX7_why_8 : decode cX7_why 8 = .ok (.bipush (-2), 2) := by decide +kernel
theorem dX7_why_10 : decode cX7_why 10 = .ok (.ireturn, 1) := by decide +kernel
theorem dX7_why_11 : decode cX7_why 11 = .ok (.aload_n 0, 1) := by decide +kernel
theorem dX7_why_12 : decode cX7_why 12 = .ok (.getfield 21, 3) := by decide +kernel
theorem dX7_why_15 : decode cX7_why 15 = .ok (.iload_n 1, 1) := by decide +kernel
theorem dX7_why_16 : decode cX7_why 16 = .ok (.iaload, 1) := by decide +kernel
theorem dX7_why_17 : decode cX7_why 17 = .ok (.iload_n 3, 1) := by decide +kernel
theorem dX7_why_18 : decode cX7_why 18 = .ok (.iadd, 1) := by decide +kernel
theorem dX7_why_19 : decode cX7_why 19 = .ok (.aload_n 0, 1) := by decide +kernel
theorem dX7_why_20 : decode cX7_why 20 = .ok (.getfield 36, 3) := by decide +kernel
theorem dX7_why_23 : decode cX7_why 23 = .ok (.getfield 64, 3) := by decide +kernel
theorem dX7_why_26 : decode cX7_why 26 = .ok (.iload_n 1, 1) := by decide +kernel
theorem dX7_why_27 : decode cX7_why 27 = .ok (.iaload, 1) := by decide +kernel
theorem dX7_why_28 : decode cX7_why 28 = .ok (.if_icmp .le 6, 3) := by decide +kernel
theorem dX7_why_31 : decode cX7_why 31 = .ok (.bipush (-4), 2) := by decide +kernel
theorem dX7_why_33 : decode cX7_why 33 = .ok (.ireturn, 1) := by decide +kernel
theorem dX7_why_34 : decode cX7_why 34 = .ok (.aload_n 0, 1) := by decide +kernel
theorem dX7_why_35 : decode cX7_why 35 = .ok (.iload_n 1, 1) := by decide +kernel
theorem dX7_why_36 : decode cX7_why 36 = .ok (.invokevirtual 67, 3) := by decide +kernel
theorem dX7_why_39 : decode cX7_why 39 = .ok (.aload_n 0, 1) := by decide +kernel
theorem dX7_why_40 : decode cX7_why 40 = .ok (.getfield 36, 3) := by decide +kernel
theorem dX7_why_43 : decode cX7_why 43 = .ok (.getfield 71, 3) := by decide +kernel
theorem dX7_why_46 : decode cX7_why 46 = .ok (.iload_n 2, 1) := by decide +kernel
theorem dX7_why_47 : decode cX7_why 47 = .ok (.iaload, 1) := by decide +kernel
theorem dX7_why_48 : decode cX7_why 48 = .ok (.iand, 1) := by decide +kernel
theorem dX7_why_49 : decode cX7_why 49 = .ok (.ifCond .eq 6, 3) := by decide +kernel
theorem dX7_why_52 : decode cX7_why 52 = .ok (.bipush (-5), 2) := by decide +kernel
theorem dX7_why_54 : decode cX7_why 54 = .ok (.ireturn, 1) := by decide +kernel
theorem dX7_why_55 : decode cX7_why 55 = .ok (.aload_n 0, 1) := by decide +kernel
theorem dX7_why_56 : decode cX7_why 56 = .ok (.getfield 18, 3) := by decide +kernel
theorem dX7_why_59 : decode cX7_why 59 = .ok (.iload_n 1, 1) := by decide +kernel
theorem dX7_why_60 : decode cX7_why 60 = .ok (.iaload, 1) := by decide +kernel
theorem dX7_why_61 : decode cX7_why 61 = .ok (.bipush 6, 2) := by decide +kernel
theorem dX7_why_63 : decode cX7_why 63 = .ok (.if_icmp .lt 18, 3) := by decide +kernel
theorem dX7_why_66 : decode cX7_why 66 = .ok (.aload_n 0, 1) := by decide +kernel
theorem dX7_why_67 : decode cX7_why 67 = .ok (.iload_n 1, 1) := by decide +kernel
theorem dX7_why_68 : decode cX7_why 68 = .ok (.iload_n 2, 1) := by decide +kernel
theorem dX7_why_69 : decode cX7_why 69 = .ok (.iload 4, 2) := by decide +kernel
theorem dX7_why_71 : decode cX7_why 71 = .ok (.invokevirtual 74, 3) := by decide +kernel
theorem dX7_why_74 : decode cX7_why 74 = .ok (.ifCond .ne 7, 3) := by decide +kernel
theorem dX7_why_77 : decode cX7_why 77 = .ok (.iconst 1, 1) := by decide +kernel
theorem dX7_why_78 : decode cX7_why 78 = .ok (.goto 4, 3) := by decide +kernel
theorem dX7_why_81 : decode cX7_why 81 = .ok (.iconst 0, 1) := by decide +kernel
theorem dX7_why_82 : decode cX7_why 82 = .ok (.istore 5, 2) := by decide +kernel
theorem dX7_why_84 : decode cX7_why 84 = .ok (.iload 5, 2) := by decide +kernel
theorem dX7_why_86 : decode cX7_why 86 = .ok (.ifCond .eq 8, 3) := by decide +kernel
theorem dX7_why_89 : decode cX7_why 89 = .ok (.bipush (-6), 2) := by decide +kernel
theorem dX7_why_91 : decode cX7_why 91 = .ok (.goto 4, 3) := by decide +kernel
theorem dX7_why_94 : decode cX7_why 94 = .ok (.iconst 0, 1) := by decide +kernel
theorem dX7_why_95 : decode cX7_why 95 = .ok (.ireturn, 1) := by decide +kernel
theorem v_X7_why : yX7_why.cls = RX7 ∧ yX7_why.cls ≠ "java/lang/invoke/MethodHandle" ∧ yX7_why.cls ≠ "java/lang/invoke/VarHandle" ∧ (parseMethodDescriptor yX7_why.desc).map (fun d => d.parameters.length) = some 4 := ⟨rfl, by decide +kernel, by decide +kernel, by decide +kernel⟩
noncomputable def k_X7_why_95 (κ : gb_K) : gb_C := o_ri
theorem l_X7_why_95 : gb_Li (fun κ => k_X7_why_95 κ) := (gb_li0 _)
theorem s_X7_why_95   {κ : gb_K} (hκ : ∀ q, gb_S RX7 cX7_why 6 (gb_rm 2 45) 1 q (κ q)) : gb_S RX7 cX7_why 6 (gb_rm 2 45) 1 95 (k_X7_why_95 κ) := (s_ri rfl dX7_why_95)
noncomputable def k_X7_why_82 (κ : gb_K) : gb_C := (o_is 5 (o_il 5 (o_zeq (o_ci 0 (k_X7_why_95 κ)) (o_ci (-6) (k_X7_why_95 κ)))))
theorem l_X7_why_82 : gb_Li (fun κ => k_X7_why_82 κ) := (gb_li (q_is 5) (gb_li (q_il 5) (q_zeq (gb_li (q_ci 0) (l_X7_why_95)) (gb_li (q_ci (-6)) (l_X7_why_95)))))
theorem s_X7_why_82   {κ : gb_K} (hκ : ∀ q, gb_S RX7 cX7_why 6 (gb_rm 2 45) 1 q (κ q)) : gb_S RX7 cX7_why 6 (gb_rm 2 45) 1 82 (k_X7_why_82 κ) := (s_is (Nat.le_of_ble_eq_true rfl) dX7_why_82 (s_il dX7_why_84 (s_zeq (tgt := 94) (by decide +kernel) dX7_why_86 (s_iconst (by decide +kernel) dX7_why_94 (s_X7_why_95 hκ)) (s_bipush (by decide +kernel) dX7_why_89 (s_goto (tgt := 95) (by decide +kernel) dX7_why_91 (s_X7_why_95 hκ))))))
noncomputable def k_X7_why_81 (κ : gb_K) : gb_C := (o_ci 0 (k_X7_why_82 κ))
theorem l_X7_why_81 : gb_Li (fun κ => k_X7_why_81 κ) := (gb_li (q_ci 0) (l_X7_why_82))
theorem s_X7_why_81   {κ : gb_K} (hκ : ∀ q, gb_S RX7 cX7_why 6 (gb_rm 2 45) 1 q (κ q)) : gb_S RX7 cX7_why 6 (gb_rm 2 45) 1 81 (k_X7_why_81 κ) := (s_iconst (by decide +kernel) dX7_why_81 (s_X7_why_82 hκ))
noncomputable def k_X7_why_61 (κ : gb_K) : gb_C := (o_ci 6 (o_clt (k_X7_why_81 κ) (o_al 0 (o_il 1 (o_il 2 (o_il 4 (o_cv 3 7 2 f_X7_onTop (o_zeq (o_ci 1 (k_X7_why_82 κ)) (k_X7_why_81 κ)))))))))
theorem l_X7_why_61 : gb_Li (fun κ => k_X7_why_61 κ) := (gb_li (q_ci 6) (q_clt (l_X7_why_81) (gb_li (q_al 0) (gb_li (q_il 1) (gb_li (q_il 2) (gb_li (q_il 4) (gb_li (q_cv 3 7 2 f_X7_onTop) (q_zeq (gb_li (q_ci 1) (l_X7_why_82)) (l_X7_why_81)))))))))
theorem s_X7_why_61   {κ : gb_K} (hκ : ∀ q, gb_S RX7 cX7_why 6 (gb_rm 2 45) 1 q (κ q)) : gb_S RX7 cX7_why 6 (gb_rm 2 45) 1 61 (k_X7_why_61 κ) := (s_bipush (by decide +kernel) dX7_why_61 (s_clt (tgt := 81) (by decide +kernel) dX7_why_63 (s_X7_why_81 hκ) (s_aln 0 rfl dX7_why_66 (s_iln 1 rfl dX7_why_67 (s_iln 2 rfl dX7_why_68 (s_il dX7_why_69 (s_cv (C := RX7) c_X7_onTop rfl (gb_l5 gw_140 gw_141 gw_142 gw_11 gw_143) v_X7_onTop ⟨rfl, rfl⟩ ⟨Nat.le_of_ble_eq_true rfl, Nat.le_of_ble_eq_true rfl⟩ dX7_why_71 (s_zne (tgt := 81) (by decide +kernel) dX7_why_74 (s_X7_why_81 hκ) (s_iconst (by decide +kernel) dX7_why_77 (s_goto (tgt := 82) (by decide +kernel) dX7_why_78 (s_X7_why_82 hκ)))))))))))
noncomputable def k_X7_why_0 (κ : gb_K) : gb_C := (o_al 0 (o_il 1 (o_cv 1 7 2 f_X7_closed (o_zeq (o_al 0 (o_gf 7 4 (o_il 1 (o_iald (o_il 3 (o_ib (fun x y => x + y) (o_al 0 (o_gf 7 0 (o_gf 5 2 (o_il 1 (o_iald (o_cle (o_al 0 (o_il 1 (o_cv 1 7 1 f_X7_gradesIn (o_al 0 (o_gf 7 0 (o_gf 5 4 (o_il 2 (o_iald (o_ib (fun x y => x &&& y) (o_zeq (o_al 0 (o_gf 7 3 (o_il 1 (o_iald (k_X7_why_61 κ))))) (o_ci (-5) o_ri))))))))))) (o_ci (-4) o_ri))))))))))))) (o_ci (-2) o_ri)))))
theorem l_X7_why_0 : gb_Li (fun κ => k_X7_why_0 κ) := (gb_li (q_al 0) (gb_li (q_il 1) (gb_li (q_cv 1 7 2 f_X7_closed) (q_zeq (gb_li (q_al 0) (gb_li (q_gf 7 4) (gb_li (q_il 1) (gb_li q_iald (gb_li (q_il 3) (gb_li (q_ib _) (gb_li (q_al 0) (gb_li (q_gf 7 0) (gb_li (q_gf 5 2) (gb_li (q_il 1) (gb_li q_iald (q_cle (gb_li (q_al 0) (gb_li (q_il 1) (gb_li (q_cv 1 7 1 f_X7_gradesIn) (gb_li (q_al 0) (gb_li (q_gf 7 0) (gb_li (q_gf 5 4) (gb_li (q_il 2) (gb_li q_iald (gb_li (q_ib _) (q_zeq (gb_li (q_al 0) (gb_li (q_gf 7 3) (gb_li (q_il 1) (gb_li q_iald (l_X7_why_61))))) (gb_li (q_ci (-5)) (gb_li0 _)))))))))))) (gb_li (q_ci (-4)) (gb_li0 _)))))))))))))) (gb_li (q_ci (-2)) (gb_li0 _))))))
theorem s_X7_why_0   {κ : gb_K} (hκ : ∀ q, gb_S RX7 cX7_why 6 (gb_rm 2 45) 1 q (κ q)) : gb_S RX7 cX7_why 6 (gb_rm 2 45) 1 0 (k_X7_why_0 κ) := (s_aln 0 rfl dX7_why_0 (s_iln 1 rfl dX7_why_1 (s_cv (C := RX7) c_X7_closed rfl (gb_l5 gw_139 gw_9 gw_10 gw_11 gw_12) v_X7_closed ⟨rfl, rfl⟩ ⟨Nat.le_of_ble_eq_true rfl, Nat.le_of_ble_eq_true rfl⟩ dX7_why_2 (s_zeq (tgt := 11) (by decide +kernel) dX7_why_5 (s_aln 0 rfl dX7_why_11 (s_gf (T := TX7) winX7 rfl (Nat.le_of_ble_eq_true rfl) gw_80 rfl dX7_why_12 (s_iln 1 rfl dX7_why_15 (s_iald dX7_why_16 (s_iln 3 rfl dX7_why_17 (s_iadd dX7_why_18 (s_aln 0 rfl dX7_why_19 (s_gf (T := TX7) winX7 rfl (Nat.le_of_ble_eq_true rfl) gw_137 rfl dX7_why_20 (s_gf (T := TX5) winX5 rfl (Nat.le_of_ble_eq_true rfl) gw_144 rfl dX7_why_23 (s_iln 1 rfl dX7_why_26 (s_iald dX7_why_27 (s_cle (tgt := 34) (by decide +kernel) dX7_why_28 (s_aln 0 rfl dX7_why_34 (s_iln 1 rfl dX7_why_35 (s_cv (C := RX7) c_X7_gradesIn rfl (gb_l5 gw_145 gw_146 gw_147 gw_11 gw_148) v_X7_gradesIn ⟨rfl, rfl⟩ ⟨Nat.le_of_ble_eq_true rfl, Nat.le_of_ble_eq_true rfl⟩ dX7_why_36 (s_aln 0 rfl dX7_why_39 (s_gf (T := TX7) winX7 rfl (Nat.le_of_ble_eq_true rfl) gw_137 rfl dX7_why_40 (s_gf (T := TX5) winX5 rfl (Nat.le_of_ble_eq_true rfl) gw_149 rfl dX7_why_43 (s_iln 2 rfl dX7_why_46 (s_iald dX7_why_47 (s_iand dX7_why_48 (s_zeq (tgt := 55) (by decide +kernel) dX7_why_49 (s_aln 0 rfl dX7_why_55 (s_gf (T := TX7) winX7 rfl (Nat.le_of_ble_eq_true rfl) gw_79 rfl dX7_why_56 (s_iln 1 rfl dX7_why_59 (s_iald dX7_why_60 (s_X7_why_61 hκ))))) (s_bipush (by decide +kernel) dX7_why_52 (s_ri rfl dX7_why_54)))))))))))) (s_bipush (by decide +kernel) dX7_why_31 (s_ri rfl dX7_why_33)))))))))))))) (s_bipush (by decide +kernel) dX7_why_8 (s_ri rfl dX7_why_10))))))
noncomputable def f_X7_why : gb_F := gb_hide (gb_mf 6 (k_X7_why_0 gb_n))
theorem c_X7_why : ∀ l, gb_Met l yX7_why cX7_why 6 (some .int) 1 (gb_rm 2 45) f_X7_why := gb_hide_c (gb_met (own := RX7) (rk := 1) rfl (by decide +kernel) ⟨rfl, rfl⟩ (s_X7_why_0 gb_S_n))
theorem dX7_lay_0 : decode cX7_lay 0 = .ok (.aload_n 0, 1) := by decide +kernel
theorem dX7_lay_1 : decode cX7_lay 1 = .ok (.iload_n 1, 1) := by decide +kernel
theorem dX7_lay_2 : decode cX7_lay 2 = .ok (.iload_n 2, 1) := by decide +kernel
theorem dX7_lay_3 : decode cX7_lay 3 = .ok (.iload 4, 2) := by decide +kernel
theorem dX7_lay_5 : decode cX7_lay 5 = .ok (.invokevirtual 74, 3) := by decide +kernel
theorem dX7_lay_8 : decode cX7_lay 8 = .ok (.ifCond .eq 27, 3) := by decide +kernel
theorem dX7_lay_11 : decode cX7_lay 11 = .ok (.aload_n 0, 1) := by decide +kernel
theorem dX7_lay_12 : decode cX7_lay 12 = .ok (.getfield 27, 3) := by decide +kernel
theorem dX7_lay_15 : decode cX7_lay 15 = .ok (.iload_n 1, 1) := by decide +kernel
theorem dX7_lay_16 : decode cX7_lay 16 = .ok (.aload_n 0, 1) := by decide +kernel
theorem dX7_lay_17 : decode cX7_lay 17 = .ok (.getfield 18, 3) := by decide +kernel
theorem dX7_lay_20 : decode cX7_lay 20 = .ok (.iload_n 1, 1) := by decide +kernel
theorem dX7_lay_21 : decode cX7_lay 21 = .ok (.iaload, 1) := by decide +kernel
theorem dX7_lay_22 : decode cX7_lay 22 = .ok (.iconst 1, 1) := by decide +kernel
theorem dX7_lay_23 : decode cX7_lay 23 = .ok (.isub, 1) := by decide +kernel
theorem dX7_lay_24 : decode cX7_lay 24 = .ok (.invokestatic 51, 3) := by decide +kernel
theorem dX7_lay_27 : decode cX7_lay 27 = .ok (.dup2, 1) := by decide +kernel
theorem dX7_lay_28 : decode cX7_lay 28 = .ok (.iaload, 1) := by decide +kernel
theorem dX7_lay_29 : decode cX7_lay 29 = .ok (.iload_n 3, 1) := by decide +kernel
theorem dX7_lay_30 : decode cX7_lay 30 = .ok (.iadd, 1) := by decide +kernel
theorem dX7_lay_31 : decode cX7_lay 31 = .ok (.iastore, 1) := by decide +kernel
theorem dX7_lay_32 : decode cX7_lay 32 = .ok (.goto 65, 3) := by decide +kernel
theorem dX7_lay_35 : decode cX7_lay 35 = .ok (.aload_n 0, 1) := by decide +kernel
theorem dX7_lay_36 : decode cX7_lay 36 = .ok (.getfield 18, 3) := by decide +kernel
theorem dX7_lay_39 : decode cX7_lay 39 = .ok (.iload_n 1, 1) := by decide +kernel
theorem dX7_lay_40 : decode cX7_lay 40 = .ok (.iaload, 1) := by decide +kernel
theorem dX7_lay_41 : decode cX7_lay 41 = .ok (.bipush 6, 2) := by decide +kernel
theorem dX7_lay_43 : decode cX7_lay 43 = .ok (.if_icmp .ge 53, 3) := by decide +kernel
theorem dX7_lay_46 : decode cX7_lay 46 = .ok (.iload_n 1, 1) := by decide +kernel
theorem dX7_lay_47 : decode cX7_lay 47 = .ok (.aload_n 0, 1) := by decide +kernel
theorem dX7_lay_48 : decode cX7_lay 48 = .ok (.getfield 18, 3) := by decide +kernel
theorem dX7_lay_51 : decode cX7_lay 51 = .ok (.iload_n 1, 1) := by decide +kernel
theorem dX7_lay_52 : decode cX7_lay 52 = .ok (.iaload, 1) := by decide +kernel
theorem dX7_lay_53 : decode cX7_lay 53 = .ok (.invokestatic 51, 3) := by decide +kernel
theorem dX7_lay_56 : decode cX7_lay 56 = .ok (.istore 5, 2) := by decide +kernel
theorem dX7_lay_58 : decode cX7_lay 58 = .ok (.aload_n 0, 1) := by decide +kernel
theorem dX7_lay_59 : decode cX7_lay 59 = .ok (.getfield 24, 3) := by decide +kernel
theorem dX7_lay_62 : decode cX7_lay 62 = .ok (.iload 5, 2) := by decide +kernel
theorem dX7_lay_64 : decode cX7_lay 64 = .ok (.iload_n 2, 1) := by decide +kernel
theorem dX7_lay_65 : decode cX7_lay 65 = .ok (.iastore, 1) := by decide +kernel
theorem dX7_lay_66 : decode cX7_lay 66 = .ok (.aload_n 0, 1) := by decide +kernel
theorem dX7_lay_67 : decode cX7_lay 67 = .ok (.getfield 27, 3) := by decide +kernel
theorem dX7_lay_70 : decode cX7_lay 70 = .ok (.iload 5, 2) := by decide +kernel
theorem dX7_lay_72 : decode cX7_lay 72 = .ok (.iload_n 3, 1) := by decide +kernel
theorem dX7_lay_73 : decode cX7_lay 73 = .ok (.iastore, 1) := by decide +kernel
theorem dX7_lay_74 : decode cX7_lay 74 = .ok (.aload_n 0, 1) := by decide +kernel
theorem dX7_lay_75 : decode cX7_lay 75 = .ok (.getfield 30, 3) := by decide +kernel
theorem dX7_lay_78 : decode cX7_lay 78 = .ok (.iload 5, 2) := by decide +kernel
theorem dX7_lay_80 : decode cX7_lay 80 = .ok (.iload 4, 2) := by decide +kernel
theorem dX7_lay_82 : decode cX7_lay 82 = .ok (.iastore, 1) := by decide +kernel
theorem dX7_lay_83 : decode cX7_lay 83 = .ok (.aload_n 0, 1) := by decide +kernel
theorem dX7_lay_84 : decode cX7_lay 84 = .ok (.getfield 18, 3) := by decide +kernel
theorem dX7_lay_87 : decode cX7_lay 87 = .ok (.iload_n 1, 1) := by decide +kernel
theorem dX7_lay_88 : decode cX7_lay 88 = .ok (.dup2, 1) := by decide +kernel
theorem dX7_lay_89 : decode cX7_lay 89 = .ok (.iaload, 1) := by decide +kernel
theorem dX7_lay_90 : decode cX7_lay 90 = .ok (.iconst 1, 1) := by decide +kernel
theorem dX7_lay_91 : decode cX7_lay 91 = .ok (.iadd, 1) := by decide +kernel
theorem dX7_lay_92 : decode cX7_lay 92 = .ok (.iastore, 1) := by decide +kernel
theorem dX7_lay_93 : decode cX7_lay 93 = .ok (.goto 4, 3) := by decide +kernel
theorem dX7_lay_96 : decode cX7_lay 96 = .ok (.return_, 1) := by decide +kernel
theorem dX7_lay_97 : decode cX7_lay 97 = .ok (.aload_n 0, 1) := by decide +kernel
theorem dX7_lay_98 : decode cX7_lay 98 = .ok (.getfield 21, 3) := by decide +kernel
theorem dX7_lay_101 : decode cX7_lay 101 = .ok (.iload_n 1, 1) := by decide +kernel
theorem dX7_lay_102 : decode cX7_lay 102 = .ok (.dup2, 1) := by decide +kernel
theorem dX7_lay_103 : decode cX7_lay 103 = .ok (.iaload, 1) := by decide +kernel
theorem dX7_lay_104 : decode cX7_lay 104 = .ok (.iload_n 3, 1) := by decide +kernel
theorem dX7_lay_105 : decode cX7_lay 105 = .ok (.iadd, 1) := by decide +kernel
theorem dX7_lay_106 : decode cX7_lay 106 = .ok (.iastore, 1) := by decide +kernel
theorem dX7_lay_107 : decode cX7_lay 107 = .ok (.aload_n 0, 1) := by decide +kernel
theorem dX7_lay_108 : decode cX7_lay 108 = .ok (.getfield 33, 3) := by decide +kernel
theorem dX7_lay_111 : decode cX7_lay 111 = .ok (.iload_n 1, 1) := by decide +kernel
theorem dX7_lay_112 : decode cX7_lay 112 = .ok (.bipush 6, 2) := by decide +kernel
theorem dX7_lay_114 : decode cX7_lay 114 = .ok (.imul, 1) := by decide +kernel
theorem dX7_lay_115 : decode cX7_lay 115 = .ok (.iload_n 2, 1) := by decide +kernel
theorem dX7_lay_116 : decode cX7_lay 116 = .ok (.iadd, 1) := by decide +kernel
theorem dX7_lay_117 : decode cX7_lay 117 = .ok (.dup2, 1) := by decide +kernel
theorem dX7_lay_118 : decode cX7_lay 118 = .ok (.iaload, 1) := by decide +kernel
theorem dX7_lay_119 : decode cX7_lay 119 = .ok (.iload_n 3, 1) := by decide +kernel
theorem dX7_lay_120 : decode cX7_lay 120 = .ok (.iadd, 1) := by decide +kernel
theorem dX7_lay_121 : decode cX7_lay 121 = .ok (.iastore, 1) := by decide +kernel
theorem dX7_lay_122 : decode cX7_lay 122 = .ok (.return_, 1) := by decide +kernel
theorem v_X7_lay : yX7_lay.cls = RX7 ∧ yX7_lay.cls ≠ "java/lang/invoke/MethodHandle" ∧ yX7_lay.cls ≠ "java/lang/invoke/VarHandle" ∧ (parseMethodDescriptor yX7_lay.desc).map (fun d => d.parameters.length) = some 4 := ⟨rfl, by decide +kernel, by decide +kernel, by decide +kernel⟩
noncomputable def k_X7_lay_97 (κ : gb_K) : gb_C := (o_al 0 (o_gf 7 4 (o_il 1 (o_dup2 (o_iald (o_il 3 (o_ib (fun x y => x + y) (o_iast (o_al 0 (o_gf 7 8 (o_il 1 (o_ci 6 (o_ib (fun x y => x * y) (o_il 2 (o_ib (fun x y => x + y) (o_dup2 (o_iald (o_il 3 (o_ib (fun x y => x + y) (o_iast o_rv))))))))))))))))))))
theorem l_X7_lay_97 : gb_Li (fun κ => k_X7_lay_97 κ) := (gb_li (q_al 0) (gb_li (q_gf 7 4) (gb_li (q_il 1) (gb_li q_dup2 (gb_li q_iald (gb_li (q_il 3) (gb_li (q_ib _) (gb_li q_iast (gb_li (q_al 0) (gb_li (q_gf 7 8) (gb_li (q_il 1) (gb_li (q_ci 6) (gb_li (q_ib _) (gb_li (q_il 2) (gb_li (q_ib _) (gb_li q_dup2 (gb_li q_iald (gb_li (q_il 3) (gb_li (q_ib _) (gb_li q_iast (gb_li0 _)))))))))))))))))))))
theorem s_X7_lay_97   {κ : gb_K} (hκ : ∀ q, gb_S RX7 cX7_lay 6 (gb_rm 2 45) 0 q (κ q)) : gb_S RX7 cX7_lay 6 (gb_rm 2 45) 0 97 (k_X7_lay_97 κ) := (s_aln 0 rfl dX7_lay_97 (s_gf (T := TX7) winX7 rfl (Nat.le_of_ble_eq_true rfl) gw_80 rfl dX7_lay_98 (s_iln 1 rfl dX7_lay_101 (s_dup2 dX7_lay_102 (s_iald dX7_lay_103 (s_iln 3 rfl dX7_lay_104 (s_iadd dX7_lay_105 (s_iast dX7_lay_106 (s_aln 0 rfl dX7_lay_107 (s_gf (T := TX7) winX7 rfl (Nat.le_of_ble_eq_true rfl) gw_81 rfl dX7_lay_108 (s_iln 1 rfl dX7_lay_111 (s_bipush (by decide +kernel) dX7_lay_112 (s_imul dX7_lay_114 (s_iln 2 rfl dX7_lay_115 (s_iadd dX7_lay_116 (s_dup2 dX7_lay_117 (s_iald dX7_lay_118 (s_iln 3 rfl dX7_lay_119 (s_iadd dX7_lay_120 (s_iast dX7_lay_121 (s_rv rfl dX7_lay_122)))))))))))))))))))))
noncomputable def k_X7_lay_75 (κ : gb_K) : gb_C := (o_gf 7 7 (o_il 5 (o_il 4 (o_iast (o_al 0 (o_gf 7 3 (o_il 1 (o_dup2 (o_iald (o_ci 1 (o_ib (fun x y => x + y) (o_iast (k_X7_lay_97 κ)))))))))))))
theorem l_X7_lay_75 : gb_Li (fun κ => k_X7_lay_75 κ) := (gb_li (q_gf 7 7) (gb_li (q_il 5) (gb_li (q_il 4) (gb_li q_iast (gb_li (q_al 0) (gb_li (q_gf 7 3) (gb_li (q_il 1) (gb_li q_dup2 (gb_li q_iald (gb_li (q_ci 1) (gb_li (q_ib _) (gb_li q_iast (l_X7_lay_97)))))))))))))
theorem s_X7_lay_75   {κ : gb_K} (hκ : ∀ q, gb_S RX7 cX7_lay 6 (gb_rm 2 45) 0 q (κ q)) : gb_S RX7 cX7_lay 6 (gb_rm 2 45) 0 75 (k_X7_lay_75 κ) := (s_gf (T := TX7) winX7 rfl (Nat.le_of_ble_eq_true rfl) gw_82 rfl dX7_lay_75 (s_il dX7_lay_78 (s_il dX7_lay_80 (s_iast dX7_lay_82 (s_aln 0 rfl dX7_lay_83 (s_gf (T := TX7) winX7 rfl (Nat.le_of_ble_eq_true rfl) gw_79 rfl dX7_lay_84 (s_iln 1 rfl dX7_lay_87 (s_dup2 dX7_lay_88 (s_iald dX7_lay_89 (s_iconst (by decide +kernel) dX7_lay_90 (s_iadd dX7_lay_91 (s_iast dX7_lay_92 (s_goto (tgt := 97) (by decide +kernel) dX7_lay_93 (s_X7_lay_97 hκ))))))))))))))
noncomputable def k_X7_lay_0 (κ : gb_K) : gb_C := (o_al 0 (o_il 1 (o_il 2 (o_il 4 (o_cv 3 7 2 f_X7_onTop (o_zeq (o_al 0 (o_gf 7 3 (o_il 1 (o_iald (o_ci 6 (o_cge o_rv (o_il 1 (o_al 0 (o_gf 7 3 (o_il 1 (o_iald (o_cs 2 1 f_X7_place (o_is 5 (o_al 0 (o_gf 7 5 (o_il 5 (o_il 2 (o_iast (o_al 0 (o_gf 7 6 (o_il 5 (o_il 3 (o_iast (o_al 0 (k_X7_lay_75 κ))))))))))))))))))))))))) (o_al 0 (o_gf 7 6 (o_il 1 (o_al 0 (o_gf 7 3 (o_il 1 (o_iald (o_ci 1 (o_ib (fun x y => x - y) (o_cs 2 1 f_X7_place (o_dup2 (o_iald (o_il 3 (o_ib (fun x y => x + y) (o_iast (k_X7_lay_97 κ))))))))))))))))))))))
theorem l_X7_lay_0 : gb_Li (fun κ => k_X7_lay_0 κ) := (gb_li (q_al 0) (gb_li (q_il 1) (gb_li (q_il 2) (gb_li (q_il 4) (gb_li (q_cv 3 7 2 f_X7_onTop) (q_zeq (gb_li (q_al 0) (gb_li (q_gf 7 3) (gb_li (q_il 1) (gb_li q_iald (gb_li (q_ci 6) (q_cge (gb_li0 _) (gb_li (q_il 1) (gb_li (q_al 0) (gb_li (q_gf 7 3) (gb_li (q_il 1) (gb_li q_iald (gb_li (q_cs 2 1 f_X7_place) (gb_li (q_is 5) (gb_li (q_al 0) (gb_li (q_gf 7 5) (gb_li (q_il 5) (gb_li (q_il 2) (gb_li q_iast (gb_li (q_al 0) (gb_li (q_gf 7 6) (gb_li (q_il 5) (gb_li (q_il 3) (gb_li q_iast (gb_li (q_al 0) (l_X7_lay_75))))))))))))))))))))))))) (gb_li (q_al 0) (gb_li (q_gf 7 6) (gb_li (q_il 1) (gb_li (q_al 0) (gb_li (q_gf 7 3) (gb_li (q_il 1) (gb_li q_iald (gb_li (q_ci 1) (gb_li (q_ib _) (gb_li (q_cs 2 1 f_X7_place) (gb_li q_dup2 (gb_li q_iald (gb_li (q_il 3) (gb_li (q_ib _) (gb_li q_iast (l_X7_lay_97))))))))))))))))))))))
theorem s_X7_lay_0   {κ : gb_K} (hκ : ∀ q, gb_S RX7 cX7_lay 6 (gb_rm 2 45) 0 q (κ q)) : gb_S RX7 cX7_lay 6 (gb_rm 2 45) 0 0 (k_X7_lay_0 κ) := (s_aln 0 rfl dX7_lay_0 (s_iln 1 rfl dX7_lay_1 (s_iln 2 rfl dX7_lay_2 (s_il dX7_lay_3 (s_cv (C := RX7) c_X7_onTop rfl (gb_l5 gw_140 gw_141 gw_142 gw_11 gw_143) v_X7_onTop ⟨rfl, rfl⟩ ⟨Nat.le_of_ble_eq_true rfl, Nat.le_of_ble_eq_true rfl⟩ dX7_lay_5 (s_zeq (tgt := 35) (by decide +kernel) dX7_lay_8 (s_aln 0 rfl dX7_lay_35 (s_gf (T := TX7) winX7 rfl (Nat.le_of_ble_eq_true rfl) gw_79 rfl dX7_lay_36 (s_iln 1 rfl dX7_lay_39 (s_iald dX7_lay_40 (s_bipush (by decide +kernel) dX7_lay_41 (s_cge (tgt := 96) (by decide +kernel) dX7_lay_43 (s_rv rfl dX7_lay_96) (s_iln 1 rfl dX7_lay_46 (s_aln 0 rfl dX7_lay_47 (s_gf (T := TX7) winX7 rfl (Nat.le_of_ble_eq_true rfl) gw_79 rfl dX7_lay_48 (s_iln 1 rfl dX7_lay_51 (s_iald dX7_lay_52 (s_cs c_X7_place (gb_l4 gw_83 gw_23 gw_11 gw_24) v_X7_place.2 ⟨rfl, rfl⟩ ⟨Nat.le_of_ble_eq_true rfl, Nat.le_of_ble_eq_true rfl⟩ dX7_lay_53 (s_is (Nat.le_of_ble_eq_true rfl) dX7_lay_56 (s_aln 0 rfl dX7_lay_58 (s_gf (T := TX7) winX7 rfl (Nat.le_of_ble_eq_true rfl) gw_84 rfl dX7_lay_59 (s_il dX7_lay_62 (s_iln 2 rfl dX7_lay_64 (s_iast dX7_lay_65 (s_aln 0 rfl dX7_lay_66 (s_gf (T := TX7) winX7 rfl (Nat.le_of_ble_eq_true rfl) gw_85 rfl dX7_lay_67 (s_il dX7_lay_70 (s_iln 3 rfl dX7_lay_72 (s_iast dX7_lay_73 (s_aln 0 rfl dX7_lay_74 (s_X7_lay_75 hκ))))))))))))))))))))))))) (s_aln 0 rfl dX7_lay_11 (s_gf (T := TX7) winX7 rfl (Nat.le_of_ble_eq_true rfl) gw_85 rfl dX7_lay_12 (s_iln 1 rfl dX7_lay_15 (s_aln 0 rfl dX7_lay_16 (s_gf (T := TX7) winX7 rfl (Nat.le_of_ble_eq_true rfl) gw_79 rfl dX7_lay_17 (s_iln 1 rfl dX7_lay_20 (s_iald dX7_lay_21 (s_iconst (by decide +kernel) dX7_lay_22 (s_isub dX7_lay_23 (s_cs c_X7_place (gb_l4 gw_83 gw_23 gw_11 gw_24) v_X7_place.2 ⟨rfl, rfl⟩ ⟨Nat.le_of_ble_eq_true rfl, Nat.le_of_ble_eq_true rfl⟩ dX7_lay_24 (s_dup2 dX7_lay_27 (s_iald dX7_lay_28 (s_iln 3 rfl dX7_lay_29 (s_iadd dX7_lay_30 (s_iast dX7_lay_31 (s_goto (tgt := 97) (by decide +kernel) dX7_lay_32 (s_X7_lay_97 hκ)))))))))))))))))))))))
noncomputable def f_X7_lay : gb_F := gb_hide (gb_mf 6 (k_X7_lay_0 gb_n))
theorem c_X7_lay : ∀ l, gb_Met l yX7_lay cX7_lay 6 none 0 (gb_rm 2 45) f_X7_lay := gb_hide_c (gb_met (own := RX7) (rk := 0) rfl (by decide +kernel) ⟨rfl, rfl⟩ (s_X7_lay_0 gb_S_n))
