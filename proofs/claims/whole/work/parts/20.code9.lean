/-! CODE: printed by wip/whole/gen.py -/
theorem dX10_comes_0 : decode cX10_comes 0 = .ok (.iconst 0, 1) := by decide +kernel
theorem dX10_comes_1 : decode cX10_comes 1 = .ok (.istore_n 2, 1) := by decide +kernel
theorem dX10_comes_2 : decode cX10_comes 2 = .ok (.iconst 0, 1) := by decide +kernel
theorem dX10_comes_3 : decode cX10_comes 3 = .ok (.istore_n 3, 1) := by decide +kernel
theorem dX10_comes_4 : decode cX10_comes 4 = .ok (.iload_n 3, 1) := by decide +kernel
theorem dX10_comes_5 : decode cX10_comes 5 = .ok (.aload_n 0, 1) := by decide +kernel
theorem dX10_comes_6 : decode cX10_comes 6 = .ok (.getfield 153, 3) := by decide +kernel
theorem dX10_comes_9 : decode cX10_comes 9 = .ok (.if_icmp .ge 34, 3) := by decide +kernel
theorem dX10_comes_12 : decode cX10_comes 12 = .ok (.iload_n 2, 1) := by decide +kernel
theorem dX10_comes_13 : decode cX10_comes 13 = .ok (.ifCond .ne 30, 3) := by decide +kernel
theorem dX10_comes_16 : decode cX10_comes 16 = .ok (.aload_n 0, 1) := by decide +kernel
theorem dX10_comes_17 : decode cX10_comes 17 = .ok (.iload_n 1, 1) := by decide +kernel
theorem dX10_comes_18 : decode cX10_comes 18 = .ok (.aload_n 0, 1) := by decide +kernel
theorem dX10_comes_19 : decode cX10_comes 19 = .ok (.getfield 30, 3) := by decide +kernel
theorem dX10_comes_22 : decode cX10_comes 22 = .ok (.iload_n 3, 1) := by decide +kernel
theorem dX10_comes_23 : decode cX10_comes 23 = .ok (.iaload, 1) := by decide +kernel
theorem dX10_comes_24 : decode cX10_comes 24 = .ok (.invokevirtual 141, 3) := by decide +kernel
theorem dX10_comes_27 : decode cX10_comes 27 = .ok (.ifCond .eq 7, 3) := by decide +kernel
theorem dX10_comes_30 : decode cX10_comes 30 = .ok (.iconst 0, 1) := by decide +kernel
theorem dX10_comes_31 : decode cX10_comes 31 = .ok (.goto 5, 3) := by decide +kernel
theorem dX10_comes_34 : decode cX10_comes 34 = .ok (.bipush (-5), 2) := by decide +kernel
theorem dX10_comes_36 : decode cX10_comes 36 = .ok (.istore_n 2, 1) := by decide +kernel
theorem dX10_comes_37 : decode cX10_comes 37 = .ok (.iinc 3 1, 3) := by decide +kernel
theorem dX10_comes_40 : decode cX10_comes 40 = .ok (.goto (-36), 3) := by decide +kernel
theorem dX10_comes_43 : decode cX10_comes 43 = .ok (.iconst 0, 1) := by decide +kernel
theorem dX10_comes_44 : decode cX10_comes 44 = .ok (.istore_n 3, 1) := by decide +kernel
theorem dX10_comes_45 : decode cX10_comes 45 = .ok (.iload_n 3, 1) := by decide +kernel
theorem dX10_comes_46 : decode cX10_comes 46 = .ok (.aload_n 0, 1) := by decide +kernel
theorem dX10_comes_47 : decode cX10_comes 47 = .ok (.getfield 153, 3) := by decide +kernel
theorem dX10_comes_50 : decode cX10_comes 50 = .ok (.if_icmp .ge 72, 3) := by decide +kernel
theorem dX10_comes_53 : decode cX10_comes 53 = .ok (.iload_n 2, 1) := by decide +kernel
theorem dX10_comes_54 : decode cX10_comes 54 = .ok (.ifCond .ne 68, 3) := by decide +kernel
theorem dX10_comes_57 : decode cX10_comes 57 = .ok (.aload_n 0, 1) := by decide +kernel
theorem dX10_comes_58 : decode cX10_comes 58 = .ok (.iload_n 1, 1) := by decide +kernel
theorem dX10_comes_59 : decode cX10_comes 59 = .ok (.invokevirtual 84, 3) := by decide +kernel
theorem dX10_comes_62 : decode cX10_comes 62 = .ok (.bipush 6, 2) := by decide +kernel
theorem dX10_comes_64 : decode cX10_comes 64 = .ok (.if_icmp .ne 29, 3) := by decide +kernel
theorem dX10_comes_67 : decode cX10_comes 67 = .ok (.aload_n 0, 1) := by decide +kernel
theorem dX10_comes_68 : decode cX10_comes 68 = .ok (.iload_n 1, 1) := by decide +kernel
theorem dX10_comes_69 : decode cX10_comes 69 = .ok (.aload_n 0, 1) := by decide +kernel
theorem dX10_comes_70 : decode cX10_comes 70 = .ok (.getfield 30, 3) := by decide +kernel
theorem dX10_comes_73 : decode cX10_comes 73 = .ok (.iload_n 3, 1) := by decide +kernel
theorem dX10_comes_74 : decode cX10_comes 74 = .ok (.iaload, 1) := by decide +kernel
theorem dX10_comes_75 : decode cX10_comes 75 = .ok (.aload_n 0, 1) := by decide +kernel
theorem dX10_comes_76 : decode cX10_comes 76 = .ok (.getfield 36, 3) := by decide +kernel
theorem dX10_comes_79 : decode cX10_comes 79 = .ok (.iload_n 3, 1) := by decide +kernel
theorem dX10_comes_80 : decode cX10_comes 80 = .ok (.iaload, 1) := by decide +kernel
theorem dX10_comes_81 : decode cX10_comes 81 = .ok (.invokevirtual 145, 3) := by decide +kernel
theorem dX10_comes_84 : decode cX10_comes 84 = .ok (.ifCond .ne 9, 3) := by decide +kernel
theorem dX10_comes_87 : decode cX10_comes 87 = .ok (.bipush (-6), 2) := by decide +kernel
theorem dX10_comes_89 : decode cX10_comes 89 = .ok (.istore_n 2, 1) := by decide +kernel
theorem dX10_comes_90 : decode cX10_comes 90 = .ok (.goto 26, 3) := by decide +kernel
theorem dX10_comes_93 : decode cX10_comes 93 = .ok (.aload_n 0, 1) := by decide +kernel
theorem dX10_comes_94 : decode cX10_comes 94 = .ok (.iload_n 1, 1) := by decide +kernel
theorem dX10_comes_95 : decode cX10_comes 95 = .ok (.aload_n 0, 1) := by decide +kernel
theorem dX10_comes_96 : decode cX10_comes 96 = .ok (.getfield 30, 3) := by decide +kernel
theorem dX10_comes_99 : decode cX10_comes 99 = .ok (.iload_n 3, 1) := by decide +kernel
theorem dX10_comes_100 : decode cX10_comes 100 = .ok (.iaload, 1) := by decide +kernel
theorem dX10_comes_101 : decode cX10_comes 101 = .ok (.aload_n 0, 1) := by decide +kernel
theorem dX10_comes_102 : decode cX10_comes 102 = .ok (.getfield 33, 3) := by decide +kernel
theorem dX10_comes_105 : decode cX10_comes 105 = .ok (.iload_n 3, 1) := by decide +kernel
theorem dX10_comes_106 : decode cX10_comes 106 = .ok (.iaload, 1) := by decide +kernel
theorem dX10_comes_107 : decode cX10_comes 107 = .ok (.aload_n 0, 1) := by decide +kernel
theorem dX10_comes_108 : decode cX10_comes 108 = .ok (.getfield 36, 3) := by decide +kernel
theorem dX10_comes_111 : decode cX10_comes 111 = .ok (.iload_n 3, 1) := by decide +kernel
theorem dX10_comes_112 : decode cX10_comes 112 = .ok (.iaload, 1) := by decide +kernel
theorem dX10_comes_113 : decode cX10_comes 113 = .ok (.invokevirtual 251, 3) := by decide +kernel
theorem dX10_comes_116 : decode cX10_comes 116 = .ok (.iinc 3 1, 3) := by decide +kernel
theorem dX10_comes_119 : decode cX10_comes 119 = .ok (.goto (-74), 3) := by decide +kernel
theorem dX10_comes_122 : decode cX10_comes 122 = .ok (.iload_n 2, 1) := by decide +kernel
theorem dX10_comes_123 : decode cX10_comes 123 = .ok (.ireturn, 1) := by decide +kernel
theorem v_X10_comes : yX10_comes.cls = RX10 ∧ yX10_comes.cls ≠ "java/lang/invoke/MethodHandle" ∧ yX10_comes.cls ≠ "java/lang/invoke/VarHandle" ∧ (parseMethodDescriptor yX10_comes.desc).map (fun d => d.parameters.length) = some 1 := ⟨rfl, by decide +kernel, by decide +kernel, by decide +kernel⟩
noncomputable def k_X10_comes_0 (κ : gb_K) : gb_C := (o_ci 0 (o_is 2 (o_ci 0 (o_is 3 (o_j [0, 1, 2, 3] (κ 4))))))
theorem l_X10_comes_0 : gb_Li (fun κ => k_X10_comes_0 κ) := (gb_li (q_ci 0) (gb_li (q_is 2) (gb_li (q_ci 0) (gb_li (q_is 3) (q_j [0, 1, 2, 3] 4)))))
theorem s_X10_comes_0   {κ : gb_K} (hκ : ∀ q, gb_S RX10 cX10_comes 4 (gb_rm 3 71) 1 q (κ q)) : gb_S RX10 cX10_comes 4 (gb_rm 3 71) 1 0 (k_X10_comes_0 κ) := (s_iconst (by decide +kernel) dX10_comes_0 (s_isn 2 rfl (Nat.le_of_ble_eq_true rfl) dX10_comes_1 (s_iconst (by decide +kernel) dX10_comes_2 (s_isn 3 rfl (Nat.le_of_ble_eq_true rfl) dX10_comes_3 (s_j (hκ 4))))))
noncomputable def k_X10_comes_36 (κ : gb_K) : gb_C := (o_is 2 (o_inc 3 1 (o_j [0, 1, 2, 3] (κ 4))))
theorem l_X10_comes_36 : gb_Li (fun κ => k_X10_comes_36 κ) := (gb_li (q_is 2) (gb_li (q_inc 3 1) (q_j [0, 1, 2, 3] 4)))
theorem s_X10_comes_36   {κ : gb_K} (hκ : ∀ q, gb_S RX10 cX10_comes 4 (gb_rm 3 71) 1 q (κ q)) : gb_S RX10 cX10_comes 4 (gb_rm 3 71) 1 36 (k_X10_comes_36 κ) := (s_isn 2 rfl (Nat.le_of_ble_eq_true rfl) dX10_comes_36 (s_inc (by decide +kernel) (Nat.le_of_ble_eq_true rfl) dX10_comes_37 (s_goto (tgt := 4) (by decide +kernel) dX10_comes_40 (s_j (hκ 4)))))
noncomputable def k_X10_comes_43 (κ : gb_K) : gb_C := (o_ci 0 (o_is 3 (o_j [0, 1, 2, 3] (κ 45))))
theorem l_X10_comes_43 : gb_Li (fun κ => k_X10_comes_43 κ) := (gb_li (q_ci 0) (gb_li (q_is 3) (q_j [0, 1, 2, 3] 45)))
theorem s_X10_comes_43   {κ : gb_K} (hκ : ∀ q, gb_S RX10 cX10_comes 4 (gb_rm 3 71) 1 q (κ q)) : gb_S RX10 cX10_comes 4 (gb_rm 3 71) 1 43 (k_X10_comes_43 κ) := (s_iconst (by decide +kernel) dX10_comes_43 (s_isn 3 rfl (Nat.le_of_ble_eq_true rfl) dX10_comes_44 (s_j (hκ 45))))
noncomputable def k_X10_comes_4 (κ : gb_K) : gb_C := (o_il 3 (o_al 0 (o_gf 10 14 (o_cge (k_X10_comes_43 κ) (o_il 2 (o_zeq (o_al 0 (o_il 1 (o_al 0 (o_gf 10 11 (o_il 3 (o_iald (o_cv 2 10 2 f_X10_mayMix (o_zeq (o_ci (-5) (k_X10_comes_36 κ)) (o_ci 0 (k_X10_comes_36 κ)))))))))) (k_X10_comes_43 κ)))))))
theorem l_X10_comes_4 : gb_Li (fun κ => k_X10_comes_4 κ) := (gb_li (q_il 3) (gb_li (q_al 0) (gb_li (q_gf 10 14) (q_cge (l_X10_comes_43) (gb_li (q_il 2) (q_zeq (gb_li (q_al 0) (gb_li (q_il 1) (gb_li (q_al 0) (gb_li (q_gf 10 11) (gb_li (q_il 3) (gb_li q_iald (gb_li (q_cv 2 10 2 f_X10_mayMix) (q_zeq (gb_li (q_ci (-5)) (l_X10_comes_36)) (gb_li (q_ci 0) (l_X10_comes_36)))))))))) (l_X10_comes_43)))))))
theorem s_X10_comes_4   {κ : gb_K} (hκ : ∀ q, gb_S RX10 cX10_comes 4 (gb_rm 3 71) 1 q (κ q)) : gb_S RX10 cX10_comes 4 (gb_rm 3 71) 1 4 (k_X10_comes_4 κ) := (s_iln 3 rfl dX10_comes_4 (s_aln 0 rfl dX10_comes_5 (s_gf (T := TX10) winX10 rfl (Nat.le_of_ble_eq_true rfl) gw_630 rfl dX10_comes_6 (s_cge (tgt := 43) (by decide +kernel) dX10_comes_9 (s_X10_comes_43 hκ) (s_iln 2 rfl dX10_comes_12 (s_zne (tgt := 43) (by decide +kernel) dX10_comes_13 (s_X10_comes_43 hκ) (s_aln 0 rfl dX10_comes_16 (s_iln 1 rfl dX10_comes_17 (s_aln 0 rfl dX10_comes_18 (s_gf (T := TX10) winX10 rfl (Nat.le_of_ble_eq_true rfl) gw_632 rfl dX10_comes_19 (s_iln 3 rfl dX10_comes_22 (s_iald dX10_comes_23 (s_cv (C := RX10) c_X10_mayMix rfl (gb_l5 gw_622 gw_623 gw_624 gw_553 gw_625) v_X10_mayMix ⟨rfl, rfl⟩ ⟨Nat.le_of_ble_eq_true rfl, Nat.le_of_ble_eq_true rfl⟩ dX10_comes_24 (s_zeq (tgt := 34) (by decide +kernel) dX10_comes_27 (s_bipush (by decide +kernel) dX10_comes_34 (s_X10_comes_36 hκ)) (s_iconst (by decide +kernel) dX10_comes_30 (s_goto (tgt := 36) (by decide +kernel) dX10_comes_31 (s_X10_comes_36 hκ)))))))))))))))))
noncomputable def k_X10_comes_116 (κ : gb_K) : gb_C := (o_inc 3 1 (o_j [0, 1, 2, 3] (κ 45)))
theorem l_X10_comes_116 : gb_Li (fun κ => k_X10_comes_116 κ) := (gb_li (q_inc 3 1) (q_j [0, 1, 2, 3] 45))
theorem s_X10_comes_116   {κ : gb_K} (hκ : ∀ q, gb_S RX10 cX10_comes 4 (gb_rm 3 71) 1 q (κ q)) : gb_S RX10 cX10_comes 4 (gb_rm 3 71) 1 116 (k_X10_comes_116 κ) := (s_inc (by decide +kernel) (Nat.le_of_ble_eq_true rfl) dX10_comes_116 (s_goto (tgt := 45) (by decide +kernel) dX10_comes_119 (s_j (hκ 45))))
noncomputable def k_X10_comes_93 (κ : gb_K) : gb_C := (o_al 0 (o_il 1 (o_al 0 (o_gf 10 11 (o_il 3 (o_iald (o_al 0 (o_gf 10 12 (o_il 3 (o_iald (o_al 0 (o_gf 10 13 (o_il 3 (o_iald (o_cv 4 10 0 f_X10_lies (k_X10_comes_116 κ))))))))))))))))
theorem l_X10_comes_93 : gb_Li (fun κ => k_X10_comes_93 κ) := (gb_li (q_al 0) (gb_li (q_il 1) (gb_li (q_al 0) (gb_li (q_gf 10 11) (gb_li (q_il 3) (gb_li q_iald (gb_li (q_al 0) (gb_li (q_gf 10 12) (gb_li (q_il 3) (gb_li q_iald (gb_li (q_al 0) (gb_li (q_gf 10 13) (gb_li (q_il 3) (gb_li q_iald (gb_li (q_cv 4 10 0 f_X10_lies) (l_X10_comes_116))))))))))))))))
theorem s_X10_comes_93   {κ : gb_K} (hκ : ∀ q, gb_S RX10 cX10_comes 4 (gb_rm 3 71) 1 q (κ q)) : gb_S RX10 cX10_comes 4 (gb_rm 3 71) 1 93 (k_X10_comes_93 κ) := (s_aln 0 rfl dX10_comes_93 (s_iln 1 rfl dX10_comes_94 (s_aln 0 rfl dX10_comes_95 (s_gf (T := TX10) winX10 rfl (Nat.le_of_ble_eq_true rfl) gw_632 rfl dX10_comes_96 (s_iln 3 rfl dX10_comes_99 (s_iald dX10_comes_100 (s_aln 0 rfl dX10_comes_101 (s_gf (T := TX10) winX10 rfl (Nat.le_of_ble_eq_true rfl) gw_633 rfl dX10_comes_102 (s_iln 3 rfl dX10_comes_105 (s_iald dX10_comes_106 (s_aln 0 rfl dX10_comes_107 (s_gf (T := TX10) winX10 rfl (Nat.le_of_ble_eq_true rfl) gw_634 rfl dX10_comes_108 (s_iln 3 rfl dX10_comes_111 (s_iald dX10_comes_112 (s_cv (C := RX10) c_X10_lies rfl (gb_l5 gw_709 gw_710 gw_711 gw_553 gw_712) v_X10_lies ⟨rfl, rfl⟩ ⟨Nat.le_of_ble_eq_true rfl, Nat.le_of_ble_eq_true rfl⟩ dX10_comes_113 (s_X10_comes_116 hκ))))))))))))))))
noncomputable def k_X10_comes_122 (κ : gb_K) : gb_C := (o_il 2 o_ri)
theorem l_X10_comes_122 : gb_Li (fun κ => k_X10_comes_122 κ) := (gb_li (q_il 2) (gb_li0 _))
theorem s_X10_comes_122   {κ : gb_K} (hκ : ∀ q, gb_S RX10 cX10_comes 4 (gb_rm 3 71) 1 q (κ q)) : gb_S RX10 cX10_comes 4 (gb_rm 3 71) 1 122 (k_X10_comes_122 κ) := (s_iln 2 rfl dX10_comes_122 (s_ri rfl dX10_comes_123))
noncomputable def k_X10_comes_45 (κ : gb_K) : gb_C := (o_il 3 (o_al 0 (o_gf 10 14 (o_cge (k_X10_comes_122 κ) (o_il 2 (o_zeq (o_al 0 (o_il 1 (o_cv 1 10 1 f_X10_many (o_ci 6 (o_ceq (o_al 0 (o_il 1 (o_al 0 (o_gf 10 11 (o_il 3 (o_iald (o_al 0 (o_gf 10 13 (o_il 3 (o_iald (o_cv 3 10 2 f_X10_isOnTop (o_zeq (o_ci (-6) (o_is 2 (k_X10_comes_116 κ))) (k_X10_comes_93 κ))))))))))))) (k_X10_comes_93 κ)))))) (k_X10_comes_122 κ)))))))
theorem l_X10_comes_45 : gb_Li (fun κ => k_X10_comes_45 κ) := (gb_li (q_il 3) (gb_li (q_al 0) (gb_li (q_gf 10 14) (q_cge (l_X10_comes_122) (gb_li (q_il 2) (q_zeq (gb_li (q_al 0) (gb_li (q_il 1) (gb_li (q_cv 1 10 1 f_X10_many) (gb_li (q_ci 6) (q_ceq (gb_li (q_al 0) (gb_li (q_il 1) (gb_li (q_al 0) (gb_li (q_gf 10 11) (gb_li (q_il 3) (gb_li q_iald (gb_li (q_al 0) (gb_li (q_gf 10 13) (gb_li (q_il 3) (gb_li q_iald (gb_li (q_cv 3 10 2 f_X10_isOnTop) (q_zeq (gb_li (q_ci (-6)) (gb_li (q_is 2) (l_X10_comes_116))) (l_X10_comes_93))))))))))))) (l_X10_comes_93)))))) (l_X10_comes_122)))))))
theorem s_X10_comes_45   {κ : gb_K} (hκ : ∀ q, gb_S RX10 cX10_comes 4 (gb_rm 3 71) 1 q (κ q)) : gb_S RX10 cX10_comes 4 (gb_rm 3 71) 1 45 (k_X10_comes_45 κ) := (s_iln 3 rfl dX10_comes_45 (s_aln 0 rfl dX10_comes_46 (s_gf (T := TX10) winX10 rfl (Nat.le_of_ble_eq_true rfl) gw_630 rfl dX10_comes_47 (s_cge (tgt := 122) (by decide +kernel) dX10_comes_50 (s_X10_comes_122 hκ) (s_iln 2 rfl dX10_comes_53 (s_zne (tgt := 122) (by decide +kernel) dX10_comes_54 (s_X10_comes_122 hκ) (s_aln 0 rfl dX10_comes_57 (s_iln 1 rfl dX10_comes_58 (s_cv (C := RX10) c_X10_many rfl (gb_l5 gw_557 gw_558 gw_559 gw_553 gw_560) v_X10_many ⟨rfl, rfl⟩ ⟨Nat.le_of_ble_eq_true rfl, Nat.le_of_ble_eq_true rfl⟩ dX10_comes_59 (s_bipush (by decide +kernel) dX10_comes_62 (s_cne (tgt := 93) (by decide +kernel) dX10_comes_64 (s_X10_comes_93 hκ) (s_aln 0 rfl dX10_comes_67 (s_iln 1 rfl dX10_comes_68 (s_aln 0 rfl dX10_comes_69 (s_gf (T := TX10) winX10 rfl (Nat.le_of_ble_eq_true rfl) gw_632 rfl dX10_comes_70 (s_iln 3 rfl dX10_comes_73 (s_iald dX10_comes_74 (s_aln 0 rfl dX10_comes_75 (s_gf (T := TX10) winX10 rfl (Nat.le_of_ble_eq_true rfl) gw_634 rfl dX10_comes_76 (s_iln 3 rfl dX10_comes_79 (s_iald dX10_comes_80 (s_cv (C := RX10) c_X10_isOnTop rfl (gb_l5 gw_610 gw_611 gw_612 gw_553 gw_613) v_X10_isOnTop ⟨rfl, rfl⟩ ⟨Nat.le_of_ble_eq_true rfl, Nat.le_of_ble_eq_true rfl⟩ dX10_comes_81 (s_zne (tgt := 93) (by decide +kernel) dX10_comes_84 (s_X10_comes_93 hκ) (s_bipush (by decide +kernel) dX10_comes_87 (s_isn 2 rfl (Nat.le_of_ble_eq_true rfl) dX10_comes_89 (s_goto (tgt := 116) (by decide +kernel) dX10_comes_90 (s_X10_comes_116 hκ)))))))))))))))))))))))))))
noncomputable def B_X10_comes : List (Nat × (gb_K → gb_C)) := [(4, fun κ => k_X10_comes_4 κ), (45, fun κ => k_X10_comes_45 κ)]
noncomputable def K_X10_comes : gb_K := gb_fx (gb_tb (B_X10_comes))
theorem L_X10_comes : ∀ q, gb_Li (fun κ => gb_tb (B_X10_comes) κ q) := gb_tb_li (List.forall_mem_cons.mpr ⟨l_X10_comes_4, List.forall_mem_cons.mpr ⟨l_X10_comes_45, (fun _ h => absurd h List.not_mem_nil)⟩⟩)
theorem S_X10_comes   : ∀ q, gb_S RX10 cX10_comes 4 (gb_rm 3 71) 1 q (K_X10_comes q) := fun q => gb_fx_S (L_X10_comes) (gb_tb_S (List.forall_mem_cons.mpr ⟨fun κ hκ => s_X10_comes_4 hκ, List.forall_mem_cons.mpr ⟨fun κ hκ => s_X10_comes_45 hκ, (fun _ h => absurd h List.not_mem_nil)⟩⟩)) q
noncomputable def f_X10_comes : gb_F := gb_hide (gb_mf 4 (k_X10_comes_0 (K_X10_comes)))
theorem c_X10_comes : ∀ l, gb_Met l yX10_comes cX10_comes 4 (some .int) 1 (gb_rm 3 71) f_X10_comes := gb_hide_c (gb_met (own := RX10) (rk := 1) rfl (by decide +kernel) ⟨rfl, rfl⟩ (s_X10_comes_0 (S_X10_comes)))
theorem dX10_move_0 : decode cX10_move 0 = .ok (.aload_n 0, 1) := by decide +kernel
theorem dX10_move_1 : decode cX10_move 1 = .ok (.iconst 0, 1) := by decide +kernel
theorem dX10_move_2 : decode cX10_move 2 = .ok (.putfield 66, 3) := by decide +kernel
theorem dX10_move_5 : decode cX10_move 5 = .ok (.iload_n 1, 1) := by decide +kernel
theorem dX10_move_6 : decode cX10_move 6 = .ok (.invokestatic 233, 3) := by decide +kernel
theorem dX10_move_9 : decode cX10_move 9 = .ok (.ifCond .eq 22, 3) := by decide +kernel
theorem dX10_move_12 : decode cX10_move 12 = .ok (.iload_n 2, 1) := by decide +kernel
theorem dX10_move_13 : decode cX10_move 13 = .ok (.invokestatic 233, 3) := by decide +kernel
theorem dX10_move_16 : decode cX10_move 16 = .ok (.ifCond .eq 15, 3) := by decide +kernel
theorem dX10_move_19 : decode cX10_move 19 = .ok (.iload_n 1, 1) := by decide +kernel
theorem dX10_move_20 : decode cX10_move 20 = .ok (.iload_n 2, 1) := by decide +kernel
theorem dX10_move_21 : decode cX10_move 21 = .ok (.if_icmp .eq 10, 3) := by decide +kernel
theorem dX10_move_24 : decode cX10_move 24 = .ok (.iload_n 3, 1) := by decide +kernel
theorem dX10_move_25 : decode cX10_move 25 = .ok (.invokestatic 241, 3) := by decide +kernel
theorem dX10_move_28 : decode cX10_move 28 = .ok (.ifCond .ne 5, 3) := by decide +kernel
theorem dX10_move_31 : decode cX10_move 31 = .ok (.iconst (-1), 1) := by decide +kernel
theorem dX10_move_32 : decode cX10_move 32 = .ok (.ireturn, 1) := by decide +kernel
theorem dX10_move_33 : decode cX10_move 33 = .ok (.aload_n 0, 1) := by decide +kernel
theorem dX10_move_34 : decode cX10_move 34 = .ok (.iload_n 1, 1) := by decide +kernel
theorem dX10_move_35 : decode cX10_move 35 = .ok (.invokevirtual 134, 3) := by decide +kernel
theorem dX10_move_38 : decode cX10_move 38 = .ok (.ifCond .ne 11, 3) := by decide +kernel
theorem dX10_move_41 : decode cX10_move 41 = .ok (.aload_n 0, 1) := by decide +kernel
theorem dX10_move_42 : decode cX10_move 42 = .ok (.iload_n 2, 1) := by decide +kernel
theorem dX10_move_43 : decode cX10_move 43 = .ok (.invokevirtual 134, 3) := by decide +kernel
theorem dX10_move_46 : decode cX10_move 46 = .ok (.ifCond .eq 6, 3) := by decide +kernel
theorem dX10_move_49 : decode cX10_move 49 = .ok (.bipush (-2), 2) := by decide +kernel
theorem dX10_move_51 : decode cX10_move 51 = .ok (.ireturn, 1) := by decide +kernel
theorem dX10_move_52 : decode cX10_move 52 = .ok (.aload_n 0, 1) := by decide +kernel
theorem dX10_move_53 : decode cX10_move 53 = .ok (.iload_n 1, 1) := by decide +kernel
theorem dX10_move_54 : decode cX10_move 54 = .ok (.invokevirtual 138, 3) := by decide +kernel
theorem dX10_move_57 : decode cX10_move 57 = .ok (.iload_n 3, 1) := by decide +kernel
theorem dX10_move_58 : decode cX10_move 58 = .ok (.if_icmp .ge 6, 3) := by decide +kernel
theorem dX10_move_61 : decode cX10_move 61 = .ok (.bipush (-3), 2) := by decide +kernel
theorem dX10_move_63 : decode cX10_move 63 = .ok (.ireturn, 1) := by decide +kernel
theorem dX10_move_64 : decode cX10_move 64 = .ok (.aload_n 0, 1) := by decide +kernel
theorem dX10_move_65 : decode cX10_move 65 = .ok (.iload_n 2, 1) := by decide +kernel
theorem dX10_move_66 : decode cX10_move 66 = .ok (.invokevirtual 138, 3) := by decide +kernel
theorem dX10_move_69 : decode cX10_move 69 = .ok (.iload_n 3, 1) := by decide +kernel
theorem dX10_move_70 : decode cX10_move 70 = .ok (.iadd, 1) := by decide +kernel
theorem dX10_move_71 : decode cX10_move 71 = .ok (.aload_n 0, 1) := by decide +kernel
theorem dX10_move_72 : decode cX10_move 72 = .ok (.getfield 7, 3) := by decide +kernel
theorem dX10_move_75 : decode cX10_move 75 = .ok (.bipush 48, 2) := by decide +kernel
theorem dX10_move_77 : decode cX10_move 77 = .ok (.iload_n 2, 1) := by decide +kernel
theorem dX10_move_78 : decode cX10_move 78 = .ok (.iadd, 1) := by decide +kernel
theorem dX10_move_79 : decode cX10_move 79 = .ok (.iaload, 1) := by decide +kernel
theorem dX10_move_80 : decode cX10_move 80 = .ok (.if_icmp .le 6, 3) := by decide +kernel
theorem dX10_move_83 : decode cX10_move 83 = .ok (.bipush (-4), 2) := by decide +kernel
theorem dX10_move_85 : decode cX10_move 85 = .ok (.ireturn, 1) := by decide +kernel
theorem dX10_move_86 : decode cX10_move 86 = .ok (.aload_n 0, 1) := by decide +kernel
theorem dX10_move_87 : decode cX10_move 87 = .ok (.invokevirtual 95, 3) := by decide +kernel
theorem dX10_move_90 : decode cX10_move 90 = .ok (.aload_n 0, 1) := by decide +kernel
theorem dX10_move_91 : decode cX10_move 91 = .ok (.iload_n 1, 1) := by decide +kernel
theorem dX10_move_92 : decode cX10_move 92 = .ok (.invokevirtual 266, 3) := by decide +kernel
theorem dX10_move_95 : decode cX10_move 95 = .ok (.aload_n 0, 1) := by decide +kernel
theorem dX10_move_96 : decode cX10_move 96 = .ok (.iload_n 2, 1) := by decide +kernel
theorem dX10_move_97 : decode cX10_move 97 = .ok (.invokevirtual 266, 3) := by decide +kernel
theorem dX10_move_100 : decode cX10_move 100 = .ok (.iadd, 1) := by decide +kernel
theorem dX10_move_101 : decode cX10_move 101 = .ok (.istore 4, 2) := by decide +kernel
theorem dX10_move_103 : decode cX10_move 103 = .ok (.aload_n 0, 1) := by decide +kernel
theorem dX10_move_104 : decode cX10_move 104 = .ok (.iload_n 1, 1) := by decide +kernel
theorem dX10_move_105 : decode cX10_move 105 = .ok (.iload_n 3, 1) := by decide +kernel
theorem dX10_move_106 : decode cX10_move 106 = .ok (.invokevirtual 255, 3) := by decide +kernel
theorem dX10_move_109 : decode cX10_move 109 = .ok (.aload_n 0, 1) := by decide +kernel
theorem dX10_move_110 : decode cX10_move 110 = .ok (.iload_n 2, 1) := by decide +kernel
theorem dX10_move_111 : decode cX10_move 111 = .ok (.invokevirtual 269, 3) := by decide +kernel
theorem dX10_move_114 : decode cX10_move 114 = .ok (.istore 5, 2) := by decide +kernel
theorem dX10_move_116 : decode cX10_move 116 = .ok (.iload 5, 2) := by decide +kernel
theorem dX10_move_118 : decode cX10_move 118 = .ok (.ifCond .eq 10, 3) := by decide +kernel
theorem dX10_move_121 : decode cX10_move 121 = .ok (.aload_n 0, 1) := by decide +kernel
theorem dX10_move_122 : decode cX10_move 122 = .ok (.invokevirtual 272, 3) := by decide +kernel
theorem dX10_move_125 : decode cX10_move 125 = .ok (.iload 5, 2) := by decide +kernel
theorem dX10_move_127 : decode cX10_move 127 = .ok (.ireturn, 1) := by decide +kernel
theorem dX10_move_128 : decode cX10_move 128 = .ok (.aload_n 0, 1) := by decide +kernel
theorem dX10_move_129 : decode cX10_move 129 = .ok (.invokevirtual 98, 3) := by decide +kernel
theorem dX10_move_132 : decode cX10_move 132 = .ok (.aload_n 0, 1) := by decide +kernel
theorem dX10_move_133 : decode cX10_move 133 = .ok (.iconst 0, 1) := by decide +kernel
theorem dX10_move_134 : decode cX10_move 134 = .ok (.putfield 70, 3) := by decide +kernel
theorem dX10_move_137 : decode cX10_move 137 = .ok (.aload_n 0, 1) := by decide +kernel
theorem dX10_move_138 : decode cX10_move 138 = .ok (.iload 4, 2) := by decide +kernel
theorem dX10_move_140 : decode cX10_move 140 = .ok (.i2l, 1) := by decide +kernel
theorem dX10_move_141 : decode cX10_move 141 = .ok (.invokevirtual 259, 3) := by decide +kernel
theorem dX10_move_144 : decode cX10_move 144 = .ok (.aload_n 0, 1) := by decide +kernel
theorem dX10_move_145 : decode cX10_move 145 = .ok (.aload_n 0, 1) := by decide +kernel
theorem dX10_move_146 : decode cX10_move 146 = .ok (.iload_n 1, 1) := by decide +kernel
theorem dX10_move_147 : decode cX10_move 147 = .ok (.invokevirtual 266, 3) := by decide +kernel
theorem dX10_move_150 : decode cX10_move 150 = .ok (.aload_n 0, 1) := by decide +kernel
theorem dX10_move_151 : decode cX10_move 151 = .ok (.iload_n 2, 1) := by decide +kernel
theorem dX10_move_152 : decode cX10_move 152 = .ok (.invokevirtual 266, 3) := by decide +kernel
theorem dX10_move_155 : decode cX10_move 155 = .ok (.iadd, 1) := by decide +kernel
theorem dX10_move_156 : decode cX10_move 156 = .ok (.i2l, 1) := by decide +kernel
theorem dX10_move_157 : decode cX10_move 157 = .ok (.invokevirtual 259, 3) := by decide +kernel
theorem dX10_move_160 : decode cX10_move 160 = .ok (.aload_n 0, 1) := by decide +kernel
theorem dX10_move_161 : decode cX10_move 161 = .ok (.iload_n 2, 1) := by decide +kernel
theorem dX10_move_162 : decode cX10_move 162 = .ok (.invokevirtual 138, 3) := by decide +kernel
theorem dX10_move_165 : decode cX10_move 165 = .ok (.ireturn, 1) := by decide +kernel
theorem v_X10_move : yX10_move.cls = RX10 ∧ yX10_move.cls ≠ "java/lang/invoke/MethodHandle" ∧ yX10_move.cls ≠ "java/lang/invoke/VarHandle" ∧ (parseMethodDescriptor yX10_move.desc).map (fun d => d.parameters.length) = some 3 := ⟨rfl, by decide +kernel, by decide +kernel, by decide +kernel⟩
noncomputable def k_X10_move_31 (κ : gb_K) : gb_C := (o_ci (-1) o_ri)
theorem l_X10_move_31 : gb_Li (fun κ => k_X10_move_31 κ) := (gb_li (q_ci (-1)) (gb_li0 _))
theorem s_X10_move_31   {κ : gb_K} (hκ : ∀ q, gb_S RX10 cX10_move 6 (gb_rm 6 137) 1 q (κ q)) : gb_S RX10 cX10_move 6 (gb_rm 6 137) 1 31 (k_X10_move_31 κ) := (s_iconst (by decide +kernel) dX10_move_31 (s_ri rfl dX10_move_32))
noncomputable def k_X10_move_49 (κ : gb_K) : gb_C := (o_ci (-2) o_ri)
theorem l_X10_move_49 : gb_Li (fun κ => k_X10_move_49 κ) := (gb_li (q_ci (-2)) (gb_li0 _))
theorem s_X10_move_49   {κ : gb_K} (hκ : ∀ q, gb_S RX10 cX10_move 6 (gb_rm 6 137) 1 q (κ q)) : gb_S RX10 cX10_move 6 (gb_rm 6 137) 1 49 (k_X10_move_49 κ) := (s_bipush (by decide +kernel) dX10_move_49 (s_ri rfl dX10_move_51))
noncomputable def k_X10_move_121 (κ : gb_K) : gb_C := (o_al 0 (o_cv 0 10 0 f_X10_putsBack (o_il 5 o_ri)))
theorem l_X10_move_121 : gb_Li (fun κ => k_X10_move_121 κ) := (gb_li (q_al 0) (gb_li (q_cv 0 10 0 f_X10_putsBack) (gb_li (q_il 5) (gb_li0 _))))
theorem s_X10_move_121   {κ : gb_K} (hκ : ∀ q, gb_S RX10 cX10_move 6 (gb_rm 6 137) 1 q (κ q)) : gb_S RX10 cX10_move 6 (gb_rm 6 137) 1 121 (k_X10_move_121 κ) := (s_aln 0 rfl dX10_move_121 (s_cv (C := RX10) c_X10_putsBack rfl (gb_l5 gw_736 gw_737 gw_738 gw_553 gw_739) v_X10_putsBack ⟨rfl, rfl⟩ ⟨Nat.le_of_ble_eq_true rfl, Nat.le_of_ble_eq_true rfl⟩ dX10_move_122 (s_il dX10_move_125 (s_ri rfl dX10_move_127))))
noncomputable def k_X10_move_128 (κ : gb_K) : gb_C := (o_al 0 (o_cv 0 10 0 f_X10_did (o_al 0 (o_ci 0 (o_pf 10 9 (o_al 0 (o_il 4 (o_i2l (o_cv 1 10 0 f_X10_tell (o_al 0 (o_al 0 (o_il 1 (o_cv 1 10 1 f_X10_valueOf (o_al 0 (o_il 2 (o_cv 1 10 1 f_X10_valueOf (o_ib (fun x y => x + y) (o_i2l (o_cv 1 10 0 f_X10_tell (o_al 0 (o_il 2 (o_cv 1 10 1 f_X10_tonsIn o_ri))))))))))))))))))))))
theorem l_X10_move_128 : gb_Li (fun κ => k_X10_move_128 κ) := (gb_li (q_al 0) (gb_li (q_cv 0 10 0 f_X10_did) (gb_li (q_al 0) (gb_li (q_ci 0) (gb_li (q_pf 10 9) (gb_li (q_al 0) (gb_li (q_il 4) (gb_li q_i2l (gb_li (q_cv 1 10 0 f_X10_tell) (gb_li (q_al 0) (gb_li (q_al 0) (gb_li (q_il 1) (gb_li (q_cv 1 10 1 f_X10_valueOf) (gb_li (q_al 0) (gb_li (q_il 2) (gb_li (q_cv 1 10 1 f_X10_valueOf) (gb_li (q_ib _) (gb_li q_i2l (gb_li (q_cv 1 10 0 f_X10_tell) (gb_li (q_al 0) (gb_li (q_il 2) (gb_li (q_cv 1 10 1 f_X10_tonsIn) (gb_li0 _)))))))))))))))))))))))
theorem s_X10_move_128   {κ : gb_K} (hκ : ∀ q, gb_S RX10 cX10_move 6 (gb_rm 6 137) 1 q (κ q)) : gb_S RX10 cX10_move 6 (gb_rm 6 137) 1 128 (k_X10_move_128 κ) := (s_aln 0 rfl dX10_move_128 (s_cv (C := RX10) c_X10_did rfl (gb_l5 gw_572 gw_573 gw_574 gw_553 gw_575) v_X10_did ⟨rfl, rfl⟩ ⟨Nat.le_of_ble_eq_true rfl, Nat.le_of_ble_eq_true rfl⟩ dX10_move_129 (s_aln 0 rfl dX10_move_132 (s_iconst (by decide +kernel) dX10_move_133 (s_pf (T := TX10) winX10 rfl (Nat.le_of_ble_eq_true rfl) tyX10_ok nmX10 rfl (by decide +kernel) gw_548 rfl dX10_move_134 (s_aln 0 rfl dX10_move_137 (s_il dX10_move_138 (s_i2l dX10_move_140 (s_cv (C := RX10) c_X10_tell rfl (gb_l5 gw_732 gw_733 gw_734 gw_553 gw_735) v_X10_tell ⟨rfl, rfl⟩ ⟨Nat.le_of_ble_eq_true rfl, Nat.le_of_ble_eq_true rfl⟩ dX10_move_141 (s_aln 0 rfl dX10_move_144 (s_aln 0 rfl dX10_move_145 (s_iln 1 rfl dX10_move_146 (s_cv (C := RX10) c_X10_valueOf rfl (gb_l5 gw_740 gw_741 gw_742 gw_553 gw_743) v_X10_valueOf ⟨rfl, rfl⟩ ⟨Nat.le_of_ble_eq_true rfl, Nat.le_of_ble_eq_true rfl⟩ dX10_move_147 (s_aln 0 rfl dX10_move_150 (s_iln 2 rfl dX10_move_151 (s_cv (C := RX10) c_X10_valueOf rfl (gb_l5 gw_740 gw_741 gw_742 gw_553 gw_743) v_X10_valueOf ⟨rfl, rfl⟩ ⟨Nat.le_of_ble_eq_true rfl, Nat.le_of_ble_eq_true rfl⟩ dX10_move_152 (s_iadd dX10_move_155 (s_i2l dX10_move_156 (s_cv (C := RX10) c_X10_tell rfl (gb_l5 gw_732 gw_733 gw_734 gw_553 gw_735) v_X10_tell ⟨rfl, rfl⟩ ⟨Nat.le_of_ble_eq_true rfl, Nat.le_of_ble_eq_true rfl⟩ dX10_move_157 (s_aln 0 rfl dX10_move_160 (s_iln 2 rfl dX10_move_161 (s_cv (C := RX10) c_X10_tonsIn rfl (gb_l5 gw_618 gw_619 gw_620 gw_553 gw_621) v_X10_tonsIn ⟨rfl, rfl⟩ ⟨Nat.le_of_ble_eq_true rfl, Nat.le_of_ble_eq_true rfl⟩ dX10_move_162 (s_ri rfl dX10_move_165)))))))))))))))))))))))
noncomputable def k_X10_move_66 (κ : gb_K) : gb_C := (o_cv 1 10 1 f_X10_tonsIn (o_il 3 (o_ib (fun x y => x + y) (o_al 0 (o_gf 10 0 (o_ci 48 (o_il 2 (o_ib (fun x y => x + y) (o_iald (o_cle (o_al 0 (o_cv 0 10 0 f_X10_keepsAside (o_al 0 (o_il 1 (o_cv 1 10 1 f_X10_valueOf (o_al 0 (o_il 2 (o_cv 1 10 1 f_X10_valueOf (o_ib (fun x y => x + y) (o_is 4 (o_al 0 (o_il 1 (o_il 3 (o_cv 2 10 0 f_X10_goes (o_al 0 (o_il 2 (o_cv 1 10 1 f_X10_comes (o_is 5 (o_il 5 (o_zeq (k_X10_move_128 κ) (k_X10_move_121 κ))))))))))))))))))))) (o_ci (-4) o_ri)))))))))))
theorem l_X10_move_66 : gb_Li (fun κ => k_X10_move_66 κ) := (gb_li (q_cv 1 10 1 f_X10_tonsIn) (gb_li (q_il 3) (gb_li (q_ib _) (gb_li (q_al 0) (gb_li (q_gf 10 0) (gb_li (q_ci 48) (gb_li (q_il 2) (gb_li (q_ib _) (gb_li q_iald (q_cle (gb_li (q_al 0) (gb_li (q_cv 0 10 0 f_X10_keepsAside) (gb_li (q_al 0) (gb_li (q_il 1) (gb_li (q_cv 1 10 1 f_X10_valueOf) (gb_li (q_al 0) (gb_li (q_il 2) (gb_li (q_cv 1 10 1 f_X10_valueOf) (gb_li (q_ib _) (gb_li (q_is 4) (gb_li (q_al 0) (gb_li (q_il 1) (gb_li (q_il 3) (gb_li (q_cv 2 10 0 f_X10_goes) (gb_li (q_al 0) (gb_li (q_il 2) (gb_li (q_cv 1 10 1 f_X10_comes) (gb_li (q_is 5) (gb_li (q_il 5) (q_zeq (l_X10_move_128) (l_X10_move_121))))))))))))))))))))) (gb_li (q_ci (-4)) (gb_li0 _))))))))))))
theorem s_X10_move_66   {κ : gb_K} (hκ : ∀ q, gb_S RX10 cX10_move 6 (gb_rm 6 137) 1 q (κ q)) : gb_S RX10 cX10_move 6 (gb_rm 6 137) 1 66 (k_X10_move_66 κ) := (s_cv (C := RX10) c_X10_tonsIn rfl (gb_l5 gw_618 gw_619 gw_620 gw_553 gw_621) v_X10_tonsIn ⟨rfl, rfl⟩ ⟨Nat.le_of_ble_eq_true rfl, Nat.le_of_ble_eq_true rfl⟩ dX10_move_66 (s_iln 3 rfl dX10_move_69 (s_iadd dX10_move_70 (s_aln 0 rfl dX10_move_71 (s_gf (T := TX10) winX10 rfl (Nat.le_of_ble_eq_true rfl) gw_545 rfl dX10_move_72 (s_bipush (by decide +kernel) dX10_move_75 (s_iln 2 rfl dX10_move_77 (s_iadd dX10_move_78 (s_iald dX10_move_79 (s_cle (tgt := 86) (by decide +kernel) dX10_move_80 (s_aln 0 rfl dX10_move_86 (s_cv (C := RX10) c_X10_keepsAside rfl (gb_l5 gw_568 gw_569 gw_570 gw_553 gw_571) v_X10_keepsAside ⟨rfl, rfl⟩ ⟨Nat.le_of_ble_eq_true rfl, Nat.le_of_ble_eq_true rfl⟩ dX10_move_87 (s_aln 0 rfl dX10_move_90 (s_iln 1 rfl dX10_move_91 (s_cv (C := RX10) c_X10_valueOf rfl (gb_l5 gw_740 gw_741 gw_742 gw_553 gw_743) v_X10_valueOf ⟨rfl, rfl⟩ ⟨Nat.le_of_ble_eq_true rfl, Nat.le_of_ble_eq_true rfl⟩ dX10_move_92 (s_aln 0 rfl dX10_move_95 (s_iln 2 rfl dX10_move_96 (s_cv (C := RX10) c_X10_valueOf rfl (gb_l5 gw_740 gw_741 gw_742 gw_553 gw_743) v_X10_valueOf ⟨rfl, rfl⟩ ⟨Nat.le_of_ble_eq_true rfl, Nat.le_of_ble_eq_true rfl⟩ dX10_move_97 (s_iadd dX10_move_100 (s_is (Nat.le_of_ble_eq_true rfl) dX10_move_101 (s_aln 0 rfl dX10_move_103 (s_iln 1 rfl dX10_move_104 (s_iln 3 rfl dX10_move_105 (s_cv (C := RX10) c_X10_goes rfl (gb_l5 gw_724 gw_725 gw_726 gw_553 gw_727) v_X10_goes ⟨rfl, rfl⟩ ⟨Nat.le_of_ble_eq_true rfl, Nat.le_of_ble_eq_true rfl⟩ dX10_move_106 (s_aln 0 rfl dX10_move_109 (s_iln 2 rfl dX10_move_110 (s_cv (C := RX10) c_X10_comes rfl (gb_l5 gw_744 gw_745 gw_746 gw_553 gw_747) v_X10_comes ⟨rfl, rfl⟩ ⟨Nat.le_of_ble_eq_true rfl, Nat.le_of_ble_eq_true rfl⟩ dX10_move_111 (s_is (Nat.le_of_ble_eq_true rfl) dX10_move_114 (s_il dX10_move_116 (s_zeq (tgt := 128) (by decide +kernel) dX10_move_118 (s_X10_move_128 hκ) (s_X10_move_121 hκ))))))))))))))))))))) (s_bipush (by decide +kernel) dX10_move_83 (s_ri rfl dX10_move_85))))))))))))
noncomputable def k_X10_move_0 (κ : gb_K) : gb_C := (o_al 0 (o_ci 0 (o_pf 10 10 (o_il 1 (o_cs 1 2 f_X10_isBin (o_zeq (k_X10_move_31 κ) (o_il 2 (o_cs 1 2 f_X10_isBin (o_zeq (k_X10_move_31 κ) (o_il 1 (o_il 2 (o_ceq (k_X10_move_31 κ) (o_il 3 (o_cs 1 2 f_X10_isLoad (o_zeq (k_X10_move_31 κ) (o_al 0 (o_il 1 (o_cv 1 10 2 f_X10_isClosed (o_zeq (o_al 0 (o_il 2 (o_cv 1 10 2 f_X10_isClosed (o_zeq (o_al 0 (o_il 1 (o_cv 1 10 1 f_X10_tonsIn (o_il 3 (o_cge (o_al 0 (o_il 2 (k_X10_move_66 κ))) (o_ci (-3) o_ri)))))) (k_X10_move_49 κ))))) (k_X10_move_49 κ))))))))))))))))))))
theorem l_X10_move_0 : gb_Li (fun κ => k_X10_move_0 κ) := (gb_li (q_al 0) (gb_li (q_ci 0) (gb_li (q_pf 10 10) (gb_li (q_il 1) (gb_li (q_cs 1 2 f_X10_isBin) (q_zeq (l_X10_move_31) (gb_li (q_il 2) (gb_li (q_cs 1 2 f_X10_isBin) (q_zeq (l_X10_move_31) (gb_li (q_il 1) (gb_li (q_il 2) (q_ceq (l_X10_move_31) (gb_li (q_il 3) (gb_li (q_cs 1 2 f_X10_isLoad) (q_zeq (l_X10_move_31) (gb_li (q_al 0) (gb_li (q_il 1) (gb_li (q_cv 1 10 2 f_X10_isClosed) (q_zeq (gb_li (q_al 0) (gb_li (q_il 2) (gb_li (q_cv 1 10 2 f_X10_isClosed) (q_zeq (gb_li (q_al 0) (gb_li (q_il 1) (gb_li (q_cv 1 10 1 f_X10_tonsIn) (gb_li (q_il 3) (q_cge (gb_li (q_al 0) (gb_li (q_il 2) (l_X10_move_66))) (gb_li (q_ci (-3)) (gb_li0 _))))))) (l_X10_move_49))))) (l_X10_move_49))))))))))))))))))))
theorem s_X10_move_0   {κ : gb_K} (hκ : ∀ q, gb_S RX10 cX10_move 6 (gb_rm 6 137) 1 q (κ q)) : gb_S RX10 cX10_move 6 (gb_rm 6 137) 1 0 (k_X10_move_0 κ) := (s_aln 0 rfl dX10_move_0 (s_iconst (by decide +kernel) dX10_move_1 (s_pf (T := TX10) winX10 rfl (Nat.le_of_ble_eq_true rfl) tyX10_ok nmX10 rfl (by decide +kernel) gw_546 rfl dX10_move_2 (s_iln 1 rfl dX10_move_5 (s_cs c_X10_isBin (gb_l4 gw_705 gw_706 gw_553 gw_707) v_X10_isBin.2 ⟨rfl, rfl⟩ ⟨Nat.le_of_ble_eq_true rfl, Nat.le_of_ble_eq_true rfl⟩ dX10_move_6 (s_zeq (tgt := 31) (by decide +kernel) dX10_move_9 (s_X10_move_31 hκ) (s_iln 2 rfl dX10_move_12 (s_cs c_X10_isBin (gb_l4 gw_705 gw_706 gw_553 gw_707) v_X10_isBin.2 ⟨rfl, rfl⟩ ⟨Nat.le_of_ble_eq_true rfl, Nat.le_of_ble_eq_true rfl⟩ dX10_move_13 (s_zeq (tgt := 31) (by decide +kernel) dX10_move_16 (s_X10_move_31 hκ) (s_iln 1 rfl dX10_move_19 (s_iln 2 rfl dX10_move_20 (s_ceq (tgt := 31) (by decide +kernel) dX10_move_21 (s_X10_move_31 hκ) (s_iln 3 rfl dX10_move_24 (s_cs c_X10_isLoad (gb_l4 gw_713 gw_714 gw_553 gw_715) v_X10_isLoad.2 ⟨rfl, rfl⟩ ⟨Nat.le_of_ble_eq_true rfl, Nat.le_of_ble_eq_true rfl⟩ dX10_move_25 (s_zne (tgt := 33) (by decide +kernel) dX10_move_28 (s_aln 0 rfl dX10_move_33 (s_iln 1 rfl dX10_move_34 (s_cv (C := RX10) c_X10_isClosed rfl (gb_l5 gw_614 gw_615 gw_616 gw_553 gw_617) v_X10_isClosed ⟨rfl, rfl⟩ ⟨Nat.le_of_ble_eq_true rfl, Nat.le_of_ble_eq_true rfl⟩ dX10_move_35 (s_zne (tgt := 49) (by decide +kernel) dX10_move_38 (s_X10_move_49 hκ) (s_aln 0 rfl dX10_move_41 (s_iln 2 rfl dX10_move_42 (s_cv (C := RX10) c_X10_isClosed rfl (gb_l5 gw_614 gw_615 gw_616 gw_553 gw_617) v_X10_isClosed ⟨rfl, rfl⟩ ⟨Nat.le_of_ble_eq_true rfl, Nat.le_of_ble_eq_true rfl⟩ dX10_move_43 (s_zeq (tgt := 52) (by decide +kernel) dX10_move_46 (s_aln 0 rfl dX10_move_52 (s_iln 1 rfl dX10_move_53 (s_cv (C := RX10) c_X10_tonsIn rfl (gb_l5 gw_618 gw_619 gw_620 gw_553 gw_621) v_X10_tonsIn ⟨rfl, rfl⟩ ⟨Nat.le_of_ble_eq_true rfl, Nat.le_of_ble_eq_true rfl⟩ dX10_move_54 (s_iln 3 rfl dX10_move_57 (s_cge (tgt := 64) (by decide +kernel) dX10_move_58 (s_aln 0 rfl dX10_move_64 (s_iln 2 rfl dX10_move_65 (s_X10_move_66 hκ))) (s_bipush (by decide +kernel) dX10_move_61 (s_ri rfl dX10_move_63))))))) (s_X10_move_49 hκ))))))))) (s_X10_move_31 hκ))))))))))))))))
noncomputable def f_X10_move : gb_F := gb_hide (gb_mf 6 (k_X10_move_0 gb_n))
theorem c_X10_move : ∀ l, gb_Met l yX10_move cX10_move 6 (some .int) 1 (gb_rm 6 137) f_X10_move := gb_hide_c (gb_met (own := RX10) (rk := 1) rfl (by decide +kernel) ⟨rfl, rfl⟩ (s_X10_move_0 gb_S_n))
theorem dX10_turn_0 : decode cX10_turn 0 = .ok (.aload_n 0, 1) := by decide +kernel
theorem dX10_turn_1 : decode cX10_turn 1 = .ok (.iconst 0, 1) := by decide +kernel
theorem dX10_turn_2 : decode cX10_turn 2 = .ok (.putfield 66, 3) := by decide +kernel
theorem dX10_turn_5 : decode cX10_turn 5 = .ok (.iload_n 1, 1) := by decide +kernel
theorem dX10_turn_6 : decode cX10_turn 6 = .ok (.invokestatic 233, 3) := by decide +kernel
theorem dX10_turn_9 : decode cX10_turn 9 = .ok (.ifCond .ne 5, 3) := by decide +kernel
theorem dX10_turn_12 : decode cX10_turn 12 = .ok (.iconst (-1), 1) := by decide +kernel
theorem dX10_turn_13 : decode cX10_turn 13 = .ok (.ireturn, 1) := by decide +kernel
theorem dX10_turn_14 : decode cX10_turn 14 = .ok (.aload_n 0, 1) := by decide +kernel
theorem dX10_turn_15 : decode cX10_turn 15 = .ok (.iload_n 1, 1) := by decide +kernel
theorem dX10_turn_16 : decode cX10_turn 16 = .ok (.invokevirtual 134, 3) := by decide +kernel
theorem dX10_turn_19 : decode cX10_turn 19 = .ok (.ifCond .eq 6, 3) := by decide +kernel
theorem dX10_turn_22 : decode cX10_turn 22 = .ok (.bipush (-2), 2) := by decide +kernel
theorem dX10_turn_24 : decode cX10_turn 24 = .ok (.ireturn, 1) := by decide +kernel
theorem dX10_turn_25 : decode cX10_turn 25 = .ok (.aload_n 0, 1) := by decide +kernel
theorem dX10_turn_26 : decode cX10_turn 26 = .ok (.invokevirtual 248, 3) := by decide +kernel
theorem dX10_turn_29 : decode cX10_turn 29 = .ok (.aload_n 0, 1) := by decide +kernel
theorem dX10_turn_30 : decode cX10_turn 30 = .ok (.iload_n 1, 1) := by decide +kernel
theorem dX10_turn_31 : decode cX10_turn 31 = .ok (.invokevirtual 84, 3) := by decide +kernel
theorem dX10_turn_34 : decode cX10_turn 34 = .ok (.istore_n 2, 1) := by decide +kernel
theorem dX10_turn_35 : decode cX10_turn 35 = .ok (.iconst 0, 1) := by decide +kernel
theorem dX10_turn_36 : decode cX10_turn 36 = .ok (.istore_n 3, 1) := by decide +kernel
theorem dX10_turn_37 : decode cX10_turn 37 = .ok (.iload_n 3, 1) := by decide +kernel
theorem dX10_turn_38 : decode cX10_turn 38 = .ok (.iload_n 2, 1) := by decide +kernel
theorem dX10_turn_39 : decode cX10_turn 39 = .ok (.if_icmp .ge 60, 3) := by decide +kernel
theorem dX10_turn_42 : decode cX10_turn 42 = .ok (.aload_n 0, 1) := by decide +kernel
theorem dX10_turn_43 : decode cX10_turn 43 = .ok (.getfield 30, 3) := by decide +kernel
theorem dX10_turn_46 : decode cX10_turn 46 = .ok (.iload_n 3, 1) := by decide +kernel
theorem dX10_turn_47 : decode cX10_turn 47 = .ok (.aload_n 0, 1) := by decide +kernel
theorem dX10_turn_48 : decode cX10_turn 48 = .ok (.iload_n 1, 1) := by decide +kernel
theorem dX10_turn_49 : decode cX10_turn 49 = .ok (.iload_n 2, 1) := by decide +kernel
theorem dX10_turn_50 : decode cX10_turn 50 = .ok (.iconst 1, 1) := by decide +kernel
theorem dX10_turn_51 : decode cX10_turn 51 = .ok (.isub, 1) := by decide +kernel
theorem dX10_turn_52 : decode cX10_turn 52 = .ok (.iload_n 3, 1) := by decide +kernel
theorem dX10_turn_53 : decode cX10_turn 53 = .ok (.isub, 1) := by decide +kernel
theorem dX10_turn_54 : decode cX10_turn 54 = .ok (.iconst 0, 1) := by decide +kernel
theorem dX10_turn_55 : decode cX10_turn 55 = .ok (.invokevirtual 88, 3) := by decide +kernel
theorem dX10_turn_58 : decode cX10_turn 58 = .ok (.iastore, 1) := by decide +kernel
theorem dX10_turn_59 : decode cX10_turn 59 = .ok (.aload_n 0, 1) := by decide +kernel
theorem dX10_turn_60 : decode cX10_turn 60 = .ok (.getfield 33, 3) := by decide +kernel
theorem dX10_turn_63 : decode cX10_turn 63 = .ok (.iload_n 3, 1) := by decide +kernel
theorem dX10_turn_64 : decode cX10_turn 64 = .ok (.aload_n 0, 1) := by decide +kernel
theorem dX10_turn_65 : decode cX10_turn 65 = .ok (.iload_n 1, 1) := by decide +kernel
theorem dX10_turn_66 : decode cX10_turn 66 = .ok (.iload_n 2, 1) := by decide +kernel
theorem dX10_turn_67 : decode cX10_turn 67 = .ok (.iconst 1, 1) := by decide +kernel
theorem dX10_turn_68 : decode cX10_turn 68 = .ok (.isub, 1) := by decide +kernel
theorem dX10_turn_69 : decode cX10_turn 69 = .ok (.iload_n 3, 1) := by decide +kernel
theorem dX10_turn_70 : decode cX10_turn 70 = .ok (.isub, 1) := by decide +kernel
theorem dX10_turn_71 : decode cX10_turn 71 = .ok (.iconst 1, 1) := by decide +kernel
theorem dX10_turn_72 : decode cX10_turn 72 = .ok (.invokevirtual 88, 3) := by decide +kernel
theorem dX10_turn_75 : decode cX10_turn 75 = .ok (.iastore, 1) := by decide +kernel
theorem dX10_turn_76 : decode cX10_turn 76 = .ok (.aload_n 0, 1) := by decide +kernel
theorem dX10_turn_77 : decode cX10_turn 77 = .ok (.getfield 36, 3) := by decide +kernel
theorem dX10_turn_80 : decode cX10_turn 80 = .ok (.iload_n 3, 1) := by decide +kernel
theorem dX10_turn_81 : decode cX10_turn 81 = .ok (.aload_n 0, 1) := by decide +kernel
theorem dX10_turn_82 : decode cX10_turn 82 = .ok (.iload_n 1, 1) := by decide +kernel
theorem dX10_turn_83 : decode cX10_turn 83 = .ok (.iload_n 2, 1) := by decide +kernel
theorem dX10_turn_84 : decode cX10_turn 84 = .ok (.iconst 1, 1) := by decide +kernel
theorem dX10_turn_85 : decode cX10_turn 85 = .ok (.isub, 1) := by decide +kernel
theorem dX10_turn_86 : decode cX10_turn 86 = .ok (.iload_n 3, 1) := by decide +kernel
theorem dX10_turn_87 : decode cX10_turn 87 = .ok (.isub, 1) := by decide +kernel
theorem dX10_turn_88 : decode cX10_turn 88 = .ok (.iconst 2, 1) := by decide +kernel
theorem dX10_turn_89 : decode cX10_turn 89 = .ok (.invokevirtual 88, 3) := by decide +kernel
theorem dX10_turn_92 : decode cX10_turn 92 = .ok (.iastore, 1) := by decide +kernel
theorem dX10_turn_93 : decode cX10_turn 93 = .ok (.iinc 3 1, 3) := by decide +kernel
theorem dX10_turn_96 : decode cX10_turn 96 = .ok (.goto (-59), 3) := by decide +kernel
theorem dX10_turn_99 : decode cX10_turn 99 = .ok (.aload_n 0, 1) := by decide +kernel
theorem dX10_turn_100 : decode cX10_turn 100 = .ok (.getfield 7, 3) := by decide +kernel
theorem dX10_turn_103 : decode cX10_turn 103 = .ok (.bipush 60, 2) := by decide +kernel
theorem dX10_turn_105 : decode cX10_turn 105 = .ok (.iload_n 1, 1) := by decide +kernel
theorem dX10_turn_106 : decode cX10_turn 106 = .ok (.iadd, 1) := by decide +kernel
theorem dX10_turn_107 : decode cX10_turn 107 = .ok (.iconst 0, 1) := by decide +kernel
theorem dX10_turn_108 : decode cX10_turn 108 = .ok (.iastore, 1) := by decide +kernel
theorem dX10_turn_109 : decode cX10_turn 109 = .ok (.iconst 0, 1) := by decide +kernel
theorem dX10_turn_110 : decode cX10_turn 110 = .ok (.istore_n 3, 1) := by decide +kernel
theorem dX10_turn_111 : decode cX10_turn 111 = .ok (.iload_n 3, 1) := by decide +kernel
theorem dX10_turn_112 : decode cX10_turn 112 = .ok (.iload_n 2, 1) := by decide +kernel
theorem dX10_turn_113 : decode cX10_turn 113 = .ok (.if_icmp .ge 32, 3) := by decide +kernel
theorem dX10_turn_116 : decode cX10_turn 116 = .ok (.aload_n 0, 1) := by decide +kernel
theorem dX10_turn_117 : decode cX10_turn 117 = .ok (.iload_n 1, 1) := by decide +kernel
theorem dX10_turn_118 : decode cX10_turn 118 = .ok (.aload_n 0, 1) := by decide +kernel
theorem dX10_turn_119 : decode cX10_turn 119 = .ok (.getfield 30, 3) := by decide +kernel
theorem dX10_turn_122 : decode cX10_turn 122 = .ok (.iload_n 3, 1) := by decide +kernel
theorem dX10_turn_123 : decode cX10_turn 123 = .ok (.iaload, 1) := by decide +kernel
theorem dX10_turn_124 : decode cX10_turn 124 = .ok (.aload_n 0, 1) := by decide +kernel
theorem dX10_turn_125 : decode cX10_turn 125 = .ok (.getfield 33, 3) := by decide +kernel
theorem dX10_turn_128 : decode cX10_turn 128 = .ok (.iload_n 3, 1) := by decide +kernel
theorem dX10_turn_129 : decode cX10_turn 129 = .ok (.iaload, 1) := by decide +kernel
theorem dX10_turn_130 : decode cX10_turn 130 = .ok (.aload_n 0, 1) := by decide +kernel
theorem dX10_turn_131 : decode cX10_turn 131 = .ok (.getfield 36, 3) := by decide +kernel
theorem dX10_turn_134 : decode cX10_turn 134 = .ok (.iload_n 3, 1) := by decide +kernel
theorem dX10_turn_135 : decode cX10_turn 135 = .ok (.iaload, 1) := by decide +kernel
theorem dX10_turn_136 : decode cX10_turn 136 = .ok (.invokevirtual 251, 3) := by decide +kernel
theorem dX10_turn_139 : decode cX10_turn 139 = .ok (.iinc 3 1, 3) := by decide +kernel
theorem dX10_turn_142 : decode cX10_turn 142 = .ok (.goto (-31), 3) := by decide +kernel
theorem dX10_turn_145 : decode cX10_turn 145 = .ok (.aload_n 0, 1) := by decide +kernel
theorem dX10_turn_146 : decode cX10_turn 146 = .ok (.iconst 0, 1) := by decide +kernel
theorem dX10_turn_147 : decode cX10_turn 147 = .ok (.putfield 70, 3) := by decide +kernel
theorem dX10_turn_150 : decode cX10_turn 150 = .ok (.iconst 0, 1) := by decide +kernel
theorem dX10_turn_151 : decode cX10_turn 151 = .ok (.istore_n 3, 1) := by decide +kernel
theorem dX10_turn_152 : decode cX10_turn 152 = .ok (.iload_n 3, 1) := by decide +kernel
theorem dX10_turn_153 : decode cX10_turn 153 = .ok (.aload_n 0, 1) := by decide +kernel
theorem dX10_turn_154 : decode cX10_turn 154 = .ok (.iload_n 1, 1) := by decide +kernel
theorem dX10_turn_155 : decode cX10_turn 155 = .ok (.invokevirtual 84, 3) := by decide +kernel
theorem dX10_turn_158 : decode cX10_turn 158 = .ok (.if_icmp .ge 21, 3) := by decide +kernel
theorem dX10_turn_161 : decode cX10_turn 161 = .ok (.aload_n 0, 1) := by decide +kernel
theorem dX10_turn_162 : decode cX10_turn 162 = .ok (.aload_n 0, 1) := by decide +kernel
theorem dX10_turn_163 : decode cX10_turn 163 = .ok (.iload_n 1, 1) := by decide +kernel
theorem dX10_turn_164 : decode cX10_turn 164 = .ok (.iload_n 3, 1) := by decide +kernel
theorem dX10_turn_165 : decode cX10_turn 165 = .ok (.iconst 0, 1) := by decide +kernel
theorem dX10_turn_166 : decode cX10_turn 166 = .ok (.invokevirtual 88, 3) := by decide +kernel
theorem dX10_turn_169 : decode cX10_turn 169 = .ok (.i2l, 1) := by decide +kernel
theorem dX10_turn_170 : decode cX10_turn 170 = .ok (.invokevirtual 259, 3) := by decide +kernel
theorem dX10_turn_173 : decode cX10_turn 173 = .ok (.iinc 3 1, 3) := by decide +kernel
theorem dX10_turn_176 : decode cX10_turn 176 = .ok (.goto (-24), 3) := by decide +kernel
theorem dX10_turn_179 : decode cX10_turn 179 = .ok (.aload_n 0, 1) := by decide +kernel
theorem dX10_turn_180 : decode cX10_turn 180 = .ok (.iload_n 1, 1) := by decide +kernel
theorem dX10_turn_181 : decode cX10_turn 181 = .ok (.invokevirtual 84, 3) := by decide +kernel
theorem dX10_turn_184 : decode cX10_turn 184 = .ok (.ireturn, 1) := by decide +kernel
theorem v_X10_turn : yX10_turn.cls = RX10 ∧ yX10_turn.cls ≠ "java/lang/invoke/MethodHandle" ∧ yX10_turn.cls ≠ "java/lang/invoke/VarHandle" ∧ (parseMethodDescriptor yX10_turn.desc).map (fun d => d.parameters.length) = some 1 := ⟨rfl, by decide +kernel, by decide +kernel, by decide +kernel⟩
noncomputable def k_X10_turn_0 (κ : gb_K) : gb_C := (o_al 0 (o_ci 0 (o_pf 10 10 (o_il 1 (o_cs 1 2 f_X10_isBin (o_zeq (o_ci (-1) o_ri) (o_al 0 (o_il 1 (o_cv 1 10 2 f_X10_isClosed (o_zeq (o_al 0 (o_cv 0 10 0 f_X10_does (o_al 0 (o_il 1 (o_cv 1 10 1 f_X10_many (o_is 2 (o_ci 0 (o_is 3 (o_j [0, 1, 2, 3] (κ 37)))))))))) (o_ci (-2) o_ri)))))))))))
theorem l_X10_turn_0 : gb_Li (fun κ => k_X10_turn_0 κ) := (gb_li (q_al 0) (gb_li (q_ci 0) (gb_li (q_pf 10 10) (gb_li (q_il 1) (gb_li (q_cs 1 2 f_X10_isBin) (q_zeq (gb_li (q_ci (-1)) (gb_li0 _)) (gb_li (q_al 0) (gb_li (q_il 1) (gb_li (q_cv 1 10 2 f_X10_isClosed) (q_zeq (gb_li (q_al 0) (gb_li (q_cv 0 10 0 f_X10_does) (gb_li (q_al 0) (gb_li (q_il 1) (gb_li (q_cv 1 10 1 f_X10_many) (gb_li (q_is 2) (gb_li (q_ci 0) (gb_li (q_is 3) (q_j [0, 1, 2, 3] 37))))))))) (gb_li (q_ci (-2)) (gb_li0 _))))))))))))
theorem s_X10_turn_0   {κ : gb_K} (hκ : ∀ q, gb_S RX10 cX10_turn 4 (gb_rm 3 71) 1 q (κ q)) : gb_S RX10 cX10_turn 4 (gb_rm 3 71) 1 0 (k_X10_turn_0 κ) := (s_aln 0 rfl dX10_turn_0 (s_iconst (by decide +kernel) dX10_turn_1 (s_pf (T := TX10) winX10 rfl (Nat.le_of_ble_eq_true rfl) tyX10_ok nmX10 rfl (by decide +kernel) gw_546 rfl dX10_turn_2 (s_iln 1 rfl dX10_turn_5 (s_cs c_X10_isBin (gb_l4 gw_705 gw_706 gw_553 gw_707) v_X10_isBin.2 ⟨rfl, rfl⟩ ⟨Nat.le_of_ble_eq_true rfl, Nat.le_of_ble_eq_true rfl⟩ dX10_turn_6 (s_zne (tgt := 14) (by decide +kernel) dX10_turn_9 (s_aln 0 rfl dX10_turn_14 (s_iln 1 rfl dX10_turn_15 (s_cv (C := RX10) c_X10_isClosed rfl (gb_l5 gw_614 gw_615 gw_616 gw_553 gw_617) v_X10_isClosed ⟨rfl, rfl⟩ ⟨Nat.le_of_ble_eq_true rfl, Nat.le_of_ble_eq_true rfl⟩ dX10_turn_16 (s_zeq (tgt := 25) (by decide +kernel) dX10_turn_19 (s_aln 0 rfl dX10_turn_25 (s_cv (C := RX10) c_X10_does rfl (gb_l5 gw_720 gw_721 gw_722 gw_553 gw_723) v_X10_does ⟨rfl, rfl⟩ ⟨Nat.le_of_ble_eq_true rfl, Nat.le_of_ble_eq_true rfl⟩ dX10_turn_26 (s_aln 0 rfl dX10_turn_29 (s_iln 1 rfl dX10_turn_30 (s_cv (C := RX10) c_X10_many rfl (gb_l5 gw_557 gw_558 gw_559 gw_553 gw_560) v_X10_many ⟨rfl, rfl⟩ ⟨Nat.le_of_ble_eq_true rfl, Nat.le_of_ble_eq_true rfl⟩ dX10_turn_31 (s_isn 2 rfl (Nat.le_of_ble_eq_true rfl) dX10_turn_34 (s_iconst (by decide +kernel) dX10_turn_35 (s_isn 3 rfl (Nat.le_of_ble_eq_true rfl) dX10_turn_36 (s_j (hκ 37)))))))))) (s_bipush (by decide +kernel) dX10_turn_22 (s_ri rfl dX10_turn_24)))))) (s_iconst (by decide +kernel) dX10_turn_12 (s_ri rfl dX10_turn_13))))))))
noncomputable def k_X10_turn_77 (κ : gb_K) : gb_C := (o_gf 10 13 (o_il 3 (o_al 0 (o_il 1 (o_il 2 (o_ci 1 (o_ib (fun x y => x - y) (o_il 3 (o_ib (fun x y => x - y) (o_ci 2 (o_cv 3 10 1 f_X10_layerOf (o_iast (o_inc 3 1 (o_j [0, 1, 2, 3] (κ 37)))))))))))))))
theorem l_X10_turn_77 : gb_Li (fun κ => k_X10_turn_77 κ) := (gb_li (q_gf 10 13) (gb_li (q_il 3) (gb_li (q_al 0) (gb_li (q_il 1) (gb_li (q_il 2) (gb_li (q_ci 1) (gb_li (q_ib _) (gb_li (q_il 3) (gb_li (q_ib _) (gb_li (q_ci 2) (gb_li (q_cv 3 10 1 f_X10_layerOf) (gb_li q_iast (gb_li (q_inc 3 1) (q_j [0, 1, 2, 3] 37))))))))))))))
theorem s_X10_turn_77   {κ : gb_K} (hκ : ∀ q, gb_S RX10 cX10_turn 4 (gb_rm 3 71) 1 q (κ q)) : gb_S RX10 cX10_turn 4 (gb_rm 3 71) 1 77 (k_X10_turn_77 κ) := (s_gf (T := TX10) winX10 rfl (Nat.le_of_ble_eq_true rfl) gw_634 rfl dX10_turn_77 (s_iln 3 rfl dX10_turn_80 (s_aln 0 rfl dX10_turn_81 (s_iln 1 rfl dX10_turn_82 (s_iln 2 rfl dX10_turn_83 (s_iconst (by decide +kernel) dX10_turn_84 (s_isub dX10_turn_85 (s_iln 3 rfl dX10_turn_86 (s_isub dX10_turn_87 (s_iconst (by decide +kernel) dX10_turn_88 (s_cv (C := RX10) c_X10_layerOf rfl (gb_l5 gw_561 gw_562 gw_563 gw_553 gw_564) v_X10_layerOf ⟨rfl, rfl⟩ ⟨Nat.le_of_ble_eq_true rfl, Nat.le_of_ble_eq_true rfl⟩ dX10_turn_89 (s_iast dX10_turn_92 (s_inc (by decide +kernel) (Nat.le_of_ble_eq_true rfl) dX10_turn_93 (s_goto (tgt := 37) (by decide +kernel) dX10_turn_96 (s_j (hκ 37))))))))))))))))
noncomputable def k_X10_turn_37 (κ : gb_K) : gb_C := (o_il 3 (o_il 2 (o_cge (o_al 0 (o_gf 10 0 (o_ci 60 (o_il 1 (o_ib (fun x y => x + y) (o_ci 0 (o_iast (o_ci 0 (o_is 3 (o_j [0, 1, 2, 3] (κ 111))))))))))) (o_al 0 (o_gf 10 11 (o_il 3 (o_al 0 (o_il 1 (o_il 2 (o_ci 1 (o_ib (fun x y => x - y) (o_il 3 (o_ib (fun x y => x - y) (o_ci 0 (o_cv 3 10 1 f_X10_layerOf (o_iast (o_al 0 (o_gf 10 12 (o_il 3 (o_al 0 (o_il 1 (o_il 2 (o_ci 1 (o_ib (fun x y => x - y) (o_il 3 (o_ib (fun x y => x - y) (o_ci 1 (o_cv 3 10 1 f_X10_layerOf (o_iast (o_al 0 (k_X10_turn_77 κ)))))))))))))))))))))))))))))))
theorem l_X10_turn_37 : gb_Li (fun κ => k_X10_turn_37 κ) := (gb_li (q_il 3) (gb_li (q_il 2) (q_cge (gb_li (q_al 0) (gb_li (q_gf 10 0) (gb_li (q_ci 60) (gb_li (q_il 1) (gb_li (q_ib _) (gb_li (q_ci 0) (gb_li q_iast (gb_li (q_ci 0) (gb_li (q_is 3) (q_j [0, 1, 2, 3] 111)))))))))) (gb_li (q_al 0) (gb_li (q_gf 10 11) (gb_li (q_il 3) (gb_li (q_al 0) (gb_li (q_il 1) (gb_li (q_il 2) (gb_li (q_ci 1) (gb_li (q_ib _) (gb_li (q_il 3) (gb_li (q_ib _) (gb_li (q_ci 0) (gb_li (q_cv 3 10 1 f_X10_layerOf) (gb_li q_iast (gb_li (q_al 0) (gb_li (q_gf 10 12) (gb_li (q_il 3) (gb_li (q_al 0) (gb_li (q_il 1) (gb_li (q_il 2) (gb_li (q_ci 1) (gb_li (q_ib _) (gb_li (q_il 3) (gb_li (q_ib _) (gb_li (q_ci 1) (gb_li (q_cv 3 10 1 f_X10_layerOf) (gb_li q_iast (gb_li (q_al 0) (l_X10_turn_77)))))))))))))))))))))))))))))))
theorem s_X10_turn_37   {κ : gb_K} (hκ : ∀ q, gb_S RX10 cX10_turn 4 (gb_rm 3 71) 1 q (κ q)) : gb_S RX10 cX10_turn 4 (gb_rm 3 71) 1 37 (k_X10_turn_37 κ) := (s_iln 3 rfl dX10_turn_37 (s_iln 2 rfl dX10_turn_38 (s_cge (tgt := 99) (by decide +kernel) dX10_turn_39 (s_aln 0 rfl dX10_turn_99 (s_gf (T := TX10) winX10 rfl (Nat.le_of_ble_eq_true rfl) gw_545 rfl dX10_turn_100 (s_bipush (by decide +kernel) dX10_turn_103 (s_iln 1 rfl dX10_turn_105 (s_iadd dX10_turn_106 (s_iconst (by decide +kernel) dX10_turn_107 (s_iast dX10_turn_108 (s_iconst (by decide +kernel) dX10_turn_109 (s_isn 3 rfl (Nat.le_of_ble_eq_true rfl) dX10_turn_110 (s_j (hκ 111))))))))))) (s_aln 0 rfl dX10_turn_42 (s_gf (T := TX10) winX10 rfl (Nat.le_of_ble_eq_true rfl) gw_632 rfl dX10_turn_43 (s_iln 3 rfl dX10_turn_46 (s_aln 0 rfl dX10_turn_47 (s_iln 1 rfl dX10_turn_48 (s_iln 2 rfl dX10_turn_49 (s_iconst (by decide +kernel) dX10_turn_50 (s_isub dX10_turn_51 (s_iln 3 rfl dX10_turn_52 (s_isub dX10_turn_53 (s_iconst (by decide +kernel) dX10_turn_54 (s_cv (C := RX10) c_X10_layerOf rfl (gb_l5 gw_561 gw_562 gw_563 gw_553 gw_564) v_X10_layerOf ⟨rfl, rfl⟩ ⟨Nat.le_of_ble_eq_true rfl, Nat.le_of_ble_eq_true rfl⟩ dX10_turn_55 (s_iast dX10_turn_58 (s_aln 0 rfl dX10_turn_59 (s_gf (T := TX10) winX10 rfl (Nat.le_of_ble_eq_true rfl) gw_633 rfl dX10_turn_60 (s_iln 3 rfl dX10_turn_63 (s_aln 0 rfl dX10_turn_64 (s_iln 1 rfl dX10_turn_65 (s_iln 2 rfl dX10_turn_66 (s_iconst (by decide +kernel) dX10_turn_67 (s_isub dX10_turn_68 (s_iln 3 rfl dX10_turn_69 (s_isub dX10_turn_70 (s_iconst (by decide +kernel) dX10_turn_71 (s_cv (C := RX10) c_X10_layerOf rfl (gb_l5 gw_561 gw_562 gw_563 gw_553 gw_564) v_X10_layerOf ⟨rfl, rfl⟩ ⟨Nat.le_of_ble_eq_true rfl, Nat.le_of_ble_eq_true rfl⟩ dX10_turn_72 (s_iast dX10_turn_75 (s_aln 0 rfl dX10_turn_76 (s_X10_turn_77 hκ)))))))))))))))))))))))))))))))
noncomputable def k_X10_turn_111 (κ : gb_K) : gb_C := (o_il 3 (o_il 2 (o_cge (o_al 0 (o_ci 0 (o_pf 10 9 (o_ci 0 (o_is 3 (o_j [0, 1, 3] (κ 152))))))) (o_al 0 (o_il 1 (o_al 0 (o_gf 10 11 (o_il 3 (o_iald (o_al 0 (o_gf 10 12 (o_il 3 (o_iald (o_al 0 (o_gf 10 13 (o_il 3 (o_iald (o_cv 4 10 0 f_X10_lies (o_inc 3 1 (o_j [0, 1, 2, 3] (κ 111)))))))))))))))))))))
theorem l_X10_turn_111 : gb_Li (fun κ => k_X10_turn_111 κ) := (gb_li (q_il 3) (gb_li (q_il 2) (q_cge (gb_li (q_al 0) (gb_li (q_ci 0) (gb_li (q_pf 10 9) (gb_li (q_ci 0) (gb_li (q_is 3) (q_j [0, 1, 3] 152)))))) (gb_li (q_al 0) (gb_li (q_il 1) (gb_li (q_al 0) (gb_li (q_gf 10 11) (gb_li (q_il 3) (gb_li q_iald (gb_li (q_al 0) (gb_li (q_gf 10 12) (gb_li (q_il 3) (gb_li q_iald (gb_li (q_al 0) (gb_li (q_gf 10 13) (gb_li (q_il 3) (gb_li q_iald (gb_li (q_cv 4 10 0 f_X10_lies) (gb_li (q_inc 3 1) (q_j [0, 1, 2, 3] 111))))))))))))))))))))
theorem s_X10_turn_111   {κ : gb_K} (hκ : ∀ q, gb_S RX10 cX10_turn 4 (gb_rm 3 71) 1 q (κ q)) : gb_S RX10 cX10_turn 4 (gb_rm 3 71) 1 111 (k_X10_turn_111 κ) := (s_iln 3 rfl dX10_turn_111 (s_iln 2 rfl dX10_turn_112 (s_cge (tgt := 145) (by decide +kernel) dX10_turn_113 (s_aln 0 rfl dX10_turn_145 (s_iconst (by decide +kernel) dX10_turn_146 (s_pf (T := TX10) winX10 rfl (Nat.le_of_ble_eq_true rfl) tyX10_ok nmX10 rfl (by decide +kernel) gw_548 rfl dX10_turn_147 (s_iconst (by decide +kernel) dX10_turn_150 (s_isn 3 rfl (Nat.le_of_ble_eq_true rfl) dX10_turn_151 (s_j (hκ 152))))))) (s_aln 0 rfl dX10_turn_116 (s_iln 1 rfl dX10_turn_117 (s_aln 0 rfl dX10_turn_118 (s_gf (T := TX10) winX10 rfl (Nat.le_of_ble_eq_true rfl) gw_632 rfl dX10_turn_119 (s_iln 3 rfl dX10_turn_122 (s_iald dX10_turn_123 (s_aln 0 rfl dX10_turn_124 (s_gf (T := TX10) winX10 rfl (Nat.le_of_ble_eq_true rfl) gw_633 rfl dX10_turn_125 (s_iln 3 rfl dX10_turn_128 (s_iald dX10_turn_129 (s_aln 0 rfl dX10_turn_130 (s_gf (T := TX10) winX10 rfl (Nat.le_of_ble_eq_true rfl) gw_634 rfl dX10_turn_131 (s_iln 3 rfl dX10_turn_134 (s_iald dX10_turn_135 (s_cv (C := RX10) c_X10_lies rfl (gb_l5 gw_709 gw_710 gw_711 gw_553 gw_712) v_X10_lies ⟨rfl, rfl⟩ ⟨Nat.le_of_ble_eq_true rfl, Nat.le_of_ble_eq_true rfl⟩ dX10_turn_136 (s_inc (by decide +kernel) (Nat.le_of_ble_eq_true rfl) dX10_turn_139 (s_goto (tgt := 111) (by decide +kernel) dX10_turn_142 (s_j (hκ 111))))))))))))))))))))))
noncomputable def k_X10_turn_152 (κ : gb_K) : gb_C := (o_il 3 (o_al 0 (o_il 1 (o_cv 1 10 1 f_X10_many (o_cge (o_al 0 (o_il 1 (o_cv 1 10 1 f_X10_many o_ri))) (o_al 0 (o_al 0 (o_il 1 (o_il 3 (o_ci 0 (o_cv 3 10 1 f_X10_layerOf (o_i2l (o_cv 1 10 0 f_X10_tell (o_inc 3 1 (o_j [0, 1, 3] (κ 152))))))))))))))))
theorem l_X10_turn_152 : gb_Li (fun κ => k_X10_turn_152 κ) := (gb_li (q_il 3) (gb_li (q_al 0) (gb_li (q_il 1) (gb_li (q_cv 1 10 1 f_X10_many) (q_cge (gb_li (q_al 0) (gb_li (q_il 1) (gb_li (q_cv 1 10 1 f_X10_many) (gb_li0 _)))) (gb_li (q_al 0) (gb_li (q_al 0) (gb_li (q_il 1) (gb_li (q_il 3) (gb_li (q_ci 0) (gb_li (q_cv 3 10 1 f_X10_layerOf) (gb_li q_i2l (gb_li (q_cv 1 10 0 f_X10_tell) (gb_li (q_inc 3 1) (q_j [0, 1, 3] 152)))))))))))))))
theorem s_X10_turn_152   {κ : gb_K} (hκ : ∀ q, gb_S RX10 cX10_turn 4 (gb_rm 3 71) 1 q (κ q)) : gb_S RX10 cX10_turn 4 (gb_rm 3 71) 1 152 (k_X10_turn_152 κ) := (s_iln 3 rfl dX10_turn_152 (s_aln 0 rfl dX10_turn_153 (s_iln 1 rfl dX10_turn_154 (s_cv (C := RX10) c_X10_many rfl (gb_l5 gw_557 gw_558 gw_559 gw_553 gw_560) v_X10_many ⟨rfl, rfl⟩ ⟨Nat.le_of_ble_eq_true rfl, Nat.le_of_ble_eq_true rfl⟩ dX10_turn_155 (s_cge (tgt := 179) (by decide +kernel) dX10_turn_158 (s_aln 0 rfl dX10_turn_179 (s_iln 1 rfl dX10_turn_180 (s_cv (C := RX10) c_X10_many rfl (gb_l5 gw_557 gw_558 gw_559 gw_553 gw_560) v_X10_many ⟨rfl, rfl⟩ ⟨Nat.le_of_ble_eq_true rfl, Nat.le_of_ble_eq_true rfl⟩ dX10_turn_181 (s_ri rfl dX10_turn_184)))) (s_aln 0 rfl dX10_turn_161 (s_aln 0 rfl dX10_turn_162 (s_iln 1 rfl dX10_turn_163 (s_iln 3 rfl dX10_turn_164 (s_iconst (by decide +kernel) dX10_turn_165 (s_cv (C := RX10) c_X10_layerOf rfl (gb_l5 gw_561 gw_562 gw_563 gw_553 gw_564) v_X10_layerOf ⟨rfl, rfl⟩ ⟨Nat.le_of_ble_eq_true rfl, Nat.le_of_ble_eq_true rfl⟩ dX10_turn_166 (s_i2l dX10_turn_169 (s_cv (C := RX10) c_X10_tell rfl (gb_l5 gw_732 gw_733 gw_734 gw_553 gw_735) v_X10_tell ⟨rfl, rfl⟩ ⟨Nat.le_of_ble_eq_true rfl, Nat.le_of_ble_eq_true rfl⟩ dX10_turn_170 (s_inc (by decide +kernel) (Nat.le_of_ble_eq_true rfl) dX10_turn_173 (s_goto (tgt := 152) (by decide +kernel) dX10_turn_176 (s_j (hκ 152)))))))))))))))))
noncomputable def B_X10_turn : List (Nat × (gb_K → gb_C)) := [(37, fun κ => k_X10_turn_37 κ), (111, fun κ => k_X10_turn_111 κ), (152, fun κ => k_X10_turn_152 κ)]
noncomputable def K_X10_turn : gb_K := gb_fx (gb_tb (B_X10_turn))
theorem L_X10_turn : ∀ q, gb_Li (fun κ => gb_tb (B_X10_turn) κ q) := gb_tb_li (List.forall_mem_cons.mpr ⟨l_X10_turn_37, List.forall_mem_cons.mpr ⟨l_X10_turn_111, List.forall_mem_cons.mpr ⟨l_X10_turn_152, (fun _ h => absurd h List.not_mem_nil)⟩⟩⟩)
theorem S_X10_turn   : ∀ q, gb_S RX10 cX10_turn 4 (gb_rm 3 71) 1 q (K_X10_turn q) := fun q => gb_fx_S (L_X10_turn) (gb_tb_S (List.forall_mem_cons.mpr ⟨fun κ hκ => s_X10_turn_37 hκ, List.forall_mem_cons.mpr ⟨fun κ hκ => s_X10_turn_111 hκ, List.forall_mem_cons.mpr ⟨fun κ hκ => s_X10_turn_152 hκ, (fun _ h => absurd h List.not_mem_nil)⟩⟩⟩)) q
noncomputable def f_X10_turn : gb_F := gb_hide (gb_mf 4 (k_X10_turn_0 (K_X10_turn)))
theorem c_X10_turn : ∀ l, gb_Met l yX10_turn cX10_turn 4 (some .int) 1 (gb_rm 3 71) f_X10_turn := gb_hide_c (gb_met (own := RX10) (rk := 1) rfl (by decide +kernel) ⟨rfl, rfl⟩ (s_X10_turn_0 (S_X10_turn)))
theorem dX10_fumigates_0 : decode cX10_fumigates 0 = .ok (.aload_n 0, 1) := by decide +kernel
theorem dX10_fumigates_1 : decode cX10_fumigates 1 = .ok (.getfield 7, 3) := by decide +kernel
theorem dX10_fumigates_4 : decode cX10_fumigates 4 = .ok (.sipush 174, 3) := by decide +kernel
theorem dX10_fumigates_7 : decode cX10_fumigates 7 = .ok (.iaload, 1) := by decide +kernel
theorem dX10_fumigates_8 : decode cX10_fumigates 8 = .ok (.iload_n 2, 1) := by decide +kernel
theorem dX10_fumigates_9 : decode cX10_fumigates 9 = .ok (.iadd, 1) := by decide +kernel
theorem dX10_fumigates_10 : decode cX10_fumigates 10 = .ok (.istore_n 3, 1) := by decide +kernel
theorem dX10_fumigates_11 : decode cX10_fumigates 11 = .ok (.aload_n 0, 1) := by decide +kernel
theorem dX10_fumigates_12 : decode cX10_fumigates 12 = .ok (.getfield 7, 3) := by decide +kernel
theorem dX10_fumigates_15 : decode cX10_fumigates 15 = .ok (.bipush 54, 2) := by decide +kernel
theorem dX10_fumigates_17 : decode cX10_fumigates 17 = .ok (.iload_n 1, 1) := by decide +kernel
theorem dX10_fumigates_18 : decode cX10_fumigates 18 = .ok (.iadd, 1) := by decide +kernel
theorem dX10_fumigates_19 : decode cX10_fumigates 19 = .ok (.iload_n 3, 1) := by decide +kernel
theorem dX10_fumigates_20 : decode cX10_fumigates 20 = .ok (.iastore, 1) := by decide +kernel
theorem dX10_fumigates_21 : decode cX10_fumigates 21 = .ok (.aload_n 0, 1) := by decide +kernel
theorem dX10_fumigates_22 : decode cX10_fumigates 22 = .ok (.iload_n 1, 1) := by decide +kernel
theorem dX10_fumigates_23 : decode cX10_fumigates 23 = .ok (.invokevirtual 84, 3) := by decide +kernel
theorem dX10_fumigates_26 : decode cX10_fumigates 26 = .ok (.istore 4, 2) := by decide +kernel
theorem dX10_fumigates_28 : decode cX10_fumigates 28 = .ok (.aload_n 0, 1) := by decide +kernel
theorem dX10_fumigates_29 : decode cX10_fumigates 29 = .ok (.getfield 7, 3) := by decide +kernel
theorem dX10_fumigates_32 : decode cX10_fumigates 32 = .ok (.bipush 60, 2) := by decide +kernel
theorem dX10_fumigates_34 : decode cX10_fumigates 34 = .ok (.iload_n 1, 1) := by decide +kernel
theorem dX10_fumigates_35 : decode cX10_fumigates 35 = .ok (.iadd, 1) := by decide +kernel
theorem dX10_fumigates_36 : decode cX10_fumigates 36 = .ok (.iconst 0, 1) := by decide +kernel
theorem dX10_fumigates_37 : decode cX10_fumigates 37 = .ok (.iastore, 1) := by decide +kernel
theorem dX10_fumigates_38 : decode cX10_fumigates 38 = .ok (.iconst 0, 1) := by decide +kernel
theorem dX10_fumigates_39 : decode cX10_fumigates 39 = .ok (.istore 5, 2) := by decide +kernel
theorem dX10_fumigates_41 : decode cX10_fumigates 41 = .ok (.iload 5, 2) := by decide +kernel
theorem dX10_fumigates_43 : decode cX10_fumigates 43 = .ok (.iload 4, 2) := by decide +kernel
theorem dX10_fumigates_45 : decode cX10_fumigates 45 = .ok (.if_icmp .ge 31, 3) := by decide +kernel
theorem dX10_fumigates_48 : decode cX10_fumigates 48 = .ok (.aload_n 0, 1) := by decide +kernel
theorem dX10_fumigates_49 : decode cX10_fumigates 49 = .ok (.iload_n 1, 1) := by decide +kernel
theorem dX10_fumigates_50 : decode cX10_fumigates 50 = .ok (.aload_n 0, 1) := by decide +kernel
theorem dX10_fumigates_51 : decode cX10_fumigates 51 = .ok (.iload_n 1, 1) := by decide +kernel
theorem dX10_fumigates_52 : decode cX10_fumigates 52 = .ok (.iload 5, 2) := by decide +kernel
theorem dX10_fumigates_54 : decode cX10_fumigates 54 = .ok (.iconst 0, 1) := by decide +kernel
theorem dX10_fumigates_55 : decode cX10_fumigates 55 = .ok (.invokevirtual 88, 3) := by decide +kernel
theorem dX10_fumigates_58 : decode cX10_fumigates 58 = .ok (.aload_n 0, 1) := by decide +kernel
theorem dX10_fumigates_59 : decode cX10_fumigates 59 = .ok (.iload_n 1, 1) := by decide +kernel
theorem dX10_fumigates_60 : decode cX10_fumigates 60 = .ok (.iload 5, 2) := by decide +kernel
theorem dX10_fumigates_62 : decode cX10_fumigates 62 = .ok (.iconst 1, 1) := by decide +kernel
theorem dX10_fumigates_63 : decode cX10_fumigates 63 = .ok (.invokevirtual 88, 3) := by decide +kernel
theorem dX10_fumigates_66 : decode cX10_fumigates 66 = .ok (.iload_n 3, 1) := by decide +kernel
theorem dX10_fumigates_67 : decode cX10_fumigates 67 = .ok (.invokevirtual 251, 3) := by decide +kernel
theorem dX10_fumigates_70 : decode cX10_fumigates 70 = .ok (.iinc 5 1, 3) := by decide +kernel
theorem dX10_fumigates_73 : decode cX10_fumigates 73 = .ok (.goto (-32), 3) := by decide +kernel
theorem dX10_fumigates_76 : decode cX10_fumigates 76 = .ok (.return_, 1) := by decide +kernel
theorem v_X10_fumigates : yX10_fumigates.cls = RX10 ∧ yX10_fumigates.cls ≠ "java/lang/invoke/MethodHandle" ∧ yX10_fumigates.cls ≠ "java/lang/invoke/VarHandle" ∧ (parseMethodDescriptor yX10_fumigates.desc).map (fun d => d.parameters.length) = some 2 := ⟨rfl, by decide +kernel, by decide +kernel, by decide +kernel⟩
noncomputable def k_X10_fumigates_0 (κ : gb_K) : gb_C := (o_al 0 (o_gf 10 0 (o_ci 174 (o_iald (o_il 2 (o_ib (fun x y => x + y) (o_is 3 (o_al 0 (o_gf 10 0 (o_ci 54 (o_il 1 (o_ib (fun x y => x + y) (o_il 3 (o_iast (o_al 0 (o_il 1 (o_cv 1 10 1 f_X10_many (o_is 4 (o_al 0 (o_gf 10 0 (o_ci 60 (o_il 1 (o_ib (fun x y => x + y) (o_ci 0 (o_iast (o_ci 0 (o_is 5 (o_j [0, 1, 3, 4, 5] (κ 41)))))))))))))))))))))))))))))
theorem l_X10_fumigates_0 : gb_Li (fun κ => k_X10_fumigates_0 κ) := (gb_li (q_al 0) (gb_li (q_gf 10 0) (gb_li (q_ci 174) (gb_li q_iald (gb_li (q_il 2) (gb_li (q_ib _) (gb_li (q_is 3) (gb_li (q_al 0) (gb_li (q_gf 10 0) (gb_li (q_ci 54) (gb_li (q_il 1) (gb_li (q_ib _) (gb_li (q_il 3) (gb_li q_iast (gb_li (q_al 0) (gb_li (q_il 1) (gb_li (q_cv 1 10 1 f_X10_many) (gb_li (q_is 4) (gb_li (q_al 0) (gb_li (q_gf 10 0) (gb_li (q_ci 60) (gb_li (q_il 1) (gb_li (q_ib _) (gb_li (q_ci 0) (gb_li q_iast (gb_li (q_ci 0) (gb_li (q_is 5) (q_j [0, 1, 3, 4, 5] 41))))))))))))))))))))))))))))
theorem s_X10_fumigates_0   {κ : gb_K} (hκ : ∀ q, gb_S RX10 cX10_fumigates 6 (gb_rm 3 71) 0 q (κ q)) : gb_S RX10 cX10_fumigates 6 (gb_rm 3 71) 0 0 (k_X10_fumigates_0 κ) := (s_aln 0 rfl dX10_fumigates_0 (s_gf (T := TX10) winX10 rfl (Nat.le_of_ble_eq_true rfl) gw_545 rfl dX10_fumigates_1 (s_sipush (by decide +kernel) dX10_fumigates_4 (s_iald dX10_fumigates_7 (s_iln 2 rfl dX10_fumigates_8 (s_iadd dX10_fumigates_9 (s_isn 3 rfl (Nat.le_of_ble_eq_true rfl) dX10_fumigates_10 (s_aln 0 rfl dX10_fumigates_11 (s_gf (T := TX10) winX10 rfl (Nat.le_of_ble_eq_true rfl) gw_545 rfl dX10_fumigates_12 (s_bipush (by decide +kernel) dX10_fumigates_15 (s_iln 1 rfl dX10_fumigates_17 (s_iadd dX10_fumigates_18 (s_iln 3 rfl dX10_fumigates_19 (s_iast dX10_fumigates_20 (s_aln 0 rfl dX10_fumigates_21 (s_iln 1 rfl dX10_fumigates_22 (s_cv (C := RX10) c_X10_many rfl (gb_l5 gw_557 gw_558 gw_559 gw_553 gw_560) v_X10_many ⟨rfl, rfl⟩ ⟨Nat.le_of_ble_eq_true rfl, Nat.le_of_ble_eq_true rfl⟩ dX10_fumigates_23 (s_is (Nat.le_of_ble_eq_true rfl) dX10_fumigates_26 (s_aln 0 rfl dX10_fumigates_28 (s_gf (T := TX10) winX10 rfl (Nat.le_of_ble_eq_true rfl) gw_545 rfl dX10_fumigates_29 (s_bipush (by decide +kernel) dX10_fumigates_32 (s_iln 1 rfl dX10_fumigates_34 (s_iadd dX10_fumigates_35 (s_iconst (by decide +kernel) dX10_fumigates_36 (s_iast dX10_fumigates_37 (s_iconst (by decide +kernel) dX10_fumigates_38 (s_is (Nat.le_of_ble_eq_true rfl) dX10_fumigates_39 (s_j (hκ 41)))))))))))))))))))))))))))))
noncomputable def k_X10_fumigates_41 (κ : gb_K) : gb_C := (o_il 5 (o_il 4 (o_cge o_rv (o_al 0 (o_il 1 (o_al 0 (o_il 1 (o_il 5 (o_ci 0 (o_cv 3 10 1 f_X10_layerOf (o_al 0 (o_il 1 (o_il 5 (o_ci 1 (o_cv 3 10 1 f_X10_layerOf (o_il 3 (o_cv 4 10 0 f_X10_lies (o_inc 5 1 (o_j [0, 1, 3, 4, 5] (κ 41))))))))))))))))))))
theorem l_X10_fumigates_41 : gb_Li (fun κ => k_X10_fumigates_41 κ) := (gb_li (q_il 5) (gb_li (q_il 4) (q_cge (gb_li0 _) (gb_li (q_al 0) (gb_li (q_il 1) (gb_li (q_al 0) (gb_li (q_il 1) (gb_li (q_il 5) (gb_li (q_ci 0) (gb_li (q_cv 3 10 1 f_X10_layerOf) (gb_li (q_al 0) (gb_li (q_il 1) (gb_li (q_il 5) (gb_li (q_ci 1) (gb_li (q_cv 3 10 1 f_X10_layerOf) (gb_li (q_il 3) (gb_li (q_cv 4 10 0 f_X10_lies) (gb_li (q_inc 5 1) (q_j [0, 1, 3, 4, 5] 41)))))))))))))))))))
theorem s_X10_fumigates_41   {κ : gb_K} (hκ : ∀ q, gb_S RX10 cX10_fumigates 6 (gb_rm 3 71) 0 q (κ q)) : gb_S RX10 cX10_fumigates 6 (gb_rm 3 71) 0 41 (k_X10_fumigates_41 κ) := (s_il dX10_fumigates_41 (s_il dX10_fumigates_43 (s_cge (tgt := 76) (by decide +kernel) dX10_fumigates_45 (s_rv rfl dX10_fumigates_76) (s_aln 0 rfl dX10_fumigates_48 (s_iln 1 rfl dX10_fumigates_49 (s_aln 0 rfl dX10_fumigates_50 (s_iln 1 rfl dX10_fumigates_51 (s_il dX10_fumigates_52 (s_iconst (by decide +kernel) dX10_fumigates_54 (s_cv (C := RX10) c_X10_layerOf rfl (gb_l5 gw_561 gw_562 gw_563 gw_553 gw_564) v_X10_layerOf ⟨rfl, rfl⟩ ⟨Nat.le_of_ble_eq_true rfl, Nat.le_of_ble_eq_true rfl⟩ dX10_fumigates_55 (s_aln 0 rfl dX10_fumigates_58 (s_iln 1 rfl dX10_fumigates_59 (s_il dX10_fumigates_60 (s_iconst (by decide +kernel) dX10_fumigates_62 (s_cv (C := RX10) c_X10_layerOf rfl (gb_l5 gw_561 gw_562 gw_563 gw_553 gw_564) v_X10_layerOf ⟨rfl, rfl⟩ ⟨Nat.le_of_ble_eq_true rfl, Nat.le_of_ble_eq_true rfl⟩ dX10_fumigates_63 (s_iln 3 rfl dX10_fumigates_66 (s_cv (C := RX10) c_X10_lies rfl (gb_l5 gw_709 gw_710 gw_711 gw_553 gw_712) v_X10_lies ⟨rfl, rfl⟩ ⟨Nat.le_of_ble_eq_true rfl, Nat.le_of_ble_eq_true rfl⟩ dX10_fumigates_67 (s_inc (by decide +kernel) (Nat.le_of_ble_eq_true rfl) dX10_fumigates_70 (s_goto (tgt := 41) (by decide +kernel) dX10_fumigates_73 (s_j (hκ 41)))))))))))))))))))))
noncomputable def B_X10_fumigates : List (Nat × (gb_K → gb_C)) := [(41, fun κ => k_X10_fumigates_41 κ)]
noncomputable def K_X10_fumigates : gb_K := gb_fx (gb_tb (B_X10_fumigates))
theorem L_X10_fumigates : ∀ q, gb_Li (fun κ => gb_tb (B_X10_fumigates) κ q) := gb_tb_li (List.forall_mem_cons.mpr ⟨l_X10_fumigates_41, (fun _ h => absurd h List.not_mem_nil)⟩)
theorem S_X10_fumigates   : ∀ q, gb_S RX10 cX10_fumigates 6 (gb_rm 3 71) 0 q (K_X10_fumigates q) := fun q => gb_fx_S (L_X10_fumigates) (gb_tb_S (List.forall_mem_cons.mpr ⟨fun κ hκ => s_X10_fumigates_41 hκ, (fun _ h => absurd h List.not_mem_nil)⟩)) q
noncomputable def f_X10_fumigates : gb_F := gb_hide (gb_mf 6 (k_X10_fumigates_0 (K_X10_fumigates)))
theorem c_X10_fumigates : ∀ l, gb_Met l yX10_fumigates cX10_fumigates 6 none 0 (gb_rm 3 71) f_X10_fumigates := gb_hide_c (gb_met (own := RX10) (rk := 0) rfl (by decide +kernel) ⟨rfl, rfl⟩ (s_X10_fumigates_0 (S_X10_fumigates)))
theorem dX10_fumes_0 : decode cX10_fumes 0 = .ok (.aload_n 0, 1) := by decide +kernel
theorem dX10_fumes_1 : decode cX10_fumes 1 = .ok (.iconst 0, 1) := by decide +kernel
theorem dX10_fumes_2 : decode cX10_fumes 2 = .ok (.putfield 66, 3) := by decide +kernel
theorem dX10_fumes_5 : decode cX10_fumes 5 = .ok (.iload_n 1, 1) := by decide +kernel
theorem dX10_fumes_6 : decode cX10_fumes 6 = .ok (.invokestatic 233, 3) := by decide +kernel
theorem dX10_fumes_9 : decode cX10_fumes 9 = .ok (.ifCond .eq 15, 3) := by decide +kernel
theorem dX10_fumes_12 : decode cX10_fumes 12 = .ok (.iload_n 2, 1) := by decide +kernel
theorem dX10_fumes_13 : decode cX10_fumes 13 = .ok (.i2l, 1) := by decide +kernel
theorem dX10_fumes_14 : decode cX10_fumes 14 = .ok (.lconst 1, 1) := by decide +kernel
theorem dX10_fumes_15 : decode cX10_fumes 15 = .ok (.ldc2_w 275, 3) := by decide +kernel
theorem dX10_fumes_18 : decode cX10_fumes 18 = .ok (.invokestatic 76, 3) := by decide +kernel
theorem dX10_fumes_21 : decode cX10_fumes 21 = .ok (.ifCond .ne 5, 3) := by decide +kernel
theorem dX10_fumes_24 : decode cX10_fumes 24 = .ok (.iconst (-1), 1) := by decide +kernel
theorem dX10_fumes_25 : decode cX10_fumes 25 = .ok (.ireturn, 1) := by decide +kernel
theorem dX10_fumes_26 : decode cX10_fumes 26 = .ok (.aload_n 0, 1) := by decide +kernel
theorem dX10_fumes_27 : decode cX10_fumes 27 = .ok (.iload_n 1, 1) := by decide +kernel
theorem dX10_fumes_28 : decode cX10_fumes 28 = .ok (.invokevirtual 134, 3) := by decide +kernel
theorem dX10_fumes_31 : decode cX10_fumes 31 = .ok (.ifCond .eq 6, 3) := by decide +kernel
theorem dX10_fumes_34 : decode cX10_fumes 34 = .ok (.bipush (-2), 2) := by decide +kernel
theorem dX10_fumes_36 : decode cX10_fumes 36 = .ok (.ireturn, 1) := by decide +kernel
theorem dX10_fumes_37 : decode cX10_fumes 37 = .ok (.aload_n 0, 1) := by decide +kernel
theorem dX10_fumes_38 : decode cX10_fumes 38 = .ok (.invokevirtual 248, 3) := by decide +kernel
theorem dX10_fumes_41 : decode cX10_fumes 41 = .ok (.aload_n 0, 1) := by decide +kernel
theorem dX10_fumes_42 : decode cX10_fumes 42 = .ok (.iload_n 1, 1) := by decide +kernel
theorem dX10_fumes_43 : decode cX10_fumes 43 = .ok (.iload_n 2, 1) := by decide +kernel
theorem dX10_fumes_44 : decode cX10_fumes 44 = .ok (.invokevirtual 277, 3) := by decide +kernel
theorem dX10_fumes_47 : decode cX10_fumes 47 = .ok (.aload_n 0, 1) := by decide +kernel
theorem dX10_fumes_48 : decode cX10_fumes 48 = .ok (.getfield 7, 3) := by decide +kernel
theorem dX10_fumes_51 : decode cX10_fumes 51 = .ok (.bipush 54, 2) := by decide +kernel
theorem dX10_fumes_53 : decode cX10_fumes 53 = .ok (.iload_n 1, 1) := by decide +kernel
theorem dX10_fumes_54 : decode cX10_fumes 54 = .ok (.iadd, 1) := by decide +kernel
theorem dX10_fumes_55 : decode cX10_fumes 55 = .ok (.iaload, 1) := by decide +kernel
theorem dX10_fumes_56 : decode cX10_fumes 56 = .ok (.ireturn, 1) := by decide +kernel
theorem v_X10_fumes : yX10_fumes.cls = RX10 ∧ yX10_fumes.cls ≠ "java/lang/invoke/MethodHandle" ∧ yX10_fumes.cls ≠ "java/lang/invoke/VarHandle" ∧ (parseMethodDescriptor yX10_fumes.desc).map (fun d => d.parameters.length) = some 2 := ⟨rfl, by decide +kernel, by decide +kernel, by decide +kernel⟩
noncomputable def k_X10_fumes_24 (κ : gb_K) : gb_C := (o_ci (-1) o_ri)
theorem l_X10_fumes_24 : gb_Li (fun κ => k_X10_fumes_24 κ) := (gb_li (q_ci (-1)) (gb_li0 _))
theorem s_X10_fumes_24   {κ : gb_K} (hκ : ∀ q, gb_S RX10 cX10_fumes 3 (gb_rm 4 96) 1 q (κ q)) : gb_S RX10 cX10_fumes 3 (gb_rm 4 96) 1 24 (k_X10_fumes_24 κ) := (s_iconst (by decide +kernel) dX10_fumes_24 (s_ri rfl dX10_fumes_25))
noncomputable def k_X10_fumes_0 (κ : gb_K) : gb_C := (o_al 0 (o_ci 0 (o_pf 10 10 (o_il 1 (o_cs 1 2 f_X10_isBin (o_zeq (k_X10_fumes_24 κ) (o_il 2 (o_i2l (o_cl 1 (o_cl 20 (o_cs 3 2 f_X10_in (o_zeq (k_X10_fumes_24 κ) (o_al 0 (o_il 1 (o_cv 1 10 2 f_X10_isClosed (o_zeq (o_al 0 (o_cv 0 10 0 f_X10_does (o_al 0 (o_il 1 (o_il 2 (o_cv 2 10 0 f_X10_fumigates (o_al 0 (o_gf 10 0 (o_ci 54 (o_il 1 (o_ib (fun x y => x + y) (o_iald o_ri)))))))))))) (o_ci (-2) o_ri)))))))))))))))))
theorem l_X10_fumes_0 : gb_Li (fun κ => k_X10_fumes_0 κ) := (gb_li (q_al 0) (gb_li (q_ci 0) (gb_li (q_pf 10 10) (gb_li (q_il 1) (gb_li (q_cs 1 2 f_X10_isBin) (q_zeq (l_X10_fumes_24) (gb_li (q_il 2) (gb_li q_i2l (gb_li (q_cl 1) (gb_li (q_cl 20) (gb_li (q_cs 3 2 f_X10_in) (q_zeq (l_X10_fumes_24) (gb_li (q_al 0) (gb_li (q_il 1) (gb_li (q_cv 1 10 2 f_X10_isClosed) (q_zeq (gb_li (q_al 0) (gb_li (q_cv 0 10 0 f_X10_does) (gb_li (q_al 0) (gb_li (q_il 1) (gb_li (q_il 2) (gb_li (q_cv 2 10 0 f_X10_fumigates) (gb_li (q_al 0) (gb_li (q_gf 10 0) (gb_li (q_ci 54) (gb_li (q_il 1) (gb_li (q_ib _) (gb_li q_iald (gb_li0 _))))))))))))) (gb_li (q_ci (-2)) (gb_li0 _))))))))))))))))))
theorem s_X10_fumes_0   {κ : gb_K} (hκ : ∀ q, gb_S RX10 cX10_fumes 3 (gb_rm 4 96) 1 q (κ q)) : gb_S RX10 cX10_fumes 3 (gb_rm 4 96) 1 0 (k_X10_fumes_0 κ) := (s_aln 0 rfl dX10_fumes_0 (s_iconst (by decide +kernel) dX10_fumes_1 (s_pf (T := TX10) winX10 rfl (Nat.le_of_ble_eq_true rfl) tyX10_ok nmX10 rfl (by decide +kernel) gw_546 rfl dX10_fumes_2 (s_iln 1 rfl dX10_fumes_5 (s_cs c_X10_isBin (gb_l4 gw_705 gw_706 gw_553 gw_707) v_X10_isBin.2 ⟨rfl, rfl⟩ ⟨Nat.le_of_ble_eq_true rfl, Nat.le_of_ble_eq_true rfl⟩ dX10_fumes_6 (s_zeq (tgt := 24) (by decide +kernel) dX10_fumes_9 (s_X10_fumes_24 hκ) (s_iln 2 rfl dX10_fumes_12 (s_i2l dX10_fumes_13 (s_lconst (by decide +kernel) dX10_fumes_14 (s_ldc2 gw_748 dX10_fumes_15 (s_cs c_X10_in (gb_l4 gw_551 gw_552 gw_553 gw_554) v_X10_in.2 ⟨rfl, rfl⟩ ⟨Nat.le_of_ble_eq_true rfl, Nat.le_of_ble_eq_true rfl⟩ dX10_fumes_18 (s_zne (tgt := 26) (by decide +kernel) dX10_fumes_21 (s_aln 0 rfl dX10_fumes_26 (s_iln 1 rfl dX10_fumes_27 (s_cv (C := RX10) c_X10_isClosed rfl (gb_l5 gw_614 gw_615 gw_616 gw_553 gw_617) v_X10_isClosed ⟨rfl, rfl⟩ ⟨Nat.le_of_ble_eq_true rfl, Nat.le_of_ble_eq_true rfl⟩ dX10_fumes_28 (s_zeq (tgt := 37) (by decide +kernel) dX10_fumes_31 (s_aln 0 rfl dX10_fumes_37 (s_cv (C := RX10) c_X10_does rfl (gb_l5 gw_720 gw_721 gw_722 gw_553 gw_723) v_X10_does ⟨rfl, rfl⟩ ⟨Nat.le_of_ble_eq_true rfl, Nat.le_of_ble_eq_true rfl⟩ dX10_fumes_38 (s_aln 0 rfl dX10_fumes_41 (s_iln 1 rfl dX10_fumes_42 (s_iln 2 rfl dX10_fumes_43 (s_cv (C := RX10) c_X10_fumigates rfl (gb_l5 gw_749 gw_750 gw_751 gw_553 gw_752) v_X10_fumigates ⟨rfl, rfl⟩ ⟨Nat.le_of_ble_eq_true rfl, Nat.le_of_ble_eq_true rfl⟩ dX10_fumes_44 (s_aln 0 rfl dX10_fumes_47 (s_gf (T := TX10) winX10 rfl (Nat.le_of_ble_eq_true rfl) gw_545 rfl dX10_fumes_48 (s_bipush (by decide +kernel) dX10_fumes_51 (s_iln 1 rfl dX10_fumes_53 (s_iadd dX10_fumes_54 (s_iald dX10_fumes_55 (s_ri rfl dX10_fumes_56))))))))))))) (s_bipush (by decide +kernel) dX10_fumes_34 (s_ri rfl dX10_fumes_36)))))) (s_X10_fumes_24 hκ)))))))))))))
noncomputable def f_X10_fumes : gb_F := gb_hide (gb_mf 3 (k_X10_fumes_0 gb_n))
theorem c_X10_fumes : ∀ l, gb_Met l yX10_fumes cX10_fumes 3 (some .int) 1 (gb_rm 4 96) f_X10_fumes := gb_hide_c (gb_met (own := RX10) (rk := 1) rfl (by decide +kernel) ⟨rfl, rfl⟩ (s_X10_fumes_0 gb_S_n))
theorem dX10_days_0 : decode cX10_days 0 = .ok (.aload_n 0, 1) := by decide +kernel
theorem dX10_days_1 : decode cX10_days 1 = .ok (.iconst 0, 1) := by decide +kernel
theorem dX10_days_2 : decode cX10_days 2 = .ok (.putfield 66, 3) := by decide +kernel
theorem dX10_days_5 : decode cX10_days 5 = .ok (.iload_n 1, 1) := by decide +kernel
theorem dX10_days_6 : decode cX10_days 6 = .ok (.i2l, 1) := by decide +kernel
theorem dX10_days_7 : decode cX10_days 7 = .ok (.lconst 1, 1) := by decide +kernel
theorem dX10_days_8 : decode cX10_days 8 = .ok (.ldc2_w 82, 3) := by decide +kernel
theorem dX10_days_11 : decode cX10_days 11 = .ok (.invokestatic 76, 3) := by decide +kernel
theorem dX10_days_14 : decode cX10_days 14 = .ok (.ifCond .eq 19, 3) := by decide +kernel
theorem dX10_days_17 : decode cX10_days 17 = .ok (.aload_n 0, 1) := by decide +kernel
theorem dX10_days_18 : decode cX10_days 18 = .ok (.getfield 7, 3) := by decide +kernel
theorem dX10_days_21 : decode cX10_days 21 = .ok (.sipush 174, 3) := by decide +kernel
theorem dX10_days_24 : decode cX10_days 24 = .ok (.iaload, 1) := by decide +kernel
theorem dX10_days_25 : decode cX10_days 25 = .ok (.iload_n 1, 1) := by decide +kernel
theorem dX10_days_26 : decode cX10_days 26 = .ok (.iadd, 1) := by decide +kernel
theorem dX10_days_27 : decode cX10_days 27 = .ok (.sipush 9999, 3) := by decide +kernel
theorem dX10_days_30 : decode cX10_days 30 = .ok (.if_icmp .le 5, 3) := by decide +kernel
theorem dX10_days_33 : decode cX10_days 33 = .ok (.iconst (-1), 1) := by decide +kernel
theorem dX10_days_34 : decode cX10_days 34 = .ok (.ireturn, 1) := by decide +kernel
theorem dX10_days_35 : decode cX10_days 35 = .ok (.aload_n 0, 1) := by decide +kernel
theorem dX10_days_36 : decode cX10_days 36 = .ok (.invokevirtual 248, 3) := by decide +kernel
theorem dX10_days_39 : decode cX10_days 39 = .ok (.aload_n 0, 1) := by decide +kernel
theorem dX10_days_40 : decode cX10_days 40 = .ok (.getfield 7, 3) := by decide +kernel
theorem dX10_days_43 : decode cX10_days 43 = .ok (.sipush 174, 3) := by decide +kernel
theorem dX10_days_46 : decode cX10_days 46 = .ok (.dup2, 1) := by decide +kernel
theorem dX10_days_47 : decode cX10_days 47 = .ok (.iaload, 1) := by decide +kernel
theorem dX10_days_48 : decode cX10_days 48 = .ok (.iload_n 1, 1) := by decide +kernel
theorem dX10_days_49 : decode cX10_days 49 = .ok (.iadd, 1) := by decide +kernel
theorem dX10_days_50 : decode cX10_days 50 = .ok (.iastore, 1) := by decide +kernel
theorem dX10_days_51 : decode cX10_days 51 = .ok (.aload_n 0, 1) := by decide +kernel
theorem dX10_days_52 : decode cX10_days 52 = .ok (.getfield 7, 3) := by decide +kernel
theorem dX10_days_55 : decode cX10_days 55 = .ok (.sipush 174, 3) := by decide +kernel
theorem dX10_days_58 : decode cX10_days 58 = .ok (.iaload, 1) := by decide +kernel
theorem dX10_days_59 : decode cX10_days 59 = .ok (.ireturn, 1) := by decide +kernel
theorem v_X10_days : yX10_days.cls = RX10 ∧ yX10_days.cls ≠ "java/lang/invoke/MethodHandle" ∧ yX10_days.cls ≠ "java/lang/invoke/VarHandle" ∧ (parseMethodDescriptor yX10_days.desc).map (fun d => d.parameters.length) = some 1 := ⟨rfl, by decide +kernel, by decide +kernel, by decide +kernel⟩
noncomputable def k_X10_days_33 (κ : gb_K) : gb_C := (o_ci (-1) o_ri)
theorem l_X10_days_33 : gb_Li (fun κ => k_X10_days_33 κ) := (gb_li (q_ci (-1)) (gb_li0 _))
theorem s_X10_days_33   {κ : gb_K} (hκ : ∀ q, gb_S RX10 cX10_days 2 (gb_rm 2 41) 1 q (κ q)) : gb_S RX10 cX10_days 2 (gb_rm 2 41) 1 33 (k_X10_days_33 κ) := (s_iconst (by decide +kernel) dX10_days_33 (s_ri rfl dX10_days_34))
noncomputable def k_X10_days_58 (κ : gb_K) : gb_C := (o_iald o_ri)
theorem l_X10_days_58 : gb_Li (fun κ => k_X10_days_58 κ) := (gb_li q_iald (gb_li0 _))
theorem s_X10_days_58   {κ : gb_K} (hκ : ∀ q, gb_S RX10 cX10_days 2 (gb_rm 2 41) 1 q (κ q)) : gb_S RX10 cX10_days 2 (gb_rm 2 41) 1 58 (k_X10_days_58 κ) := (s_iald dX10_days_58 (s_ri rfl dX10_days_59))
noncomputable def k_X10_days_0 (κ : gb_K) : gb_C := (o_al 0 (o_ci 0 (o_pf 10 10 (o_il 1 (o_i2l (o_cl 1 (o_cl 99 (o_cs 3 2 f_X10_in (o_zeq (k_X10_days_33 κ) (o_al 0 (o_gf 10 0 (o_ci 174 (o_iald (o_il 1 (o_ib (fun x y => x + y) (o_ci 9999 (o_cle (o_al 0 (o_cv 0 10 0 f_X10_does (o_al 0 (o_gf 10 0 (o_ci 174 (o_dup2 (o_iald (o_il 1 (o_ib (fun x y => x + y) (o_iast (o_al 0 (o_gf 10 0 (o_ci 174 (k_X10_days_58 κ)))))))))))))) (k_X10_days_33 κ))))))))))))))))))
theorem l_X10_days_0 : gb_Li (fun κ => k_X10_days_0 κ) := (gb_li (q_al 0) (gb_li (q_ci 0) (gb_li (q_pf 10 10) (gb_li (q_il 1) (gb_li q_i2l (gb_li (q_cl 1) (gb_li (q_cl 99) (gb_li (q_cs 3 2 f_X10_in) (q_zeq (l_X10_days_33) (gb_li (q_al 0) (gb_li (q_gf 10 0) (gb_li (q_ci 174) (gb_li q_iald (gb_li (q_il 1) (gb_li (q_ib _) (gb_li (q_ci 9999) (q_cle (gb_li (q_al 0) (gb_li (q_cv 0 10 0 f_X10_does) (gb_li (q_al 0) (gb_li (q_gf 10 0) (gb_li (q_ci 174) (gb_li q_dup2 (gb_li q_iald (gb_li (q_il 1) (gb_li (q_ib _) (gb_li q_iast (gb_li (q_al 0) (gb_li (q_gf 10 0) (gb_li (q_ci 174) (l_X10_days_58)))))))))))))) (l_X10_days_33))))))))))))))))))
theorem s_X10_days_0   {κ : gb_K} (hκ : ∀ q, gb_S RX10 cX10_days 2 (gb_rm 2 41) 1 q (κ q)) : gb_S RX10 cX10_days 2 (gb_rm 2 41) 1 0 (k_X10_days_0 κ) := (s_aln 0 rfl dX10_days_0 (s_iconst (by decide +kernel) dX10_days_1 (s_pf (T := TX10) winX10 rfl (Nat.le_of_ble_eq_true rfl) tyX10_ok nmX10 rfl (by decide +kernel) gw_546 rfl dX10_days_2 (s_iln 1 rfl dX10_days_5 (s_i2l dX10_days_6 (s_lconst (by decide +kernel) dX10_days_7 (s_ldc2 gw_556 dX10_days_8 (s_cs c_X10_in (gb_l4 gw_551 gw_552 gw_553 gw_554) v_X10_in.2 ⟨rfl, rfl⟩ ⟨Nat.le_of_ble_eq_true rfl, Nat.le_of_ble_eq_true rfl⟩ dX10_days_11 (s_zeq (tgt := 33) (by decide +kernel) dX10_days_14 (s_X10_days_33 hκ) (s_aln 0 rfl dX10_days_17 (s_gf (T := TX10) winX10 rfl (Nat.le_of_ble_eq_true rfl) gw_545 rfl dX10_days_18 (s_sipush (by decide +kernel) dX10_days_21 (s_iald dX10_days_24 (s_iln 1 rfl dX10_days_25 (s_iadd dX10_days_26 (s_sipush (by decide +kernel) dX10_days_27 (s_cle (tgt := 35) (by decide +kernel) dX10_days_30 (s_aln 0 rfl dX10_days_35 (s_cv (C := RX10) c_X10_does rfl (gb_l5 gw_720 gw_721 gw_722 gw_553 gw_723) v_X10_does ⟨rfl, rfl⟩ ⟨Nat.le_of_ble_eq_true rfl, Nat.le_of_ble_eq_true rfl⟩ dX10_days_36 (s_aln 0 rfl dX10_days_39 (s_gf (T := TX10) winX10 rfl (Nat.le_of_ble_eq_true rfl) gw_545 rfl dX10_days_40 (s_sipush (by decide +kernel) dX10_days_43 (s_dup2 dX10_days_46 (s_iald dX10_days_47 (s_iln 1 rfl dX10_days_48 (s_iadd dX10_days_49 (s_iast dX10_days_50 (s_aln 0 rfl dX10_days_51 (s_gf (T := TX10) winX10 rfl (Nat.le_of_ble_eq_true rfl) gw_545 rfl dX10_days_52 (s_sipush (by decide +kernel) dX10_days_55 (s_X10_days_58 hκ)))))))))))))) (s_X10_days_33 hκ))))))))))))))))))
noncomputable def f_X10_days : gb_F := gb_hide (gb_mf 2 (k_X10_days_0 gb_n))
theorem c_X10_days : ∀ l, gb_Met l yX10_days cX10_days 2 (some .int) 1 (gb_rm 2 41) f_X10_days := gb_hide_c (gb_met (own := RX10) (rk := 1) rfl (by decide +kernel) ⟨rfl, rfl⟩ (s_X10_days_0 gb_S_n))
theorem dX10_price_0 : decode cX10_price 0 = .ok (.aload_n 0, 1) := by decide +kernel
theorem dX10_price_1 : decode cX10_price 1 = .ok (.iconst 0, 1) := by decide +kernel
theorem dX10_price_2 : decode cX10_price 2 = .ok (.putfield 66, 3) := by decide +kernel
theorem dX10_price_5 : decode cX10_price 5 = .ok (.iload_n 1, 1) := by decide +kernel
theorem dX10_price_6 : decode cX10_price 6 = .ok (.invokestatic 230, 3) := by decide +kernel
theorem dX10_price_9 : decode cX10_price 9 = .ok (.ifCond .eq 15, 3) := by decide +kernel
theorem dX10_price_12 : decode cX10_price 12 = .ok (.iload_n 2, 1) := by decide +kernel
theorem dX10_price_13 : decode cX10_price 13 = .ok (.i2l, 1) := by decide +kernel
theorem dX10_price_14 : decode cX10_price 14 = .ok (.lconst 0, 1) := by decide +kernel
theorem dX10_price_15 : decode cX10_price 15 = .ok (.ldc2_w 280, 3) := by decide +kernel
theorem dX10_price_18 : decode cX10_price 18 = .ok (.invokestatic 76, 3) := by decide +kernel
theorem dX10_price_21 : decode cX10_price 21 = .ok (.ifCond .ne 5, 3) := by decide +kernel
theorem dX10_price_24 : decode cX10_price 24 = .ok (.iconst (-1), 1) := by decide +kernel
theorem dX10_price_25 : decode cX10_price 25 = .ok (.ireturn, 1) := by decide +kernel
theorem dX10_price_26 : decode cX10_price 26 = .ok (.aload_n 0, 1) := by decide +kernel
theorem dX10_price_27 : decode cX10_price 27 = .ok (.invokevirtual 248, 3) := by decide +kernel
theorem dX10_price_30 : decode cX10_price 30 = .ok (.aload_n 0, 1) := by decide +kernel
theorem dX10_price_31 : decode cX10_price 31 = .ok (.getfield 7, 3) := by decide +kernel
theorem dX10_price_34 : decode cX10_price 34 = .ok (.iconst 0, 1) := by decide +kernel
theorem dX10_price_35 : decode cX10_price 35 = .ok (.iload_n 1, 1) := by decide +kernel
theorem dX10_price_36 : decode cX10_price 36 = .ok (.iadd, 1) := by decide +kernel
theorem dX10_price_37 : decode cX10_price 37 = .ok (.iaload, 1) := by decide +kernel
theorem dX10_price_38 : decode cX10_price 38 = .ok (.istore_n 3, 1) := by decide +kernel
theorem dX10_price_39 : decode cX10_price 39 = .ok (.aload_n 0, 1) := by decide +kernel
theorem dX10_price_40 : decode cX10_price 40 = .ok (.getfield 7, 3) := by decide +kernel
theorem dX10_price_43 : decode cX10_price 43 = .ok (.iconst 0, 1) := by decide +kernel
theorem dX10_price_44 : decode cX10_price 44 = .ok (.iload_n 1, 1) := by decide +kernel
theorem dX10_price_45 : decode cX10_price 45 = .ok (.iadd, 1) := by decide +kernel
theorem dX10_price_46 : decode cX10_price 46 = .ok (.iload_n 2, 1) := by decide +kernel
theorem dX10_price_47 : decode cX10_price 47 = .ok (.iastore, 1) := by decide +kernel
theorem dX10_price_48 : decode cX10_price 48 = .ok (.iload_n 3, 1) := by decide +kernel
theorem dX10_price_49 : decode cX10_price 49 = .ok (.ireturn, 1) := by decide +kernel
theorem v_X10_price : yX10_price.cls = RX10 ∧ yX10_price.cls ≠ "java/lang/invoke/MethodHandle" ∧ yX10_price.cls ≠ "java/lang/invoke/VarHandle" ∧ (parseMethodDescriptor yX10_price.desc).map (fun d => d.parameters.length) = some 2 := ⟨rfl, by decide +kernel, by decide +kernel, by decide +kernel⟩
noncomputable def k_X10_price_24 (κ : gb_K) : gb_C := (o_ci (-1) o_ri)
theorem l_X10_price_24 : gb_Li (fun κ => k_X10_price_24 κ) := (gb_li (q_ci (-1)) (gb_li0 _))
theorem s_X10_price_24   {κ : gb_K} (hκ : ∀ q, gb_S RX10 cX10_price 4 (gb_rm 2 45) 1 q (κ q)) : gb_S RX10 cX10_price 4 (gb_rm 2 45) 1 24 (k_X10_price_24 κ) := (s_iconst (by decide +kernel) dX10_price_24 (s_ri rfl dX10_price_25))
noncomputable def k_X10_price_0 (κ : gb_K) : gb_C := (o_al 0 (o_ci 0 (o_pf 10 10 (o_il 1 (o_cs 1 2 f_X10_isGrade (o_zeq (k_X10_price_24 κ) (o_il 2 (o_i2l (o_cl 0 (o_cl 999 (o_cs 3 2 f_X10_in (o_zeq (k_X10_price_24 κ) (o_al 0 (o_cv 0 10 0 f_X10_does (o_al 0 (o_gf 10 0 (o_ci 0 (o_il 1 (o_ib (fun x y => x + y) (o_iald (o_is 3 (o_al 0 (o_gf 10 0 (o_ci 0 (o_il 1 (o_ib (fun x y => x + y) (o_il 2 (o_iast (o_il 3 o_ri)))))))))))))))))))))))))))))
theorem l_X10_price_0 : gb_Li (fun κ => k_X10_price_0 κ) := (gb_li (q_al 0) (gb_li (q_ci 0) (gb_li (q_pf 10 10) (gb_li (q_il 1) (gb_li (q_cs 1 2 f_X10_isGrade) (q_zeq (l_X10_price_24) (gb_li (q_il 2) (gb_li q_i2l (gb_li (q_cl 0) (gb_li (q_cl 999) (gb_li (q_cs 3 2 f_X10_in) (q_zeq (l_X10_price_24) (gb_li (q_al 0) (gb_li (q_cv 0 10 0 f_X10_does) (gb_li (q_al 0) (gb_li (q_gf 10 0) (gb_li (q_ci 0) (gb_li (q_il 1) (gb_li (q_ib _) (gb_li q_iald (gb_li (q_is 3) (gb_li (q_al 0) (gb_li (q_gf 10 0) (gb_li (q_ci 0) (gb_li (q_il 1) (gb_li (q_ib _) (gb_li (q_il 2) (gb_li q_iast (gb_li (q_il 3) (gb_li0 _))))))))))))))))))))))))))))))
theorem s_X10_price_0   {κ : gb_K} (hκ : ∀ q, gb_S RX10 cX10_price 4 (gb_rm 2 45) 1 q (κ q)) : gb_S RX10 cX10_price 4 (gb_rm 2 45) 1 0 (k_X10_price_0 κ) := (s_aln 0 rfl dX10_price_0 (s_iconst (by decide +kernel) dX10_price_1 (s_pf (T := TX10) winX10 rfl (Nat.le_of_ble_eq_true rfl) tyX10_ok nmX10 rfl (by decide +kernel) gw_546 rfl dX10_price_2 (s_iln 1 rfl dX10_price_5 (s_cs c_X10_isGrade (gb_l4 gw_698 gw_699 gw_553 gw_700) v_X10_isGrade.2 ⟨rfl, rfl⟩ ⟨Nat.le_of_ble_eq_true rfl, Nat.le_of_ble_eq_true rfl⟩ dX10_price_6 (s_zeq (tgt := 24) (by decide +kernel) dX10_price_9 (s_X10_price_24 hκ) (s_iln 2 rfl dX10_price_12 (s_i2l dX10_price_13 (s_lconst (by decide +kernel) dX10_price_14 (s_ldc2 gw_753 dX10_price_15 (s_cs c_X10_in (gb_l4 gw_551 gw_552 gw_553 gw_554) v_X10_in.2 ⟨rfl, rfl⟩ ⟨Nat.le_of_ble_eq_true rfl, Nat.le_of_ble_eq_true rfl⟩ dX10_price_18 (s_zne (tgt := 26) (by decide +kernel) dX10_price_21 (s_aln 0 rfl dX10_price_26 (s_cv (C := RX10) c_X10_does rfl (gb_l5 gw_720 gw_721 gw_722 gw_553 gw_723) v_X10_does ⟨rfl, rfl⟩ ⟨Nat.le_of_ble_eq_true rfl, Nat.le_of_ble_eq_true rfl⟩ dX10_price_27 (s_aln 0 rfl dX10_price_30 (s_gf (T := TX10) winX10 rfl (Nat.le_of_ble_eq_true rfl) gw_545 rfl dX10_price_31 (s_iconst (by decide +kernel) dX10_price_34 (s_iln 1 rfl dX10_price_35 (s_iadd dX10_price_36 (s_iald dX10_price_37 (s_isn 3 rfl (Nat.le_of_ble_eq_true rfl) dX10_price_38 (s_aln 0 rfl dX10_price_39 (s_gf (T := TX10) winX10 rfl (Nat.le_of_ble_eq_true rfl) gw_545 rfl dX10_price_40 (s_iconst (by decide +kernel) dX10_price_43 (s_iln 1 rfl dX10_price_44 (s_iadd dX10_price_45 (s_iln 2 rfl dX10_price_46 (s_iast dX10_price_47 (s_iln 3 rfl dX10_price_48 (s_ri rfl dX10_price_49)))))))))))))))))) (s_X10_price_24 hκ)))))))))))))
noncomputable def f_X10_price : gb_F := gb_hide (gb_mf 4 (k_X10_price_0 gb_n))
theorem c_X10_price : ∀ l, gb_Met l yX10_price cX10_price 4 (some .int) 1 (gb_rm 2 45) f_X10_price := gb_hide_c (gb_met (own := RX10) (rk := 1) rfl (by decide +kernel) ⟨rfl, rfl⟩ (s_X10_price_0 gb_S_n))
theorem dX10_readsList_0 : decode cX10_readsList 0 = .ok (.aload_n 0, 1) := by decide +kernel
theorem dX10_readsList_1 : decode cX10_readsList 1 = .ok (.invokevirtual 220, 3) := by decide +kernel
theorem dX10_readsList_4 : decode cX10_readsList 4 = .ok (.aload_n 0, 1) := by decide +kernel
theorem dX10_readsList_5 : decode cX10_readsList 5 = .ok (.iconst 0, 1) := by decide +kernel
theorem dX10_readsList_6 : decode cX10_readsList 6 = .ok (.putfield 282, 3) := by decide +kernel
theorem dX10_readsList_9 : decode cX10_readsList 9 = .ok (.aload_n 0, 1) := by decide +kernel
theorem dX10_readsList_10 : decode cX10_readsList 10 = .ok (.getfield 167, 3) := by decide +kernel
theorem dX10_readsList_13 : decode cX10_readsList 13 = .ok (.ifCond .le 7, 3) := by decide +kernel
theorem dX10_readsList_16 : decode cX10_readsList 16 = .ok (.iconst 1, 1) := by decide +kernel
theorem dX10_readsList_17 : decode cX10_readsList 17 = .ok (.goto 4, 3) := by decide +kernel
theorem dX10_readsList_20 : decode cX10_readsList 20 = .ok (.iconst 0, 1) := by decide +kernel
theorem dX10_readsList_21 : decode cX10_readsList 21 = .ok (.istore_n 1, 1) := by decide +kernel
theorem dX10_readsList_22 : decode cX10_readsList 22 = .ok (.iload_n 1, 1) := by decide +kernel
theorem dX10_readsList_23 : decode cX10_readsList 23 = .ok (.ifCond .eq 106, 3) := by decide +kernel
theorem dX10_readsList_26 : decode cX10_readsList 26 = .ok (.aload_n 0, 1) := by decide +kernel
theorem dX10_readsList_27 : decode cX10_readsList 27 = .ok (.getfield 173, 3) := by decide +kernel
theorem dX10_readsList_30 : decode cX10_readsList 30 = .ok (.iconst (-1), 1) := by decide +kernel
theorem dX10_readsList_31 : decode cX10_readsList 31 = .ok (.if_icmp .ne 98, 3) := by decide +kernel
theorem dX10_readsList_34 : decode cX10_readsList 34 = .ok (.aload_n 0, 1) := by decide +kernel
theorem dX10_readsList_35 : decode cX10_readsList 35 = .ok (.getfield 42, 3) := by decide +kernel
theorem dX10_readsList_38 : decode cX10_readsList 38 = .ok (.aload_n 0, 1) := by decide +kernel
theorem dX10_readsList_39 : decode cX10_readsList 39 = .ok (.getfield 282, 3) := by decide +kernel
theorem dX10_readsList_42 : decode cX10_readsList 42 = .ok (.aload_n 0, 1) := by decide +kernel
theorem dX10_readsList_43 : decode cX10_readsList 43 = .ok (.invokevirtual 190, 3) := by decide +kernel
theorem dX10_readsList_46 : decode cX10_readsList 46 = .ok (.iastore, 1) := by decide +kernel
theorem dX10_readsList_47 : decode cX10_readsList 47 = .ok (.aload_n 0, 1) := by decide +kernel
theorem dX10_readsList_48 : decode cX10_readsList 48 = .ok (.bipush 58, 2) := by decide +kernel
theorem dX10_readsList_50 : decode cX10_readsList 50 = .ok (.invokevirtual 196, 3) := by decide +kernel
theorem dX10_readsList_53 : decode cX10_readsList 53 = .ok (.aload_n 0, 1) := by decide +kernel
theorem dX10_readsList_54 : decode cX10_readsList 54 = .ok (.getfield 45, 3) := by decide +kernel
theorem dX10_readsList_57 : decode cX10_readsList 57 = .ok (.aload_n 0, 1) := by decide +kernel
theorem dX10_readsList_58 : decode cX10_readsList 58 = .ok (.getfield 282, 3) := by decide +kernel
theorem dX10_readsList_61 : decode cX10_readsList 61 = .ok (.aload_n 0, 1) := by decide +kernel
theorem dX10_readsList_62 : decode cX10_readsList 62 = .ok (.iconst 1, 1) := by decide +kernel
theorem dX10_readsList_63 : decode cX10_readsList 63 = .ok (.bipush 99, 2) := by decide +kernel
theorem dX10_readsList_65 : decode cX10_readsList 65 = .ok (.iconst 2, 1) := by decide +kernel
theorem dX10_readsList_66 : decode cX10_readsList 66 = .ok (.invokevirtual 200, 3) := by decide +kernel
theorem dX10_readsList_69 : decode cX10_readsList 69 = .ok (.iastore, 1) := by decide +kernel
theorem dX10_readsList_70 : decode cX10_readsList 70 = .ok (.aload_n 0, 1) := by decide +kernel
theorem dX10_readsList_71 : decode cX10_readsList 71 = .ok (.dup, 1) := by decide +kernel
theorem dX10_readsList_72 : decode cX10_readsList 72 = .ok (.getfield 282, 3) := by decide +kernel
theorem dX10_readsList_75 : decode cX10_readsList 75 = .ok (.iconst 1, 1) := by decide +kernel
theorem dX10_readsList_76 : decode cX10_readsList 76 = .ok (.iadd, 1) := by decide +kernel
theorem dX10_readsList_77 : decode cX10_readsList 77 = .ok (.putfield 282, 3) := by decide +kernel
theorem dX10_readsList_80 : decode cX10_readsList 80 = .ok (.aload_n 0, 1) := by decide +kernel
theorem dX10_readsList_81 : decode cX10_readsList 81 = .ok (.getfield 173, 3) := by decide +kernel
theorem dX10_readsList_84 : decode cX10_readsList 84 = .ok (.iconst (-1), 1) := by decide +kernel
theorem dX10_readsList_85 : decode cX10_readsList 85 = .ok (.if_icmp .ne 25, 3) := by decide +kernel
theorem dX10_readsList_88 : decode cX10_readsList 88 = .ok (.aload_n 0, 1) := by decide +kernel
theorem dX10_readsList_89 : decode cX10_readsList 89 = .ok (.invokevirtual 176, 3) := by decide +kernel
theorem dX10_readsList_92 : decode cX10_readsList 92 = .ok (.bipush 44, 2) := by decide +kernel
theorem dX10_readsList_94 : decode cX10_readsList 94 = .ok (.if_icmp .ne 16, 3) := by decide +kernel
theorem dX10_readsList_97 : decode cX10_readsList 97 = .ok (.aload_n 0, 1) := by decide +kernel
theorem dX10_readsList_98 : decode cX10_readsList 98 = .ok (.getfield 282, 3) := by decide +kernel
theorem dX10_readsList_101 : decode cX10_readsList 101 = .ok (.bipush 6, 2) := by decide +kernel
theorem dX10_readsList_103 : decode cX10_readsList 103 = .ok (.if_icmp .ge 7, 3) := by decide +kernel
theorem dX10_readsList_106 : decode cX10_readsList 106 = .ok (.iconst 1, 1) := by decide +kernel
theorem dX10_readsList_107 : decode cX10_readsList 107 = .ok (.goto 4, 3) := by decide +kernel
theorem dX10_readsList_110 : decode cX10_readsList 110 = .ok (.iconst 0, 1) := by decide +kernel
theorem dX10_readsList_111 : decode cX10_readsList 111 = .ok (.istore_n 1, 1) := by decide +kernel
theorem dX10_readsList_112 : decode cX10_readsList 112 = .ok (.iload_n 1, 1) := by decide +kernel
theorem dX10_readsList_113 : decode cX10_readsList 113 = .ok (.ifCond .eq (-91), 3) := by decide +kernel
theorem dX10_readsList_116 : decode cX10_readsList 116 = .ok (.aload_n 0, 1) := by decide +kernel
theorem dX10_readsList_117 : decode cX10_readsList 117 = .ok (.dup, 1) := by decide +kernel
theorem dX10_readsList_118 : decode cX10_readsList 118 = .ok (.getfield 170, 3) := by decide +kernel
theorem dX10_readsList_121 : decode cX10_readsList 121 = .ok (.iconst 1, 1) := by decide +kernel
theorem dX10_readsList_122 : decode cX10_readsList 122 = .ok (.iadd, 1) := by decide +kernel
theorem dX10_readsList_123 : decode cX10_readsList 123 = .ok (.putfield 170, 3) := by decide +kernel
theorem dX10_readsList_126 : decode cX10_readsList 126 = .ok (.goto (-104), 3) := by decide +kernel
theorem dX10_readsList_129 : decode cX10_readsList 129 = .ok (.aload_n 0, 1) := by decide +kernel
theorem dX10_readsList_130 : decode cX10_readsList 130 = .ok (.getfield 173, 3) := by decide +kernel
theorem dX10_readsList_133 : decode cX10_readsList 133 = .ok (.iconst (-1), 1) := by decide +kernel
theorem dX10_readsList_134 : decode cX10_readsList 134 = .ok (.if_icmp .ne 22, 3) := by decide +kernel
theorem dX10_readsList_137 : decode cX10_readsList 137 = .ok (.aload_n 0, 1) := by decide +kernel
theorem dX10_readsList_138 : decode cX10_readsList 138 = .ok (.getfield 170, 3) := by decide +kernel
theorem dX10_readsList_141 : decode cX10_readsList 141 = .ok (.aload_n 0, 1) := by decide +kernel
theorem dX10_readsList_142 : decode cX10_readsList 142 = .ok (.getfield 167, 3) := by decide +kernel
theorem dX10_readsList_145 : decode cX10_readsList 145 = .ok (.if_icmp .ge 11, 3) := by decide +kernel
theorem dX10_readsList_148 : decode cX10_readsList 148 = .ok (.aload_n 0, 1) := by decide +kernel
theorem dX10_readsList_149 : decode cX10_readsList 149 = .ok (.aload_n 0, 1) := by decide +kernel
theorem dX10_readsList_150 : decode cX10_readsList 150 = .ok (.getfield 170, 3) := by decide +kernel
theorem dX10_readsList_153 : decode cX10_readsList 153 = .ok (.invokevirtual 180, 3) := by decide +kernel
theorem dX10_readsList_156 : decode cX10_readsList 156 = .ok (.return_, 1) := by decide +kernel
theorem v_X10_readsList : yX10_readsList.cls = RX10 ∧ yX10_readsList.cls ≠ "java/lang/invoke/MethodHandle" ∧ yX10_readsList.cls ≠ "java/lang/invoke/VarHandle" ∧ (parseMethodDescriptor yX10_readsList.desc).map (fun d => d.parameters.length) = some 0 := ⟨rfl, by decide +kernel, by decide +kernel, by decide +kernel⟩
noncomputable def k_X10_readsList_21 (κ : gb_K) : gb_C := (o_is 1 (o_j [0, 1] (κ 22)))
theorem l_X10_readsList_21 : gb_Li (fun κ => k_X10_readsList_21 κ) := (gb_li (q_is 1) (q_j [0, 1] 22))
theorem s_X10_readsList_21   {κ : gb_K} (hκ : ∀ q, gb_S RX10 cX10_readsList 2 (gb_rm 2 50) 0 q (κ q)) : gb_S RX10 cX10_readsList 2 (gb_rm 2 50) 0 21 (k_X10_readsList_21 κ) := (s_isn 1 rfl (Nat.le_of_ble_eq_true rfl) dX10_readsList_21 (s_j (hκ 22)))
noncomputable def k_X10_readsList_0 (κ : gb_K) : gb_C := (o_al 0 (o_cv 0 10 0 f_X10_begin (o_al 0 (o_ci 0 (o_pf 10 25 (o_al 0 (o_gf 10 16 (o_zle (o_ci 0 (k_X10_readsList_21 κ)) (o_ci 1 (k_X10_readsList_21 κ))))))))))
theorem l_X10_readsList_0 : gb_Li (fun κ => k_X10_readsList_0 κ) := (gb_li (q_al 0) (gb_li (q_cv 0 10 0 f_X10_begin) (gb_li (q_al 0) (gb_li (q_ci 0) (gb_li (q_pf 10 25) (gb_li (q_al 0) (gb_li (q_gf 10 16) (q_zle (gb_li (q_ci 0) (l_X10_readsList_21)) (gb_li (q_ci 1) (l_X10_readsList_21))))))))))
theorem s_X10_readsList_0   {κ : gb_K} (hκ : ∀ q, gb_S RX10 cX10_readsList 2 (gb_rm 2 50) 0 q (κ q)) : gb_S RX10 cX10_readsList 2 (gb_rm 2 50) 0 0 (k_X10_readsList_0 κ) := (s_aln 0 rfl dX10_readsList_0 (s_cv (C := RX10) c_X10_begin rfl (gb_l5 gw_685 gw_686 gw_687 gw_553 gw_688) v_X10_begin ⟨rfl, rfl⟩ ⟨Nat.le_of_ble_eq_true rfl, Nat.le_of_ble_eq_true rfl⟩ dX10_readsList_1 (s_aln 0 rfl dX10_readsList_4 (s_iconst (by decide +kernel) dX10_readsList_5 (s_pf (T := TX10) winX10 rfl (Nat.le_of_ble_eq_true rfl) tyX10_ok nmX10 rfl (by decide +kernel) gw_754 rfl dX10_readsList_6 (s_aln 0 rfl dX10_readsList_9 (s_gf (T := TX10) winX10 rfl (Nat.le_of_ble_eq_true rfl) gw_643 rfl dX10_readsList_10 (s_zle (tgt := 20) (by decide +kernel) dX10_readsList_13 (s_iconst (by decide +kernel) dX10_readsList_20 (s_X10_readsList_21 hκ)) (s_iconst (by decide +kernel) dX10_readsList_16 (s_goto (tgt := 21) (by decide +kernel) dX10_readsList_17 (s_X10_readsList_21 hκ)))))))))))
noncomputable def k_X10_readsList_111 (κ : gb_K) : gb_C := (o_is 1 (o_il 1 (o_zeq (o_j [0, 1] (κ 22)) (o_al 0 (o_dup (o_gf 10 17 (o_ci 1 (o_ib (fun x y => x + y) (o_pf 10 17 (o_j [0, 1] (κ 22)))))))))))
theorem l_X10_readsList_111 : gb_Li (fun κ => k_X10_readsList_111 κ) := (gb_li (q_is 1) (gb_li (q_il 1) (q_zeq (q_j [0, 1] 22) (gb_li (q_al 0) (gb_li q_dup (gb_li (q_gf 10 17) (gb_li (q_ci 1) (gb_li (q_ib _) (gb_li (q_pf 10 17) (q_j [0, 1] 22))))))))))
theorem s_X10_readsList_111   {κ : gb_K} (hκ : ∀ q, gb_S RX10 cX10_readsList 2 (gb_rm 2 50) 0 q (κ q)) : gb_S RX10 cX10_readsList 2 (gb_rm 2 50) 0 111 (k_X10_readsList_111 κ) := (s_isn 1 rfl (Nat.le_of_ble_eq_true rfl) dX10_readsList_111 (s_iln 1 rfl dX10_readsList_112 (s_zeq (tgt := 22) (by decide +kernel) dX10_readsList_113 (s_j (hκ 22)) (s_aln 0 rfl dX10_readsList_116 (s_dup dX10_readsList_117 (s_gf (T := TX10) winX10 rfl (Nat.le_of_ble_eq_true rfl) gw_644 rfl dX10_readsList_118 (s_iconst (by decide +kernel) dX10_readsList_121 (s_iadd dX10_readsList_122 (s_pf (T := TX10) winX10 rfl (Nat.le_of_ble_eq_true rfl) tyX10_ok nmX10 rfl (by decide +kernel) gw_644 rfl dX10_readsList_123 (s_goto (tgt := 22) (by decide +kernel) dX10_readsList_126 (s_j (hκ 22))))))))))))
noncomputable def k_X10_readsList_110 (κ : gb_K) : gb_C := (o_ci 0 (k_X10_readsList_111 κ))
theorem l_X10_readsList_110 : gb_Li (fun κ => k_X10_readsList_110 κ) := (gb_li (q_ci 0) (l_X10_readsList_111))
theorem s_X10_readsList_110   {κ : gb_K} (hκ : ∀ q, gb_S RX10 cX10_readsList 2 (gb_rm 2 50) 0 q (κ q)) : gb_S RX10 cX10_readsList 2 (gb_rm 2 50) 0 110 (k_X10_readsList_110 κ) := (s_iconst (by decide +kernel) dX10_readsList_110 (s_X10_readsList_111 hκ))
noncomputable def k_X10_readsList_76 (κ : gb_K) : gb_C := (o_ib (fun x y => x + y) (o_pf 10 25 (o_al 0 (o_gf 10 18 (o_ci (-1) (o_ceq (o_al 0 (o_cv 0 10 1 f_X10_sees (o_ci 44 (o_ceq (o_al 0 (o_gf 10 25 (o_ci 6 (o_cge (k_X10_readsList_110 κ) (o_ci 1 (k_X10_readsList_111 κ)))))) (k_X10_readsList_110 κ))))) (k_X10_readsList_110 κ)))))))
theorem l_X10_readsList_76 : gb_Li (fun κ => k_X10_readsList_76 κ) := (gb_li (q_ib _) (gb_li (q_pf 10 25) (gb_li (q_al 0) (gb_li (q_gf 10 18) (gb_li (q_ci (-1)) (q_ceq (gb_li (q_al 0) (gb_li (q_cv 0 10 1 f_X10_sees) (gb_li (q_ci 44) (q_ceq (gb_li (q_al 0) (gb_li (q_gf 10 25) (gb_li (q_ci 6) (q_cge (l_X10_readsList_110) (gb_li (q_ci 1) (l_X10_readsList_111)))))) (l_X10_readsList_110))))) (l_X10_readsList_110)))))))
theorem s_X10_readsList_76   {κ : gb_K} (hκ : ∀ q, gb_S RX10 cX10_readsList 2 (gb_rm 2 50) 0 q (κ q)) : gb_S RX10 cX10_readsList 2 (gb_rm 2 50) 0 76 (k_X10_readsList_76 κ) := (s_iadd dX10_readsList_76 (s_pf (T := TX10) winX10 rfl (Nat.le_of_ble_eq_true rfl) tyX10_ok nmX10 rfl (by decide +kernel) gw_754 rfl dX10_readsList_77 (s_aln 0 rfl dX10_readsList_80 (s_gf (T := TX10) winX10 rfl (Nat.le_of_ble_eq_true rfl) gw_645 rfl dX10_readsList_81 (s_iconst (by decide +kernel) dX10_readsList_84 (s_cne (tgt := 110) (by decide +kernel) dX10_readsList_85 (s_X10_readsList_110 hκ) (s_aln 0 rfl dX10_readsList_88 (s_cv (C := RX10) c_X10_sees rfl (gb_l5 gw_646 gw_647 gw_648 gw_553 gw_649) v_X10_sees ⟨rfl, rfl⟩ ⟨Nat.le_of_ble_eq_true rfl, Nat.le_of_ble_eq_true rfl⟩ dX10_readsList_89 (s_bipush (by decide +kernel) dX10_readsList_92 (s_cne (tgt := 110) (by decide +kernel) dX10_readsList_94 (s_X10_readsList_110 hκ) (s_aln 0 rfl dX10_readsList_97 (s_gf (T := TX10) winX10 rfl (Nat.le_of_ble_eq_true rfl) gw_754 rfl dX10_readsList_98 (s_bipush (by decide +kernel) dX10_readsList_101 (s_cge (tgt := 110) (by decide +kernel) dX10_readsList_103 (s_X10_readsList_110 hκ) (s_iconst (by decide +kernel) dX10_readsList_106 (s_goto (tgt := 111) (by decide +kernel) dX10_readsList_107 (s_X10_readsList_111 hκ)))))))))))))))))
noncomputable def k_X10_readsList_156 (κ : gb_K) : gb_C := o_rv
theorem l_X10_readsList_156 : gb_Li (fun κ => k_X10_readsList_156 κ) := (gb_li0 _)
theorem s_X10_readsList_156   {κ : gb_K} (hκ : ∀ q, gb_S RX10 cX10_readsList 2 (gb_rm 2 50) 0 q (κ q)) : gb_S RX10 cX10_readsList 2 (gb_rm 2 50) 0 156 (k_X10_readsList_156 κ) := (s_rv rfl dX10_readsList_156)
noncomputable def k_X10_readsList_129 (κ : gb_K) : gb_C := (o_al 0 (o_gf 10 18 (o_ci (-1) (o_ceq (o_al 0 (o_gf 10 17 (o_al 0 (o_gf 10 16 (o_cge (k_X10_readsList_156 κ) (o_al 0 (o_al 0 (o_gf 10 17 (o_cv 1 10 0 f_X10_fault (k_X10_readsList_156 κ)))))))))) (k_X10_readsList_156 κ)))))
theorem l_X10_readsList_129 : gb_Li (fun κ => k_X10_readsList_129 κ) := (gb_li (q_al 0) (gb_li (q_gf 10 18) (gb_li (q_ci (-1)) (q_ceq (gb_li (q_al 0) (gb_li (q_gf 10 17) (gb_li (q_al 0) (gb_li (q_gf 10 16) (q_cge (l_X10_readsList_156) (gb_li (q_al 0) (gb_li (q_al 0) (gb_li (q_gf 10 17) (gb_li (q_cv 1 10 0 f_X10_fault) (l_X10_readsList_156)))))))))) (l_X10_readsList_156)))))
theorem s_X10_readsList_129   {κ : gb_K} (hκ : ∀ q, gb_S RX10 cX10_readsList 2 (gb_rm 2 50) 0 q (κ q)) : gb_S RX10 cX10_readsList 2 (gb_rm 2 50) 0 129 (k_X10_readsList_129 κ) := (s_aln 0 rfl dX10_readsList_129 (s_gf (T := TX10) winX10 rfl (Nat.le_of_ble_eq_true rfl) gw_645 rfl dX10_readsList_130 (s_iconst (by decide +kernel) dX10_readsList_133 (s_cne (tgt := 156) (by decide +kernel) dX10_readsList_134 (s_X10_readsList_156 hκ) (s_aln 0 rfl dX10_readsList_137 (s_gf (T := TX10) winX10 rfl (Nat.le_of_ble_eq_true rfl) gw_644 rfl dX10_readsList_138 (s_aln 0 rfl dX10_readsList_141 (s_gf (T := TX10) winX10 rfl (Nat.le_of_ble_eq_true rfl) gw_643 rfl dX10_readsList_142 (s_cge (tgt := 156) (by decide +kernel) dX10_readsList_145 (s_X10_readsList_156 hκ) (s_aln 0 rfl dX10_readsList_148 (s_aln 0 rfl dX10_readsList_149 (s_gf (T := TX10) winX10 rfl (Nat.le_of_ble_eq_true rfl) gw_644 rfl dX10_readsList_150 (s_cv (C := RX10) c_X10_fault rfl (gb_l5 gw_650 gw_651 gw_652 gw_553 gw_653) v_X10_fault ⟨rfl, rfl⟩ ⟨Nat.le_of_ble_eq_true rfl, Nat.le_of_ble_eq_true rfl⟩ dX10_readsList_153 (s_X10_readsList_156 hκ))))))))))))))
noncomputable def k_X10_readsList_22 (κ : gb_K) : gb_C := (o_il 1 (o_zeq (k_X10_readsList_129 κ) (o_al 0 (o_gf 10 18 (o_ci (-1) (o_ceq (o_al 0 (o_gf 10 23 (o_al 0 (o_gf 10 25 (o_al 0 (o_cv 0 10 1 f_X10_gradeSign (o_iast (o_al 0 (o_ci 58 (o_cv 1 10 0 f_X10_expect (o_al 0 (o_gf 10 24 (o_al 0 (o_gf 10 25 (o_al 0 (o_ci 1 (o_ci 99 (o_ci 2 (o_cv 3 10 1 f_X10_number (o_iast (o_al 0 (o_dup (o_gf 10 25 (o_ci 1 (k_X10_readsList_76 κ))))))))))))))))))))))))) (k_X10_readsList_129 κ)))))))
theorem l_X10_readsList_22 : gb_Li (fun κ => k_X10_readsList_22 κ) := (gb_li (q_il 1) (q_zeq (l_X10_readsList_129) (gb_li (q_al 0) (gb_li (q_gf 10 18) (gb_li (q_ci (-1)) (q_ceq (gb_li (q_al 0) (gb_li (q_gf 10 23) (gb_li (q_al 0) (gb_li (q_gf 10 25) (gb_li (q_al 0) (gb_li (q_cv 0 10 1 f_X10_gradeSign) (gb_li q_iast (gb_li (q_al 0) (gb_li (q_ci 58) (gb_li (q_cv 1 10 0 f_X10_expect) (gb_li (q_al 0) (gb_li (q_gf 10 24) (gb_li (q_al 0) (gb_li (q_gf 10 25) (gb_li (q_al 0) (gb_li (q_ci 1) (gb_li (q_ci 99) (gb_li (q_ci 2) (gb_li (q_cv 3 10 1 f_X10_number) (gb_li q_iast (gb_li (q_al 0) (gb_li q_dup (gb_li (q_gf 10 25) (gb_li (q_ci 1) (l_X10_readsList_76))))))))))))))))))))))))) (l_X10_readsList_129)))))))
theorem s_X10_readsList_22   {κ : gb_K} (hκ : ∀ q, gb_S RX10 cX10_readsList 2 (gb_rm 2 50) 0 q (κ q)) : gb_S RX10 cX10_readsList 2 (gb_rm 2 50) 0 22 (k_X10_readsList_22 κ) := (s_iln 1 rfl dX10_readsList_22 (s_zeq (tgt := 129) (by decide +kernel) dX10_readsList_23 (s_X10_readsList_129 hκ) (s_aln 0 rfl dX10_readsList_26 (s_gf (T := TX10) winX10 rfl (Nat.le_of_ble_eq_true rfl) gw_645 rfl dX10_readsList_27 (s_iconst (by decide +kernel) dX10_readsList_30 (s_cne (tgt := 129) (by decide +kernel) dX10_readsList_31 (s_X10_readsList_129 hκ) (s_aln 0 rfl dX10_readsList_34 (s_gf (T := TX10) winX10 rfl (Nat.le_of_ble_eq_true rfl) gw_755 rfl dX10_readsList_35 (s_aln 0 rfl dX10_readsList_38 (s_gf (T := TX10) winX10 rfl (Nat.le_of_ble_eq_true rfl) gw_754 rfl dX10_readsList_39 (s_aln 0 rfl dX10_readsList_42 (s_cv (C := RX10) c_X10_gradeSign rfl (gb_l5 gw_667 gw_668 gw_669 gw_553 gw_670) v_X10_gradeSign ⟨rfl, rfl⟩ ⟨Nat.le_of_ble_eq_true rfl, Nat.le_of_ble_eq_true rfl⟩ dX10_readsList_43 (s_iast dX10_readsList_46 (s_aln 0 rfl dX10_readsList_47 (s_bipush (by decide +kernel) dX10_readsList_48 (s_cv (C := RX10) c_X10_expect rfl (gb_l5 gw_658 gw_659 gw_660 gw_553 gw_661) v_X10_expect ⟨rfl, rfl⟩ ⟨Nat.le_of_ble_eq_true rfl, Nat.le_of_ble_eq_true rfl⟩ dX10_readsList_50 (s_aln 0 rfl dX10_readsList_53 (s_gf (T := TX10) winX10 rfl (Nat.le_of_ble_eq_true rfl) gw_756 rfl dX10_readsList_54 (s_aln 0 rfl dX10_readsList_57 (s_gf (T := TX10) winX10 rfl (Nat.le_of_ble_eq_true rfl) gw_754 rfl dX10_readsList_58 (s_aln 0 rfl dX10_readsList_61 (s_iconst (by decide +kernel) dX10_readsList_62 (s_bipush (by decide +kernel) dX10_readsList_63 (s_iconst (by decide +kernel) dX10_readsList_65 (s_cv (C := RX10) c_X10_number rfl (gb_l5 gw_662 gw_663 gw_664 gw_553 gw_665) v_X10_number ⟨rfl, rfl⟩ ⟨Nat.le_of_ble_eq_true rfl, Nat.le_of_ble_eq_true rfl⟩ dX10_readsList_66 (s_iast dX10_readsList_69 (s_aln 0 rfl dX10_readsList_70 (s_dup dX10_readsList_71 (s_gf (T := TX10) winX10 rfl (Nat.le_of_ble_eq_true rfl) gw_754 rfl dX10_readsList_72 (s_iconst (by decide +kernel) dX10_readsList_75 (s_X10_readsList_76 hκ)))))))))))))))))))))))))))))))
noncomputable def B_X10_readsList : List (Nat × (gb_K → gb_C)) := [(22, fun κ => k_X10_readsList_22 κ)]
noncomputable def K_X10_readsList : gb_K := gb_fx (gb_tb (B_X10_readsList))
theorem L_X10_readsList : ∀ q, gb_Li (fun κ => gb_tb (B_X10_readsList) κ q) := gb_tb_li (List.forall_mem_cons.mpr ⟨l_X10_readsList_22, (fun _ h => absurd h List.not_mem_nil)⟩)
theorem S_X10_readsList   : ∀ q, gb_S RX10 cX10_readsList 2 (gb_rm 2 50) 0 q (K_X10_readsList q) := fun q => gb_fx_S (L_X10_readsList) (gb_tb_S (List.forall_mem_cons.mpr ⟨fun κ hκ => s_X10_readsList_22 hκ, (fun _ h => absurd h List.not_mem_nil)⟩)) q
noncomputable def f_X10_readsList : gb_F := gb_hide (gb_mf 2 (k_X10_readsList_0 (K_X10_readsList)))
theorem c_X10_readsList : ∀ l, gb_Met l yX10_readsList cX10_readsList 2 none 0 (gb_rm 2 50) f_X10_readsList := gb_hide_c (gb_met (own := RX10) (rk := 0) rfl (by decide +kernel) ⟨rfl, rfl⟩ (s_X10_readsList_0 (S_X10_readsList)))
theorem dX10_lowest_0 : decode cX10_lowest 0 = .ok (.iconst 0, 1) := by decide +kernel
theorem dX10_lowest_1 : decode cX10_lowest 1 = .ok (.istore_n 3, 1) := by decide +kernel
theorem dX10_lowest_2 : decode cX10_lowest 2 = .ok (.iconst 0, 1) := by decide +kernel
theorem dX10_lowest_3 : decode cX10_lowest 3 = .ok (.istore 4, 2) := by decide +kernel
theorem dX10_lowest_5 : decode cX10_lowest 5 = .ok (.iload 4, 2) := by decide +kernel
theorem dX10_lowest_7 : decode cX10_lowest 7 = .ok (.aload_n 0, 1) := by decide +kernel
theorem dX10_lowest_8 : decode cX10_lowest 8 = .ok (.iload_n 1, 1) := by decide +kernel
theorem dX10_lowest_9 : decode cX10_lowest 9 = .ok (.invokevirtual 84, 3) := by decide +kernel
theorem dX10_lowest_12 : decode cX10_lowest 12 = .ok (.if_icmp .ge 32, 3) := by decide +kernel
theorem dX10_lowest_15 : decode cX10_lowest 15 = .ok (.aload_n 0, 1) := by decide +kernel
theorem dX10_lowest_16 : decode cX10_lowest 16 = .ok (.iload_n 1, 1) := by decide +kernel
theorem dX10_lowest_17 : decode cX10_lowest 17 = .ok (.iload 4, 2) := by decide +kernel
theorem dX10_lowest_19 : decode cX10_lowest 19 = .ok (.iconst 0, 1) := by decide +kernel
theorem dX10_lowest_20 : decode cX10_lowest 20 = .ok (.invokevirtual 88, 3) := by decide +kernel
theorem dX10_lowest_23 : decode cX10_lowest 23 = .ok (.iload_n 2, 1) := by decide +kernel
theorem dX10_lowest_24 : decode cX10_lowest 24 = .ok (.if_icmp .ne 20, 3) := by decide +kernel
theorem dX10_lowest_27 : decode cX10_lowest 27 = .ok (.iload_n 3, 1) := by decide +kernel
theorem dX10_lowest_28 : decode cX10_lowest 28 = .ok (.aload_n 0, 1) := by decide +kernel
theorem dX10_lowest_29 : decode cX10_lowest 29 = .ok (.iload_n 1, 1) := by decide +kernel
theorem dX10_lowest_30 : decode cX10_lowest 30 = .ok (.iload 4, 2) := by decide +kernel
theorem dX10_lowest_32 : decode cX10_lowest 32 = .ok (.iconst 1, 1) := by decide +kernel
theorem dX10_lowest_33 : decode cX10_lowest 33 = .ok (.invokevirtual 88, 3) := by decide +kernel
theorem dX10_lowest_36 : decode cX10_lowest 36 = .ok (.iadd, 1) := by decide +kernel
theorem dX10_lowest_37 : decode cX10_lowest 37 = .ok (.istore_n 3, 1) := by decide +kernel
theorem dX10_lowest_38 : decode cX10_lowest 38 = .ok (.iinc 4 1, 3) := by decide +kernel
theorem dX10_lowest_41 : decode cX10_lowest 41 = .ok (.goto (-36), 3) := by decide +kernel
theorem dX10_lowest_44 : decode cX10_lowest 44 = .ok (.iload_n 3, 1) := by decide +kernel
theorem dX10_lowest_45 : decode cX10_lowest 45 = .ok (.ireturn, 1) := by decide +kernel
theorem v_X10_lowest : yX10_lowest.cls = RX10 ∧ yX10_lowest.cls ≠ "java/lang/invoke/MethodHandle" ∧ yX10_lowest.cls ≠ "java/lang/invoke/VarHandle" ∧ (parseMethodDescriptor yX10_lowest.desc).map (fun d => d.parameters.length) = some 2 := ⟨rfl, by decide +kernel, by decide +kernel, by decide +kernel⟩
noncomputable def k_X10_lowest_0 (κ : gb_K) : gb_C := (o_ci 0 (o_is 3 (o_ci 0 (o_is 4 (o_j [0, 1, 2, 3, 4] (κ 5))))))
theorem l_X10_lowest_0 : gb_Li (fun κ => k_X10_lowest_0 κ) := (gb_li (q_ci 0) (gb_li (q_is 3) (gb_li (q_ci 0) (gb_li (q_is 4) (q_j [0, 1, 2, 3, 4] 5)))))
theorem s_X10_lowest_0   {κ : gb_K} (hκ : ∀ q, gb_S RX10 cX10_lowest 5 (gb_rm 1 23) 1 q (κ q)) : gb_S RX10 cX10_lowest 5 (gb_rm 1 23) 1 0 (k_X10_lowest_0 κ) := (s_iconst (by decide +kernel) dX10_lowest_0 (s_isn 3 rfl (Nat.le_of_ble_eq_true rfl) dX10_lowest_1 (s_iconst (by decide +kernel) dX10_lowest_2 (s_is (Nat.le_of_ble_eq_true rfl) dX10_lowest_3 (s_j (hκ 5))))))
noncomputable def k_X10_lowest_44 (κ : gb_K) : gb_C := (o_il 3 o_ri)
theorem l_X10_lowest_44 : gb_Li (fun κ => k_X10_lowest_44 κ) := (gb_li (q_il 3) (gb_li0 _))
theorem s_X10_lowest_44   {κ : gb_K} (hκ : ∀ q, gb_S RX10 cX10_lowest 5 (gb_rm 1 23) 1 q (κ q)) : gb_S RX10 cX10_lowest 5 (gb_rm 1 23) 1 44 (k_X10_lowest_44 κ) := (s_iln 3 rfl dX10_lowest_44 (s_ri rfl dX10_lowest_45))
noncomputable def k_X10_lowest_5 (κ : gb_K) : gb_C := (o_il 4 (o_al 0 (o_il 1 (o_cv 1 10 1 f_X10_many (o_cge (k_X10_lowest_44 κ) (o_al 0 (o_il 1 (o_il 4 (o_ci 0 (o_cv 3 10 1 f_X10_layerOf (o_il 2 (o_ceq (o_il 3 (o_al 0 (o_il 1 (o_il 4 (o_ci 1 (o_cv 3 10 1 f_X10_layerOf (o_ib (fun x y => x + y) (o_is 3 (o_inc 4 1 (o_j [0, 1, 2, 3, 4] (κ 5))))))))))) (k_X10_lowest_44 κ)))))))))))))
theorem l_X10_lowest_5 : gb_Li (fun κ => k_X10_lowest_5 κ) := (gb_li (q_il 4) (gb_li (q_al 0) (gb_li (q_il 1) (gb_li (q_cv 1 10 1 f_X10_many) (q_cge (l_X10_lowest_44) (gb_li (q_al 0) (gb_li (q_il 1) (gb_li (q_il 4) (gb_li (q_ci 0) (gb_li (q_cv 3 10 1 f_X10_layerOf) (gb_li (q_il 2) (q_ceq (gb_li (q_il 3) (gb_li (q_al 0) (gb_li (q_il 1) (gb_li (q_il 4) (gb_li (q_ci 1) (gb_li (q_cv 3 10 1 f_X10_layerOf) (gb_li (q_ib _) (gb_li (q_is 3) (gb_li (q_inc 4 1) (q_j [0, 1, 2, 3, 4] 5)))))))))) (l_X10_lowest_44)))))))))))))
theorem s_X10_lowest_5   {κ : gb_K} (hκ : ∀ q, gb_S RX10 cX10_lowest 5 (gb_rm 1 23) 1 q (κ q)) : gb_S RX10 cX10_lowest 5 (gb_rm 1 23) 1 5 (k_X10_lowest_5 κ) := (s_il dX10_lowest_5 (s_aln 0 rfl dX10_lowest_7 (s_iln 1 rfl dX10_lowest_8 (s_cv (C := RX10) c_X10_many rfl (gb_l5 gw_557 gw_558 gw_559 gw_553 gw_560) v_X10_many ⟨rfl, rfl⟩ ⟨Nat.le_of_ble_eq_true rfl, Nat.le_of_ble_eq_true rfl⟩ dX10_lowest_9 (s_cge (tgt := 44) (by decide +kernel) dX10_lowest_12 (s_X10_lowest_44 hκ) (s_aln 0 rfl dX10_lowest_15 (s_iln 1 rfl dX10_lowest_16 (s_il dX10_lowest_17 (s_iconst (by decide +kernel) dX10_lowest_19 (s_cv (C := RX10) c_X10_layerOf rfl (gb_l5 gw_561 gw_562 gw_563 gw_553 gw_564) v_X10_layerOf ⟨rfl, rfl⟩ ⟨Nat.le_of_ble_eq_true rfl, Nat.le_of_ble_eq_true rfl⟩ dX10_lowest_20 (s_iln 2 rfl dX10_lowest_23 (s_cne (tgt := 44) (by decide +kernel) dX10_lowest_24 (s_X10_lowest_44 hκ) (s_iln 3 rfl dX10_lowest_27 (s_aln 0 rfl dX10_lowest_28 (s_iln 1 rfl dX10_lowest_29 (s_il dX10_lowest_30 (s_iconst (by decide +kernel) dX10_lowest_32 (s_cv (C := RX10) c_X10_layerOf rfl (gb_l5 gw_561 gw_562 gw_563 gw_553 gw_564) v_X10_layerOf ⟨rfl, rfl⟩ ⟨Nat.le_of_ble_eq_true rfl, Nat.le_of_ble_eq_true rfl⟩ dX10_lowest_33 (s_iadd dX10_lowest_36 (s_isn 3 rfl (Nat.le_of_ble_eq_true rfl) dX10_lowest_37 (s_inc (by decide +kernel) (Nat.le_of_ble_eq_true rfl) dX10_lowest_38 (s_goto (tgt := 5) (by decide +kernel) dX10_lowest_41 (s_j (hκ 5))))))))))))))))))))))))
noncomputable def B_X10_lowest : List (Nat × (gb_K → gb_C)) := [(5, fun κ => k_X10_lowest_5 κ)]
noncomputable def K_X10_lowest : gb_K := gb_fx (gb_tb (B_X10_lowest))
theorem L_X10_lowest : ∀ q, gb_Li (fun κ => gb_tb (B_X10_lowest) κ q) := gb_tb_li (List.forall_mem_cons.mpr ⟨l_X10_lowest_5, (fun _ h => absurd h List.not_mem_nil)⟩)
theorem S_X10_lowest   : ∀ q, gb_S RX10 cX10_lowest 5 (gb_rm 1 23) 1 q (K_X10_lowest q) := fun q => gb_fx_S (L_X10_lowest) (gb_tb_S (List.forall_mem_cons.mpr ⟨fun κ hκ => s_X10_lowest_5 hκ, (fun _ h => absurd h List.not_mem_nil)⟩)) q
noncomputable def f_X10_lowest : gb_F := gb_hide (gb_mf 5 (k_X10_lowest_0 (K_X10_lowest)))
theorem c_X10_lowest : ∀ l, gb_Met l yX10_lowest cX10_lowest 5 (some .int) 1 (gb_rm 1 23) f_X10_lowest := gb_hide_c (gb_met (own := RX10) (rk := 1) rfl (by decide +kernel) ⟨rfl, rfl⟩ (s_X10_lowest_0 (S_X10_lowest)))
theorem dX10_laysDown_0 : decode cX10_laysDown 0 = .ok (.iconst 0, 1) := by decide +kernel
theorem dX10_laysDown_1 : decode cX10_laysDown 1 = .ok (.istore_n 2, 1) := by decide +kernel
theorem dX10_laysDown_2 : decode cX10_laysDown 2 = .ok (.iload_n 2, 1) := by decide +kernel
theorem dX10_laysDown_3 : decode cX10_laysDown 3 = .ok (.sipush 176, 3) := by decide +kernel
theorem dX10_laysDown_6 : decode cX10_laysDown 6 = .ok (.if_icmp .ge 27, 3) := by decide +kernel
theorem dX10_laysDown_9 : decode cX10_laysDown 9 = .ok (.aload_n 0, 1) := by decide +kernel
theorem dX10_laysDown_10 : decode cX10_laysDown 10 = .ok (.getfield 54, 3) := by decide +kernel
theorem dX10_laysDown_13 : decode cX10_laysDown 13 = .ok (.sipush 176, 3) := by decide +kernel
theorem dX10_laysDown_16 : decode cX10_laysDown 16 = .ok (.iload_n 1, 1) := by decide +kernel
theorem dX10_laysDown_17 : decode cX10_laysDown 17 = .ok (.imul, 1) := by decide +kernel
theorem dX10_laysDown_18 : decode cX10_laysDown 18 = .ok (.iload_n 2, 1) := by decide +kernel
theorem dX10_laysDown_19 : decode cX10_laysDown 19 = .ok (.iadd, 1) := by decide +kernel
theorem dX10_laysDown_20 : decode cX10_laysDown 20 = .ok (.aload_n 0, 1) := by decide +kernel
theorem dX10_laysDown_21 : decode cX10_laysDown 21 = .ok (.getfield 7, 3) := by decide +kernel
theorem dX10_laysDown_24 : decode cX10_laysDown 24 = .ok (.iload_n 2, 1) := by decide +kernel
theorem dX10_laysDown_25 : decode cX10_laysDown 25 = .ok (.iaload, 1) := by decide +kernel
theorem dX10_laysDown_26 : decode cX10_laysDown 26 = .ok (.iastore, 1) := by decide +kernel
theorem dX10_laysDown_27 : decode cX10_laysDown 27 = .ok (.iinc 2 1, 3) := by decide +kernel
theorem dX10_laysDown_30 : decode cX10_laysDown 30 = .ok (.goto (-28), 3) := by decide +kernel
theorem dX10_laysDown_33 : decode cX10_laysDown 33 = .ok (.return_, 1) := by decide +kernel
theorem v_X10_laysDown : yX10_laysDown.cls = RX10 ∧ yX10_laysDown.cls ≠ "java/lang/invoke/MethodHandle" ∧ yX10_laysDown.cls ≠ "java/lang/invoke/VarHandle" ∧ (parseMethodDescriptor yX10_laysDown.desc).map (fun d => d.parameters.length) = some 1 := ⟨rfl, by decide +kernel, by decide +kernel, by decide +kernel⟩
noncomputable def k_X10_laysDown_0 (κ : gb_K) : gb_C := (o_ci 0 (o_is 2 (o_j [0, 1, 2] (κ 2))))
theorem l_X10_laysDown_0 : gb_Li (fun κ => k_X10_laysDown_0 κ) := (gb_li (q_ci 0) (gb_li (q_is 2) (q_j [0, 1, 2] 2)))
theorem s_X10_laysDown_0   {κ : gb_K} (hκ : ∀ q, gb_S RX10 cX10_laysDown 3 (gb_rm 0 0) 0 q (κ q)) : gb_S RX10 cX10_laysDown 3 (gb_rm 0 0) 0 0 (k_X10_laysDown_0 κ) := (s_iconst (by decide +kernel) dX10_laysDown_0 (s_isn 2 rfl (Nat.le_of_ble_eq_true rfl) dX10_laysDown_1 (s_j (hκ 2))))
noncomputable def k_X10_laysDown_2 (κ : gb_K) : gb_C := (o_il 2 (o_ci 176 (o_cge o_rv (o_al 0 (o_gf 10 28 (o_ci 176 (o_il 1 (o_ib (fun x y => x * y) (o_il 2 (o_ib (fun x y => x + y) (o_al 0 (o_gf 10 0 (o_il 2 (o_iald (o_iast (o_inc 2 1 (o_j [0, 1, 2] (κ 2))))))))))))))))))
theorem l_X10_laysDown_2 : gb_Li (fun κ => k_X10_laysDown_2 κ) := (gb_li (q_il 2) (gb_li (q_ci 176) (q_cge (gb_li0 _) (gb_li (q_al 0) (gb_li (q_gf 10 28) (gb_li (q_ci 176) (gb_li (q_il 1) (gb_li (q_ib _) (gb_li (q_il 2) (gb_li (q_ib _) (gb_li (q_al 0) (gb_li (q_gf 10 0) (gb_li (q_il 2) (gb_li q_iald (gb_li q_iast (gb_li (q_inc 2 1) (q_j [0, 1, 2] 2)))))))))))))))))
theorem s_X10_laysDown_2   {κ : gb_K} (hκ : ∀ q, gb_S RX10 cX10_laysDown 3 (gb_rm 0 0) 0 q (κ q)) : gb_S RX10 cX10_laysDown 3 (gb_rm 0 0) 0 2 (k_X10_laysDown_2 κ) := (s_iln 2 rfl dX10_laysDown_2 (s_sipush (by decide +kernel) dX10_laysDown_3 (s_cge (tgt := 33) (by decide +kernel) dX10_laysDown_6 (s_rv rfl dX10_laysDown_33) (s_aln 0 rfl dX10_laysDown_9 (s_gf (T := TX10) winX10 rfl (Nat.le_of_ble_eq_true rfl) gw_757 rfl dX10_laysDown_10 (s_sipush (by decide +kernel) dX10_laysDown_13 (s_iln 1 rfl dX10_laysDown_16 (s_imul dX10_laysDown_17 (s_iln 2 rfl dX10_laysDown_18 (s_iadd dX10_laysDown_19 (s_aln 0 rfl dX10_laysDown_20 (s_gf (T := TX10) winX10 rfl (Nat.le_of_ble_eq_true rfl) gw_545 rfl dX10_laysDown_21 (s_iln 2 rfl dX10_laysDown_24 (s_iald dX10_laysDown_25 (s_iast dX10_laysDown_26 (s_inc (by decide +kernel) (Nat.le_of_ble_eq_true rfl) dX10_laysDown_27 (s_goto (tgt := 2) (by decide +kernel) dX10_laysDown_30 (s_j (hκ 2)))))))))))))))))))
noncomputable def B_X10_laysDown : List (Nat × (gb_K → gb_C)) := [(2, fun κ => k_X10_laysDown_2 κ)]
noncomputable def K_X10_laysDown : gb_K := gb_fx (gb_tb (B_X10_laysDown))
theorem L_X10_laysDown : ∀ q, gb_Li (fun κ => gb_tb (B_X10_laysDown) κ q) := gb_tb_li (List.forall_mem_cons.mpr ⟨l_X10_laysDown_2, (fun _ h => absurd h List.not_mem_nil)⟩)
theorem S_X10_laysDown   : ∀ q, gb_S RX10 cX10_laysDown 3 (gb_rm 0 0) 0 q (K_X10_laysDown q) := fun q => gb_fx_S (L_X10_laysDown) (gb_tb_S (List.forall_mem_cons.mpr ⟨fun κ hκ => s_X10_laysDown_2 hκ, (fun _ h => absurd h List.not_mem_nil)⟩)) q
noncomputable def f_X10_laysDown : gb_F := gb_hide (gb_mf 3 (k_X10_laysDown_0 (K_X10_laysDown)))
theorem c_X10_laysDown : ∀ l, gb_Met l yX10_laysDown cX10_laysDown 3 none 0 (gb_rm 0 0) f_X10_laysDown := gb_hide_c (gb_met (own := RX10) (rk := 0) rfl (by decide +kernel) ⟨rfl, rfl⟩ (s_X10_laysDown_0 (S_X10_laysDown)))
theorem dX10_takesUp_0 : decode cX10_takesUp 0 = .ok (.iconst 0, 1) := by decide +kernel
theorem dX10_takesUp_1 : decode cX10_takesUp 1 = .ok (.istore_n 2, 1) := by decide +kernel
theorem dX10_takesUp_2 : decode cX10_takesUp 2 = .ok (.iload_n 2, 1) := by decide +kernel
theorem dX10_takesUp_3 : decode cX10_takesUp 3 = .ok (.sipush 176, 3) := by decide +kernel
theorem dX10_takesUp_6 : decode cX10_takesUp 6 = .ok (.if_icmp .ge 27, 3) := by decide +kernel
theorem dX10_takesUp_9 : decode cX10_takesUp 9 = .ok (.aload_n 0, 1) := by decide +kernel
theorem dX10_takesUp_10 : decode cX10_takesUp 10 = .ok (.getfield 7, 3) := by decide +kernel
theorem dX10_takesUp_13 : decode cX10_takesUp 13 = .ok (.iload_n 2, 1) := by decide +kernel
theorem dX10_takesUp_14 : decode cX10_takesUp 14 = .ok (.aload_n 0, 1) := by decide +kernel
theorem dX10_takesUp_15 : decode cX10_takesUp 15 = .ok (.getfield 54, 3) := by decide +kernel
theorem dX10_takesUp_18 : decode cX10_takesUp 18 = .ok (.sipush 176, 3) := by decide +kernel
theorem dX10_takesUp_21 : decode cX10_takesUp 21 = .ok (.iload_n 1, 1) := by decide +kernel
theorem dX10_takesUp_22 : decode cX10_takesUp 22 = .ok (.imul, 1) := by decide +kernel
theorem dX10_takesUp_23 : decode cX10_takesUp 23 = .ok (.iload_n 2, 1) := by decide +kernel
theorem dX10_takesUp_24 : decode cX10_takesUp 24 = .ok (.iadd, 1) := by decide +kernel
theorem dX10_takesUp_25 : decode cX10_takesUp 25 = .ok (.iaload, 1) := by decide +kernel
theorem dX10_takesUp_26 : decode cX10_takesUp 26 = .ok (.iastore, 1) := by decide +kernel
theorem dX10_takesUp_27 : decode cX10_takesUp 27 = .ok (.iinc 2 1, 3) := by decide +kernel
theorem dX10_takesUp_30 : decode cX10_takesUp 30 = .ok (.goto (-28), 3) := by decide +kernel
theorem dX10_takesUp_33 : decode cX10_takesUp 33 = .ok (.return_, 1) := by decide +kernel
theorem v_X10_takesUp : yX10_takesUp.cls = RX10 ∧ yX10_takesUp.cls ≠ "java/lang/invoke/MethodHandle" ∧ yX10_takesUp.cls ≠ "java/lang/invoke/VarHandle" ∧ (parseMethodDescriptor yX10_takesUp.desc).map (fun d => d.parameters.length) = some 1 := ⟨rfl, by decide +kernel, by decide +kernel, by decide +kernel⟩
noncomputable def k_X10_takesUp_0 (κ : gb_K) : gb_C := (o_ci 0 (o_is 2 (o_j [0, 1, 2] (κ 2))))
theorem l_X10_takesUp_0 : gb_Li (fun κ => k_X10_takesUp_0 κ) := (gb_li (q_ci 0) (gb_li (q_is 2) (q_j [0, 1, 2] 2)))
theorem s_X10_takesUp_0   {κ : gb_K} (hκ : ∀ q, gb_S RX10 cX10_takesUp 3 (gb_rm 0 0) 0 q (κ q)) : gb_S RX10 cX10_takesUp 3 (gb_rm 0 0) 0 0 (k_X10_takesUp_0 κ) := (s_iconst (by decide +kernel) dX10_takesUp_0 (s_isn 2 rfl (Nat.le_of_ble_eq_true rfl) dX10_takesUp_1 (s_j (hκ 2))))
noncomputable def k_X10_takesUp_2 (κ : gb_K) : gb_C := (o_il 2 (o_ci 176 (o_cge o_rv (o_al 0 (o_gf 10 0 (o_il 2 (o_al 0 (o_gf 10 28 (o_ci 176 (o_il 1 (o_ib (fun x y => x * y) (o_il 2 (o_ib (fun x y => x + y) (o_iald (o_iast (o_inc 2 1 (o_j [0, 1, 2] (κ 2))))))))))))))))))
theorem l_X10_takesUp_2 : gb_Li (fun κ => k_X10_takesUp_2 κ) := (gb_li (q_il 2) (gb_li (q_ci 176) (q_cge (gb_li0 _) (gb_li (q_al 0) (gb_li (q_gf 10 0) (gb_li (q_il 2) (gb_li (q_al 0) (gb_li (q_gf 10 28) (gb_li (q_ci 176) (gb_li (q_il 1) (gb_li (q_ib _) (gb_li (q_il 2) (gb_li (q_ib _) (gb_li q_iald (gb_li q_iast (gb_li (q_inc 2 1) (q_j [0, 1, 2] 2)))))))))))))))))
theorem s_X10_takesUp_2   {κ : gb_K} (hκ : ∀ q, gb_S RX10 cX10_takesUp 3 (gb_rm 0 0) 0 q (κ q)) : gb_S RX10 cX10_takesUp 3 (gb_rm 0 0) 0 2 (k_X10_takesUp_2 κ) := (s_iln 2 rfl dX10_takesUp_2 (s_sipush (by decide +kernel) dX10_takesUp_3 (s_cge (tgt := 33) (by decide +kernel) dX10_takesUp_6 (s_rv rfl dX10_takesUp_33) (s_aln 0 rfl dX10_takesUp_9 (s_gf (T := TX10) winX10 rfl (Nat.le_of_ble_eq_true rfl) gw_545 rfl dX10_takesUp_10 (s_iln 2 rfl dX10_takesUp_13 (s_aln 0 rfl dX10_takesUp_14 (s_gf (T := TX10) winX10 rfl (Nat.le_of_ble_eq_true rfl) gw_757 rfl dX10_takesUp_15 (s_sipush (by decide +kernel) dX10_takesUp_18 (s_iln 1 rfl dX10_takesUp_21 (s_imul dX10_takesUp_22 (s_iln 2 rfl dX10_takesUp_23 (s_iadd dX10_takesUp_24 (s_iald dX10_takesUp_25 (s_iast dX10_takesUp_26 (s_inc (by decide +kernel) (Nat.le_of_ble_eq_true rfl) dX10_takesUp_27 (s_goto (tgt := 2) (by decide +kernel) dX10_takesUp_30 (s_j (hκ 2)))))))))))))))))))
noncomputable def B_X10_takesUp : List (Nat × (gb_K → gb_C)) := [(2, fun κ => k_X10_takesUp_2 κ)]
noncomputable def K_X10_takesUp : gb_K := gb_fx (gb_tb (B_X10_takesUp))
theorem L_X10_takesUp : ∀ q, gb_Li (fun κ => gb_tb (B_X10_takesUp) κ q) := gb_tb_li (List.forall_mem_cons.mpr ⟨l_X10_takesUp_2, (fun _ h => absurd h List.not_mem_nil)⟩)
theorem S_X10_takesUp   : ∀ q, gb_S RX10 cX10_takesUp 3 (gb_rm 0 0) 0 q (K_X10_takesUp q) := fun q => gb_fx_S (L_X10_takesUp) (gb_tb_S (List.forall_mem_cons.mpr ⟨fun κ hκ => s_X10_takesUp_2 hκ, (fun _ h => absurd h List.not_mem_nil)⟩)) q
noncomputable def f_X10_takesUp : gb_F := gb_hide (gb_mf 3 (k_X10_takesUp_0 (K_X10_takesUp)))
theorem c_X10_takesUp : ∀ l, gb_Met l yX10_takesUp cX10_takesUp 3 none 0 (gb_rm 0 0) f_X10_takesUp := gb_hide_c (gb_met (own := RX10) (rk := 0) rfl (by decide +kernel) ⟨rfl, rfl⟩ (s_X10_takesUp_0 (S_X10_takesUp)))
theorem dX10_findsRow_0 : decode cX10_findsRow 0 = .ok (.iconst 0, 1) := by decide +kernel
theorem dX10_findsRow_1 : decode cX10_findsRow 1 = .ok (.istore_n 2, 1) := by decide +kernel
theorem dX10_findsRow_2 : decode cX10_findsRow 2 = .ok (.iload_n 2, 1) := by decide +kernel
theorem dX10_findsRow_3 : decode cX10_findsRow 3 = .ok (.iload_n 1, 1) := by decide +kernel
theorem dX10_findsRow_4 : decode cX10_findsRow 4 = .ok (.if_icmp .ge 21, 3) := by decide +kernel
theorem dX10_findsRow_7 : decode cX10_findsRow 7 = .ok (.aload_n 0, 1) := by decide +kernel
theorem dX10_findsRow_8 : decode cX10_findsRow 8 = .ok (.getfield 51, 3) := by decide +kernel
theorem dX10_findsRow_11 : decode cX10_findsRow 11 = .ok (.iload_n 2, 1) := by decide +kernel
theorem dX10_findsRow_12 : decode cX10_findsRow 12 = .ok (.aload_n 0, 1) := by decide +kernel
theorem dX10_findsRow_13 : decode cX10_findsRow 13 = .ok (.getfield 48, 3) := by decide +kernel
theorem dX10_findsRow_16 : decode cX10_findsRow 16 = .ok (.iload_n 2, 1) := by decide +kernel
theorem dX10_findsRow_17 : decode cX10_findsRow 17 = .ok (.iaload, 1) := by decide +kernel
theorem dX10_findsRow_18 : decode cX10_findsRow 18 = .ok (.iastore, 1) := by decide +kernel
theorem dX10_findsRow_19 : decode cX10_findsRow 19 = .ok (.iinc 2 1, 3) := by decide +kernel
theorem dX10_findsRow_22 : decode cX10_findsRow 22 = .ok (.goto (-20), 3) := by decide +kernel
theorem dX10_findsRow_25 : decode cX10_findsRow 25 = .ok (.return_, 1) := by decide +kernel
theorem v_X10_findsRow : yX10_findsRow.cls = RX10 ∧ yX10_findsRow.cls ≠ "java/lang/invoke/MethodHandle" ∧ yX10_findsRow.cls ≠ "java/lang/invoke/VarHandle" ∧ (parseMethodDescriptor yX10_findsRow.desc).map (fun d => d.parameters.length) = some 1 := ⟨rfl, by decide +kernel, by decide +kernel, by decide +kernel⟩
noncomputable def k_X10_findsRow_0 (κ : gb_K) : gb_C := (o_ci 0 (o_is 2 (o_j [0, 1, 2] (κ 2))))
theorem l_X10_findsRow_0 : gb_Li (fun κ => k_X10_findsRow_0 κ) := (gb_li (q_ci 0) (gb_li (q_is 2) (q_j [0, 1, 2] 2)))
theorem s_X10_findsRow_0   {κ : gb_K} (hκ : ∀ q, gb_S RX10 cX10_findsRow 3 (gb_rm 0 0) 0 q (κ q)) : gb_S RX10 cX10_findsRow 3 (gb_rm 0 0) 0 0 (k_X10_findsRow_0 κ) := (s_iconst (by decide +kernel) dX10_findsRow_0 (s_isn 2 rfl (Nat.le_of_ble_eq_true rfl) dX10_findsRow_1 (s_j (hκ 2))))
noncomputable def k_X10_findsRow_2 (κ : gb_K) : gb_C := (o_il 2 (o_il 1 (o_cge o_rv (o_al 0 (o_gf 10 27 (o_il 2 (o_al 0 (o_gf 10 26 (o_il 2 (o_iald (o_iast (o_inc 2 1 (o_j [0, 1, 2] (κ 2))))))))))))))
theorem l_X10_findsRow_2 : gb_Li (fun κ => k_X10_findsRow_2 κ) := (gb_li (q_il 2) (gb_li (q_il 1) (q_cge (gb_li0 _) (gb_li (q_al 0) (gb_li (q_gf 10 27) (gb_li (q_il 2) (gb_li (q_al 0) (gb_li (q_gf 10 26) (gb_li (q_il 2) (gb_li q_iald (gb_li q_iast (gb_li (q_inc 2 1) (q_j [0, 1, 2] 2)))))))))))))
theorem s_X10_findsRow_2   {κ : gb_K} (hκ : ∀ q, gb_S RX10 cX10_findsRow 3 (gb_rm 0 0) 0 q (κ q)) : gb_S RX10 cX10_findsRow 3 (gb_rm 0 0) 0 2 (k_X10_findsRow_2 κ) := (s_iln 2 rfl dX10_findsRow_2 (s_iln 1 rfl dX10_findsRow_3 (s_cge (tgt := 25) (by decide +kernel) dX10_findsRow_4 (s_rv rfl dX10_findsRow_25) (s_aln 0 rfl dX10_findsRow_7 (s_gf (T := TX10) winX10 rfl (Nat.le_of_ble_eq_true rfl) gw_758 rfl dX10_findsRow_8 (s_iln 2 rfl dX10_findsRow_11 (s_aln 0 rfl dX10_findsRow_12 (s_gf (T := TX10) winX10 rfl (Nat.le_of_ble_eq_true rfl) gw_759 rfl dX10_findsRow_13 (s_iln 2 rfl dX10_findsRow_16 (s_iald dX10_findsRow_17 (s_iast dX10_findsRow_18 (s_inc (by decide +kernel) (Nat.le_of_ble_eq_true rfl) dX10_findsRow_19 (s_goto (tgt := 2) (by decide +kernel) dX10_findsRow_22 (s_j (hκ 2)))))))))))))))
noncomputable def B_X10_findsRow : List (Nat × (gb_K → gb_C)) := [(2, fun κ => k_X10_findsRow_2 κ)]
noncomputable def K_X10_findsRow : gb_K := gb_fx (gb_tb (B_X10_findsRow))
theorem L_X10_findsRow : ∀ q, gb_Li (fun κ => gb_tb (B_X10_findsRow) κ q) := gb_tb_li (List.forall_mem_cons.mpr ⟨l_X10_findsRow_2, (fun _ h => absurd h List.not_mem_nil)⟩)
theorem S_X10_findsRow   : ∀ q, gb_S RX10 cX10_findsRow 3 (gb_rm 0 0) 0 q (K_X10_findsRow q) := fun q => gb_fx_S (L_X10_findsRow) (gb_tb_S (List.forall_mem_cons.mpr ⟨fun κ hκ => s_X10_findsRow_2 hκ, (fun _ h => absurd h List.not_mem_nil)⟩)) q
noncomputable def f_X10_findsRow : gb_F := gb_hide (gb_mf 3 (k_X10_findsRow_0 (K_X10_findsRow)))
theorem c_X10_findsRow : ∀ l, gb_Met l yX10_findsRow cX10_findsRow 3 none 0 (gb_rm 0 0) f_X10_findsRow := gb_hide_c (gb_met (own := RX10) (rk := 0) rfl (by decide +kernel) ⟨rfl, rfl⟩ (s_X10_findsRow_0 (S_X10_findsRow)))
theorem dX10_canServe_0 : decode cX10_canServe 0 = .ok (.aload_n 0, 1) := by decide +kernel
theorem dX10_canServe_1 : decode cX10_canServe 1 = .ok (.iload_n 1, 1) := by decide +kernel
theorem dX10_canServe_2 : decode cX10_canServe 2 = .ok (.invokevirtual 134, 3) := by decide +kernel
theorem dX10_canServe_5 : decode cX10_canServe 5 = .ok (.ifCond .ne 27, 3) := by decide +kernel
theorem dX10_canServe_8 : decode cX10_canServe 8 = .ok (.aload_n 0, 1) := by decide +kernel
theorem dX10_canServe_9 : decode cX10_canServe 9 = .ok (.iload_n 1, 1) := by decide +kernel
theorem dX10_canServe_10 : decode cX10_canServe 10 = .ok (.aload_n 0, 1) := by decide +kernel
theorem dX10_canServe_11 : decode cX10_canServe 11 = .ok (.getfield 42, 3) := by decide +kernel
theorem dX10_canServe_14 : decode cX10_canServe 14 = .ok (.iload_n 2, 1) := by decide +kernel
theorem dX10_canServe_15 : decode cX10_canServe 15 = .ok (.iaload, 1) := by decide +kernel
theorem dX10_canServe_16 : decode cX10_canServe 16 = .ok (.invokevirtual 285, 3) := by decide +kernel
theorem dX10_canServe_19 : decode cX10_canServe 19 = .ok (.aload_n 0, 1) := by decide +kernel
theorem dX10_canServe_20 : decode cX10_canServe 20 = .ok (.getfield 45, 3) := by decide +kernel
theorem dX10_canServe_23 : decode cX10_canServe 23 = .ok (.iload_n 2, 1) := by decide +kernel
theorem dX10_canServe_24 : decode cX10_canServe 24 = .ok (.iaload, 1) := by decide +kernel
theorem dX10_canServe_25 : decode cX10_canServe 25 = .ok (.if_icmp .lt 7, 3) := by decide +kernel
theorem dX10_canServe_28 : decode cX10_canServe 28 = .ok (.iconst 1, 1) := by decide +kernel
theorem dX10_canServe_29 : decode cX10_canServe 29 = .ok (.goto 4, 3) := by decide +kernel
theorem dX10_canServe_32 : decode cX10_canServe 32 = .ok (.iconst 0, 1) := by decide +kernel
theorem dX10_canServe_33 : decode cX10_canServe 33 = .ok (.ireturn, 1) := by decide +kernel
theorem v_X10_canServe : yX10_canServe.cls = RX10 ∧ yX10_canServe.cls ≠ "java/lang/invoke/MethodHandle" ∧ yX10_canServe.cls ≠ "java/lang/invoke/VarHandle" ∧ (parseMethodDescriptor yX10_canServe.desc).map (fun d => d.parameters.length) = some 2 := ⟨rfl, by decide +kernel, by decide +kernel, by decide +kernel⟩
noncomputable def k_X10_canServe_33 (κ : gb_K) : gb_C := o_rz
theorem l_X10_canServe_33 : gb_Li (fun κ => k_X10_canServe_33 κ) := (gb_li0 _)
theorem s_X10_canServe_33   {κ : gb_K} (hκ : ∀ q, gb_S RX10 cX10_canServe 3 (gb_rm 2 47) 2 q (κ q)) : gb_S RX10 cX10_canServe 3 (gb_rm 2 47) 2 33 (k_X10_canServe_33 κ) := (s_rz rfl dX10_canServe_33)
noncomputable def k_X10_canServe_32 (κ : gb_K) : gb_C := (o_ci 0 (k_X10_canServe_33 κ))
theorem l_X10_canServe_32 : gb_Li (fun κ => k_X10_canServe_32 κ) := (gb_li (q_ci 0) (l_X10_canServe_33))
theorem s_X10_canServe_32   {κ : gb_K} (hκ : ∀ q, gb_S RX10 cX10_canServe 3 (gb_rm 2 47) 2 q (κ q)) : gb_S RX10 cX10_canServe 3 (gb_rm 2 47) 2 32 (k_X10_canServe_32 κ) := (s_iconst (by decide +kernel) dX10_canServe_32 (s_X10_canServe_33 hκ))
noncomputable def k_X10_canServe_0 (κ : gb_K) : gb_C := (o_al 0 (o_il 1 (o_cv 1 10 2 f_X10_isClosed (o_zeq (o_al 0 (o_il 1 (o_al 0 (o_gf 10 23 (o_il 2 (o_iald (o_cv 2 10 1 f_X10_lowest (o_al 0 (o_gf 10 24 (o_il 2 (o_iald (o_clt (k_X10_canServe_32 κ) (o_ci 1 (k_X10_canServe_33 κ)))))))))))))) (k_X10_canServe_32 κ)))))
theorem l_X10_canServe_0 : gb_Li (fun κ => k_X10_canServe_0 κ) := (gb_li (q_al 0) (gb_li (q_il 1) (gb_li (q_cv 1 10 2 f_X10_isClosed) (q_zeq (gb_li (q_al 0) (gb_li (q_il 1) (gb_li (q_al 0) (gb_li (q_gf 10 23) (gb_li (q_il 2) (gb_li q_iald (gb_li (q_cv 2 10 1 f_X10_lowest) (gb_li (q_al 0) (gb_li (q_gf 10 24) (gb_li (q_il 2) (gb_li q_iald (q_clt (l_X10_canServe_32) (gb_li (q_ci 1) (l_X10_canServe_33)))))))))))))) (l_X10_canServe_32)))))
theorem s_X10_canServe_0   {κ : gb_K} (hκ : ∀ q, gb_S RX10 cX10_canServe 3 (gb_rm 2 47) 2 q (κ q)) : gb_S RX10 cX10_canServe 3 (gb_rm 2 47) 2 0 (k_X10_canServe_0 κ) := (s_aln 0 rfl dX10_canServe_0 (s_iln 1 rfl dX10_canServe_1 (s_cv (C := RX10) c_X10_isClosed rfl (gb_l5 gw_614 gw_615 gw_616 gw_553 gw_617) v_X10_isClosed ⟨rfl, rfl⟩ ⟨Nat.le_of_ble_eq_true rfl, Nat.le_of_ble_eq_true rfl⟩ dX10_canServe_2 (s_zne (tgt := 32) (by decide +kernel) dX10_canServe_5 (s_X10_canServe_32 hκ) (s_aln 0 rfl dX10_canServe_8 (s_iln 1 rfl dX10_canServe_9 (s_aln 0 rfl dX10_canServe_10 (s_gf (T := TX10) winX10 rfl (Nat.le_of_ble_eq_true rfl) gw_755 rfl dX10_canServe_11 (s_iln 2 rfl dX10_canServe_14 (s_iald dX10_canServe_15 (s_cv (C := RX10) c_X10_lowest rfl (gb_l5 gw_760 gw_761 gw_762 gw_553 gw_763) v_X10_lowest ⟨rfl, rfl⟩ ⟨Nat.le_of_ble_eq_true rfl, Nat.le_of_ble_eq_true rfl⟩ dX10_canServe_16 (s_aln 0 rfl dX10_canServe_19 (s_gf (T := TX10) winX10 rfl (Nat.le_of_ble_eq_true rfl) gw_756 rfl dX10_canServe_20 (s_iln 2 rfl dX10_canServe_23 (s_iald dX10_canServe_24 (s_clt (tgt := 32) (by decide +kernel) dX10_canServe_25 (s_X10_canServe_32 hκ) (s_iconst (by decide +kernel) dX10_canServe_28 (s_goto (tgt := 33) (by decide +kernel) dX10_canServe_29 (s_X10_canServe_33 hκ)))))))))))))))))))
noncomputable def f_X10_canServe : gb_F := gb_hide (gb_mf 3 (k_X10_canServe_0 gb_n))
theorem c_X10_canServe : ∀ l, gb_Met l yX10_canServe cX10_canServe 3 (some .boolean) 2 (gb_rm 2 47) f_X10_canServe := gb_hide_c (gb_met (own := RX10) (rk := 2) rfl (by decide +kernel) ⟨rfl, rfl⟩ (s_X10_canServe_0 gb_S_n))
theorem dX10_servesFrom_0 : decode cX10_servesFrom 0 = .ok (.iload_n 1, 1) := by decide +kernel
theorem dX10_servesFrom_1 : decode cX10_servesFrom 1 = .ok (.aload_n 0, 1) := by decide +kernel
theorem dX10_servesFrom_2 : decode cX10_servesFrom 2 = .ok (.getfield 288, 3) := by decide +kernel
theorem dX10_servesFrom_5 : decode cX10_servesFrom 5 = .ok (.if_icmp .le 13, 3) := by decide +kernel
theorem dX10_servesFrom_8 : decode cX10_servesFrom 8 = .ok (.aload_n 0, 1) := by decide +kernel
theorem dX10_servesFrom_9 : decode cX10_servesFrom 9 = .ok (.iload_n 1, 1) := by decide +kernel
theorem dX10_servesFrom_10 : decode cX10_servesFrom 10 = .ok (.putfield 288, 3) := by decide +kernel
theorem dX10_servesFrom_13 : decode cX10_servesFrom 13 = .ok (.aload_n 0, 1) := by decide +kernel
theorem dX10_servesFrom_14 : decode cX10_servesFrom 14 = .ok (.iload_n 1, 1) := by decide +kernel
theorem dX10_servesFrom_15 : decode cX10_servesFrom 15 = .ok (.invokevirtual 291, 3) := by decide +kernel
theorem dX10_servesFrom_18 : decode cX10_servesFrom 18 = .ok (.iload_n 1, 1) := by decide +kernel
theorem dX10_servesFrom_19 : decode cX10_servesFrom 19 = .ok (.aload_n 0, 1) := by decide +kernel
theorem dX10_servesFrom_20 : decode cX10_servesFrom 20 = .ok (.getfield 282, 3) := by decide +kernel
theorem dX10_servesFrom_23 : decode cX10_servesFrom 23 = .ok (.if_icmp .ne 4, 3) := by decide +kernel
theorem dX10_servesFrom_26 : decode cX10_servesFrom 26 = .ok (.return_, 1) := by decide +kernel
theorem dX10_servesFrom_27 : decode cX10_servesFrom 27 = .ok (.aload_n 0, 1) := by decide +kernel
theorem dX10_servesFrom_28 : decode cX10_servesFrom 28 = .ok (.iload_n 1, 1) := by decide +kernel
theorem dX10_servesFrom_29 : decode cX10_servesFrom 29 = .ok (.invokevirtual 294, 3) := by decide +kernel
theorem dX10_servesFrom_32 : decode cX10_servesFrom 32 = .ok (.iconst 0, 1) := by decide +kernel
theorem dX10_servesFrom_33 : decode cX10_servesFrom 33 = .ok (.istore_n 2, 1) := by decide +kernel
theorem dX10_servesFrom_34 : decode cX10_servesFrom 34 = .ok (.iload_n 2, 1) := by decide +kernel
theorem dX10_servesFrom_35 : decode cX10_servesFrom 35 = .ok (.bipush 6, 2) := by decide +kernel
theorem dX10_servesFrom_37 : decode cX10_servesFrom 37 = .ok (.if_icmp .ge 62, 3) := by decide +kernel
theorem dX10_servesFrom_40 : decode cX10_servesFrom 40 = .ok (.aload_n 0, 1) := by decide +kernel
theorem dX10_servesFrom_41 : decode cX10_servesFrom 41 = .ok (.getfield 288, 3) := by decide +kernel
theorem dX10_servesFrom_44 : decode cX10_servesFrom 44 = .ok (.aload_n 0, 1) := by decide +kernel
theorem dX10_servesFrom_45 : decode cX10_servesFrom 45 = .ok (.getfield 282, 3) := by decide +kernel
theorem dX10_servesFrom_48 : decode cX10_servesFrom 48 = .ok (.if_icmp .ge 51, 3) := by decide +kernel
theorem dX10_servesFrom_51 : decode cX10_servesFrom 51 = .ok (.aload_n 0, 1) := by decide +kernel
theorem dX10_servesFrom_52 : decode cX10_servesFrom 52 = .ok (.iload_n 2, 1) := by decide +kernel
theorem dX10_servesFrom_53 : decode cX10_servesFrom 53 = .ok (.iload_n 1, 1) := by decide +kernel
theorem dX10_servesFrom_54 : decode cX10_servesFrom 54 = .ok (.invokevirtual 297, 3) := by decide +kernel
theorem dX10_servesFrom_57 : decode cX10_servesFrom 57 = .ok (.ifCond .ne 6, 3) := by decide +kernel
theorem dX10_servesFrom_60 : decode cX10_servesFrom 60 = .ok (.goto 33, 3) := by decide +kernel
theorem dX10_servesFrom_63 : decode cX10_servesFrom 63 = .ok (.aload_n 0, 1) := by decide +kernel
theorem dX10_servesFrom_64 : decode cX10_servesFrom 64 = .ok (.getfield 48, 3) := by decide +kernel
theorem dX10_servesFrom_67 : decode cX10_servesFrom 67 = .ok (.iload_n 1, 1) := by decide +kernel
theorem dX10_servesFrom_68 : decode cX10_servesFrom 68 = .ok (.iload_n 2, 1) := by decide +kernel
theorem dX10_servesFrom_69 : decode cX10_servesFrom 69 = .ok (.iastore, 1) := by decide +kernel
theorem dX10_servesFrom_70 : decode cX10_servesFrom 70 = .ok (.aload_n 0, 1) := by decide +kernel
theorem dX10_servesFrom_71 : decode cX10_servesFrom 71 = .ok (.iload_n 2, 1) := by decide +kernel
theorem dX10_servesFrom_72 : decode cX10_servesFrom 72 = .ok (.aload_n 0, 1) := by decide +kernel
theorem dX10_servesFrom_73 : decode cX10_servesFrom 73 = .ok (.getfield 45, 3) := by decide +kernel
theorem dX10_servesFrom_76 : decode cX10_servesFrom 76 = .ok (.iload_n 1, 1) := by decide +kernel
theorem dX10_servesFrom_77 : decode cX10_servesFrom 77 = .ok (.iaload, 1) := by decide +kernel
theorem dX10_servesFrom_78 : decode cX10_servesFrom 78 = .ok (.invokevirtual 255, 3) := by decide +kernel
theorem dX10_servesFrom_81 : decode cX10_servesFrom 81 = .ok (.aload_n 0, 1) := by decide +kernel
theorem dX10_servesFrom_82 : decode cX10_servesFrom 82 = .ok (.iload_n 1, 1) := by decide +kernel
theorem dX10_servesFrom_83 : decode cX10_servesFrom 83 = .ok (.iconst 1, 1) := by decide +kernel
theorem dX10_servesFrom_84 : decode cX10_servesFrom 84 = .ok (.iadd, 1) := by decide +kernel
theorem dX10_servesFrom_85 : decode cX10_servesFrom 85 = .ok (.invokevirtual 300, 3) := by decide +kernel
theorem dX10_servesFrom_88 : decode cX10_servesFrom 88 = .ok (.aload_n 0, 1) := by decide +kernel
theorem dX10_servesFrom_89 : decode cX10_servesFrom 89 = .ok (.iload_n 1, 1) := by decide +kernel
theorem dX10_servesFrom_90 : decode cX10_servesFrom 90 = .ok (.invokevirtual 303, 3) := by decide +kernel
theorem dX10_servesFrom_93 : decode cX10_servesFrom 93 = .ok (.iinc 2 1, 3) := by decide +kernel
theorem dX10_servesFrom_96 : decode cX10_servesFrom 96 = .ok (.goto (-62), 3) := by decide +kernel
theorem dX10_servesFrom_99 : decode cX10_servesFrom 99 = .ok (.return_, 1) := by decide +kernel
theorem v_X10_servesFrom : yX10_servesFrom.cls = RX10 ∧ yX10_servesFrom.cls ≠ "java/lang/invoke/MethodHandle" ∧ yX10_servesFrom.cls ≠ "java/lang/invoke/VarHandle" ∧ (parseMethodDescriptor yX10_servesFrom.desc).map (fun d => d.parameters.length) = some 1 := ⟨rfl, by decide +kernel, by decide +kernel, by decide +kernel⟩
noncomputable def k_X10_servesFrom_18 (r : gb_F) (κ : gb_K) : gb_C := (o_il 1 (o_al 0 (o_gf 10 25 (o_ceq o_rv (o_al 0 (o_il 1 (o_cv 1 10 0 f_X10_laysDown (o_ci 0 (o_is 2 (o_j [0, 1, 2] (κ 34)))))))))))
theorem l_X10_servesFrom_18 (r : gb_F) : gb_Li (fun κ => k_X10_servesFrom_18 r κ) := (gb_li (q_il 1) (gb_li (q_al 0) (gb_li (q_gf 10 25) (q_ceq (gb_li0 _) (gb_li (q_al 0) (gb_li (q_il 1) (gb_li (q_cv 1 10 0 f_X10_laysDown) (gb_li (q_ci 0) (gb_li (q_is 2) (q_j [0, 1, 2] 34))))))))))
theorem s_X10_servesFrom_18 {R : Room} {r : gb_F} {fr lo : Nat} (hr : (∀ l, gb_Met l yX10_servesFrom cX10_servesFrom 3 none 0 (gb_rm fr lo) r) ∧ fr + 1 ≤ R.frames ∧ 8 + (3 + 11) + lo ≤ R.locals) (hR : 4 ≤ R.frames ∧ 96 ≤ R.locals) {κ : gb_K} (hκ : ∀ q, gb_S RX10 cX10_servesFrom 3 R 0 q (κ q)) : gb_S RX10 cX10_servesFrom 3 R 0 18 (k_X10_servesFrom_18 r κ) := (s_iln 1 rfl dX10_servesFrom_18 (s_aln 0 rfl dX10_servesFrom_19 (s_gf (T := TX10) winX10 rfl (Nat.le_of_ble_eq_true rfl) gw_754 rfl dX10_servesFrom_20 (s_cne (tgt := 27) (by decide +kernel) dX10_servesFrom_23 (s_aln 0 rfl dX10_servesFrom_27 (s_iln 1 rfl dX10_servesFrom_28 (s_cv (C := RX10) c_X10_laysDown rfl (gb_l5 gw_764 gw_765 gw_766 gw_553 gw_767) v_X10_laysDown ⟨rfl, rfl⟩ ⟨Nat.le_trans (Nat.le_of_ble_eq_true rfl) hR.1, Nat.le_trans (Nat.le_of_ble_eq_true rfl) hR.2⟩ dX10_servesFrom_29 (s_iconst (by decide +kernel) dX10_servesFrom_32 (s_isn 2 rfl (Nat.le_of_ble_eq_true rfl) dX10_servesFrom_33 (s_j (hκ 34))))))) (s_rv rfl dX10_servesFrom_26)))))
noncomputable def k_X10_servesFrom_0 (r : gb_F) (κ : gb_K) : gb_C := (o_il 1 (o_al 0 (o_gf 10 29 (o_cle (k_X10_servesFrom_18 r κ) (o_al 0 (o_il 1 (o_pf 10 29 (o_al 0 (o_il 1 (o_cv 1 10 0 f_X10_findsRow (k_X10_servesFrom_18 r κ)))))))))))
theorem l_X10_servesFrom_0 (r : gb_F) : gb_Li (fun κ => k_X10_servesFrom_0 r κ) := (gb_li (q_il 1) (gb_li (q_al 0) (gb_li (q_gf 10 29) (q_cle (l_X10_servesFrom_18 r) (gb_li (q_al 0) (gb_li (q_il 1) (gb_li (q_pf 10 29) (gb_li (q_al 0) (gb_li (q_il 1) (gb_li (q_cv 1 10 0 f_X10_findsRow) (l_X10_servesFrom_18 r)))))))))))
theorem s_X10_servesFrom_0 {R : Room} {r : gb_F} {fr lo : Nat} (hr : (∀ l, gb_Met l yX10_servesFrom cX10_servesFrom 3 none 0 (gb_rm fr lo) r) ∧ fr + 1 ≤ R.frames ∧ 8 + (3 + 11) + lo ≤ R.locals) (hR : 4 ≤ R.frames ∧ 96 ≤ R.locals) {κ : gb_K} (hκ : ∀ q, gb_S RX10 cX10_servesFrom 3 R 0 q (κ q)) : gb_S RX10 cX10_servesFrom 3 R 0 0 (k_X10_servesFrom_0 r κ) := (s_iln 1 rfl dX10_servesFrom_0 (s_aln 0 rfl dX10_servesFrom_1 (s_gf (T := TX10) winX10 rfl (Nat.le_of_ble_eq_true rfl) gw_768 rfl dX10_servesFrom_2 (s_cle (tgt := 18) (by decide +kernel) dX10_servesFrom_5 (s_X10_servesFrom_18 hr hR hκ) (s_aln 0 rfl dX10_servesFrom_8 (s_iln 1 rfl dX10_servesFrom_9 (s_pf (T := TX10) winX10 rfl (Nat.le_of_ble_eq_true rfl) tyX10_ok nmX10 rfl (by decide +kernel) gw_768 rfl dX10_servesFrom_10 (s_aln 0 rfl dX10_servesFrom_13 (s_iln 1 rfl dX10_servesFrom_14 (s_cv (C := RX10) c_X10_findsRow rfl (gb_l5 gw_769 gw_770 gw_771 gw_553 gw_772) v_X10_findsRow ⟨rfl, rfl⟩ ⟨Nat.le_trans (Nat.le_of_ble_eq_true rfl) hR.1, Nat.le_trans (Nat.le_of_ble_eq_true rfl) hR.2⟩ dX10_servesFrom_15 (s_X10_servesFrom_18 hr hR hκ)))))))))))
noncomputable def k_X10_servesFrom_93 (r : gb_F) (κ : gb_K) : gb_C := (o_inc 2 1 (o_j [0, 1, 2] (κ 34)))
theorem l_X10_servesFrom_93 (r : gb_F) : gb_Li (fun κ => k_X10_servesFrom_93 r κ) := (gb_li (q_inc 2 1) (q_j [0, 1, 2] 34))
theorem s_X10_servesFrom_93 {R : Room} {r : gb_F} {fr lo : Nat} (hr : (∀ l, gb_Met l yX10_servesFrom cX10_servesFrom 3 none 0 (gb_rm fr lo) r) ∧ fr + 1 ≤ R.frames ∧ 8 + (3 + 11) + lo ≤ R.locals) (hR : 4 ≤ R.frames ∧ 96 ≤ R.locals) {κ : gb_K} (hκ : ∀ q, gb_S RX10 cX10_servesFrom 3 R 0 q (κ q)) : gb_S RX10 cX10_servesFrom 3 R 0 93 (k_X10_servesFrom_93 r κ) := (s_inc (by decide +kernel) (Nat.le_of_ble_eq_true rfl) dX10_servesFrom_93 (s_goto (tgt := 34) (by decide +kernel) dX10_servesFrom_96 (s_j (hκ 34))))
noncomputable def k_X10_servesFrom_88 (r : gb_F) (κ : gb_K) : gb_C := (o_al 0 (o_il 1 (o_cv 1 10 0 f_X10_takesUp (k_X10_servesFrom_93 r κ))))
theorem l_X10_servesFrom_88 (r : gb_F) : gb_Li (fun κ => k_X10_servesFrom_88 r κ) := (gb_li (q_al 0) (gb_li (q_il 1) (gb_li (q_cv 1 10 0 f_X10_takesUp) (l_X10_servesFrom_93 r))))
theorem s_X10_servesFrom_88 {R : Room} {r : gb_F} {fr lo : Nat} (hr : (∀ l, gb_Met l yX10_servesFrom cX10_servesFrom 3 none 0 (gb_rm fr lo) r) ∧ fr + 1 ≤ R.frames ∧ 8 + (3 + 11) + lo ≤ R.locals) (hR : 4 ≤ R.frames ∧ 96 ≤ R.locals) {κ : gb_K} (hκ : ∀ q, gb_S RX10 cX10_servesFrom 3 R 0 q (κ q)) : gb_S RX10 cX10_servesFrom 3 R 0 88 (k_X10_servesFrom_88 r κ) := (s_aln 0 rfl dX10_servesFrom_88 (s_iln 1 rfl dX10_servesFrom_89 (s_cv (C := RX10) c_X10_takesUp rfl (gb_l5 gw_773 gw_774 gw_775 gw_553 gw_776) v_X10_takesUp ⟨rfl, rfl⟩ ⟨Nat.le_trans (Nat.le_of_ble_eq_true rfl) hR.1, Nat.le_trans (Nat.le_of_ble_eq_true rfl) hR.2⟩ dX10_servesFrom_90 (s_X10_servesFrom_93 hr hR hκ))))
noncomputable def k_X10_servesFrom_99 (r : gb_F) (κ : gb_K) : gb_C := o_rv
theorem l_X10_servesFrom_99 (r : gb_F) : gb_Li (fun κ => k_X10_servesFrom_99 r κ) := (gb_li0 _)
theorem s_X10_servesFrom_99 {R : Room} {r : gb_F} {fr lo : Nat} (hr : (∀ l, gb_Met l yX10_servesFrom cX10_servesFrom 3 none 0 (gb_rm fr lo) r) ∧ fr + 1 ≤ R.frames ∧ 8 + (3 + 11) + lo ≤ R.locals) (hR : 4 ≤ R.frames ∧ 96 ≤ R.locals) {κ : gb_K} (hκ : ∀ q, gb_S RX10 cX10_servesFrom 3 R 0 q (κ q)) : gb_S RX10 cX10_servesFrom 3 R 0 99 (k_X10_servesFrom_99 r κ) := (s_rv rfl dX10_servesFrom_99)
noncomputable def k_X10_servesFrom_34 (r : gb_F) (κ : gb_K) : gb_C := (o_il 2 (o_ci 6 (o_cge (k_X10_servesFrom_99 r κ) (o_al 0 (o_gf 10 29 (o_al 0 (o_gf 10 25 (o_cge (k_X10_servesFrom_99 r κ) (o_al 0 (o_il 2 (o_il 1 (o_cv 2 10 2 f_X10_canServe (o_zeq (k_X10_servesFrom_93 r κ) (o_al 0 (o_gf 10 26 (o_il 1 (o_il 2 (o_iast (o_al 0 (o_il 2 (o_al 0 (o_gf 10 24 (o_il 1 (o_iald (o_cv 2 10 0 f_X10_goes (o_al 0 (o_il 1 (o_ci 1 (o_ib (fun x y => x + y) (o_cv 1 10 0 r (k_X10_servesFrom_88 r κ)))))))))))))))))))))))))))))))
theorem l_X10_servesFrom_34 (r : gb_F) : gb_Li (fun κ => k_X10_servesFrom_34 r κ) := (gb_li (q_il 2) (gb_li (q_ci 6) (q_cge (l_X10_servesFrom_99 r) (gb_li (q_al 0) (gb_li (q_gf 10 29) (gb_li (q_al 0) (gb_li (q_gf 10 25) (q_cge (l_X10_servesFrom_99 r) (gb_li (q_al 0) (gb_li (q_il 2) (gb_li (q_il 1) (gb_li (q_cv 2 10 2 f_X10_canServe) (q_zeq (l_X10_servesFrom_93 r) (gb_li (q_al 0) (gb_li (q_gf 10 26) (gb_li (q_il 1) (gb_li (q_il 2) (gb_li q_iast (gb_li (q_al 0) (gb_li (q_il 2) (gb_li (q_al 0) (gb_li (q_gf 10 24) (gb_li (q_il 1) (gb_li q_iald (gb_li (q_cv 2 10 0 f_X10_goes) (gb_li (q_al 0) (gb_li (q_il 1) (gb_li (q_ci 1) (gb_li (q_ib _) (gb_li (q_cv 1 10 0 r) (l_X10_servesFrom_88 r)))))))))))))))))))))))))))))))
theorem s_X10_servesFrom_34 {R : Room} {r : gb_F} {fr lo : Nat} (hr : (∀ l, gb_Met l yX10_servesFrom cX10_servesFrom 3 none 0 (gb_rm fr lo) r) ∧ fr + 1 ≤ R.frames ∧ 8 + (3 + 11) + lo ≤ R.locals) (hR : 4 ≤ R.frames ∧ 96 ≤ R.locals) {κ : gb_K} (hκ : ∀ q, gb_S RX10 cX10_servesFrom 3 R 0 q (κ q)) : gb_S RX10 cX10_servesFrom 3 R 0 34 (k_X10_servesFrom_34 r κ) := (s_iln 2 rfl dX10_servesFrom_34 (s_bipush (by decide +kernel) dX10_servesFrom_35 (s_cge (tgt := 99) (by decide +kernel) dX10_servesFrom_37 (s_X10_servesFrom_99 hr hR hκ) (s_aln 0 rfl dX10_servesFrom_40 (s_gf (T := TX10) winX10 rfl (Nat.le_of_ble_eq_true rfl) gw_768 rfl dX10_servesFrom_41 (s_aln 0 rfl dX10_servesFrom_44 (s_gf (T := TX10) winX10 rfl (Nat.le_of_ble_eq_true rfl) gw_754 rfl dX10_servesFrom_45 (s_cge (tgt := 99) (by decide +kernel) dX10_servesFrom_48 (s_X10_servesFrom_99 hr hR hκ) (s_aln 0 rfl dX10_servesFrom_51 (s_iln 2 rfl dX10_servesFrom_52 (s_iln 1 rfl dX10_servesFrom_53 (s_cv (C := RX10) c_X10_canServe rfl (gb_l5 gw_777 gw_778 gw_779 gw_553 gw_780) v_X10_canServe ⟨rfl, rfl⟩ ⟨Nat.le_trans (Nat.le_of_ble_eq_true rfl) hR.1, Nat.le_trans (Nat.le_of_ble_eq_true rfl) hR.2⟩ dX10_servesFrom_54 (s_zne (tgt := 63) (by decide +kernel) dX10_servesFrom_57 (s_aln 0 rfl dX10_servesFrom_63 (s_gf (T := TX10) winX10 rfl (Nat.le_of_ble_eq_true rfl) gw_759 rfl dX10_servesFrom_64 (s_iln 1 rfl dX10_servesFrom_67 (s_iln 2 rfl dX10_servesFrom_68 (s_iast dX10_servesFrom_69 (s_aln 0 rfl dX10_servesFrom_70 (s_iln 2 rfl dX10_servesFrom_71 (s_aln 0 rfl dX10_servesFrom_72 (s_gf (T := TX10) winX10 rfl (Nat.le_of_ble_eq_true rfl) gw_756 rfl dX10_servesFrom_73 (s_iln 1 rfl dX10_servesFrom_76 (s_iald dX10_servesFrom_77 (s_cv (C := RX10) c_X10_goes rfl (gb_l5 gw_724 gw_725 gw_726 gw_553 gw_727) v_X10_goes ⟨rfl, rfl⟩ ⟨Nat.le_trans (Nat.le_of_ble_eq_true rfl) hR.1, Nat.le_trans (Nat.le_of_ble_eq_true rfl) hR.2⟩ dX10_servesFrom_78 (s_aln 0 rfl dX10_servesFrom_81 (s_iln 1 rfl dX10_servesFrom_82 (s_iconst (by decide +kernel) dX10_servesFrom_83 (s_iadd dX10_servesFrom_84 (s_cv (C := RX10) hr.1 rfl (gb_l5 gw_781 gw_782 gw_783 gw_553 gw_784) v_X10_servesFrom ⟨rfl, rfl⟩ ⟨hr.2.1, hr.2.2⟩ dX10_servesFrom_85 (s_X10_servesFrom_88 hr hR hκ)))))))))))))))))) (s_goto (tgt := 93) (by decide +kernel) dX10_servesFrom_60 (s_X10_servesFrom_93 hr hR hκ)))))))))))))))
noncomputable def B_X10_servesFrom (r : gb_F) : List (Nat × (gb_K → gb_C)) := [(34, fun κ => k_X10_servesFrom_34 r κ)]
noncomputable def K_X10_servesFrom (r : gb_F) : gb_K := gb_fx (gb_tb (B_X10_servesFrom r))
theorem L_X10_servesFrom (r : gb_F) : ∀ q, gb_Li (fun κ => gb_tb (B_X10_servesFrom r) κ q) := gb_tb_li (List.forall_mem_cons.mpr ⟨l_X10_servesFrom_34 r, (fun _ h => absurd h List.not_mem_nil)⟩)
theorem S_X10_servesFrom {R : Room} {r : gb_F} {fr lo : Nat} (hr : (∀ l, gb_Met l yX10_servesFrom cX10_servesFrom 3 none 0 (gb_rm fr lo) r) ∧ fr + 1 ≤ R.frames ∧ 8 + (3 + 11) + lo ≤ R.locals) (hR : 4 ≤ R.frames ∧ 96 ≤ R.locals) : ∀ q, gb_S RX10 cX10_servesFrom 3 R 0 q (K_X10_servesFrom r q) := fun q => gb_fx_S (L_X10_servesFrom r) (gb_tb_S (List.forall_mem_cons.mpr ⟨fun κ hκ => s_X10_servesFrom_34 hr hR hκ, (fun _ h => absurd h List.not_mem_nil)⟩)) q
noncomputable def g_X10_servesFrom : Nat → gb_F
  | 0 => fun _ _ => none
  | n + 1 => gb_mf 3 (k_X10_servesFrom_0 (g_X10_servesFrom n) (K_X10_servesFrom (g_X10_servesFrom n)))
theorem h_X10_servesFrom : ∀ (n : Nat) l, gb_Met l yX10_servesFrom cX10_servesFrom 3 none 0 (gb_rm (4 + n) (96 + 22 * n)) (g_X10_servesFrom n)
  | 0 => gb_met0
  | n + 1 => gb_met (own := RX10) (rk := 0) rfl (by decide +kernel) ⟨rfl, rfl⟩ (s_X10_servesFrom_0 ⟨h_X10_servesFrom n, by show _ ≤ _ + (n + 1); omega, by show _ ≤ _ + 22 * (n + 1); omega⟩ ⟨by show _ ≤ _ + (n + 1); omega, by show _ ≤ _ + 22 * (n + 1); omega⟩ (S_X10_servesFrom ⟨h_X10_servesFrom n, by show _ ≤ _ + (n + 1); omega, by show _ ≤ _ + 22 * (n + 1); omega⟩ ⟨by show _ ≤ _ + (n + 1); omega, by show _ ≤ _ + 22 * (n + 1); omega⟩))
noncomputable def f_X10_servesFrom : gb_F := gb_hide (g_X10_servesFrom 8)
theorem c_X10_servesFrom : ∀ l, gb_Met l yX10_servesFrom cX10_servesFrom 3 none 0 (gb_rm 12 272) f_X10_servesFrom := gb_hide_c (h_X10_servesFrom 8)
theorem dX10_findsServed_0 : decode cX10_findsServed 0 = .ok (.aload_n 0, 1) := by decide +kernel
theorem dX10_findsServed_1 : decode cX10_findsServed 1 = .ok (.iconst 0, 1) := by decide +kernel
theorem dX10_findsServed_2 : decode cX10_findsServed 2 = .ok (.putfield 288, 3) := by decide +kernel
theorem dX10_findsServed_5 : decode cX10_findsServed 5 = .ok (.aload_n 0, 1) := by decide +kernel
theorem dX10_findsServed_6 : decode cX10_findsServed 6 = .ok (.iconst 0, 1) := by decide +kernel
theorem dX10_findsServed_7 : decode cX10_findsServed 7 = .ok (.invokevirtual 300, 3) := by decide +kernel
theorem dX10_findsServed_10 : decode cX10_findsServed 10 = .ok (.return_, 1) := by decide +kernel
theorem v_X10_findsServed : yX10_findsServed.cls = RX10 ∧ yX10_findsServed.cls ≠ "java/lang/invoke/MethodHandle" ∧ yX10_findsServed.cls ≠ "java/lang/invoke/VarHandle" ∧ (parseMethodDescriptor yX10_findsServed.desc).map (fun d => d.parameters.length) = some 0 := ⟨rfl, by decide +kernel, by decide +kernel, by decide +kernel⟩
noncomputable def k_X10_findsServed_0 (κ : gb_K) : gb_C := (o_al 0 (o_ci 0 (o_pf 10 29 (o_al 0 (o_ci 0 (o_cv 1 10 0 f_X10_servesFrom o_rv))))))
theorem l_X10_findsServed_0 : gb_Li (fun κ => k_X10_findsServed_0 κ) := (gb_li (q_al 0) (gb_li (q_ci 0) (gb_li (q_pf 10 29) (gb_li (q_al 0) (gb_li (q_ci 0) (gb_li (q_cv 1 10 0 f_X10_servesFrom) (gb_li0 _)))))))
theorem s_X10_findsServed_0   {κ : gb_K} (hκ : ∀ q, gb_S RX10 cX10_findsServed 1 (gb_rm 13 294) 0 q (κ q)) : gb_S RX10 cX10_findsServed 1 (gb_rm 13 294) 0 0 (k_X10_findsServed_0 κ) := (s_aln 0 rfl dX10_findsServed_0 (s_iconst (by decide +kernel) dX10_findsServed_1 (s_pf (T := TX10) winX10 rfl (Nat.le_of_ble_eq_true rfl) tyX10_ok nmX10 rfl (by decide +kernel) gw_768 rfl dX10_findsServed_2 (s_aln 0 rfl dX10_findsServed_5 (s_iconst (by decide +kernel) dX10_findsServed_6 (s_cv (C := RX10) c_X10_servesFrom rfl (gb_l5 gw_781 gw_782 gw_783 gw_553 gw_784) v_X10_servesFrom ⟨rfl, rfl⟩ ⟨Nat.le_of_ble_eq_true rfl, Nat.le_of_ble_eq_true rfl⟩ dX10_findsServed_7 (s_rv rfl dX10_findsServed_10)))))))
noncomputable def f_X10_findsServed : gb_F := gb_hide (gb_mf 1 (k_X10_findsServed_0 gb_n))
theorem c_X10_findsServed : ∀ l, gb_Met l yX10_findsServed cX10_findsServed 1 none 0 (gb_rm 13 294) f_X10_findsServed := gb_hide_c (gb_met (own := RX10) (rk := 0) rfl (by decide +kernel) ⟨rfl, rfl⟩ (s_X10_findsServed_0 gb_S_n))
theorem dX10_picksFrom_0 : decode cX10_picksFrom 0 = .ok (.iload_n 2, 1) := by decide +kernel
theorem dX10_picksFrom_1 : decode cX10_picksFrom 1 = .ok (.aload_n 0, 1) := by decide +kernel
theorem dX10_picksFrom_2 : decode cX10_picksFrom 2 = .ok (.getfield 282, 3) := by decide +kernel
theorem dX10_picksFrom_5 : decode cX10_picksFrom 5 = .ok (.iadd, 1) := by decide +kernel
theorem dX10_picksFrom_6 : decode cX10_picksFrom 6 = .ok (.iload_n 1, 1) := by decide +kernel
theorem dX10_picksFrom_7 : decode cX10_picksFrom 7 = .ok (.isub, 1) := by decide +kernel
theorem dX10_picksFrom_8 : decode cX10_picksFrom 8 = .ok (.aload_n 0, 1) := by decide +kernel
theorem dX10_picksFrom_9 : decode cX10_picksFrom 9 = .ok (.getfield 288, 3) := by decide +kernel
theorem dX10_picksFrom_12 : decode cX10_picksFrom 12 = .ok (.if_icmp .gt 4, 3) := by decide +kernel
theorem dX10_picksFrom_15 : decode cX10_picksFrom 15 = .ok (.return_, 1) := by decide +kernel
theorem dX10_picksFrom_16 : decode cX10_picksFrom 16 = .ok (.iload_n 1, 1) := by decide +kernel
theorem dX10_picksFrom_17 : decode cX10_picksFrom 17 = .ok (.aload_n 0, 1) := by decide +kernel
theorem dX10_picksFrom_18 : decode cX10_picksFrom 18 = .ok (.getfield 282, 3) := by decide +kernel
theorem dX10_picksFrom_21 : decode cX10_picksFrom 21 = .ok (.if_icmp .ne 14, 3) := by decide +kernel
theorem dX10_picksFrom_24 : decode cX10_picksFrom 24 = .ok (.aload_n 0, 1) := by decide +kernel
theorem dX10_picksFrom_25 : decode cX10_picksFrom 25 = .ok (.iload_n 2, 1) := by decide +kernel
theorem dX10_picksFrom_26 : decode cX10_picksFrom 26 = .ok (.putfield 288, 3) := by decide +kernel
theorem dX10_picksFrom_29 : decode cX10_picksFrom 29 = .ok (.aload_n 0, 1) := by decide +kernel
theorem dX10_picksFrom_30 : decode cX10_picksFrom 30 = .ok (.iload_n 1, 1) := by decide +kernel
theorem dX10_picksFrom_31 : decode cX10_picksFrom 31 = .ok (.invokevirtual 291, 3) := by decide +kernel
theorem dX10_picksFrom_34 : decode cX10_picksFrom 34 = .ok (.return_, 1) := by decide +kernel
theorem dX10_picksFrom_35 : decode cX10_picksFrom 35 = .ok (.aload_n 0, 1) := by decide +kernel
theorem dX10_picksFrom_36 : decode cX10_picksFrom 36 = .ok (.iload_n 1, 1) := by decide +kernel
theorem dX10_picksFrom_37 : decode cX10_picksFrom 37 = .ok (.invokevirtual 294, 3) := by decide +kernel
theorem dX10_picksFrom_40 : decode cX10_picksFrom 40 = .ok (.iconst 0, 1) := by decide +kernel
theorem dX10_picksFrom_41 : decode cX10_picksFrom 41 = .ok (.istore_n 3, 1) := by decide +kernel
theorem dX10_picksFrom_42 : decode cX10_picksFrom 42 = .ok (.iload_n 3, 1) := by decide +kernel
theorem dX10_picksFrom_43 : decode cX10_picksFrom 43 = .ok (.bipush 6, 2) := by decide +kernel
theorem dX10_picksFrom_45 : decode cX10_picksFrom 45 = .ok (.if_icmp .ge 54, 3) := by decide +kernel
theorem dX10_picksFrom_48 : decode cX10_picksFrom 48 = .ok (.aload_n 0, 1) := by decide +kernel
theorem dX10_picksFrom_49 : decode cX10_picksFrom 49 = .ok (.iload_n 3, 1) := by decide +kernel
theorem dX10_picksFrom_50 : decode cX10_picksFrom 50 = .ok (.iload_n 1, 1) := by decide +kernel
theorem dX10_picksFrom_51 : decode cX10_picksFrom 51 = .ok (.invokevirtual 297, 3) := by decide +kernel
theorem dX10_picksFrom_54 : decode cX10_picksFrom 54 = .ok (.ifCond .ne 6, 3) := by decide +kernel
theorem dX10_picksFrom_57 : decode cX10_picksFrom 57 = .ok (.goto 36, 3) := by decide +kernel
theorem dX10_picksFrom_60 : decode cX10_picksFrom 60 = .ok (.aload_n 0, 1) := by decide +kernel
theorem dX10_picksFrom_61 : decode cX10_picksFrom 61 = .ok (.getfield 48, 3) := by decide +kernel
theorem dX10_picksFrom_64 : decode cX10_picksFrom 64 = .ok (.iload_n 1, 1) := by decide +kernel
theorem dX10_picksFrom_65 : decode cX10_picksFrom 65 = .ok (.iload_n 3, 1) := by decide +kernel
theorem dX10_picksFrom_66 : decode cX10_picksFrom 66 = .ok (.iastore, 1) := by decide +kernel
theorem dX10_picksFrom_67 : decode cX10_picksFrom 67 = .ok (.aload_n 0, 1) := by decide +kernel
theorem dX10_picksFrom_68 : decode cX10_picksFrom 68 = .ok (.iload_n 3, 1) := by decide +kernel
theorem dX10_picksFrom_69 : decode cX10_picksFrom 69 = .ok (.aload_n 0, 1) := by decide +kernel
theorem dX10_picksFrom_70 : decode cX10_picksFrom 70 = .ok (.getfield 45, 3) := by decide +kernel
theorem dX10_picksFrom_73 : decode cX10_picksFrom 73 = .ok (.iload_n 1, 1) := by decide +kernel
theorem dX10_picksFrom_74 : decode cX10_picksFrom 74 = .ok (.iaload, 1) := by decide +kernel
theorem dX10_picksFrom_75 : decode cX10_picksFrom 75 = .ok (.invokevirtual 255, 3) := by decide +kernel
theorem dX10_picksFrom_78 : decode cX10_picksFrom 78 = .ok (.aload_n 0, 1) := by decide +kernel
theorem dX10_picksFrom_79 : decode cX10_picksFrom 79 = .ok (.iload_n 1, 1) := by decide +kernel
theorem dX10_picksFrom_80 : decode cX10_picksFrom 80 = .ok (.iconst 1, 1) := by decide +kernel
theorem dX10_picksFrom_81 : decode cX10_picksFrom 81 = .ok (.iadd, 1) := by decide +kernel
theorem dX10_picksFrom_82 : decode cX10_picksFrom 82 = .ok (.iload_n 2, 1) := by decide +kernel
theorem dX10_picksFrom_83 : decode cX10_picksFrom 83 = .ok (.iconst 1, 1) := by decide +kernel
theorem dX10_picksFrom_84 : decode cX10_picksFrom 84 = .ok (.iadd, 1) := by decide +kernel
theorem dX10_picksFrom_85 : decode cX10_picksFrom 85 = .ok (.invokevirtual 306, 3) := by decide +kernel
theorem dX10_picksFrom_88 : decode cX10_picksFrom 88 = .ok (.aload_n 0, 1) := by decide +kernel
theorem dX10_picksFrom_89 : decode cX10_picksFrom 89 = .ok (.iload_n 1, 1) := by decide +kernel
theorem dX10_picksFrom_90 : decode cX10_picksFrom 90 = .ok (.invokevirtual 303, 3) := by decide +kernel
theorem dX10_picksFrom_93 : decode cX10_picksFrom 93 = .ok (.iinc 3 1, 3) := by decide +kernel
theorem dX10_picksFrom_96 : decode cX10_picksFrom 96 = .ok (.goto (-54), 3) := by decide +kernel
theorem dX10_picksFrom_99 : decode cX10_picksFrom 99 = .ok (.aload_n 0, 1) := by decide +kernel
theorem dX10_picksFrom_100 : decode cX10_picksFrom 100 = .ok (.getfield 48, 3) := by decide +kernel
theorem dX10_picksFrom_103 : decode cX10_picksFrom 103 = .ok (.iload_n 1, 1) := by decide +kernel
theorem dX10_picksFrom_104 : decode cX10_picksFrom 104 = .ok (.bipush 6, 2) := by decide +kernel
theorem dX10_picksFrom_106 : decode cX10_picksFrom 106 = .ok (.iastore, 1) := by decide +kernel
theorem dX10_picksFrom_107 : decode cX10_picksFrom 107 = .ok (.aload_n 0, 1) := by decide +kernel
theorem dX10_picksFrom_108 : decode cX10_picksFrom 108 = .ok (.iload_n 1, 1) := by decide +kernel
theorem dX10_picksFrom_109 : decode cX10_picksFrom 109 = .ok (.iconst 1, 1) := by decide +kernel
theorem dX10_picksFrom_110 : decode cX10_picksFrom 110 = .ok (.iadd, 1) := by decide +kernel
theorem dX10_picksFrom_111 : decode cX10_picksFrom 111 = .ok (.iload_n 2, 1) := by decide +kernel
theorem dX10_picksFrom_112 : decode cX10_picksFrom 112 = .ok (.invokevirtual 306, 3) := by decide +kernel
theorem dX10_picksFrom_115 : decode cX10_picksFrom 115 = .ok (.return_, 1) := by decide +kernel
theorem v_X10_picksFrom : yX10_picksFrom.cls = RX10 ∧ yX10_picksFrom.cls ≠ "java/lang/invoke/MethodHandle" ∧ yX10_picksFrom.cls ≠ "java/lang/invoke/VarHandle" ∧ (parseMethodDescriptor yX10_picksFrom.desc).map (fun d => d.parameters.length) = some 2 := ⟨rfl, by decide +kernel, by decide +kernel, by decide +kernel⟩
noncomputable def k_X10_picksFrom_0 (r : gb_F) (κ : gb_K) : gb_C := (o_il 2 (o_al 0 (o_gf 10 25 (o_ib (fun x y => x + y) (o_il 1 (o_ib (fun x y => x - y) (o_al 0 (o_gf 10 29 (o_cgt (o_il 1 (o_al 0 (o_gf 10 25 (o_ceq (o_al 0 (o_il 2 (o_pf 10 29 (o_al 0 (o_il 1 (o_cv 1 10 0 f_X10_findsRow o_rv)))))) (o_al 0 (o_il 1 (o_cv 1 10 0 f_X10_laysDown (o_ci 0 (o_is 3 (o_j [0, 1, 2, 3] (κ 42))))))))))) o_rv)))))))))
theorem l_X10_picksFrom_0 (r : gb_F) : gb_Li (fun κ => k_X10_picksFrom_0 r κ) := (gb_li (q_il 2) (gb_li (q_al 0) (gb_li (q_gf 10 25) (gb_li (q_ib _) (gb_li (q_il 1) (gb_li (q_ib _) (gb_li (q_al 0) (gb_li (q_gf 10 29) (q_cgt (gb_li (q_il 1) (gb_li (q_al 0) (gb_li (q_gf 10 25) (q_ceq (gb_li (q_al 0) (gb_li (q_il 2) (gb_li (q_pf 10 29) (gb_li (q_al 0) (gb_li (q_il 1) (gb_li (q_cv 1 10 0 f_X10_findsRow) (gb_li0 _))))))) (gb_li (q_al 0) (gb_li (q_il 1) (gb_li (q_cv 1 10 0 f_X10_laysDown) (gb_li (q_ci 0) (gb_li (q_is 3) (q_j [0, 1, 2, 3] 42)))))))))) (gb_li0 _))))))))))
theorem s_X10_picksFrom_0 {R : Room} {r : gb_F} {fr lo : Nat} (hr : (∀ l, gb_Met l yX10_picksFrom cX10_picksFrom 4 none 0 (gb_rm fr lo) r) ∧ fr + 1 ≤ R.frames ∧ 8 + (4 + 11) + lo ≤ R.locals) (hR : 4 ≤ R.frames ∧ 96 ≤ R.locals) {κ : gb_K} (hκ : ∀ q, gb_S RX10 cX10_picksFrom 4 R 0 q (κ q)) : gb_S RX10 cX10_picksFrom 4 R 0 0 (k_X10_picksFrom_0 r κ) := (s_iln 2 rfl dX10_picksFrom_0 (s_aln 0 rfl dX10_picksFrom_1 (s_gf (T := TX10) winX10 rfl (Nat.le_of_ble_eq_true rfl) gw_754 rfl dX10_picksFrom_2 (s_iadd dX10_picksFrom_5 (s_iln 1 rfl dX10_picksFrom_6 (s_isub dX10_picksFrom_7 (s_aln 0 rfl dX10_picksFrom_8 (s_gf (T := TX10) winX10 rfl (Nat.le_of_ble_eq_true rfl) gw_768 rfl dX10_picksFrom_9 (s_cgt (tgt := 16) (by decide +kernel) dX10_picksFrom_12 (s_iln 1 rfl dX10_picksFrom_16 (s_aln 0 rfl dX10_picksFrom_17 (s_gf (T := TX10) winX10 rfl (Nat.le_of_ble_eq_true rfl) gw_754 rfl dX10_picksFrom_18 (s_cne (tgt := 35) (by decide +kernel) dX10_picksFrom_21 (s_aln 0 rfl dX10_picksFrom_35 (s_iln 1 rfl dX10_picksFrom_36 (s_cv (C := RX10) c_X10_laysDown rfl (gb_l5 gw_764 gw_765 gw_766 gw_553 gw_767) v_X10_laysDown ⟨rfl, rfl⟩ ⟨Nat.le_trans (Nat.le_of_ble_eq_true rfl) hR.1, Nat.le_trans (Nat.le_of_ble_eq_true rfl) hR.2⟩ dX10_picksFrom_37 (s_iconst (by decide +kernel) dX10_picksFrom_40 (s_isn 3 rfl (Nat.le_of_ble_eq_true rfl) dX10_picksFrom_41 (s_j (hκ 42))))))) (s_aln 0 rfl dX10_picksFrom_24 (s_iln 2 rfl dX10_picksFrom_25 (s_pf (T := TX10) winX10 rfl (Nat.le_of_ble_eq_true rfl) tyX10_ok nmX10 rfl (by decide +kernel) gw_768 rfl dX10_picksFrom_26 (s_aln 0 rfl dX10_picksFrom_29 (s_iln 1 rfl dX10_picksFrom_30 (s_cv (C := RX10) c_X10_findsRow rfl (gb_l5 gw_769 gw_770 gw_771 gw_553 gw_772) v_X10_findsRow ⟨rfl, rfl⟩ ⟨Nat.le_trans (Nat.le_of_ble_eq_true rfl) hR.1, Nat.le_trans (Nat.le_of_ble_eq_true rfl) hR.2⟩ dX10_picksFrom_31 (s_rv rfl dX10_picksFrom_34))))))))))) (s_rv rfl dX10_picksFrom_15))))))))))
noncomputable def k_X10_picksFrom_93 (r : gb_F) (κ : gb_K) : gb_C := (o_inc 3 1 (o_j [0, 1, 2, 3] (κ 42)))
theorem l_X10_picksFrom_93 (r : gb_F) : gb_Li (fun κ => k_X10_picksFrom_93 r κ) := (gb_li (q_inc 3 1) (q_j [0, 1, 2, 3] 42))
theorem s_X10_picksFrom_93 {R : Room} {r : gb_F} {fr lo : Nat} (hr : (∀ l, gb_Met l yX10_picksFrom cX10_picksFrom 4 none 0 (gb_rm fr lo) r) ∧ fr + 1 ≤ R.frames ∧ 8 + (4 + 11) + lo ≤ R.locals) (hR : 4 ≤ R.frames ∧ 96 ≤ R.locals) {κ : gb_K} (hκ : ∀ q, gb_S RX10 cX10_picksFrom 4 R 0 q (κ q)) : gb_S RX10 cX10_picksFrom 4 R 0 93 (k_X10_picksFrom_93 r κ) := (s_inc (by decide +kernel) (Nat.le_of_ble_eq_true rfl) dX10_picksFrom_93 (s_goto (tgt := 42) (by decide +kernel) dX10_picksFrom_96 (s_j (hκ 42))))
noncomputable def k_X10_picksFrom_90 (r : gb_F) (κ : gb_K) : gb_C := (o_cv 1 10 0 f_X10_takesUp (k_X10_picksFrom_93 r κ))
theorem l_X10_picksFrom_90 (r : gb_F) : gb_Li (fun κ => k_X10_picksFrom_90 r κ) := (gb_li (q_cv 1 10 0 f_X10_takesUp) (l_X10_picksFrom_93 r))
theorem s_X10_picksFrom_90 {R : Room} {r : gb_F} {fr lo : Nat} (hr : (∀ l, gb_Met l yX10_picksFrom cX10_picksFrom 4 none 0 (gb_rm fr lo) r) ∧ fr + 1 ≤ R.frames ∧ 8 + (4 + 11) + lo ≤ R.locals) (hR : 4 ≤ R.frames ∧ 96 ≤ R.locals) {κ : gb_K} (hκ : ∀ q, gb_S RX10 cX10_picksFrom 4 R 0 q (κ q)) : gb_S RX10 cX10_picksFrom 4 R 0 90 (k_X10_picksFrom_90 r κ) := (s_cv (C := RX10) c_X10_takesUp rfl (gb_l5 gw_773 gw_774 gw_775 gw_553 gw_776) v_X10_takesUp ⟨rfl, rfl⟩ ⟨Nat.le_trans (Nat.le_of_ble_eq_true rfl) hR.1, Nat.le_trans (Nat.le_of_ble_eq_true rfl) hR.2⟩ dX10_picksFrom_90 (s_X10_picksFrom_93 hr hR hκ))
noncomputable def k_X10_picksFrom_42 (r : gb_F) (κ : gb_K) : gb_C := (o_il 3 (o_ci 6 (o_cge (o_al 0 (o_gf 10 26 (o_il 1 (o_ci 6 (o_iast (o_al 0 (o_il 1 (o_ci 1 (o_ib (fun x y => x + y) (o_il 2 (o_cv 2 10 0 r o_rv))))))))))) (o_al 0 (o_il 3 (o_il 1 (o_cv 2 10 2 f_X10_canServe (o_zeq (k_X10_picksFrom_93 r κ) (o_al 0 (o_gf 10 26 (o_il 1 (o_il 3 (o_iast (o_al 0 (o_il 3 (o_al 0 (o_gf 10 24 (o_il 1 (o_iald (o_cv 2 10 0 f_X10_goes (o_al 0 (o_il 1 (o_ci 1 (o_ib (fun x y => x + y) (o_il 2 (o_ci 1 (o_ib (fun x y => x + y) (o_cv 2 10 0 r (o_al 0 (o_il 1 (k_X10_picksFrom_90 r κ)))))))))))))))))))))))))))))))
theorem l_X10_picksFrom_42 (r : gb_F) : gb_Li (fun κ => k_X10_picksFrom_42 r κ) := (gb_li (q_il 3) (gb_li (q_ci 6) (q_cge (gb_li (q_al 0) (gb_li (q_gf 10 26) (gb_li (q_il 1) (gb_li (q_ci 6) (gb_li q_iast (gb_li (q_al 0) (gb_li (q_il 1) (gb_li (q_ci 1) (gb_li (q_ib _) (gb_li (q_il 2) (gb_li (q_cv 2 10 0 r) (gb_li0 _)))))))))))) (gb_li (q_al 0) (gb_li (q_il 3) (gb_li (q_il 1) (gb_li (q_cv 2 10 2 f_X10_canServe) (q_zeq (l_X10_picksFrom_93 r) (gb_li (q_al 0) (gb_li (q_gf 10 26) (gb_li (q_il 1) (gb_li (q_il 3) (gb_li q_iast (gb_li (q_al 0) (gb_li (q_il 3) (gb_li (q_al 0) (gb_li (q_gf 10 24) (gb_li (q_il 1) (gb_li q_iald (gb_li (q_cv 2 10 0 f_X10_goes) (gb_li (q_al 0) (gb_li (q_il 1) (gb_li (q_ci 1) (gb_li (q_ib _) (gb_li (q_il 2) (gb_li (q_ci 1) (gb_li (q_ib _) (gb_li (q_cv 2 10 0 r) (gb_li (q_al 0) (gb_li (q_il 1) (l_X10_picksFrom_90 r)))))))))))))))))))))))))))))))
theorem s_X10_picksFrom_42 {R : Room} {r : gb_F} {fr lo : Nat} (hr : (∀ l, gb_Met l yX10_picksFrom cX10_picksFrom 4 none 0 (gb_rm fr lo) r) ∧ fr + 1 ≤ R.frames ∧ 8 + (4 + 11) + lo ≤ R.locals) (hR : 4 ≤ R.frames ∧ 96 ≤ R.locals) {κ : gb_K} (hκ : ∀ q, gb_S RX10 cX10_picksFrom 4 R 0 q (κ q)) : gb_S RX10 cX10_picksFrom 4 R 0 42 (k_X10_picksFrom_42 r κ) := (s_iln 3 rfl dX10_picksFrom_42 (s_bipush (by decide +kernel) dX10_picksFrom_43 (s_cge (tgt := 99) (by decide +kernel) dX10_picksFrom_45 (s_aln 0 rfl dX10_picksFrom_99 (s_gf (T := TX10) winX10 rfl (Nat.le_of_ble_eq_true rfl) gw_759 rfl dX10_picksFrom_100 (s_iln 1 rfl dX10_picksFrom_103 (s_bipush (by decide +kernel) dX10_picksFrom_104 (s_iast dX10_picksFrom_106 (s_aln 0 rfl dX10_picksFrom_107 (s_iln 1 rfl dX10_picksFrom_108 (s_iconst (by decide +kernel) dX10_picksFrom_109 (s_iadd dX10_picksFrom_110 (s_iln 2 rfl dX10_picksFrom_111 (s_cv (C := RX10) hr.1 rfl (gb_l5 gw_785 gw_786 gw_787 gw_553 gw_788) v_X10_picksFrom ⟨rfl, rfl⟩ ⟨hr.2.1, hr.2.2⟩ dX10_picksFrom_112 (s_rv rfl dX10_picksFrom_115)))))))))))) (s_aln 0 rfl dX10_picksFrom_48 (s_iln 3 rfl dX10_picksFrom_49 (s_iln 1 rfl dX10_picksFrom_50 (s_cv (C := RX10) c_X10_canServe rfl (gb_l5 gw_777 gw_778 gw_779 gw_553 gw_780) v_X10_canServe ⟨rfl, rfl⟩ ⟨Nat.le_trans (Nat.le_of_ble_eq_true rfl) hR.1, Nat.le_trans (Nat.le_of_ble_eq_true rfl) hR.2⟩ dX10_picksFrom_51 (s_zne (tgt := 60) (by decide +kernel) dX10_picksFrom_54 (s_aln 0 rfl dX10_picksFrom_60 (s_gf (T := TX10) winX10 rfl (Nat.le_of_ble_eq_true rfl) gw_759 rfl dX10_picksFrom_61 (s_iln 1 rfl dX10_picksFrom_64 (s_iln 3 rfl dX10_picksFrom_65 (s_iast dX10_picksFrom_66 (s_aln 0 rfl dX10_picksFrom_67 (s_iln 3 rfl dX10_picksFrom_68 (s_aln 0 rfl dX10_picksFrom_69 (s_gf (T := TX10) winX10 rfl (Nat.le_of_ble_eq_true rfl) gw_756 rfl dX10_picksFrom_70 (s_iln 1 rfl dX10_picksFrom_73 (s_iald dX10_picksFrom_74 (s_cv (C := RX10) c_X10_goes rfl (gb_l5 gw_724 gw_725 gw_726 gw_553 gw_727) v_X10_goes ⟨rfl, rfl⟩ ⟨Nat.le_trans (Nat.le_of_ble_eq_true rfl) hR.1, Nat.le_trans (Nat.le_of_ble_eq_true rfl) hR.2⟩ dX10_picksFrom_75 (s_aln 0 rfl dX10_picksFrom_78 (s_iln 1 rfl dX10_picksFrom_79 (s_iconst (by decide +kernel) dX10_picksFrom_80 (s_iadd dX10_picksFrom_81 (s_iln 2 rfl dX10_picksFrom_82 (s_iconst (by decide +kernel) dX10_picksFrom_83 (s_iadd dX10_picksFrom_84 (s_cv (C := RX10) hr.1 rfl (gb_l5 gw_785 gw_786 gw_787 gw_553 gw_788) v_X10_picksFrom ⟨rfl, rfl⟩ ⟨hr.2.1, hr.2.2⟩ dX10_picksFrom_85 (s_aln 0 rfl dX10_picksFrom_88 (s_iln 1 rfl dX10_picksFrom_89 (s_X10_picksFrom_90 hr hR hκ))))))))))))))))))))))) (s_goto (tgt := 93) (by decide +kernel) dX10_picksFrom_57 (s_X10_picksFrom_93 hr hR hκ))))))))))
noncomputable def B_X10_picksFrom (r : gb_F) : List (Nat × (gb_K → gb_C)) := [(42, fun κ => k_X10_picksFrom_42 r κ)]
noncomputable def K_X10_picksFrom (r : gb_F) : gb_K := gb_fx (gb_tb (B_X10_picksFrom r))
theorem L_X10_picksFrom (r : gb_F) : ∀ q, gb_Li (fun κ => gb_tb (B_X10_picksFrom r) κ q) := gb_tb_li (List.forall_mem_cons.mpr ⟨l_X10_picksFrom_42 r, (fun _ h => absurd h List.not_mem_nil)⟩)
theorem S_X10_picksFrom {R : Room} {r : gb_F} {fr lo : Nat} (hr : (∀ l, gb_Met l yX10_picksFrom cX10_picksFrom 4 none 0 (gb_rm fr lo) r) ∧ fr + 1 ≤ R.frames ∧ 8 + (4 + 11) + lo ≤ R.locals) (hR : 4 ≤ R.frames ∧ 96 ≤ R.locals) : ∀ q, gb_S RX10 cX10_picksFrom 4 R 0 q (K_X10_picksFrom r q) := fun q => gb_fx_S (L_X10_picksFrom r) (gb_tb_S (List.forall_mem_cons.mpr ⟨fun κ hκ => s_X10_picksFrom_42 hr hR hκ, (fun _ h => absurd h List.not_mem_nil)⟩)) q
noncomputable def g_X10_picksFrom : Nat → gb_F
  | 0 => fun _ _ => none
  | n + 1 => gb_mf 4 (k_X10_picksFrom_0 (g_X10_picksFrom n) (K_X10_picksFrom (g_X10_picksFrom n)))
theorem h_X10_picksFrom : ∀ (n : Nat) l, gb_Met l yX10_picksFrom cX10_picksFrom 4 none 0 (gb_rm (4 + n) (96 + 23 * n)) (g_X10_picksFrom n)
  | 0 => gb_met0
  | n + 1 => gb_met (own := RX10) (rk := 0) rfl (by decide +kernel) ⟨rfl, rfl⟩ (s_X10_picksFrom_0 ⟨h_X10_picksFrom n, by show _ ≤ _ + (n + 1); omega, by show _ ≤ _ + 23 * (n + 1); omega⟩ ⟨by show _ ≤ _ + (n + 1); omega, by show _ ≤ _ + 23 * (n + 1); omega⟩ (S_X10_picksFrom ⟨h_X10_picksFrom n, by show _ ≤ _ + (n + 1); omega, by show _ ≤ _ + 23 * (n + 1); omega⟩ ⟨by show _ ≤ _ + (n + 1); omega, by show _ ≤ _ + 23 * (n + 1); omega⟩))
noncomputable def f_X10_picksFrom : gb_F := gb_hide (g_X10_picksFrom 8)
theorem c_X10_picksFrom : ∀ l, gb_Met l yX10_picksFrom cX10_picksFrom 4 none 0 (gb_rm 12 280) f_X10_picksFrom := gb_hide_c (h_X10_picksFrom 8)
