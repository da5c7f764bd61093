/-! CODE: printed by wip/whole/gen.py -/
theorem dX10_cures_0 : decode cX10_cures 0 = .ok (.aload_n 0, 1) := by decide +kernel
theorem dX10_cures_1 : decode cX10_cures 1 = .ok (.iconst 0, 1) := by decide +kernel
theorem dX10_cures_2 : decode cX10_cures 2 = .ok (.putfield 66, 3) := by decide +kernel
theorem dX10_cures_5 : decode cX10_cures 5 = .ok (.iload_n 1, 1) := by decide +kernel
theorem dX10_cures_6 : decode cX10_cures 6 = .ok (.i2l, 1) := by decide +kernel
theorem dX10_cures_7 : decode cX10_cures 7 = .ok (.lconst 1, 1) := by decide +kernel
theorem dX10_cures_8 : decode cX10_cures 8 = .ok (.ldc2_w 275, 3) := by decide +kernel
theorem dX10_cures_11 : decode cX10_cures 11 = .ok (.invokestatic 76, 3) := by decide +kernel
theorem dX10_cures_14 : decode cX10_cures 14 = .ok (.ifCond .eq 15, 3) := by decide +kernel
theorem dX10_cures_17 : decode cX10_cures 17 = .ok (.iload_n 2, 1) := by decide +kernel
theorem dX10_cures_18 : decode cX10_cures 18 = .ok (.i2l, 1) := by decide +kernel
theorem dX10_cures_19 : decode cX10_cures 19 = .ok (.lconst 0, 1) := by decide +kernel
theorem dX10_cures_20 : decode cX10_cures 20 = .ok (.ldc2_w 280, 3) := by decide +kernel
theorem dX10_cures_23 : decode cX10_cures 23 = .ok (.invokestatic 76, 3) := by decide +kernel
theorem dX10_cures_26 : decode cX10_cures 26 = .ok (.ifCond .ne 5, 3) := by decide +kernel
theorem dX10_cures_29 : decode cX10_cures 29 = .ok (.iconst (-1), 1) := by decide +kernel
theorem dX10_cures_30 : decode cX10_cures 30 = .ok (.ireturn, 1) := by decide +kernel
theorem dX10_cures_31 : decode cX10_cures 31 = .ok (.aload_n 0, 1) := by decide +kernel
theorem dX10_cures_32 : decode cX10_cures 32 = .ok (.aload_n 0, 1) := by decide +kernel
theorem dX10_cures_33 : decode cX10_cures 33 = .ok (.getfield 7, 3) := by decide +kernel
theorem dX10_cures_36 : decode cX10_cures 36 = .ok (.sipush 174, 3) := by decide +kernel
theorem dX10_cures_39 : decode cX10_cures 39 = .ok (.iaload, 1) := by decide +kernel
theorem dX10_cures_40 : decode cX10_cures 40 = .ok (.iload_n 2, 1) := by decide +kernel
theorem dX10_cures_41 : decode cX10_cures 41 = .ok (.iadd, 1) := by decide +kernel
theorem dX10_cures_42 : decode cX10_cures 42 = .ok (.invokevirtual 131, 3) := by decide +kernel
theorem dX10_cures_45 : decode cX10_cures 45 = .ok (.istore_n 3, 1) := by decide +kernel
theorem dX10_cures_46 : decode cX10_cures 46 = .ok (.bipush (-2), 2) := by decide +kernel
theorem dX10_cures_48 : decode cX10_cures 48 = .ok (.istore 4, 2) := by decide +kernel
theorem dX10_cures_50 : decode cX10_cures 50 = .ok (.iconst 0, 1) := by decide +kernel
theorem dX10_cures_51 : decode cX10_cures 51 = .ok (.istore 5, 2) := by decide +kernel
theorem dX10_cures_53 : decode cX10_cures 53 = .ok (.iconst 0, 1) := by decide +kernel
theorem dX10_cures_54 : decode cX10_cures 54 = .ok (.istore 6, 2) := by decide +kernel
theorem dX10_cures_56 : decode cX10_cures 56 = .ok (.iload 6, 2) := by decide +kernel
theorem dX10_cures_58 : decode cX10_cures 58 = .ok (.bipush 6, 2) := by decide +kernel
theorem dX10_cures_60 : decode cX10_cures 60 = .ok (.if_icmp .ge 83, 3) := by decide +kernel
theorem dX10_cures_63 : decode cX10_cures 63 = .ok (.aload_n 0, 1) := by decide +kernel
theorem dX10_cures_64 : decode cX10_cures 64 = .ok (.iload 6, 2) := by decide +kernel
theorem dX10_cures_66 : decode cX10_cures 66 = .ok (.invokevirtual 134, 3) := by decide +kernel
theorem dX10_cures_69 : decode cX10_cures 69 = .ok (.ifCond .ne 68, 3) := by decide +kernel
theorem dX10_cures_72 : decode cX10_cures 72 = .ok (.aload_n 0, 1) := by decide +kernel
theorem dX10_cures_73 : decode cX10_cures 73 = .ok (.iload 6, 2) := by decide +kernel
theorem dX10_cures_75 : decode cX10_cures 75 = .ok (.invokevirtual 84, 3) := by decide +kernel
theorem dX10_cures_78 : decode cX10_cures 78 = .ok (.ifCond .ne 6, 3) := by decide +kernel
theorem dX10_cures_81 : decode cX10_cures 81 = .ok (.goto 56, 3) := by decide +kernel
theorem dX10_cures_84 : decode cX10_cures 84 = .ok (.aload_n 0, 1) := by decide +kernel
theorem dX10_cures_85 : decode cX10_cures 85 = .ok (.iconst 0, 1) := by decide +kernel
theorem dX10_cures_86 : decode cX10_cures 86 = .ok (.invokevirtual 294, 3) := by decide +kernel
theorem dX10_cures_89 : decode cX10_cures 89 = .ok (.aload_n 0, 1) := by decide +kernel
theorem dX10_cures_90 : decode cX10_cures 90 = .ok (.iload 6, 2) := by decide +kernel
theorem dX10_cures_92 : decode cX10_cures 92 = .ok (.iload_n 1, 1) := by decide +kernel
theorem dX10_cures_93 : decode cX10_cures 93 = .ok (.invokevirtual 277, 3) := by decide +kernel
theorem dX10_cures_96 : decode cX10_cures 96 = .ok (.aload_n 0, 1) := by decide +kernel
theorem dX10_cures_97 : decode cX10_cures 97 = .ok (.aload_n 0, 1) := by decide +kernel
theorem dX10_cures_98 : decode cX10_cures 98 = .ok (.getfield 7, 3) := by decide +kernel
theorem dX10_cures_101 : decode cX10_cures 101 = .ok (.sipush 174, 3) := by decide +kernel
theorem dX10_cures_104 : decode cX10_cures 104 = .ok (.iaload, 1) := by decide +kernel
theorem dX10_cures_105 : decode cX10_cures 105 = .ok (.iload_n 2, 1) := by decide +kernel
theorem dX10_cures_106 : decode cX10_cures 106 = .ok (.iadd, 1) := by decide +kernel
theorem dX10_cures_107 : decode cX10_cures 107 = .ok (.invokevirtual 131, 3) := by decide +kernel
theorem dX10_cures_110 : decode cX10_cures 110 = .ok (.iload_n 3, 1) := by decide +kernel
theorem dX10_cures_111 : decode cX10_cures 111 = .ok (.isub, 1) := by decide +kernel
theorem dX10_cures_112 : decode cX10_cures 112 = .ok (.istore 7, 2) := by decide +kernel
theorem dX10_cures_114 : decode cX10_cures 114 = .ok (.aload_n 0, 1) := by decide +kernel
theorem dX10_cures_115 : decode cX10_cures 115 = .ok (.iconst 0, 1) := by decide +kernel
theorem dX10_cures_116 : decode cX10_cures 116 = .ok (.invokevirtual 303, 3) := by decide +kernel
theorem dX10_cures_119 : decode cX10_cures 119 = .ok (.iload 7, 2) := by decide +kernel
theorem dX10_cures_121 : decode cX10_cures 121 = .ok (.iload 5, 2) := by decide +kernel
theorem dX10_cures_123 : decode cX10_cures 123 = .ok (.if_icmp .gt 6, 3) := by decide +kernel
theorem dX10_cures_126 : decode cX10_cures 126 = .ok (.goto 11, 3) := by decide +kernel
theorem dX10_cures_129 : decode cX10_cures 129 = .ok (.iload 6, 2) := by decide +kernel
theorem dX10_cures_131 : decode cX10_cures 131 = .ok (.istore 4, 2) := by decide +kernel
theorem dX10_cures_133 : decode cX10_cures 133 = .ok (.iload 7, 2) := by decide +kernel
theorem dX10_cures_135 : decode cX10_cures 135 = .ok (.istore 5, 2) := by decide +kernel
theorem dX10_cures_137 : decode cX10_cures 137 = .ok (.iinc 6 1, 3) := by decide +kernel
theorem dX10_cures_140 : decode cX10_cures 140 = .ok (.goto (-84), 3) := by decide +kernel
theorem dX10_cures_143 : decode cX10_cures 143 = .ok (.iload 4, 2) := by decide +kernel
theorem dX10_cures_145 : decode cX10_cures 145 = .ok (.bipush (-2), 2) := by decide +kernel
theorem dX10_cures_147 : decode cX10_cures 147 = .ok (.if_icmp .ne 6, 3) := by decide +kernel
theorem dX10_cures_150 : decode cX10_cures 150 = .ok (.bipush (-2), 2) := by decide +kernel
theorem dX10_cures_152 : decode cX10_cures 152 = .ok (.ireturn, 1) := by decide +kernel
theorem dX10_cures_153 : decode cX10_cures 153 = .ok (.aload_n 0, 1) := by decide +kernel
theorem dX10_cures_154 : decode cX10_cures 154 = .ok (.iconst 0, 1) := by decide +kernel
theorem dX10_cures_155 : decode cX10_cures 155 = .ok (.putfield 70, 3) := by decide +kernel
theorem dX10_cures_158 : decode cX10_cures 158 = .ok (.aload_n 0, 1) := by decide +kernel
theorem dX10_cures_159 : decode cX10_cures 159 = .ok (.iload 5, 2) := by decide +kernel
theorem dX10_cures_161 : decode cX10_cures 161 = .ok (.i2l, 1) := by decide +kernel
theorem dX10_cures_162 : decode cX10_cures 162 = .ok (.invokevirtual 259, 3) := by decide +kernel
theorem dX10_cures_165 : decode cX10_cures 165 = .ok (.iload 4, 2) := by decide +kernel
theorem dX10_cures_167 : decode cX10_cures 167 = .ok (.ireturn, 1) := by decide +kernel
theorem v_X10_cures : yX10_cures.cls = RX10 ∧ yX10_cures.cls ≠ "java/lang/invoke/MethodHandle" ∧ yX10_cures.cls ≠ "java/lang/invoke/VarHandle" ∧ (parseMethodDescriptor yX10_cures.desc).map (fun d => d.parameters.length) = some 2 := ⟨rfl, by decide +kernel, by decide +kernel, by decide +kernel⟩
noncomputable def k_X10_cures_29 (κ : gb_K) : gb_C := (o_ci (-1) o_ri)
theorem l_X10_cures_29 : gb_Li (fun κ => k_X10_cures_29 κ) := (gb_li (q_ci (-1)) (gb_li0 _))
theorem s_X10_cures_29   {κ : gb_K} (hκ : ∀ q, gb_S RX10 cX10_cures 8 (gb_rm 6 139) 1 q (κ q)) : gb_S RX10 cX10_cures 8 (gb_rm 6 139) 1 29 (k_X10_cures_29 κ) := (s_iconst (by decide +kernel) dX10_cures_29 (s_ri rfl dX10_cures_30))
noncomputable def k_X10_cures_0 (κ : gb_K) : gb_C := (o_al 0 (o_ci 0 (o_pf 10 10 (o_il 1 (o_i2l (o_cl 1 (o_cl 20 (o_cs 3 2 f_X10_in (o_zeq (k_X10_cures_29 κ) (o_il 2 (o_i2l (o_cl 0 (o_cl 999 (o_cs 3 2 f_X10_in (o_zeq (k_X10_cures_29 κ) (o_al 0 (o_al 0 (o_gf 10 0 (o_ci 174 (o_iald (o_il 2 (o_ib (fun x y => x + y) (o_cv 1 10 1 f_X10_allOn (o_is 3 (o_ci (-2) (o_is 4 (o_ci 0 (o_is 5 (o_ci 0 (o_is 6 (o_j [0, 1, 2, 3, 4, 5, 6] (κ 56))))))))))))))))))))))))))))))))
theorem l_X10_cures_0 : gb_Li (fun κ => k_X10_cures_0 κ) := (gb_li (q_al 0) (gb_li (q_ci 0) (gb_li (q_pf 10 10) (gb_li (q_il 1) (gb_li q_i2l (gb_li (q_cl 1) (gb_li (q_cl 20) (gb_li (q_cs 3 2 f_X10_in) (q_zeq (l_X10_cures_29) (gb_li (q_il 2) (gb_li q_i2l (gb_li (q_cl 0) (gb_li (q_cl 999) (gb_li (q_cs 3 2 f_X10_in) (q_zeq (l_X10_cures_29) (gb_li (q_al 0) (gb_li (q_al 0) (gb_li (q_gf 10 0) (gb_li (q_ci 174) (gb_li q_iald (gb_li (q_il 2) (gb_li (q_ib _) (gb_li (q_cv 1 10 1 f_X10_allOn) (gb_li (q_is 3) (gb_li (q_ci (-2)) (gb_li (q_is 4) (gb_li (q_ci 0) (gb_li (q_is 5) (gb_li (q_ci 0) (gb_li (q_is 6) (q_j [0, 1, 2, 3, 4, 5, 6] 56)))))))))))))))))))))))))))))))
theorem s_X10_cures_0   {κ : gb_K} (hκ : ∀ q, gb_S RX10 cX10_cures 8 (gb_rm 6 139) 1 q (κ q)) : gb_S RX10 cX10_cures 8 (gb_rm 6 139) 1 0 (k_X10_cures_0 κ) := (s_aln 0 rfl dX10_cures_0 (s_iconst (by decide +kernel) dX10_cures_1 (s_pf (T := TX10) winX10 rfl (Nat.le_of_ble_eq_true rfl) tyX10_ok nmX10 rfl (by decide +kernel) gw_546 rfl dX10_cures_2 (s_iln 1 rfl dX10_cures_5 (s_i2l dX10_cures_6 (s_lconst (by decide +kernel) dX10_cures_7 (s_ldc2 gw_748 dX10_cures_8 (s_cs c_X10_in (gb_l4 gw_551 gw_552 gw_553 gw_554) v_X10_in.2 ⟨rfl, rfl⟩ ⟨Nat.le_of_ble_eq_true rfl, Nat.le_of_ble_eq_true rfl⟩ dX10_cures_11 (s_zeq (tgt := 29) (by decide +kernel) dX10_cures_14 (s_X10_cures_29 hκ) (s_iln 2 rfl dX10_cures_17 (s_i2l dX10_cures_18 (s_lconst (by decide +kernel) dX10_cures_19 (s_ldc2 gw_753 dX10_cures_20 (s_cs c_X10_in (gb_l4 gw_551 gw_552 gw_553 gw_554) v_X10_in.2 ⟨rfl, rfl⟩ ⟨Nat.le_of_ble_eq_true rfl, Nat.le_of_ble_eq_true rfl⟩ dX10_cures_23 (s_zne (tgt := 31) (by decide +kernel) dX10_cures_26 (s_aln 0 rfl dX10_cures_31 (s_aln 0 rfl dX10_cures_32 (s_gf (T := TX10) winX10 rfl (Nat.le_of_ble_eq_true rfl) gw_545 rfl dX10_cures_33 (s_sipush (by decide +kernel) dX10_cures_36 (s_iald dX10_cures_39 (s_iln 2 rfl dX10_cures_40 (s_iadd dX10_cures_41 (s_cv (C := RX10) c_X10_allOn rfl (gb_l5 gw_606 gw_607 gw_608 gw_553 gw_609) v_X10_allOn ⟨rfl, rfl⟩ ⟨Nat.le_of_ble_eq_true rfl, Nat.le_of_ble_eq_true rfl⟩ dX10_cures_42 (s_isn 3 rfl (Nat.le_of_ble_eq_true rfl) dX10_cures_45 (s_bipush (by decide +kernel) dX10_cures_46 (s_is (Nat.le_of_ble_eq_true rfl) dX10_cures_48 (s_iconst (by decide +kernel) dX10_cures_50 (s_is (Nat.le_of_ble_eq_true rfl) dX10_cures_51 (s_iconst (by decide +kernel) dX10_cures_53 (s_is (Nat.le_of_ble_eq_true rfl) dX10_cures_54 (s_j (hκ 56))))))))))))))))) (s_X10_cures_29 hκ))))))))))))))))
noncomputable def k_X10_cures_137 (κ : gb_K) : gb_C := (o_inc 6 1 (o_j [0, 1, 2, 3, 4, 5, 6] (κ 56)))
theorem l_X10_cures_137 : gb_Li (fun κ => k_X10_cures_137 κ) := (gb_li (q_inc 6 1) (q_j [0, 1, 2, 3, 4, 5, 6] 56))
theorem s_X10_cures_137   {κ : gb_K} (hκ : ∀ q, gb_S RX10 cX10_cures 8 (gb_rm 6 139) 1 q (κ q)) : gb_S RX10 cX10_cures 8 (gb_rm 6 139) 1 137 (k_X10_cures_137 κ) := (s_inc (by decide +kernel) (Nat.le_of_ble_eq_true rfl) dX10_cures_137 (s_goto (tgt := 56) (by decide +kernel) dX10_cures_140 (s_j (hκ 56))))
noncomputable def k_X10_cures_115 (κ : gb_K) : gb_C := (o_ci 0 (o_cv 1 10 0 f_X10_takesUp (o_il 7 (o_il 5 (o_cgt (o_il 6 (o_is 4 (o_il 7 (o_is 5 (k_X10_cures_137 κ))))) (k_X10_cures_137 κ))))))
theorem l_X10_cures_115 : gb_Li (fun κ => k_X10_cures_115 κ) := (gb_li (q_ci 0) (gb_li (q_cv 1 10 0 f_X10_takesUp) (gb_li (q_il 7) (gb_li (q_il 5) (q_cgt (gb_li (q_il 6) (gb_li (q_is 4) (gb_li (q_il 7) (gb_li (q_is 5) (l_X10_cures_137))))) (l_X10_cures_137))))))
theorem s_X10_cures_115   {κ : gb_K} (hκ : ∀ q, gb_S RX10 cX10_cures 8 (gb_rm 6 139) 1 q (κ q)) : gb_S RX10 cX10_cures 8 (gb_rm 6 139) 1 115 (k_X10_cures_115 κ) := (s_iconst (by decide +kernel) dX10_cures_115 (s_cv (C := RX10) c_X10_takesUp rfl (gb_l5 gw_773 gw_774 gw_775 gw_553 gw_776) v_X10_takesUp ⟨rfl, rfl⟩ ⟨Nat.le_of_ble_eq_true rfl, Nat.le_of_ble_eq_true rfl⟩ dX10_cures_116 (s_il dX10_cures_119 (s_il dX10_cures_121 (s_cgt (tgt := 129) (by decide +kernel) dX10_cures_123 (s_il dX10_cures_129 (s_is (Nat.le_of_ble_eq_true rfl) dX10_cures_131 (s_il dX10_cures_133 (s_is (Nat.le_of_ble_eq_true rfl) dX10_cures_135 (s_X10_cures_137 hκ))))) (s_goto (tgt := 137) (by decide +kernel) dX10_cures_126 (s_X10_cures_137 hκ)))))))
noncomputable def k_X10_cures_56 (κ : gb_K) : gb_C := (o_il 6 (o_ci 6 (o_cge (o_il 4 (o_ci (-2) (o_ceq (o_ci (-2) o_ri) (o_al 0 (o_ci 0 (o_pf 10 9 (o_al 0 (o_il 5 (o_i2l (o_cv 1 10 0 f_X10_tell (o_il 4 o_ri))))))))))) (o_al 0 (o_il 6 (o_cv 1 10 2 f_X10_isClosed (o_zeq (o_al 0 (o_il 6 (o_cv 1 10 1 f_X10_many (o_zeq (k_X10_cures_137 κ) (o_al 0 (o_ci 0 (o_cv 1 10 0 f_X10_laysDown (o_al 0 (o_il 6 (o_il 1 (o_cv 2 10 0 f_X10_fumigates (o_al 0 (o_al 0 (o_gf 10 0 (o_ci 174 (o_iald (o_il 2 (o_ib (fun x y => x + y) (o_cv 1 10 1 f_X10_allOn (o_il 3 (o_ib (fun x y => x - y) (o_is 7 (o_al 0 (k_X10_cures_115 κ)))))))))))))))))))))))) (k_X10_cures_137 κ))))))))
theorem l_X10_cures_56 : gb_Li (fun κ => k_X10_cures_56 κ) := (gb_li (q_il 6) (gb_li (q_ci 6) (q_cge (gb_li (q_il 4) (gb_li (q_ci (-2)) (q_ceq (gb_li (q_ci (-2)) (gb_li0 _)) (gb_li (q_al 0) (gb_li (q_ci 0) (gb_li (q_pf 10 9) (gb_li (q_al 0) (gb_li (q_il 5) (gb_li q_i2l (gb_li (q_cv 1 10 0 f_X10_tell) (gb_li (q_il 4) (gb_li0 _)))))))))))) (gb_li (q_al 0) (gb_li (q_il 6) (gb_li (q_cv 1 10 2 f_X10_isClosed) (q_zeq (gb_li (q_al 0) (gb_li (q_il 6) (gb_li (q_cv 1 10 1 f_X10_many) (q_zeq (l_X10_cures_137) (gb_li (q_al 0) (gb_li (q_ci 0) (gb_li (q_cv 1 10 0 f_X10_laysDown) (gb_li (q_al 0) (gb_li (q_il 6) (gb_li (q_il 1) (gb_li (q_cv 2 10 0 f_X10_fumigates) (gb_li (q_al 0) (gb_li (q_al 0) (gb_li (q_gf 10 0) (gb_li (q_ci 174) (gb_li q_iald (gb_li (q_il 2) (gb_li (q_ib _) (gb_li (q_cv 1 10 1 f_X10_allOn) (gb_li (q_il 3) (gb_li (q_ib _) (gb_li (q_is 7) (gb_li (q_al 0) (l_X10_cures_115)))))))))))))))))))))))) (l_X10_cures_137))))))))
theorem s_X10_cures_56   {κ : gb_K} (hκ : ∀ q, gb_S RX10 cX10_cures 8 (gb_rm 6 139) 1 q (κ q)) : gb_S RX10 cX10_cures 8 (gb_rm 6 139) 1 56 (k_X10_cures_56 κ) := (s_il dX10_cures_56 (s_bipush (by decide +kernel) dX10_cures_58 (s_cge (tgt := 143) (by decide +kernel) dX10_cures_60 (s_il dX10_cures_143 (s_bipush (by decide +kernel) dX10_cures_145 (s_cne (tgt := 153) (by decide +kernel) dX10_cures_147 (s_aln 0 rfl dX10_cures_153 (s_iconst (by decide +kernel) dX10_cures_154 (s_pf (T := TX10) winX10 rfl (Nat.le_of_ble_eq_true rfl) tyX10_ok nmX10 rfl (by decide +kernel) gw_548 rfl dX10_cures_155 (s_aln 0 rfl dX10_cures_158 (s_il dX10_cures_159 (s_i2l dX10_cures_161 (s_cv (C := RX10) c_X10_tell rfl (gb_l5 gw_732 gw_733 gw_734 gw_553 gw_735) v_X10_tell ⟨rfl, rfl⟩ ⟨Nat.le_of_ble_eq_true rfl, Nat.le_of_ble_eq_true rfl⟩ dX10_cures_162 (s_il dX10_cures_165 (s_ri rfl dX10_cures_167))))))))) (s_bipush (by decide +kernel) dX10_cures_150 (s_ri rfl dX10_cures_152))))) (s_aln 0 rfl dX10_cures_63 (s_il dX10_cures_64 (s_cv (C := RX10) c_X10_isClosed rfl (gb_l5 gw_614 gw_615 gw_616 gw_553 gw_617) v_X10_isClosed ⟨rfl, rfl⟩ ⟨Nat.le_of_ble_eq_true rfl, Nat.le_of_ble_eq_true rfl⟩ dX10_cures_66 (s_zne (tgt := 137) (by decide +kernel) dX10_cures_69 (s_X10_cures_137 hκ) (s_aln 0 rfl dX10_cures_72 (s_il dX10_cures_73 (s_cv (C := RX10) c_X10_many rfl (gb_l5 gw_557 gw_558 gw_559 gw_553 gw_560) v_X10_many ⟨rfl, rfl⟩ ⟨Nat.le_of_ble_eq_true rfl, Nat.le_of_ble_eq_true rfl⟩ dX10_cures_75 (s_zne (tgt := 84) (by decide +kernel) dX10_cures_78 (s_aln 0 rfl dX10_cures_84 (s_iconst (by decide +kernel) dX10_cures_85 (s_cv (C := RX10) c_X10_laysDown rfl (gb_l5 gw_764 gw_765 gw_766 gw_553 gw_767) v_X10_laysDown ⟨rfl, rfl⟩ ⟨Nat.le_of_ble_eq_true rfl, Nat.le_of_ble_eq_true rfl⟩ dX10_cures_86 (s_aln 0 rfl dX10_cures_89 (s_il dX10_cures_90 (s_iln 1 rfl dX10_cures_92 (s_cv (C := RX10) c_X10_fumigates rfl (gb_l5 gw_749 gw_750 gw_751 gw_553 gw_752) v_X10_fumigates ⟨rfl, rfl⟩ ⟨Nat.le_of_ble_eq_true rfl, Nat.le_of_ble_eq_true rfl⟩ dX10_cures_93 (s_aln 0 rfl dX10_cures_96 (s_aln 0 rfl dX10_cures_97 (s_gf (T := TX10) winX10 rfl (Nat.le_of_ble_eq_true rfl) gw_545 rfl dX10_cures_98 (s_sipush (by decide +kernel) dX10_cures_101 (s_iald dX10_cures_104 (s_iln 2 rfl dX10_cures_105 (s_iadd dX10_cures_106 (s_cv (C := RX10) c_X10_allOn rfl (gb_l5 gw_606 gw_607 gw_608 gw_553 gw_609) v_X10_allOn ⟨rfl, rfl⟩ ⟨Nat.le_of_ble_eq_true rfl, Nat.le_of_ble_eq_true rfl⟩ dX10_cures_107 (s_iln 3 rfl dX10_cures_110 (s_isub dX10_cures_111 (s_is (Nat.le_of_ble_eq_true rfl) dX10_cures_112 (s_aln 0 rfl dX10_cures_114 (s_X10_cures_115 hκ)))))))))))))))))))) (s_goto (tgt := 137) (by decide +kernel) dX10_cures_81 (s_X10_cures_137 hκ)))))))))))))
noncomputable def B_X10_cures : List (Nat × (gb_K → gb_C)) := [(56, fun κ => k_X10_cures_56 κ)]
noncomputable def K_X10_cures : gb_K := gb_fx (gb_tb (B_X10_cures))
theorem L_X10_cures : ∀ q, gb_Li (fun κ => gb_tb (B_X10_cures) κ q) := gb_tb_li (List.forall_mem_cons.mpr ⟨l_X10_cures_56, (fun _ h => absurd h List.not_mem_nil)⟩)
theorem S_X10_cures   : ∀ q, gb_S RX10 cX10_cures 8 (gb_rm 6 139) 1 q (K_X10_cures q) := fun q => gb_fx_S (L_X10_cures) (gb_tb_S (List.forall_mem_cons.mpr ⟨fun κ hκ => s_X10_cures_56 hκ, (fun _ h => absurd h List.not_mem_nil)⟩)) q
noncomputable def f_X10_cures : gb_F := gb_hide (gb_mf 8 (k_X10_cures_0 (K_X10_cures)))
theorem c_X10_cures : ∀ l, gb_Met l yX10_cures cX10_cures 8 (some .int) 1 (gb_rm 6 139) f_X10_cures := gb_hide_c (gb_met (own := RX10) (rk := 1) rfl (by decide +kernel) ⟨rfl, rfl⟩ (s_X10_cures_0 (S_X10_cures)))
theorem dX10_undo_0 : decode cX10_undo 0 = .ok (.aload_n 0, 1) := by decide +kernel
theorem dX10_undo_1 : decode cX10_undo 1 = .ok (.iconst 0, 1) := by decide +kernel
theorem dX10_undo_2 : decode cX10_undo 2 = .ok (.putfield 66, 3) := by decide +kernel
theorem dX10_undo_5 : decode cX10_undo 5 = .ok (.aload_n 0, 1) := by decide +kernel
theorem dX10_undo_6 : decode cX10_undo 6 = .ok (.getfield 92, 3) := by decide +kernel
theorem dX10_undo_9 : decode cX10_undo 9 = .ok (.ifCond .ne 6, 3) := by decide +kernel
theorem dX10_undo_12 : decode cX10_undo 12 = .ok (.bipush (-2), 2) := by decide +kernel
theorem dX10_undo_14 : decode cX10_undo 14 = .ok (.ireturn, 1) := by decide +kernel
theorem dX10_undo_15 : decode cX10_undo 15 = .ok (.aload_n 0, 1) := by decide +kernel
theorem dX10_undo_16 : decode cX10_undo 16 = .ok (.dup, 1) := by decide +kernel
theorem dX10_undo_17 : decode cX10_undo 17 = .ok (.getfield 92, 3) := by decide +kernel
theorem dX10_undo_20 : decode cX10_undo 20 = .ok (.iconst 1, 1) := by decide +kernel
theorem dX10_undo_21 : decode cX10_undo 21 = .ok (.isub, 1) := by decide +kernel
theorem dX10_undo_22 : decode cX10_undo 22 = .ok (.putfield 92, 3) := by decide +kernel
theorem dX10_undo_25 : decode cX10_undo 25 = .ok (.iconst 0, 1) := by decide +kernel
theorem dX10_undo_26 : decode cX10_undo 26 = .ok (.istore_n 1, 1) := by decide +kernel
theorem dX10_undo_27 : decode cX10_undo 27 = .ok (.iload_n 1, 1) := by decide +kernel
theorem dX10_undo_28 : decode cX10_undo 28 = .ok (.sipush 176, 3) := by decide +kernel
theorem dX10_undo_31 : decode cX10_undo 31 = .ok (.if_icmp .ge 30, 3) := by decide +kernel
theorem dX10_undo_34 : decode cX10_undo 34 = .ok (.aload_n 0, 1) := by decide +kernel
theorem dX10_undo_35 : decode cX10_undo 35 = .ok (.getfield 7, 3) := by decide +kernel
theorem dX10_undo_38 : decode cX10_undo 38 = .ok (.iload_n 1, 1) := by decide +kernel
theorem dX10_undo_39 : decode cX10_undo 39 = .ok (.aload_n 0, 1) := by decide +kernel
theorem dX10_undo_40 : decode cX10_undo 40 = .ok (.getfield 19, 3) := by decide +kernel
theorem dX10_undo_43 : decode cX10_undo 43 = .ok (.sipush 176, 3) := by decide +kernel
theorem dX10_undo_46 : decode cX10_undo 46 = .ok (.aload_n 0, 1) := by decide +kernel
theorem dX10_undo_47 : decode cX10_undo 47 = .ok (.getfield 92, 3) := by decide +kernel
theorem dX10_undo_50 : decode cX10_undo 50 = .ok (.imul, 1) := by decide +kernel
theorem dX10_undo_51 : decode cX10_undo 51 = .ok (.iload_n 1, 1) := by decide +kernel
theorem dX10_undo_52 : decode cX10_undo 52 = .ok (.iadd, 1) := by decide +kernel
theorem dX10_undo_53 : decode cX10_undo 53 = .ok (.iaload, 1) := by decide +kernel
theorem dX10_undo_54 : decode cX10_undo 54 = .ok (.iastore, 1) := by decide +kernel
theorem dX10_undo_55 : decode cX10_undo 55 = .ok (.iinc 1 1, 3) := by decide +kernel
theorem dX10_undo_58 : decode cX10_undo 58 = .ok (.goto (-31), 3) := by decide +kernel
theorem dX10_undo_61 : decode cX10_undo 61 = .ok (.aload_n 0, 1) := by decide +kernel
theorem dX10_undo_62 : decode cX10_undo 62 = .ok (.getfield 92, 3) := by decide +kernel
theorem dX10_undo_65 : decode cX10_undo 65 = .ok (.ireturn, 1) := by decide +kernel
theorem v_X10_undo : yX10_undo.cls = RX10 ∧ yX10_undo.cls ≠ "java/lang/invoke/MethodHandle" ∧ yX10_undo.cls ≠ "java/lang/invoke/VarHandle" ∧ (parseMethodDescriptor yX10_undo.desc).map (fun d => d.parameters.length) = some 0 := ⟨rfl, by decide +kernel, by decide +kernel, by decide +kernel⟩
noncomputable def k_X10_undo_0 (κ : gb_K) : gb_C := (o_al 0 (o_ci 0 (o_pf 10 10 (o_al 0 (o_gf 10 5 (o_zeq (o_ci (-2) o_ri) (o_al 0 (o_dup (o_gf 10 5 (o_ci 1 (o_ib (fun x y => x - y) (o_pf 10 5 (o_ci 0 (o_is 1 (o_j [0, 1] (κ 27))))))))))))))))
theorem l_X10_undo_0 : gb_Li (fun κ => k_X10_undo_0 κ) := (gb_li (q_al 0) (gb_li (q_ci 0) (gb_li (q_pf 10 10) (gb_li (q_al 0) (gb_li (q_gf 10 5) (q_zeq (gb_li (q_ci (-2)) (gb_li0 _)) (gb_li (q_al 0) (gb_li q_dup (gb_li (q_gf 10 5) (gb_li (q_ci 1) (gb_li (q_ib _) (gb_li (q_pf 10 5) (gb_li (q_ci 0) (gb_li (q_is 1) (q_j [0, 1] 27)))))))))))))))
theorem s_X10_undo_0   {κ : gb_K} (hκ : ∀ q, gb_S RX10 cX10_undo 2 (gb_rm 0 0) 1 q (κ q)) : gb_S RX10 cX10_undo 2 (gb_rm 0 0) 1 0 (k_X10_undo_0 κ) := (s_aln 0 rfl dX10_undo_0 (s_iconst (by decide +kernel) dX10_undo_1 (s_pf (T := TX10) winX10 rfl (Nat.le_of_ble_eq_true rfl) tyX10_ok nmX10 rfl (by decide +kernel) gw_546 rfl dX10_undo_2 (s_aln 0 rfl dX10_undo_5 (s_gf (T := TX10) winX10 rfl (Nat.le_of_ble_eq_true rfl) gw_566 rfl dX10_undo_6 (s_zne (tgt := 15) (by decide +kernel) dX10_undo_9 (s_aln 0 rfl dX10_undo_15 (s_dup dX10_undo_16 (s_gf (T := TX10) winX10 rfl (Nat.le_of_ble_eq_true rfl) gw_566 rfl dX10_undo_17 (s_iconst (by decide +kernel) dX10_undo_20 (s_isub dX10_undo_21 (s_pf (T := TX10) winX10 rfl (Nat.le_of_ble_eq_true rfl) tyX10_ok nmX10 rfl (by decide +kernel) gw_566 rfl dX10_undo_22 (s_iconst (by decide +kernel) dX10_undo_25 (s_isn 1 rfl (Nat.le_of_ble_eq_true rfl) dX10_undo_26 (s_j (hκ 27)))))))))) (s_bipush (by decide +kernel) dX10_undo_12 (s_ri rfl dX10_undo_14))))))))
noncomputable def k_X10_undo_27 (κ : gb_K) : gb_C := (o_il 1 (o_ci 176 (o_cge (o_al 0 (o_gf 10 5 o_ri)) (o_al 0 (o_gf 10 0 (o_il 1 (o_al 0 (o_gf 10 4 (o_ci 176 (o_al 0 (o_gf 10 5 (o_ib (fun x y => x * y) (o_il 1 (o_ib (fun x y => x + y) (o_iald (o_iast (o_inc 1 1 (o_j [0, 1] (κ 27)))))))))))))))))))
theorem l_X10_undo_27 : gb_Li (fun κ => k_X10_undo_27 κ) := (gb_li (q_il 1) (gb_li (q_ci 176) (q_cge (gb_li (q_al 0) (gb_li (q_gf 10 5) (gb_li0 _))) (gb_li (q_al 0) (gb_li (q_gf 10 0) (gb_li (q_il 1) (gb_li (q_al 0) (gb_li (q_gf 10 4) (gb_li (q_ci 176) (gb_li (q_al 0) (gb_li (q_gf 10 5) (gb_li (q_ib _) (gb_li (q_il 1) (gb_li (q_ib _) (gb_li q_iald (gb_li q_iast (gb_li (q_inc 1 1) (q_j [0, 1] 27))))))))))))))))))
theorem s_X10_undo_27   {κ : gb_K} (hκ : ∀ q, gb_S RX10 cX10_undo 2 (gb_rm 0 0) 1 q (κ q)) : gb_S RX10 cX10_undo 2 (gb_rm 0 0) 1 27 (k_X10_undo_27 κ) := (s_iln 1 rfl dX10_undo_27 (s_sipush (by decide +kernel) dX10_undo_28 (s_cge (tgt := 61) (by decide +kernel) dX10_undo_31 (s_aln 0 rfl dX10_undo_61 (s_gf (T := TX10) winX10 rfl (Nat.le_of_ble_eq_true rfl) gw_566 rfl dX10_undo_62 (s_ri rfl dX10_undo_65))) (s_aln 0 rfl dX10_undo_34 (s_gf (T := TX10) winX10 rfl (Nat.le_of_ble_eq_true rfl) gw_545 rfl dX10_undo_35 (s_iln 1 rfl dX10_undo_38 (s_aln 0 rfl dX10_undo_39 (s_gf (T := TX10) winX10 rfl (Nat.le_of_ble_eq_true rfl) gw_567 rfl dX10_undo_40 (s_sipush (by decide +kernel) dX10_undo_43 (s_aln 0 rfl dX10_undo_46 (s_gf (T := TX10) winX10 rfl (Nat.le_of_ble_eq_true rfl) gw_566 rfl dX10_undo_47 (s_imul dX10_undo_50 (s_iln 1 rfl dX10_undo_51 (s_iadd dX10_undo_52 (s_iald dX10_undo_53 (s_iast dX10_undo_54 (s_inc (by decide +kernel) (Nat.le_of_ble_eq_true rfl) dX10_undo_55 (s_goto (tgt := 27) (by decide +kernel) dX10_undo_58 (s_j (hκ 27))))))))))))))))))))
noncomputable def B_X10_undo : List (Nat × (gb_K → gb_C)) := [(27, fun κ => k_X10_undo_27 κ)]
noncomputable def K_X10_undo : gb_K := gb_fx (gb_tb (B_X10_undo))
theorem L_X10_undo : ∀ q, gb_Li (fun κ => gb_tb (B_X10_undo) κ q) := gb_tb_li (List.forall_mem_cons.mpr ⟨l_X10_undo_27, (fun _ h => absurd h List.not_mem_nil)⟩)
theorem S_X10_undo   : ∀ q, gb_S RX10 cX10_undo 2 (gb_rm 0 0) 1 q (K_X10_undo q) := fun q => gb_fx_S (L_X10_undo) (gb_tb_S (List.forall_mem_cons.mpr ⟨fun κ hκ => s_X10_undo_27 hκ, (fun _ h => absurd h List.not_mem_nil)⟩)) q
noncomputable def f_X10_undo : gb_F := gb_hide (gb_mf 2 (k_X10_undo_0 (K_X10_undo)))
theorem c_X10_undo : ∀ l, gb_Met l yX10_undo cX10_undo 2 (some .int) 1 (gb_rm 0 0) f_X10_undo := gb_hide_c (gb_met (own := RX10) (rk := 1) rfl (by decide +kernel) ⟨rfl, rfl⟩ (s_X10_undo_0 (S_X10_undo)))
theorem dX10_keeps_0 : decode cX10_keeps 0 = .ok (.aload_n 0, 1) := by decide +kernel
theorem dX10_keeps_1 : decode cX10_keeps 1 = .ok (.iconst 0, 1) := by decide +kernel
theorem dX10_keeps_2 : decode cX10_keeps 2 = .ok (.putfield 66, 3) := by decide +kernel
theorem dX10_keeps_5 : decode cX10_keeps 5 = .ok (.iconst 0, 1) := by decide +kernel
theorem dX10_keeps_6 : decode cX10_keeps 6 = .ok (.istore_n 1, 1) := by decide +kernel
theorem dX10_keeps_7 : decode cX10_keeps 7 = .ok (.iload_n 1, 1) := by decide +kernel
theorem dX10_keeps_8 : decode cX10_keeps 8 = .ok (.sipush 176, 3) := by decide +kernel
theorem dX10_keeps_11 : decode cX10_keeps 11 = .ok (.if_icmp .ge 21, 3) := by decide +kernel
theorem dX10_keeps_14 : decode cX10_keeps 14 = .ok (.aload_n 0, 1) := by decide +kernel
theorem dX10_keeps_15 : decode cX10_keeps 15 = .ok (.getfield 16, 3) := by decide +kernel
theorem dX10_keeps_18 : decode cX10_keeps 18 = .ok (.iload_n 1, 1) := by decide +kernel
theorem dX10_keeps_19 : decode cX10_keeps 19 = .ok (.aload_n 0, 1) := by decide +kernel
theorem dX10_keeps_20 : decode cX10_keeps 20 = .ok (.getfield 7, 3) := by decide +kernel
theorem dX10_keeps_23 : decode cX10_keeps 23 = .ok (.iload_n 1, 1) := by decide +kernel
theorem dX10_keeps_24 : decode cX10_keeps 24 = .ok (.iaload, 1) := by decide +kernel
theorem dX10_keeps_25 : decode cX10_keeps 25 = .ok (.iastore, 1) := by decide +kernel
theorem dX10_keeps_26 : decode cX10_keeps 26 = .ok (.iinc 1 1, 3) := by decide +kernel
theorem dX10_keeps_29 : decode cX10_keeps 29 = .ok (.goto (-22), 3) := by decide +kernel
theorem dX10_keeps_32 : decode cX10_keeps 32 = .ok (.aload_n 0, 1) := by decide +kernel
theorem dX10_keeps_33 : decode cX10_keeps 33 = .ok (.iconst 1, 1) := by decide +kernel
theorem dX10_keeps_34 : decode cX10_keeps 34 = .ok (.putfield 226, 3) := by decide +kernel
theorem dX10_keeps_37 : decode cX10_keeps 37 = .ok (.aload_n 0, 1) := by decide +kernel
theorem dX10_keeps_38 : decode cX10_keeps 38 = .ok (.getfield 7, 3) := by decide +kernel
theorem dX10_keeps_41 : decode cX10_keeps 41 = .ok (.sipush 174, 3) := by decide +kernel
theorem dX10_keeps_44 : decode cX10_keeps 44 = .ok (.iaload, 1) := by decide +kernel
theorem dX10_keeps_45 : decode cX10_keeps 45 = .ok (.ireturn, 1) := by decide +kernel
theorem v_X10_keeps : yX10_keeps.cls = RX10 ∧ yX10_keeps.cls ≠ "java/lang/invoke/MethodHandle" ∧ yX10_keeps.cls ≠ "java/lang/invoke/VarHandle" ∧ (parseMethodDescriptor yX10_keeps.desc).map (fun d => d.parameters.length) = some 0 := ⟨rfl, by decide +kernel, by decide +kernel, by decide +kernel⟩
noncomputable def k_X10_keeps_0 (κ : gb_K) : gb_C := (o_al 0 (o_ci 0 (o_pf 10 10 (o_ci 0 (o_is 1 (o_j [0, 1] (κ 7)))))))
theorem l_X10_keeps_0 : gb_Li (fun κ => k_X10_keeps_0 κ) := (gb_li (q_al 0) (gb_li (q_ci 0) (gb_li (q_pf 10 10) (gb_li (q_ci 0) (gb_li (q_is 1) (q_j [0, 1] 7))))))
theorem s_X10_keeps_0   {κ : gb_K} (hκ : ∀ q, gb_S RX10 cX10_keeps 2 (gb_rm 0 0) 1 q (κ q)) : gb_S RX10 cX10_keeps 2 (gb_rm 0 0) 1 0 (k_X10_keeps_0 κ) := (s_aln 0 rfl dX10_keeps_0 (s_iconst (by decide +kernel) dX10_keeps_1 (s_pf (T := TX10) winX10 rfl (Nat.le_of_ble_eq_true rfl) tyX10_ok nmX10 rfl (by decide +kernel) gw_546 rfl dX10_keeps_2 (s_iconst (by decide +kernel) dX10_keeps_5 (s_isn 1 rfl (Nat.le_of_ble_eq_true rfl) dX10_keeps_6 (s_j (hκ 7)))))))
noncomputable def k_X10_keeps_7 (κ : gb_K) : gb_C := (o_il 1 (o_ci 176 (o_cge (o_al 0 (o_ci 1 (o_pz 10 3 (o_al 0 (o_gf 10 0 (o_ci 174 (o_iald o_ri))))))) (o_al 0 (o_gf 10 2 (o_il 1 (o_al 0 (o_gf 10 0 (o_il 1 (o_iald (o_iast (o_inc 1 1 (o_j [0, 1] (κ 7))))))))))))))
theorem l_X10_keeps_7 : gb_Li (fun κ => k_X10_keeps_7 κ) := (gb_li (q_il 1) (gb_li (q_ci 176) (q_cge (gb_li (q_al 0) (gb_li (q_ci 1) (gb_li (q_pz 10 3) (gb_li (q_al 0) (gb_li (q_gf 10 0) (gb_li (q_ci 174) (gb_li q_iald (gb_li0 _)))))))) (gb_li (q_al 0) (gb_li (q_gf 10 2) (gb_li (q_il 1) (gb_li (q_al 0) (gb_li (q_gf 10 0) (gb_li (q_il 1) (gb_li q_iald (gb_li q_iast (gb_li (q_inc 1 1) (q_j [0, 1] 7)))))))))))))
theorem s_X10_keeps_7   {κ : gb_K} (hκ : ∀ q, gb_S RX10 cX10_keeps 2 (gb_rm 0 0) 1 q (κ q)) : gb_S RX10 cX10_keeps 2 (gb_rm 0 0) 1 7 (k_X10_keeps_7 κ) := (s_iln 1 rfl dX10_keeps_7 (s_sipush (by decide +kernel) dX10_keeps_8 (s_cge (tgt := 32) (by decide +kernel) dX10_keeps_11 (s_aln 0 rfl dX10_keeps_32 (s_iconst (by decide +kernel) dX10_keeps_33 (s_pz (T := TX10) winX10 rfl (Nat.le_of_ble_eq_true rfl) tyX10_ok nmX10 rfl (by decide +kernel) gw_697 rfl dX10_keeps_34 (s_aln 0 rfl dX10_keeps_37 (s_gf (T := TX10) winX10 rfl (Nat.le_of_ble_eq_true rfl) gw_545 rfl dX10_keeps_38 (s_sipush (by decide +kernel) dX10_keeps_41 (s_iald dX10_keeps_44 (s_ri rfl dX10_keeps_45)))))))) (s_aln 0 rfl dX10_keeps_14 (s_gf (T := TX10) winX10 rfl (Nat.le_of_ble_eq_true rfl) gw_835 rfl dX10_keeps_15 (s_iln 1 rfl dX10_keeps_18 (s_aln 0 rfl dX10_keeps_19 (s_gf (T := TX10) winX10 rfl (Nat.le_of_ble_eq_true rfl) gw_545 rfl dX10_keeps_20 (s_iln 1 rfl dX10_keeps_23 (s_iald dX10_keeps_24 (s_iast dX10_keeps_25 (s_inc (by decide +kernel) (Nat.le_of_ble_eq_true rfl) dX10_keeps_26 (s_goto (tgt := 7) (by decide +kernel) dX10_keeps_29 (s_j (hκ 7)))))))))))))))
noncomputable def B_X10_keeps : List (Nat × (gb_K → gb_C)) := [(7, fun κ => k_X10_keeps_7 κ)]
noncomputable def K_X10_keeps : gb_K := gb_fx (gb_tb (B_X10_keeps))
theorem L_X10_keeps : ∀ q, gb_Li (fun κ => gb_tb (B_X10_keeps) κ q) := gb_tb_li (List.forall_mem_cons.mpr ⟨l_X10_keeps_7, (fun _ h => absurd h List.not_mem_nil)⟩)
theorem S_X10_keeps   : ∀ q, gb_S RX10 cX10_keeps 2 (gb_rm 0 0) 1 q (K_X10_keeps q) := fun q => gb_fx_S (L_X10_keeps) (gb_tb_S (List.forall_mem_cons.mpr ⟨fun κ hκ => s_X10_keeps_7 hκ, (fun _ h => absurd h List.not_mem_nil)⟩)) q
noncomputable def f_X10_keeps : gb_F := gb_hide (gb_mf 2 (k_X10_keeps_0 (K_X10_keeps)))
theorem c_X10_keeps : ∀ l, gb_Met l yX10_keeps cX10_keeps 2 (some .int) 1 (gb_rm 0 0) f_X10_keeps := gb_hide_c (gb_met (own := RX10) (rk := 1) rfl (by decide +kernel) ⟨rfl, rfl⟩ (s_X10_keeps_0 (S_X10_keeps)))
theorem dX10_back_0 : decode cX10_back 0 = .ok (.aload_n 0, 1) := by decide +kernel
theorem dX10_back_1 : decode cX10_back 1 = .ok (.iconst 0, 1) := by decide +kernel
theorem dX10_back_2 : decode cX10_back 2 = .ok (.putfield 66, 3) := by decide +kernel
theorem dX10_back_5 : decode cX10_back 5 = .ok (.aload_n 0, 1) := by decide +kernel
theorem dX10_back_6 : decode cX10_back 6 = .ok (.getfield 226, 3) := by decide +kernel
theorem dX10_back_9 : decode cX10_back 9 = .ok (.ifCond .ne 6, 3) := by decide +kernel
theorem dX10_back_12 : decode cX10_back 12 = .ok (.bipush (-2), 2) := by decide +kernel
theorem dX10_back_14 : decode cX10_back 14 = .ok (.ireturn, 1) := by decide +kernel
theorem dX10_back_15 : decode cX10_back 15 = .ok (.aload_n 0, 1) := by decide +kernel
theorem dX10_back_16 : decode cX10_back 16 = .ok (.invokevirtual 248, 3) := by decide +kernel
theorem dX10_back_19 : decode cX10_back 19 = .ok (.iconst 0, 1) := by decide +kernel
theorem dX10_back_20 : decode cX10_back 20 = .ok (.istore_n 1, 1) := by decide +kernel
theorem dX10_back_21 : decode cX10_back 21 = .ok (.iload_n 1, 1) := by decide +kernel
theorem dX10_back_22 : decode cX10_back 22 = .ok (.sipush 176, 3) := by decide +kernel
theorem dX10_back_25 : decode cX10_back 25 = .ok (.if_icmp .ge 21, 3) := by decide +kernel
theorem dX10_back_28 : decode cX10_back 28 = .ok (.aload_n 0, 1) := by decide +kernel
theorem dX10_back_29 : decode cX10_back 29 = .ok (.getfield 7, 3) := by decide +kernel
theorem dX10_back_32 : decode cX10_back 32 = .ok (.iload_n 1, 1) := by decide +kernel
theorem dX10_back_33 : decode cX10_back 33 = .ok (.aload_n 0, 1) := by decide +kernel
theorem dX10_back_34 : decode cX10_back 34 = .ok (.getfield 16, 3) := by decide +kernel
theorem dX10_back_37 : decode cX10_back 37 = .ok (.iload_n 1, 1) := by decide +kernel
theorem dX10_back_38 : decode cX10_back 38 = .ok (.iaload, 1) := by decide +kernel
theorem dX10_back_39 : decode cX10_back 39 = .ok (.iastore, 1) := by decide +kernel
theorem dX10_back_40 : decode cX10_back 40 = .ok (.iinc 1 1, 3) := by decide +kernel
theorem dX10_back_43 : decode cX10_back 43 = .ok (.goto (-22), 3) := by decide +kernel
theorem dX10_back_46 : decode cX10_back 46 = .ok (.aload_n 0, 1) := by decide +kernel
theorem dX10_back_47 : decode cX10_back 47 = .ok (.getfield 7, 3) := by decide +kernel
theorem dX10_back_50 : decode cX10_back 50 = .ok (.sipush 174, 3) := by decide +kernel
theorem dX10_back_53 : decode cX10_back 53 = .ok (.iaload, 1) := by decide +kernel
theorem dX10_back_54 : decode cX10_back 54 = .ok (.ireturn, 1) := by decide +kernel
theorem v_X10_back : yX10_back.cls = RX10 ∧ yX10_back.cls ≠ "java/lang/invoke/MethodHandle" ∧ yX10_back.cls ≠ "java/lang/invoke/VarHandle" ∧ (parseMethodDescriptor yX10_back.desc).map (fun d => d.parameters.length) = some 0 := ⟨rfl, by decide +kernel, by decide +kernel, by decide +kernel⟩
noncomputable def k_X10_back_0 (κ : gb_K) : gb_C := (o_al 0 (o_ci 0 (o_pf 10 10 (o_al 0 (o_gf 10 3 (o_zeq (o_ci (-2) o_ri) (o_al 0 (o_cv 0 10 0 f_X10_does (o_ci 0 (o_is 1 (o_j [0, 1] (κ 21))))))))))))
theorem l_X10_back_0 : gb_Li (fun κ => k_X10_back_0 κ) := (gb_li (q_al 0) (gb_li (q_ci 0) (gb_li (q_pf 10 10) (gb_li (q_al 0) (gb_li (q_gf 10 3) (q_zeq (gb_li (q_ci (-2)) (gb_li0 _)) (gb_li (q_al 0) (gb_li (q_cv 0 10 0 f_X10_does) (gb_li (q_ci 0) (gb_li (q_is 1) (q_j [0, 1] 21)))))))))))
theorem s_X10_back_0   {κ : gb_K} (hκ : ∀ q, gb_S RX10 cX10_back 2 (gb_rm 2 41) 1 q (κ q)) : gb_S RX10 cX10_back 2 (gb_rm 2 41) 1 0 (k_X10_back_0 κ) := (s_aln 0 rfl dX10_back_0 (s_iconst (by decide +kernel) dX10_back_1 (s_pf (T := TX10) winX10 rfl (Nat.le_of_ble_eq_true rfl) tyX10_ok nmX10 rfl (by decide +kernel) gw_546 rfl dX10_back_2 (s_aln 0 rfl dX10_back_5 (s_gf (T := TX10) winX10 rfl (Nat.le_of_ble_eq_true rfl) gw_697 rfl dX10_back_6 (s_zne (tgt := 15) (by decide +kernel) dX10_back_9 (s_aln 0 rfl dX10_back_15 (s_cv (C := RX10) c_X10_does rfl (gb_l5 gw_720 gw_721 gw_722 gw_553 gw_723) v_X10_does ⟨rfl, rfl⟩ ⟨Nat.le_of_ble_eq_true rfl, Nat.le_of_ble_eq_true rfl⟩ dX10_back_16 (s_iconst (by decide +kernel) dX10_back_19 (s_isn 1 rfl (Nat.le_of_ble_eq_true rfl) dX10_back_20 (s_j (hκ 21)))))) (s_bipush (by decide +kernel) dX10_back_12 (s_ri rfl dX10_back_14))))))))
noncomputable def k_X10_back_21 (κ : gb_K) : gb_C := (o_il 1 (o_ci 176 (o_cge (o_al 0 (o_gf 10 0 (o_ci 174 (o_iald o_ri)))) (o_al 0 (o_gf 10 0 (o_il 1 (o_al 0 (o_gf 10 2 (o_il 1 (o_iald (o_iast (o_inc 1 1 (o_j [0, 1] (κ 21))))))))))))))
theorem l_X10_back_21 : gb_Li (fun κ => k_X10_back_21 κ) := (gb_li (q_il 1) (gb_li (q_ci 176) (q_cge (gb_li (q_al 0) (gb_li (q_gf 10 0) (gb_li (q_ci 174) (gb_li q_iald (gb_li0 _))))) (gb_li (q_al 0) (gb_li (q_gf 10 0) (gb_li (q_il 1) (gb_li (q_al 0) (gb_li (q_gf 10 2) (gb_li (q_il 1) (gb_li q_iald (gb_li q_iast (gb_li (q_inc 1 1) (q_j [0, 1] 21)))))))))))))
theorem s_X10_back_21   {κ : gb_K} (hκ : ∀ q, gb_S RX10 cX10_back 2 (gb_rm 2 41) 1 q (κ q)) : gb_S RX10 cX10_back 2 (gb_rm 2 41) 1 21 (k_X10_back_21 κ) := (s_iln 1 rfl dX10_back_21 (s_sipush (by decide +kernel) dX10_back_22 (s_cge (tgt := 46) (by decide +kernel) dX10_back_25 (s_aln 0 rfl dX10_back_46 (s_gf (T := TX10) winX10 rfl (Nat.le_of_ble_eq_true rfl) gw_545 rfl dX10_back_47 (s_sipush (by decide +kernel) dX10_back_50 (s_iald dX10_back_53 (s_ri rfl dX10_back_54))))) (s_aln 0 rfl dX10_back_28 (s_gf (T := TX10) winX10 rfl (Nat.le_of_ble_eq_true rfl) gw_545 rfl dX10_back_29 (s_iln 1 rfl dX10_back_32 (s_aln 0 rfl dX10_back_33 (s_gf (T := TX10) winX10 rfl (Nat.le_of_ble_eq_true rfl) gw_835 rfl dX10_back_34 (s_iln 1 rfl dX10_back_37 (s_iald dX10_back_38 (s_iast dX10_back_39 (s_inc (by decide +kernel) (Nat.le_of_ble_eq_true rfl) dX10_back_40 (s_goto (tgt := 21) (by decide +kernel) dX10_back_43 (s_j (hκ 21)))))))))))))))
noncomputable def B_X10_back : List (Nat × (gb_K → gb_C)) := [(21, fun κ => k_X10_back_21 κ)]
noncomputable def K_X10_back : gb_K := gb_fx (gb_tb (B_X10_back))
theorem L_X10_back : ∀ q, gb_Li (fun κ => gb_tb (B_X10_back) κ q) := gb_tb_li (List.forall_mem_cons.mpr ⟨l_X10_back_21, (fun _ h => absurd h List.not_mem_nil)⟩)
theorem S_X10_back   : ∀ q, gb_S RX10 cX10_back 2 (gb_rm 2 41) 1 q (K_X10_back q) := fun q => gb_fx_S (L_X10_back) (gb_tb_S (List.forall_mem_cons.mpr ⟨fun κ hκ => s_X10_back_21 hκ, (fun _ h => absurd h List.not_mem_nil)⟩)) q
noncomputable def f_X10_back : gb_F := gb_hide (gb_mf 2 (k_X10_back_0 (K_X10_back)))
theorem c_X10_back : ∀ l, gb_Met l yX10_back cX10_back 2 (some .int) 1 (gb_rm 2 41) f_X10_back := gb_hide_c (gb_met (own := RX10) (rk := 1) rfl (by decide +kernel) ⟨rfl, rfl⟩ (s_X10_back_0 (S_X10_back)))
theorem dX10_writesSign_0 : decode cX10_writesSign 0 = .ok (.aload_n 0, 1) := by decide +kernel
theorem dX10_writesSign_1 : decode cX10_writesSign 1 = .ok (.getfield 60, 3) := by decide +kernel
theorem dX10_writesSign_4 : decode cX10_writesSign 4 = .ok (.aload_n 0, 1) := by decide +kernel
theorem dX10_writesSign_5 : decode cX10_writesSign 5 = .ok (.getfield 356, 3) := by decide +kernel
theorem dX10_writesSign_8 : decode cX10_writesSign 8 = .ok (.iload_n 1, 1) := by decide +kernel
theorem dX10_writesSign_9 : decode cX10_writesSign 9 = .ok (.i2b, 1) := by decide +kernel
theorem dX10_writesSign_10 : decode cX10_writesSign 10 = .ok (.bastore, 1) := by decide +kernel
theorem dX10_writesSign_11 : decode cX10_writesSign 11 = .ok (.aload_n 0, 1) := by decide +kernel
theorem dX10_writesSign_12 : decode cX10_writesSign 12 = .ok (.dup, 1) := by decide +kernel
theorem dX10_writesSign_13 : decode cX10_writesSign 13 = .ok (.getfield 356, 3) := by decide +kernel
theorem dX10_writesSign_16 : decode cX10_writesSign 16 = .ok (.iconst 1, 1) := by decide +kernel
theorem dX10_writesSign_17 : decode cX10_writesSign 17 = .ok (.iadd, 1) := by decide +kernel
theorem dX10_writesSign_18 : decode cX10_writesSign 18 = .ok (.putfield 356, 3) := by decide +kernel
theorem dX10_writesSign_21 : decode cX10_writesSign 21 = .ok (.return_, 1) := by decide +kernel
theorem v_X10_writesSign : yX10_writesSign.cls = RX10 ∧ yX10_writesSign.cls ≠ "java/lang/invoke/MethodHandle" ∧ yX10_writesSign.cls ≠ "java/lang/invoke/VarHandle" ∧ (parseMethodDescriptor yX10_writesSign.desc).map (fun d => d.parameters.length) = some 1 := ⟨rfl, by decide +kernel, by decide +kernel, by decide +kernel⟩
noncomputable def k_X10_writesSign_0 (κ : gb_K) : gb_C := (o_al 0 (o_gf 10 36 (o_al 0 (o_gf 10 37 (o_il 1 (o_iu (fun x => x.toInt8.toInt32) (o_bast (o_al 0 (o_dup (o_gf 10 37 (o_ci 1 (o_ib (fun x y => x + y) (o_pf 10 37 o_rv)))))))))))))
theorem l_X10_writesSign_0 : gb_Li (fun κ => k_X10_writesSign_0 κ) := (gb_li (q_al 0) (gb_li (q_gf 10 36) (gb_li (q_al 0) (gb_li (q_gf 10 37) (gb_li (q_il 1) (gb_li (q_iu _) (gb_li q_bast (gb_li (q_al 0) (gb_li q_dup (gb_li (q_gf 10 37) (gb_li (q_ci 1) (gb_li (q_ib _) (gb_li (q_pf 10 37) (gb_li0 _))))))))))))))
theorem s_X10_writesSign_0   {κ : gb_K} (hκ : ∀ q, gb_S RX10 cX10_writesSign 2 (gb_rm 0 0) 0 q (κ q)) : gb_S RX10 cX10_writesSign 2 (gb_rm 0 0) 0 0 (k_X10_writesSign_0 κ) := (s_aln 0 rfl dX10_writesSign_0 (s_gf (T := TX10) winX10 rfl (Nat.le_of_ble_eq_true rfl) gw_836 rfl dX10_writesSign_1 (s_aln 0 rfl dX10_writesSign_4 (s_gf (T := TX10) winX10 rfl (Nat.le_of_ble_eq_true rfl) gw_837 rfl dX10_writesSign_5 (s_iln 1 rfl dX10_writesSign_8 (s_i2b dX10_writesSign_9 (s_bast dX10_writesSign_10 (s_aln 0 rfl dX10_writesSign_11 (s_dup dX10_writesSign_12 (s_gf (T := TX10) winX10 rfl (Nat.le_of_ble_eq_true rfl) gw_837 rfl dX10_writesSign_13 (s_iconst (by decide +kernel) dX10_writesSign_16 (s_iadd dX10_writesSign_17 (s_pf (T := TX10) winX10 rfl (Nat.le_of_ble_eq_true rfl) tyX10_ok nmX10 rfl (by decide +kernel) gw_837 rfl dX10_writesSign_18 (s_rv rfl dX10_writesSign_21))))))))))))))
noncomputable def f_X10_writesSign : gb_F := gb_hide (gb_mf 2 (k_X10_writesSign_0 gb_n))
theorem c_X10_writesSign : ∀ l, gb_Met l yX10_writesSign cX10_writesSign 2 none 0 (gb_rm 0 0) f_X10_writesSign := gb_hide_c (gb_met (own := RX10) (rk := 0) rfl (by decide +kernel) ⟨rfl, rfl⟩ (s_X10_writesSign_0 gb_S_n))
theorem dX10_writesNumber_0 : decode cX10_writesNumber 0 = .ok (.iload_n 1, 1) := by decide +kernel
theorem dX10_writesNumber_1 : decode cX10_writesNumber 1 = .ok (.bipush 9, 2) := by decide +kernel
theorem dX10_writesNumber_3 : decode cX10_writesNumber 3 = .ok (.if_icmp .le 14, 3) := by decide +kernel
theorem dX10_writesNumber_6 : decode cX10_writesNumber 6 = .ok (.aload_n 0, 1) := by decide +kernel
theorem dX10_writesNumber_7 : decode cX10_writesNumber 7 = .ok (.bipush 48, 2) := by decide +kernel
theorem dX10_writesNumber_9 : decode cX10_writesNumber 9 = .ok (.iload_n 1, 1) := by decide +kernel
theorem dX10_writesNumber_10 : decode cX10_writesNumber 10 = .ok (.bipush 10, 2) := by decide +kernel
theorem dX10_writesNumber_12 : decode cX10_writesNumber 12 = .ok (.idiv, 1) := by decide +kernel
theorem dX10_writesNumber_13 : decode cX10_writesNumber 13 = .ok (.iadd, 1) := by decide +kernel
theorem dX10_writesNumber_14 : decode cX10_writesNumber 14 = .ok (.invokevirtual 359, 3) := by decide +kernel
theorem dX10_writesNumber_17 : decode cX10_writesNumber 17 = .ok (.aload_n 0, 1) := by decide +kernel
theorem dX10_writesNumber_18 : decode cX10_writesNumber 18 = .ok (.bipush 48, 2) := by decide +kernel
theorem dX10_writesNumber_20 : decode cX10_writesNumber 20 = .ok (.iload_n 1, 1) := by decide +kernel
theorem dX10_writesNumber_21 : decode cX10_writesNumber 21 = .ok (.bipush 10, 2) := by decide +kernel
theorem dX10_writesNumber_23 : decode cX10_writesNumber 23 = .ok (.irem, 1) := by decide +kernel
theorem dX10_writesNumber_24 : decode cX10_writesNumber 24 = .ok (.iadd, 1) := by decide +kernel
theorem dX10_writesNumber_25 : decode cX10_writesNumber 25 = .ok (.invokevirtual 359, 3) := by decide +kernel
theorem dX10_writesNumber_28 : decode cX10_writesNumber 28 = .ok (.return_, 1) := by decide +kernel
theorem v_X10_writesNumber : yX10_writesNumber.cls = RX10 ∧ yX10_writesNumber.cls ≠ "java/lang/invoke/MethodHandle" ∧ yX10_writesNumber.cls ≠ "java/lang/invoke/VarHandle" ∧ (parseMethodDescriptor yX10_writesNumber.desc).map (fun d => d.parameters.length) = some 1 := ⟨rfl, by decide +kernel, by decide +kernel, by decide +kernel⟩
noncomputable def k_X10_writesNumber_17 (κ : gb_K) : gb_C := (o_al 0 (o_ci 48 (o_il 1 (o_ci 10 (o_ig (fun y => !(decide (y = 0))) (fun x y => x - x / y * y) (o_ib (fun x y => x + y) (o_cv 1 10 0 f_X10_writesSign o_rv)))))))
theorem l_X10_writesNumber_17 : gb_Li (fun κ => k_X10_writesNumber_17 κ) := (gb_li (q_al 0) (gb_li (q_ci 48) (gb_li (q_il 1) (gb_li (q_ci 10) (gb_li (q_ig _ _) (gb_li (q_ib _) (gb_li (q_cv 1 10 0 f_X10_writesSign) (gb_li0 _))))))))
theorem s_X10_writesNumber_17   {κ : gb_K} (hκ : ∀ q, gb_S RX10 cX10_writesNumber 2 (gb_rm 1 21) 0 q (κ q)) : gb_S RX10 cX10_writesNumber 2 (gb_rm 1 21) 0 17 (k_X10_writesNumber_17 κ) := (s_aln 0 rfl dX10_writesNumber_17 (s_bipush (by decide +kernel) dX10_writesNumber_18 (s_iln 1 rfl dX10_writesNumber_20 (s_bipush (by decide +kernel) dX10_writesNumber_21 (s_irem dX10_writesNumber_23 (s_iadd dX10_writesNumber_24 (s_cv (C := RX10) c_X10_writesSign rfl (gb_l5 gw_838 gw_839 gw_840 gw_553 gw_841) v_X10_writesSign ⟨rfl, rfl⟩ ⟨Nat.le_of_ble_eq_true rfl, Nat.le_of_ble_eq_true rfl⟩ dX10_writesNumber_25 (s_rv rfl dX10_writesNumber_28))))))))
noncomputable def k_X10_writesNumber_0 (κ : gb_K) : gb_C := (o_il 1 (o_ci 9 (o_cle (k_X10_writesNumber_17 κ) (o_al 0 (o_ci 48 (o_il 1 (o_ci 10 (o_ig (fun y => !(decide (y = 0))) (fun x y => x / y) (o_ib (fun x y => x + y) (o_cv 1 10 0 f_X10_writesSign (k_X10_writesNumber_17 κ)))))))))))
theorem l_X10_writesNumber_0 : gb_Li (fun κ => k_X10_writesNumber_0 κ) := (gb_li (q_il 1) (gb_li (q_ci 9) (q_cle (l_X10_writesNumber_17) (gb_li (q_al 0) (gb_li (q_ci 48) (gb_li (q_il 1) (gb_li (q_ci 10) (gb_li (q_ig _ _) (gb_li (q_ib _) (gb_li (q_cv 1 10 0 f_X10_writesSign) (l_X10_writesNumber_17)))))))))))
theorem s_X10_writesNumber_0   {κ : gb_K} (hκ : ∀ q, gb_S RX10 cX10_writesNumber 2 (gb_rm 1 21) 0 q (κ q)) : gb_S RX10 cX10_writesNumber 2 (gb_rm 1 21) 0 0 (k_X10_writesNumber_0 κ) := (s_iln 1 rfl dX10_writesNumber_0 (s_bipush (by decide +kernel) dX10_writesNumber_1 (s_cle (tgt := 17) (by decide +kernel) dX10_writesNumber_3 (s_X10_writesNumber_17 hκ) (s_aln 0 rfl dX10_writesNumber_6 (s_bipush (by decide +kernel) dX10_writesNumber_7 (s_iln 1 rfl dX10_writesNumber_9 (s_bipush (by decide +kernel) dX10_writesNumber_10 (s_idiv dX10_writesNumber_12 (s_iadd dX10_writesNumber_13 (s_cv (C := RX10) c_X10_writesSign rfl (gb_l5 gw_838 gw_839 gw_840 gw_553 gw_841) v_X10_writesSign ⟨rfl, rfl⟩ ⟨Nat.le_of_ble_eq_true rfl, Nat.le_of_ble_eq_true rfl⟩ dX10_writesNumber_14 (s_X10_writesNumber_17 hκ)))))))))))
noncomputable def f_X10_writesNumber : gb_F := gb_hide (gb_mf 2 (k_X10_writesNumber_0 gb_n))
theorem c_X10_writesNumber : ∀ l, gb_Met l yX10_writesNumber cX10_writesNumber 2 none 0 (gb_rm 1 21) f_X10_writesNumber := gb_hide_c (gb_met (own := RX10) (rk := 0) rfl (by decide +kernel) ⟨rfl, rfl⟩ (s_X10_writesNumber_0 gb_S_n))
theorem dX10_written_0 : decode cX10_written 0 = .ok (.aload_n 0, 1) := by decide +kernel
theorem dX10_written_1 : decode cX10_written 1 = .ok (.iconst 0, 1) := by decide +kernel
theorem dX10_written_2 : decode cX10_written 2 = .ok (.putfield 66, 3) := by decide +kernel
theorem dX10_written_5 : decode cX10_written 5 = .ok (.aload_n 0, 1) := by decide +kernel
theorem dX10_written_6 : decode cX10_written 6 = .ok (.iconst 0, 1) := by decide +kernel
theorem dX10_written_7 : decode cX10_written 7 = .ok (.putfield 356, 3) := by decide +kernel
theorem dX10_written_10 : decode cX10_written 10 = .ok (.iconst 0, 1) := by decide +kernel
theorem dX10_written_11 : decode cX10_written 11 = .ok (.istore_n 2, 1) := by decide +kernel
theorem dX10_written_12 : decode cX10_written 12 = .ok (.iload_n 2, 1) := by decide +kernel
theorem dX10_written_13 : decode cX10_written 13 = .ok (.bipush 6, 2) := by decide +kernel
theorem dX10_written_15 : decode cX10_written 15 = .ok (.if_icmp .ge 98, 3) := by decide +kernel
theorem dX10_written_18 : decode cX10_written 18 = .ok (.aload_n 0, 1) := by decide +kernel
theorem dX10_written_19 : decode cX10_written 19 = .ok (.iload_n 2, 1) := by decide +kernel
theorem dX10_written_20 : decode cX10_written 20 = .ok (.invokevirtual 84, 3) := by decide +kernel
theorem dX10_written_23 : decode cX10_written 23 = .ok (.ifCond .ne 6, 3) := by decide +kernel
theorem dX10_written_26 : decode cX10_written 26 = .ok (.goto 81, 3) := by decide +kernel
theorem dX10_written_29 : decode cX10_written 29 = .ok (.aload_n 0, 1) := by decide +kernel
theorem dX10_written_30 : decode cX10_written 30 = .ok (.getfield 356, 3) := by decide +kernel
theorem dX10_written_33 : decode cX10_written 33 = .ok (.ifCond .le 9, 3) := by decide +kernel
theorem dX10_written_36 : decode cX10_written 36 = .ok (.aload_n 0, 1) := by decide +kernel
theorem dX10_written_37 : decode cX10_written 37 = .ok (.bipush 59, 2) := by decide +kernel
theorem dX10_written_39 : decode cX10_written 39 = .ok (.invokevirtual 359, 3) := by decide +kernel
theorem dX10_written_42 : decode cX10_written 42 = .ok (.aload_n 0, 1) := by decide +kernel
theorem dX10_written_43 : decode cX10_written 43 = .ok (.iload_n 2, 1) := by decide +kernel
theorem dX10_written_44 : decode cX10_written 44 = .ok (.invokevirtual 362, 3) := by decide +kernel
theorem dX10_written_47 : decode cX10_written 47 = .ok (.iconst 0, 1) := by decide +kernel
theorem dX10_written_48 : decode cX10_written 48 = .ok (.istore_n 3, 1) := by decide +kernel
theorem dX10_written_49 : decode cX10_written 49 = .ok (.iload_n 3, 1) := by decide +kernel
theorem dX10_written_50 : decode cX10_written 50 = .ok (.aload_n 0, 1) := by decide +kernel
theorem dX10_written_51 : decode cX10_written 51 = .ok (.iload_n 2, 1) := by decide +kernel
theorem dX10_written_52 : decode cX10_written 52 = .ok (.invokevirtual 84, 3) := by decide +kernel
theorem dX10_written_55 : decode cX10_written 55 = .ok (.if_icmp .ge 52, 3) := by decide +kernel
theorem dX10_written_58 : decode cX10_written 58 = .ok (.aload_n 0, 1) := by decide +kernel
theorem dX10_written_59 : decode cX10_written 59 = .ok (.iload_n 3, 1) := by decide +kernel
theorem dX10_written_60 : decode cX10_written 60 = .ok (.ifCond .ne 8, 3) := by decide +kernel
theorem dX10_written_63 : decode cX10_written 63 = .ok (.bipush 58, 2) := by decide +kernel
theorem dX10_written_65 : decode cX10_written 65 = .ok (.goto 5, 3) := by decide +kernel
theorem dX10_written_68 : decode cX10_written 68 = .ok (.bipush 44, 2) := by decide +kernel
theorem dX10_written_70 : decode cX10_written 70 = .ok (.invokevirtual 359, 3) := by decide +kernel
theorem dX10_written_73 : decode cX10_written 73 = .ok (.aload_n 0, 1) := by decide +kernel
theorem dX10_written_74 : decode cX10_written 74 = .ok (.aload_n 0, 1) := by decide +kernel
theorem dX10_written_75 : decode cX10_written 75 = .ok (.iload_n 2, 1) := by decide +kernel
theorem dX10_written_76 : decode cX10_written 76 = .ok (.iload_n 3, 1) := by decide +kernel
theorem dX10_written_77 : decode cX10_written 77 = .ok (.iconst 0, 1) := by decide +kernel
theorem dX10_written_78 : decode cX10_written 78 = .ok (.invokevirtual 88, 3) := by decide +kernel
theorem dX10_written_81 : decode cX10_written 81 = .ok (.invokevirtual 362, 3) := by decide +kernel
theorem dX10_written_84 : decode cX10_written 84 = .ok (.aload_n 0, 1) := by decide +kernel
theorem dX10_written_85 : decode cX10_written 85 = .ok (.bipush 120, 2) := by decide +kernel
theorem dX10_written_87 : decode cX10_written 87 = .ok (.invokevirtual 359, 3) := by decide +kernel
theorem dX10_written_90 : decode cX10_written 90 = .ok (.aload_n 0, 1) := by decide +kernel
theorem dX10_written_91 : decode cX10_written 91 = .ok (.aload_n 0, 1) := by decide +kernel
theorem dX10_written_92 : decode cX10_written 92 = .ok (.iload_n 2, 1) := by decide +kernel
theorem dX10_written_93 : decode cX10_written 93 = .ok (.iload_n 3, 1) := by decide +kernel
theorem dX10_written_94 : decode cX10_written 94 = .ok (.iconst 1, 1) := by decide +kernel
theorem dX10_written_95 : decode cX10_written 95 = .ok (.invokevirtual 88, 3) := by decide +kernel
theorem dX10_written_98 : decode cX10_written 98 = .ok (.invokevirtual 362, 3) := by decide +kernel
theorem dX10_written_101 : decode cX10_written 101 = .ok (.iinc 3 1, 3) := by decide +kernel
theorem dX10_written_104 : decode cX10_written 104 = .ok (.goto (-55), 3) := by decide +kernel
theorem dX10_written_107 : decode cX10_written 107 = .ok (.iinc 2 1, 3) := by decide +kernel
theorem dX10_written_110 : decode cX10_written 110 = .ok (.goto (-98), 3) := by decide +kernel
theorem dX10_written_113 : decode cX10_written 113 = .ok (.iload_n 1, 1) := by decide +kernel
theorem dX10_written_114 : decode cX10_written 114 = .ok (.iconst (-1), 1) := by decide +kernel
theorem dX10_written_115 : decode cX10_written 115 = .ok (.if_icmp .ne 10, 3) := by decide +kernel
theorem dX10_written_118 : decode cX10_written 118 = .ok (.aload_n 0, 1) := by decide +kernel
theorem dX10_written_119 : decode cX10_written 119 = .ok (.getfield 356, 3) := by decide +kernel
theorem dX10_written_122 : decode cX10_written 122 = .ok (.goto 29, 3) := by decide +kernel
theorem dX10_written_125 : decode cX10_written 125 = .ok (.iload_n 1, 1) := by decide +kernel
theorem dX10_written_126 : decode cX10_written 126 = .ok (.i2l, 1) := by decide +kernel
theorem dX10_written_127 : decode cX10_written 127 = .ok (.lconst 0, 1) := by decide +kernel
theorem dX10_written_128 : decode cX10_written 128 = .ok (.aload_n 0, 1) := by decide +kernel
theorem dX10_written_129 : decode cX10_written 129 = .ok (.getfield 356, 3) := by decide +kernel
theorem dX10_written_132 : decode cX10_written 132 = .ok (.iconst 1, 1) := by decide +kernel
theorem dX10_written_133 : decode cX10_written 133 = .ok (.isub, 1) := by decide +kernel
theorem dX10_written_134 : decode cX10_written 134 = .ok (.i2l, 1) := by decide +kernel
theorem dX10_written_135 : decode cX10_written 135 = .ok (.invokestatic 76, 3) := by decide +kernel
theorem dX10_written_138 : decode cX10_written 138 = .ok (.ifCond .eq 12, 3) := by decide +kernel
theorem dX10_written_141 : decode cX10_written 141 = .ok (.aload_n 0, 1) := by decide +kernel
theorem dX10_written_142 : decode cX10_written 142 = .ok (.getfield 60, 3) := by decide +kernel
theorem dX10_written_145 : decode cX10_written 145 = .ok (.iload_n 1, 1) := by decide +kernel
theorem dX10_written_146 : decode cX10_written 146 = .ok (.baload, 1) := by decide +kernel
theorem dX10_written_147 : decode cX10_written 147 = .ok (.goto 4, 3) := by decide +kernel
theorem dX10_written_150 : decode cX10_written 150 = .ok (.iconst (-1), 1) := by decide +kernel
theorem dX10_written_151 : decode cX10_written 151 = .ok (.ireturn, 1) := by decide +kernel
theorem v_X10_written : yX10_written.cls = RX10 ∧ yX10_written.cls ≠ "java/lang/invoke/MethodHandle" ∧ yX10_written.cls ≠ "java/lang/invoke/VarHandle" ∧ (parseMethodDescriptor yX10_written.desc).map (fun d => d.parameters.length) = some 1 := ⟨rfl, by decide +kernel, by decide +kernel, by decide +kernel⟩
noncomputable def k_X10_written_0 (κ : gb_K) : gb_C := (o_al 0 (o_ci 0 (o_pf 10 10 (o_al 0 (o_ci 0 (o_pf 10 37 (o_ci 0 (o_is 2 (o_j [0, 1, 2] (κ 12))))))))))
theorem l_X10_written_0 : gb_Li (fun κ => k_X10_written_0 κ) := (gb_li (q_al 0) (gb_li (q_ci 0) (gb_li (q_pf 10 10) (gb_li (q_al 0) (gb_li (q_ci 0) (gb_li (q_pf 10 37) (gb_li (q_ci 0) (gb_li (q_is 2) (q_j [0, 1, 2] 12)))))))))
theorem s_X10_written_0   {κ : gb_K} (hκ : ∀ q, gb_S RX10 cX10_written 4 (gb_rm 2 42) 1 q (κ q)) : gb_S RX10 cX10_written 4 (gb_rm 2 42) 1 0 (k_X10_written_0 κ) := (s_aln 0 rfl dX10_written_0 (s_iconst (by decide +kernel) dX10_written_1 (s_pf (T := TX10) winX10 rfl (Nat.le_of_ble_eq_true rfl) tyX10_ok nmX10 rfl (by decide +kernel) gw_546 rfl dX10_written_2 (s_aln 0 rfl dX10_written_5 (s_iconst (by decide +kernel) dX10_written_6 (s_pf (T := TX10) winX10 rfl (Nat.le_of_ble_eq_true rfl) tyX10_ok nmX10 rfl (by decide +kernel) gw_837 rfl dX10_written_7 (s_iconst (by decide +kernel) dX10_written_10 (s_isn 2 rfl (Nat.le_of_ble_eq_true rfl) dX10_written_11 (s_j (hκ 12))))))))))
noncomputable def k_X10_written_107 (κ : gb_K) : gb_C := (o_inc 2 1 (o_j [0, 1, 2] (κ 12)))
theorem l_X10_written_107 : gb_Li (fun κ => k_X10_written_107 κ) := (gb_li (q_inc 2 1) (q_j [0, 1, 2] 12))
theorem s_X10_written_107   {κ : gb_K} (hκ : ∀ q, gb_S RX10 cX10_written 4 (gb_rm 2 42) 1 q (κ q)) : gb_S RX10 cX10_written 4 (gb_rm 2 42) 1 107 (k_X10_written_107 κ) := (s_inc (by decide +kernel) (Nat.le_of_ble_eq_true rfl) dX10_written_107 (s_goto (tgt := 12) (by decide +kernel) dX10_written_110 (s_j (hκ 12))))
noncomputable def k_X10_written_42 (κ : gb_K) : gb_C := (o_al 0 (o_il 2 (o_cv 1 10 0 f_X10_writesNumber (o_ci 0 (o_is 3 (o_j [0, 1, 2, 3] (κ 49)))))))
theorem l_X10_written_42 : gb_Li (fun κ => k_X10_written_42 κ) := (gb_li (q_al 0) (gb_li (q_il 2) (gb_li (q_cv 1 10 0 f_X10_writesNumber) (gb_li (q_ci 0) (gb_li (q_is 3) (q_j [0, 1, 2, 3] 49))))))
theorem s_X10_written_42   {κ : gb_K} (hκ : ∀ q, gb_S RX10 cX10_written 4 (gb_rm 2 42) 1 q (κ q)) : gb_S RX10 cX10_written 4 (gb_rm 2 42) 1 42 (k_X10_written_42 κ) := (s_aln 0 rfl dX10_written_42 (s_iln 2 rfl dX10_written_43 (s_cv (C := RX10) c_X10_writesNumber rfl (gb_l5 gw_842 gw_843 gw_844 gw_553 gw_845) v_X10_writesNumber ⟨rfl, rfl⟩ ⟨Nat.le_of_ble_eq_true rfl, Nat.le_of_ble_eq_true rfl⟩ dX10_written_44 (s_iconst (by decide +kernel) dX10_written_47 (s_isn 3 rfl (Nat.le_of_ble_eq_true rfl) dX10_written_48 (s_j (hκ 49)))))))
noncomputable def k_X10_written_151 (κ : gb_K) : gb_C := o_ri
theorem l_X10_written_151 : gb_Li (fun κ => k_X10_written_151 κ) := (gb_li0 _)
theorem s_X10_written_151   {κ : gb_K} (hκ : ∀ q, gb_S RX10 cX10_written 4 (gb_rm 2 42) 1 q (κ q)) : gb_S RX10 cX10_written 4 (gb_rm 2 42) 1 151 (k_X10_written_151 κ) := (s_ri rfl dX10_written_151)
noncomputable def k_X10_written_12 (κ : gb_K) : gb_C := (o_il 2 (o_ci 6 (o_cge (o_il 1 (o_ci (-1) (o_ceq (o_al 0 (o_gf 10 37 (k_X10_written_151 κ))) (o_il 1 (o_i2l (o_cl 0 (o_al 0 (o_gf 10 37 (o_ci 1 (o_ib (fun x y => x - y) (o_i2l (o_cs 3 2 f_X10_in (o_zeq (o_ci (-1) (k_X10_written_151 κ)) (o_al 0 (o_gf 10 36 (o_il 1 (o_bald (k_X10_written_151 κ)))))))))))))))))) (o_al 0 (o_il 2 (o_cv 1 10 1 f_X10_many (o_zeq (k_X10_written_107 κ) (o_al 0 (o_gf 10 37 (o_zle (k_X10_written_42 κ) (o_al 0 (o_ci 59 (o_cv 1 10 0 f_X10_writesSign (k_X10_written_42 κ))))))))))))))
theorem l_X10_written_12 : gb_Li (fun κ => k_X10_written_12 κ) := (gb_li (q_il 2) (gb_li (q_ci 6) (q_cge (gb_li (q_il 1) (gb_li (q_ci (-1)) (q_ceq (gb_li (q_al 0) (gb_li (q_gf 10 37) (l_X10_written_151))) (gb_li (q_il 1) (gb_li q_i2l (gb_li (q_cl 0) (gb_li (q_al 0) (gb_li (q_gf 10 37) (gb_li (q_ci 1) (gb_li (q_ib _) (gb_li q_i2l (gb_li (q_cs 3 2 f_X10_in) (q_zeq (gb_li (q_ci (-1)) (l_X10_written_151)) (gb_li (q_al 0) (gb_li (q_gf 10 36) (gb_li (q_il 1) (gb_li q_bald (l_X10_written_151)))))))))))))))))) (gb_li (q_al 0) (gb_li (q_il 2) (gb_li (q_cv 1 10 1 f_X10_many) (q_zeq (l_X10_written_107) (gb_li (q_al 0) (gb_li (q_gf 10 37) (q_zle (l_X10_written_42) (gb_li (q_al 0) (gb_li (q_ci 59) (gb_li (q_cv 1 10 0 f_X10_writesSign) (l_X10_written_42))))))))))))))
theorem s_X10_written_12   {κ : gb_K} (hκ : ∀ q, gb_S RX10 cX10_written 4 (gb_rm 2 42) 1 q (κ q)) : gb_S RX10 cX10_written 4 (gb_rm 2 42) 1 12 (k_X10_written_12 κ) := (s_iln 2 rfl dX10_written_12 (s_bipush (by decide +kernel) dX10_written_13 (s_cge (tgt := 113) (by decide +kernel) dX10_written_15 (s_iln 1 rfl dX10_written_113 (s_iconst (by decide +kernel) dX10_written_114 (s_cne (tgt := 125) (by decide +kernel) dX10_written_115 (s_iln 1 rfl dX10_written_125 (s_i2l dX10_written_126 (s_lconst (by decide +kernel) dX10_written_127 (s_aln 0 rfl dX10_written_128 (s_gf (T := TX10) winX10 rfl (Nat.le_of_ble_eq_true rfl) gw_837 rfl dX10_written_129 (s_iconst (by decide +kernel) dX10_written_132 (s_isub dX10_written_133 (s_i2l dX10_written_134 (s_cs c_X10_in (gb_l4 gw_551 gw_552 gw_553 gw_554) v_X10_in.2 ⟨rfl, rfl⟩ ⟨Nat.le_of_ble_eq_true rfl, Nat.le_of_ble_eq_true rfl⟩ dX10_written_135 (s_zeq (tgt := 150) (by decide +kernel) dX10_written_138 (s_iconst (by decide +kernel) dX10_written_150 (s_X10_written_151 hκ)) (s_aln 0 rfl dX10_written_141 (s_gf (T := TX10) winX10 rfl (Nat.le_of_ble_eq_true rfl) gw_836 rfl dX10_written_142 (s_iln 1 rfl dX10_written_145 (s_bald dX10_written_146 (s_goto (tgt := 151) (by decide +kernel) dX10_written_147 (s_X10_written_151 hκ)))))))))))))))) (s_aln 0 rfl dX10_written_118 (s_gf (T := TX10) winX10 rfl (Nat.le_of_ble_eq_true rfl) gw_837 rfl dX10_written_119 (s_goto (tgt := 151) (by decide +kernel) dX10_written_122 (s_X10_written_151 hκ))))))) (s_aln 0 rfl dX10_written_18 (s_iln 2 rfl dX10_written_19 (s_cv (C := RX10) c_X10_many rfl (gb_l5 gw_557 gw_558 gw_559 gw_553 gw_560) v_X10_many ⟨rfl, rfl⟩ ⟨Nat.le_of_ble_eq_true rfl, Nat.le_of_ble_eq_true rfl⟩ dX10_written_20 (s_zne (tgt := 29) (by decide +kernel) dX10_written_23 (s_aln 0 rfl dX10_written_29 (s_gf (T := TX10) winX10 rfl (Nat.le_of_ble_eq_true rfl) gw_837 rfl dX10_written_30 (s_zle (tgt := 42) (by decide +kernel) dX10_written_33 (s_X10_written_42 hκ) (s_aln 0 rfl dX10_written_36 (s_bipush (by decide +kernel) dX10_written_37 (s_cv (C := RX10) c_X10_writesSign rfl (gb_l5 gw_838 gw_839 gw_840 gw_553 gw_841) v_X10_writesSign ⟨rfl, rfl⟩ ⟨Nat.le_of_ble_eq_true rfl, Nat.le_of_ble_eq_true rfl⟩ dX10_written_39 (s_X10_written_42 hκ))))))) (s_goto (tgt := 107) (by decide +kernel) dX10_written_26 (s_X10_written_107 hκ)))))))))
noncomputable def k_X10_written_70 (κ : gb_K) : gb_C := (o_cv 1 10 0 f_X10_writesSign (o_al 0 (o_al 0 (o_il 2 (o_il 3 (o_ci 0 (o_cv 3 10 1 f_X10_layerOf (o_cv 1 10 0 f_X10_writesNumber (o_al 0 (o_ci 120 (o_cv 1 10 0 f_X10_writesSign (o_al 0 (o_al 0 (o_il 2 (o_il 3 (o_ci 1 (o_cv 3 10 1 f_X10_layerOf (o_cv 1 10 0 f_X10_writesNumber (o_inc 3 1 (o_j [0, 1, 2, 3] (κ 49)))))))))))))))))))))
theorem l_X10_written_70 : gb_Li (fun κ => k_X10_written_70 κ) := (gb_li (q_cv 1 10 0 f_X10_writesSign) (gb_li (q_al 0) (gb_li (q_al 0) (gb_li (q_il 2) (gb_li (q_il 3) (gb_li (q_ci 0) (gb_li (q_cv 3 10 1 f_X10_layerOf) (gb_li (q_cv 1 10 0 f_X10_writesNumber) (gb_li (q_al 0) (gb_li (q_ci 120) (gb_li (q_cv 1 10 0 f_X10_writesSign) (gb_li (q_al 0) (gb_li (q_al 0) (gb_li (q_il 2) (gb_li (q_il 3) (gb_li (q_ci 1) (gb_li (q_cv 3 10 1 f_X10_layerOf) (gb_li (q_cv 1 10 0 f_X10_writesNumber) (gb_li (q_inc 3 1) (q_j [0, 1, 2, 3] 49))))))))))))))))))))
theorem s_X10_written_70   {κ : gb_K} (hκ : ∀ q, gb_S RX10 cX10_written 4 (gb_rm 2 42) 1 q (κ q)) : gb_S RX10 cX10_written 4 (gb_rm 2 42) 1 70 (k_X10_written_70 κ) := (s_cv (C := RX10) c_X10_writesSign rfl (gb_l5 gw_838 gw_839 gw_840 gw_553 gw_841) v_X10_writesSign ⟨rfl, rfl⟩ ⟨Nat.le_of_ble_eq_true rfl, Nat.le_of_ble_eq_true rfl⟩ dX10_written_70 (s_aln 0 rfl dX10_written_73 (s_aln 0 rfl dX10_written_74 (s_iln 2 rfl dX10_written_75 (s_iln 3 rfl dX10_written_76 (s_iconst (by decide +kernel) dX10_written_77 (s_cv (C := RX10) c_X10_layerOf rfl (gb_l5 gw_561 gw_562 gw_563 gw_553 gw_564) v_X10_layerOf ⟨rfl, rfl⟩ ⟨Nat.le_of_ble_eq_true rfl, Nat.le_of_ble_eq_true rfl⟩ dX10_written_78 (s_cv (C := RX10) c_X10_writesNumber rfl (gb_l5 gw_842 gw_843 gw_844 gw_553 gw_845) v_X10_writesNumber ⟨rfl, rfl⟩ ⟨Nat.le_of_ble_eq_true rfl, Nat.le_of_ble_eq_true rfl⟩ dX10_written_81 (s_aln 0 rfl dX10_written_84 (s_bipush (by decide +kernel) dX10_written_85 (s_cv (C := RX10) c_X10_writesSign rfl (gb_l5 gw_838 gw_839 gw_840 gw_553 gw_841) v_X10_writesSign ⟨rfl, rfl⟩ ⟨Nat.le_of_ble_eq_true rfl, Nat.le_of_ble_eq_true rfl⟩ dX10_written_87 (s_aln 0 rfl dX10_written_90 (s_aln 0 rfl dX10_written_91 (s_iln 2 rfl dX10_written_92 (s_iln 3 rfl dX10_written_93 (s_iconst (by decide +kernel) dX10_written_94 (s_cv (C := RX10) c_X10_layerOf rfl (gb_l5 gw_561 gw_562 gw_563 gw_553 gw_564) v_X10_layerOf ⟨rfl, rfl⟩ ⟨Nat.le_of_ble_eq_true rfl, Nat.le_of_ble_eq_true rfl⟩ dX10_written_95 (s_cv (C := RX10) c_X10_writesNumber rfl (gb_l5 gw_842 gw_843 gw_844 gw_553 gw_845) v_X10_writesNumber ⟨rfl, rfl⟩ ⟨Nat.le_of_ble_eq_true rfl, Nat.le_of_ble_eq_true rfl⟩ dX10_written_98 (s_inc (by decide +kernel) (Nat.le_of_ble_eq_true rfl) dX10_written_101 (s_goto (tgt := 49) (by decide +kernel) dX10_written_104 (s_j (hκ 49))))))))))))))))))))))
noncomputable def k_X10_written_49 (κ : gb_K) : gb_C := (o_il 3 (o_al 0 (o_il 2 (o_cv 1 10 1 f_X10_many (o_cge (k_X10_written_107 κ) (o_al 0 (o_il 3 (o_zeq (o_ci 58 (k_X10_written_70 κ)) (o_ci 44 (k_X10_written_70 κ))))))))))
theorem l_X10_written_49 : gb_Li (fun κ => k_X10_written_49 κ) := (gb_li (q_il 3) (gb_li (q_al 0) (gb_li (q_il 2) (gb_li (q_cv 1 10 1 f_X10_many) (q_cge (l_X10_written_107) (gb_li (q_al 0) (gb_li (q_il 3) (q_zeq (gb_li (q_ci 58) (l_X10_written_70)) (gb_li (q_ci 44) (l_X10_written_70))))))))))
theorem s_X10_written_49   {κ : gb_K} (hκ : ∀ q, gb_S RX10 cX10_written 4 (gb_rm 2 42) 1 q (κ q)) : gb_S RX10 cX10_written 4 (gb_rm 2 42) 1 49 (k_X10_written_49 κ) := (s_iln 3 rfl dX10_written_49 (s_aln 0 rfl dX10_written_50 (s_iln 2 rfl dX10_written_51 (s_cv (C := RX10) c_X10_many rfl (gb_l5 gw_557 gw_558 gw_559 gw_553 gw_560) v_X10_many ⟨rfl, rfl⟩ ⟨Nat.le_of_ble_eq_true rfl, Nat.le_of_ble_eq_true rfl⟩ dX10_written_52 (s_cge (tgt := 107) (by decide +kernel) dX10_written_55 (s_X10_written_107 hκ) (s_aln 0 rfl dX10_written_58 (s_iln 3 rfl dX10_written_59 (s_zne (tgt := 68) (by decide +kernel) dX10_written_60 (s_bipush (by decide +kernel) dX10_written_68 (s_X10_written_70 hκ)) (s_bipush (by decide +kernel) dX10_written_63 (s_goto (tgt := 70) (by decide +kernel) dX10_written_65 (s_X10_written_70 hκ)))))))))))
noncomputable def B_X10_written : List (Nat × (gb_K → gb_C)) := [(12, fun κ => k_X10_written_12 κ), (49, fun κ => k_X10_written_49 κ)]
noncomputable def K_X10_written : gb_K := gb_fx (gb_tb (B_X10_written))
theorem L_X10_written : ∀ q, gb_Li (fun κ => gb_tb (B_X10_written) κ q) := gb_tb_li (List.forall_mem_cons.mpr ⟨l_X10_written_12, List.forall_mem_cons.mpr ⟨l_X10_written_49, (fun _ h => absurd h List.not_mem_nil)⟩⟩)
theorem S_X10_written   : ∀ q, gb_S RX10 cX10_written 4 (gb_rm 2 42) 1 q (K_X10_written q) := fun q => gb_fx_S (L_X10_written) (gb_tb_S (List.forall_mem_cons.mpr ⟨fun κ hκ => s_X10_written_12 hκ, List.forall_mem_cons.mpr ⟨fun κ hκ => s_X10_written_49 hκ, (fun _ h => absurd h List.not_mem_nil)⟩⟩)) q
noncomputable def f_X10_written : gb_F := gb_hide (gb_mf 4 (k_X10_written_0 (K_X10_written)))
theorem c_X10_written : ∀ l, gb_Met l yX10_written cX10_written 4 (some .int) 1 (gb_rm 2 42) f_X10_written := gb_hide_c (gb_met (own := RX10) (rk := 1) rfl (by decide +kernel) ⟨rfl, rfl⟩ (s_X10_written_0 (S_X10_written)))
theorem dX10_count_0 : decode cX10_count 0 = .ok (.aload_n 0, 1) := by decide +kernel
theorem dX10_count_1 : decode cX10_count 1 = .ok (.iconst 0, 1) := by decide +kernel
theorem dX10_count_2 : decode cX10_count 2 = .ok (.putfield 66, 3) := by decide +kernel
theorem dX10_count_5 : decode cX10_count 5 = .ok (.iconst 0, 1) := by decide +kernel
theorem dX10_count_6 : decode cX10_count 6 = .ok (.istore_n 2, 1) := by decide +kernel
theorem dX10_count_7 : decode cX10_count 7 = .ok (.iconst 0, 1) := by decide +kernel
theorem dX10_count_8 : decode cX10_count 8 = .ok (.istore_n 3, 1) := by decide +kernel
theorem dX10_count_9 : decode cX10_count 9 = .ok (.iconst 0, 1) := by decide +kernel
theorem dX10_count_10 : decode cX10_count 10 = .ok (.istore 4, 2) := by decide +kernel
theorem dX10_count_12 : decode cX10_count 12 = .ok (.iconst 0, 1) := by decide +kernel
theorem dX10_count_13 : decode cX10_count 13 = .ok (.istore 5, 2) := by decide +kernel
theorem dX10_count_15 : decode cX10_count 15 = .ok (.iconst 0, 1) := by decide +kernel
theorem dX10_count_16 : decode cX10_count 16 = .ok (.istore 6, 2) := by decide +kernel
theorem dX10_count_18 : decode cX10_count 18 = .ok (.iload 6, 2) := by decide +kernel
theorem dX10_count_20 : decode cX10_count 20 = .ok (.bipush 6, 2) := by decide +kernel
theorem dX10_count_22 : decode cX10_count 22 = .ok (.if_icmp .ge 71, 3) := by decide +kernel
theorem dX10_count_25 : decode cX10_count 25 = .ok (.iload_n 2, 1) := by decide +kernel
theorem dX10_count_26 : decode cX10_count 26 = .ok (.aload_n 0, 1) := by decide +kernel
theorem dX10_count_27 : decode cX10_count 27 = .ok (.iload 6, 2) := by decide +kernel
theorem dX10_count_29 : decode cX10_count 29 = .ok (.invokevirtual 138, 3) := by decide +kernel
theorem dX10_count_32 : decode cX10_count 32 = .ok (.iadd, 1) := by decide +kernel
theorem dX10_count_33 : decode cX10_count 33 = .ok (.istore_n 2, 1) := by decide +kernel
theorem dX10_count_34 : decode cX10_count 34 = .ok (.iload_n 3, 1) := by decide +kernel
theorem dX10_count_35 : decode cX10_count 35 = .ok (.aload_n 0, 1) := by decide +kernel
theorem dX10_count_36 : decode cX10_count 36 = .ok (.iload 6, 2) := by decide +kernel
theorem dX10_count_38 : decode cX10_count 38 = .ok (.invokevirtual 84, 3) := by decide +kernel
theorem dX10_count_41 : decode cX10_count 41 = .ok (.iadd, 1) := by decide +kernel
theorem dX10_count_42 : decode cX10_count 42 = .ok (.istore_n 3, 1) := by decide +kernel
theorem dX10_count_43 : decode cX10_count 43 = .ok (.iload 4, 2) := by decide +kernel
theorem dX10_count_45 : decode cX10_count 45 = .ok (.aload_n 0, 1) := by decide +kernel
theorem dX10_count_46 : decode cX10_count 46 = .ok (.iload 6, 2) := by decide +kernel
theorem dX10_count_48 : decode cX10_count 48 = .ok (.invokevirtual 134, 3) := by decide +kernel
theorem dX10_count_51 : decode cX10_count 51 = .ok (.ifCond .eq 10, 3) := by decide +kernel
theorem dX10_count_54 : decode cX10_count 54 = .ok (.iconst 1, 1) := by decide +kernel
theorem dX10_count_55 : decode cX10_count 55 = .ok (.iload 6, 2) := by decide +kernel
theorem dX10_count_57 : decode cX10_count 57 = .ok (.ishl, 1) := by decide +kernel
theorem dX10_count_58 : decode cX10_count 58 = .ok (.goto 4, 3) := by decide +kernel
theorem dX10_count_61 : decode cX10_count 61 = .ok (.iconst 0, 1) := by decide +kernel
theorem dX10_count_62 : decode cX10_count 62 = .ok (.ior, 1) := by decide +kernel
theorem dX10_count_63 : decode cX10_count 63 = .ok (.istore 4, 2) := by decide +kernel
theorem dX10_count_65 : decode cX10_count 65 = .ok (.iload 5, 2) := by decide +kernel
theorem dX10_count_67 : decode cX10_count 67 = .ok (.aload_n 0, 1) := by decide +kernel
theorem dX10_count_68 : decode cX10_count 68 = .ok (.iload 6, 2) := by decide +kernel
theorem dX10_count_70 : decode cX10_count 70 = .ok (.invokevirtual 84, 3) := by decide +kernel
theorem dX10_count_73 : decode cX10_count 73 = .ok (.ifCond .ne 10, 3) := by decide +kernel
theorem dX10_count_76 : decode cX10_count 76 = .ok (.iconst 1, 1) := by decide +kernel
theorem dX10_count_77 : decode cX10_count 77 = .ok (.iload 6, 2) := by decide +kernel
theorem dX10_count_79 : decode cX10_count 79 = .ok (.ishl, 1) := by decide +kernel
theorem dX10_count_80 : decode cX10_count 80 = .ok (.goto 4, 3) := by decide +kernel
theorem dX10_count_83 : decode cX10_count 83 = .ok (.iconst 0, 1) := by decide +kernel
theorem dX10_count_84 : decode cX10_count 84 = .ok (.ior, 1) := by decide +kernel
theorem dX10_count_85 : decode cX10_count 85 = .ok (.istore 5, 2) := by decide +kernel
theorem dX10_count_87 : decode cX10_count 87 = .ok (.iinc 6 1, 3) := by decide +kernel
theorem dX10_count_90 : decode cX10_count 90 = .ok (.goto (-72), 3) := by decide +kernel
theorem dX10_count_93 : decode cX10_count 93 = .ok (.iload_n 1, 1) := by decide +kernel
theorem dX10_count_94 : decode cX10_count 94 = .ok (.tableswitch 93 0 8 #[50, 59, 61, 63, 66, 69, 74, 83, 88], 50) := by decide +kernel
theorem dX10_count_144 : decode cX10_count 144 = .ok (.aload_n 0, 1) := by decide +kernel
theorem dX10_count_145 : decode cX10_count 145 = .ok (.getfield 7, 3) := by decide +kernel
theorem dX10_count_148 : decode cX10_count 148 = .ok (.sipush 174, 3) := by decide +kernel
theorem dX10_count_151 : decode cX10_count 151 = .ok (.iaload, 1) := by decide +kernel
theorem dX10_count_152 : decode cX10_count 152 = .ok (.ireturn, 1) := by decide +kernel
theorem dX10_count_153 : decode cX10_count 153 = .ok (.iload_n 2, 1) := by decide +kernel
theorem dX10_count_154 : decode cX10_count 154 = .ok (.ireturn, 1) := by decide +kernel
theorem dX10_count_155 : decode cX10_count 155 = .ok (.iload_n 3, 1) := by decide +kernel
theorem dX10_count_156 : decode cX10_count 156 = .ok (.ireturn, 1) := by decide +kernel
theorem dX10_count_157 : decode cX10_count 157 = .ok (.iload 4, 2) := by decide +kernel
theorem dX10_count_159 : decode cX10_count 159 = .ok (.ireturn, 1) := by decide +kernel
theorem dX10_count_160 : decode cX10_count 160 = .ok (.iload 5, 2) := by decide +kernel
theorem dX10_count_162 : decode cX10_count 162 = .ok (.ireturn, 1) := by decide +kernel
theorem dX10_count_163 : decode cX10_count 163 = .ok (.aload_n 0, 1) := by decide +kernel
theorem dX10_count_164 : decode cX10_count 164 = .ok (.getfield 92, 3) := by decide +kernel
theorem dX10_count_167 : decode cX10_count 167 = .ok (.ireturn, 1) := by decide +kernel
theorem dX10_count_168 : decode cX10_count 168 = .ok (.aload_n 0, 1) := by decide +kernel
theorem dX10_count_169 : decode cX10_count 169 = .ok (.getfield 7, 3) := by decide +kernel
theorem dX10_count_172 : decode cX10_count 172 = .ok (.sipush 175, 3) := by decide +kernel
theorem dX10_count_175 : decode cX10_count 175 = .ok (.iaload, 1) := by decide +kernel
theorem dX10_count_176 : decode cX10_count 176 = .ok (.ireturn, 1) := by decide +kernel
theorem dX10_count_177 : decode cX10_count 177 = .ok (.aload_n 0, 1) := by decide +kernel
theorem dX10_count_178 : decode cX10_count 178 = .ok (.getfield 70, 3) := by decide +kernel
theorem dX10_count_181 : decode cX10_count 181 = .ok (.ireturn, 1) := by decide +kernel
theorem dX10_count_182 : decode cX10_count 182 = .ok (.aload_n 0, 1) := by decide +kernel
theorem dX10_count_183 : decode cX10_count 183 = .ok (.getfield 73, 3) := by decide +kernel
theorem dX10_count_186 : decode cX10_count 186 = .ok (.ireturn, 1) := by decide +kernel
theorem dX10_count_187 : decode cX10_count 187 = .ok (.iconst (-1), 1) := by decide +kernel
theorem dX10_count_188 : decode cX10_count 188 = .ok (.ireturn, 1) := by decide +kernel
theorem v_X10_count : yX10_count.cls = RX10 ∧ yX10_count.cls ≠ "java/lang/invoke/MethodHandle" ∧ yX10_count.cls ≠ "java/lang/invoke/VarHandle" ∧ (parseMethodDescriptor yX10_count.desc).map (fun d => d.parameters.length) = some 1 := ⟨rfl, by decide +kernel, by decide +kernel, by decide +kernel⟩
noncomputable def k_X10_count_0 (κ : gb_K) : gb_C := (o_al 0 (o_ci 0 (o_pf 10 10 (o_ci 0 (o_is 2 (o_ci 0 (o_is 3 (o_ci 0 (o_is 4 (o_ci 0 (o_is 5 (o_ci 0 (o_is 6 (o_j [0, 1, 2, 3, 4, 5, 6] (κ 18)))))))))))))))
theorem l_X10_count_0 : gb_Li (fun κ => k_X10_count_0 κ) := (gb_li (q_al 0) (gb_li (q_ci 0) (gb_li (q_pf 10 10) (gb_li (q_ci 0) (gb_li (q_is 2) (gb_li (q_ci 0) (gb_li (q_is 3) (gb_li (q_ci 0) (gb_li (q_is 4) (gb_li (q_ci 0) (gb_li (q_is 5) (gb_li (q_ci 0) (gb_li (q_is 6) (q_j [0, 1, 2, 3, 4, 5, 6] 18))))))))))))))
theorem s_X10_count_0   {κ : gb_K} (hκ : ∀ q, gb_S RX10 cX10_count 7 (gb_rm 2 46) 1 q (κ q)) : gb_S RX10 cX10_count 7 (gb_rm 2 46) 1 0 (k_X10_count_0 κ) := (s_aln 0 rfl dX10_count_0 (s_iconst (by decide +kernel) dX10_count_1 (s_pf (T := TX10) winX10 rfl (Nat.le_of_ble_eq_true rfl) tyX10_ok nmX10 rfl (by decide +kernel) gw_546 rfl dX10_count_2 (s_iconst (by decide +kernel) dX10_count_5 (s_isn 2 rfl (Nat.le_of_ble_eq_true rfl) dX10_count_6 (s_iconst (by decide +kernel) dX10_count_7 (s_isn 3 rfl (Nat.le_of_ble_eq_true rfl) dX10_count_8 (s_iconst (by decide +kernel) dX10_count_9 (s_is (Nat.le_of_ble_eq_true rfl) dX10_count_10 (s_iconst (by decide +kernel) dX10_count_12 (s_is (Nat.le_of_ble_eq_true rfl) dX10_count_13 (s_iconst (by decide +kernel) dX10_count_15 (s_is (Nat.le_of_ble_eq_true rfl) dX10_count_16 (s_j (hκ 18)))))))))))))))
noncomputable def k_X10_count_84 (κ : gb_K) : gb_C := (o_ib (fun x y => x ||| y) (o_is 5 (o_inc 6 1 (o_j [0, 1, 2, 3, 4, 5, 6] (κ 18)))))
theorem l_X10_count_84 : gb_Li (fun κ => k_X10_count_84 κ) := (gb_li (q_ib _) (gb_li (q_is 5) (gb_li (q_inc 6 1) (q_j [0, 1, 2, 3, 4, 5, 6] 18))))
theorem s_X10_count_84   {κ : gb_K} (hκ : ∀ q, gb_S RX10 cX10_count 7 (gb_rm 2 46) 1 q (κ q)) : gb_S RX10 cX10_count 7 (gb_rm 2 46) 1 84 (k_X10_count_84 κ) := (s_ior dX10_count_84 (s_is (Nat.le_of_ble_eq_true rfl) dX10_count_85 (s_inc (by decide +kernel) (Nat.le_of_ble_eq_true rfl) dX10_count_87 (s_goto (tgt := 18) (by decide +kernel) dX10_count_90 (s_j (hκ 18))))))
noncomputable def k_X10_count_62 (κ : gb_K) : gb_C := (o_ib (fun x y => x ||| y) (o_is 4 (o_il 5 (o_al 0 (o_il 6 (o_cv 1 10 1 f_X10_many (o_zeq (o_ci 1 (o_il 6 (o_ib (fun x y => x <<< (y &&& 31)) (k_X10_count_84 κ)))) (o_ci 0 (k_X10_count_84 κ)))))))))
theorem l_X10_count_62 : gb_Li (fun κ => k_X10_count_62 κ) := (gb_li (q_ib _) (gb_li (q_is 4) (gb_li (q_il 5) (gb_li (q_al 0) (gb_li (q_il 6) (gb_li (q_cv 1 10 1 f_X10_many) (q_zeq (gb_li (q_ci 1) (gb_li (q_il 6) (gb_li (q_ib _) (l_X10_count_84)))) (gb_li (q_ci 0) (l_X10_count_84)))))))))
theorem s_X10_count_62   {κ : gb_K} (hκ : ∀ q, gb_S RX10 cX10_count 7 (gb_rm 2 46) 1 q (κ q)) : gb_S RX10 cX10_count 7 (gb_rm 2 46) 1 62 (k_X10_count_62 κ) := (s_ior dX10_count_62 (s_is (Nat.le_of_ble_eq_true rfl) dX10_count_63 (s_il dX10_count_65 (s_aln 0 rfl dX10_count_67 (s_il dX10_count_68 (s_cv (C := RX10) c_X10_many rfl (gb_l5 gw_557 gw_558 gw_559 gw_553 gw_560) v_X10_many ⟨rfl, rfl⟩ ⟨Nat.le_of_ble_eq_true rfl, Nat.le_of_ble_eq_true rfl⟩ dX10_count_70 (s_zne (tgt := 83) (by decide +kernel) dX10_count_73 (s_iconst (by decide +kernel) dX10_count_83 (s_X10_count_84 hκ)) (s_iconst (by decide +kernel) dX10_count_76 (s_il dX10_count_77 (s_ishl dX10_count_79 (s_goto (tgt := 84) (by decide +kernel) dX10_count_80 (s_X10_count_84 hκ))))))))))))
noncomputable def k_X10_count_187 (κ : gb_K) : gb_C := (o_ci (-1) o_ri)
theorem l_X10_count_187 : gb_Li (fun κ => k_X10_count_187 κ) := (gb_li (q_ci (-1)) (gb_li0 _))
theorem s_X10_count_187   {κ : gb_K} (hκ : ∀ q, gb_S RX10 cX10_count 7 (gb_rm 2 46) 1 q (κ q)) : gb_S RX10 cX10_count 7 (gb_rm 2 46) 1 187 (k_X10_count_187 κ) := (s_iconst (by decide +kernel) dX10_count_187 (s_ri rfl dX10_count_188))
noncomputable def k_X10_count_182 (κ : gb_K) : gb_C := (o_al 0 (o_gf 10 7 o_ri))
theorem l_X10_count_182 : gb_Li (fun κ => k_X10_count_182 κ) := (gb_li (q_al 0) (gb_li (q_gf 10 7) (gb_li0 _)))
theorem s_X10_count_182   {κ : gb_K} (hκ : ∀ q, gb_S RX10 cX10_count 7 (gb_rm 2 46) 1 q (κ q)) : gb_S RX10 cX10_count 7 (gb_rm 2 46) 1 182 (k_X10_count_182 κ) := (s_aln 0 rfl dX10_count_182 (s_gf (T := TX10) winX10 rfl (Nat.le_of_ble_eq_true rfl) gw_549 rfl dX10_count_183 (s_ri rfl dX10_count_186)))
noncomputable def k_X10_count_177 (κ : gb_K) : gb_C := (o_al 0 (o_gf 10 9 o_ri))
theorem l_X10_count_177 : gb_Li (fun κ => k_X10_count_177 κ) := (gb_li (q_al 0) (gb_li (q_gf 10 9) (gb_li0 _)))
theorem s_X10_count_177   {κ : gb_K} (hκ : ∀ q, gb_S RX10 cX10_count 7 (gb_rm 2 46) 1 q (κ q)) : gb_S RX10 cX10_count 7 (gb_rm 2 46) 1 177 (k_X10_count_177 κ) := (s_aln 0 rfl dX10_count_177 (s_gf (T := TX10) winX10 rfl (Nat.le_of_ble_eq_true rfl) gw_548 rfl dX10_count_178 (s_ri rfl dX10_count_181)))
noncomputable def k_X10_count_168 (κ : gb_K) : gb_C := (o_al 0 (o_gf 10 0 (o_ci 175 (o_iald o_ri))))
theorem l_X10_count_168 : gb_Li (fun κ => k_X10_count_168 κ) := (gb_li (q_al 0) (gb_li (q_gf 10 0) (gb_li (q_ci 175) (gb_li q_iald (gb_li0 _)))))
theorem s_X10_count_168   {κ : gb_K} (hκ : ∀ q, gb_S RX10 cX10_count 7 (gb_rm 2 46) 1 q (κ q)) : gb_S RX10 cX10_count 7 (gb_rm 2 46) 1 168 (k_X10_count_168 κ) := (s_aln 0 rfl dX10_count_168 (s_gf (T := TX10) winX10 rfl (Nat.le_of_ble_eq_true rfl) gw_545 rfl dX10_count_169 (s_sipush (by decide +kernel) dX10_count_172 (s_iald dX10_count_175 (s_ri rfl dX10_count_176)))))
noncomputable def k_X10_count_163 (κ : gb_K) : gb_C := (o_al 0 (o_gf 10 5 o_ri))
theorem l_X10_count_163 : gb_Li (fun κ => k_X10_count_163 κ) := (gb_li (q_al 0) (gb_li (q_gf 10 5) (gb_li0 _)))
theorem s_X10_count_163   {κ : gb_K} (hκ : ∀ q, gb_S RX10 cX10_count 7 (gb_rm 2 46) 1 q (κ q)) : gb_S RX10 cX10_count 7 (gb_rm 2 46) 1 163 (k_X10_count_163 κ) := (s_aln 0 rfl dX10_count_163 (s_gf (T := TX10) winX10 rfl (Nat.le_of_ble_eq_true rfl) gw_566 rfl dX10_count_164 (s_ri rfl dX10_count_167)))
noncomputable def k_X10_count_160 (κ : gb_K) : gb_C := (o_il 5 o_ri)
theorem l_X10_count_160 : gb_Li (fun κ => k_X10_count_160 κ) := (gb_li (q_il 5) (gb_li0 _))
theorem s_X10_count_160   {κ : gb_K} (hκ : ∀ q, gb_S RX10 cX10_count 7 (gb_rm 2 46) 1 q (κ q)) : gb_S RX10 cX10_count 7 (gb_rm 2 46) 1 160 (k_X10_count_160 κ) := (s_il dX10_count_160 (s_ri rfl dX10_count_162))
noncomputable def k_X10_count_157 (κ : gb_K) : gb_C := (o_il 4 o_ri)
theorem l_X10_count_157 : gb_Li (fun κ => k_X10_count_157 κ) := (gb_li (q_il 4) (gb_li0 _))
theorem s_X10_count_157   {κ : gb_K} (hκ : ∀ q, gb_S RX10 cX10_count 7 (gb_rm 2 46) 1 q (κ q)) : gb_S RX10 cX10_count 7 (gb_rm 2 46) 1 157 (k_X10_count_157 κ) := (s_il dX10_count_157 (s_ri rfl dX10_count_159))
noncomputable def k_X10_count_155 (κ : gb_K) : gb_C := (o_il 3 o_ri)
theorem l_X10_count_155 : gb_Li (fun κ => k_X10_count_155 κ) := (gb_li (q_il 3) (gb_li0 _))
theorem s_X10_count_155   {κ : gb_K} (hκ : ∀ q, gb_S RX10 cX10_count 7 (gb_rm 2 46) 1 q (κ q)) : gb_S RX10 cX10_count 7 (gb_rm 2 46) 1 155 (k_X10_count_155 κ) := (s_iln 3 rfl dX10_count_155 (s_ri rfl dX10_count_156))
noncomputable def k_X10_count_153 (κ : gb_K) : gb_C := (o_il 2 o_ri)
theorem l_X10_count_153 : gb_Li (fun κ => k_X10_count_153 κ) := (gb_li (q_il 2) (gb_li0 _))
theorem s_X10_count_153   {κ : gb_K} (hκ : ∀ q, gb_S RX10 cX10_count 7 (gb_rm 2 46) 1 q (κ q)) : gb_S RX10 cX10_count 7 (gb_rm 2 46) 1 153 (k_X10_count_153 κ) := (s_iln 2 rfl dX10_count_153 (s_ri rfl dX10_count_154))
noncomputable def k_X10_count_144 (κ : gb_K) : gb_C := (o_al 0 (o_gf 10 0 (o_ci 174 (o_iald o_ri))))
theorem l_X10_count_144 : gb_Li (fun κ => k_X10_count_144 κ) := (gb_li (q_al 0) (gb_li (q_gf 10 0) (gb_li (q_ci 174) (gb_li q_iald (gb_li0 _)))))
theorem s_X10_count_144   {κ : gb_K} (hκ : ∀ q, gb_S RX10 cX10_count 7 (gb_rm 2 46) 1 q (κ q)) : gb_S RX10 cX10_count 7 (gb_rm 2 46) 1 144 (k_X10_count_144 κ) := (s_aln 0 rfl dX10_count_144 (s_gf (T := TX10) winX10 rfl (Nat.le_of_ble_eq_true rfl) gw_545 rfl dX10_count_145 (s_sipush (by decide +kernel) dX10_count_148 (s_iald dX10_count_151 (s_ri rfl dX10_count_152)))))
noncomputable def k_X10_count_18 (κ : gb_K) : gb_C := (o_il 6 (o_ci 6 (o_cge (o_il 1 (o_ts 0 8 [(k_X10_count_144 κ), (k_X10_count_153 κ), (k_X10_count_155 κ), (k_X10_count_157 κ), (k_X10_count_160 κ), (k_X10_count_163 κ), (k_X10_count_168 κ), (k_X10_count_177 κ), (k_X10_count_182 κ)] (k_X10_count_187 κ))) (o_il 2 (o_al 0 (o_il 6 (o_cv 1 10 1 f_X10_tonsIn (o_ib (fun x y => x + y) (o_is 2 (o_il 3 (o_al 0 (o_il 6 (o_cv 1 10 1 f_X10_many (o_ib (fun x y => x + y) (o_is 3 (o_il 4 (o_al 0 (o_il 6 (o_cv 1 10 2 f_X10_isClosed (o_zeq (o_ci 0 (k_X10_count_62 κ)) (o_ci 1 (o_il 6 (o_ib (fun x y => x <<< (y &&& 31)) (k_X10_count_62 κ))))))))))))))))))))))))
theorem l_X10_count_18 : gb_Li (fun κ => k_X10_count_18 κ) := (gb_li (q_il 6) (gb_li (q_ci 6) (q_cge (gb_li (q_il 1) (q_ts (ts := [(fun κ => (k_X10_count_144 κ)), (fun κ => (k_X10_count_153 κ)), (fun κ => (k_X10_count_155 κ)), (fun κ => (k_X10_count_157 κ)), (fun κ => (k_X10_count_160 κ)), (fun κ => (k_X10_count_163 κ)), (fun κ => (k_X10_count_168 κ)), (fun κ => (k_X10_count_177 κ)), (fun κ => (k_X10_count_182 κ))]) (List.forall_mem_cons.mpr ⟨(l_X10_count_144), List.forall_mem_cons.mpr ⟨(l_X10_count_153), List.forall_mem_cons.mpr ⟨(l_X10_count_155), List.forall_mem_cons.mpr ⟨(l_X10_count_157), List.forall_mem_cons.mpr ⟨(l_X10_count_160), List.forall_mem_cons.mpr ⟨(l_X10_count_163), List.forall_mem_cons.mpr ⟨(l_X10_count_168), List.forall_mem_cons.mpr ⟨(l_X10_count_177), List.forall_mem_cons.mpr ⟨(l_X10_count_182), (fun _ h => absurd h List.not_mem_nil)⟩⟩⟩⟩⟩⟩⟩⟩⟩) (l_X10_count_187))) (gb_li (q_il 2) (gb_li (q_al 0) (gb_li (q_il 6) (gb_li (q_cv 1 10 1 f_X10_tonsIn) (gb_li (q_ib _) (gb_li (q_is 2) (gb_li (q_il 3) (gb_li (q_al 0) (gb_li (q_il 6) (gb_li (q_cv 1 10 1 f_X10_many) (gb_li (q_ib _) (gb_li (q_is 3) (gb_li (q_il 4) (gb_li (q_al 0) (gb_li (q_il 6) (gb_li (q_cv 1 10 2 f_X10_isClosed) (q_zeq (gb_li (q_ci 0) (l_X10_count_62)) (gb_li (q_ci 1) (gb_li (q_il 6) (gb_li (q_ib _) (l_X10_count_62))))))))))))))))))))))))
theorem s_X10_count_18   {κ : gb_K} (hκ : ∀ q, gb_S RX10 cX10_count 7 (gb_rm 2 46) 1 q (κ q)) : gb_S RX10 cX10_count 7 (gb_rm 2 46) 1 18 (k_X10_count_18 κ) := (s_il dX10_count_18 (s_bipush (by decide +kernel) dX10_count_20 (s_cge (tgt := 93) (by decide +kernel) dX10_count_22 (s_iln 1 rfl dX10_count_93 (s_ts (dt := 187) dX10_count_94 (by decide +kernel) (s_X10_count_187 hκ) (gb_tsl (gb_tslc (off := 50) (tgt := 144) (by decide +kernel) (s_X10_count_144 hκ) (gb_tslc (off := 59) (tgt := 153) (by decide +kernel) (s_X10_count_153 hκ) (gb_tslc (off := 61) (tgt := 155) (by decide +kernel) (s_X10_count_155 hκ) (gb_tslc (off := 63) (tgt := 157) (by decide +kernel) (s_X10_count_157 hκ) (gb_tslc (off := 66) (tgt := 160) (by decide +kernel) (s_X10_count_160 hκ) (gb_tslc (off := 69) (tgt := 163) (by decide +kernel) (s_X10_count_163 hκ) (gb_tslc (off := 74) (tgt := 168) (by decide +kernel) (s_X10_count_168 hκ) (gb_tslc (off := 83) (tgt := 177) (by decide +kernel) (s_X10_count_177 hκ) (gb_tslc (off := 88) (tgt := 182) (by decide +kernel) (s_X10_count_182 hκ) gb_tsl0)))))))))))) (s_iln 2 rfl dX10_count_25 (s_aln 0 rfl dX10_count_26 (s_il dX10_count_27 (s_cv (C := RX10) c_X10_tonsIn rfl (gb_l5 gw_618 gw_619 gw_620 gw_553 gw_621) v_X10_tonsIn ⟨rfl, rfl⟩ ⟨Nat.le_of_ble_eq_true rfl, Nat.le_of_ble_eq_true rfl⟩ dX10_count_29 (s_iadd dX10_count_32 (s_isn 2 rfl (Nat.le_of_ble_eq_true rfl) dX10_count_33 (s_iln 3 rfl dX10_count_34 (s_aln 0 rfl dX10_count_35 (s_il dX10_count_36 (s_cv (C := RX10) c_X10_many rfl (gb_l5 gw_557 gw_558 gw_559 gw_553 gw_560) v_X10_many ⟨rfl, rfl⟩ ⟨Nat.le_of_ble_eq_true rfl, Nat.le_of_ble_eq_true rfl⟩ dX10_count_38 (s_iadd dX10_count_41 (s_isn 3 rfl (Nat.le_of_ble_eq_true rfl) dX10_count_42 (s_il dX10_count_43 (s_aln 0 rfl dX10_count_45 (s_il dX10_count_46 (s_cv (C := RX10) c_X10_isClosed rfl (gb_l5 gw_614 gw_615 gw_616 gw_553 gw_617) v_X10_isClosed ⟨rfl, rfl⟩ ⟨Nat.le_of_ble_eq_true rfl, Nat.le_of_ble_eq_true rfl⟩ dX10_count_48 (s_zeq (tgt := 61) (by decide +kernel) dX10_count_51 (s_iconst (by decide +kernel) dX10_count_61 (s_X10_count_62 hκ)) (s_iconst (by decide +kernel) dX10_count_54 (s_il dX10_count_55 (s_ishl dX10_count_57 (s_goto (tgt := 62) (by decide +kernel) dX10_count_58 (s_X10_count_62 hκ)))))))))))))))))))))))))
noncomputable def B_X10_count : List (Nat × (gb_K → gb_C)) := [(18, fun κ => k_X10_count_18 κ)]
noncomputable def K_X10_count : gb_K := gb_fx (gb_tb (B_X10_count))
theorem L_X10_count : ∀ q, gb_Li (fun κ => gb_tb (B_X10_count) κ q) := gb_tb_li (List.forall_mem_cons.mpr ⟨l_X10_count_18, (fun _ h => absurd h List.not_mem_nil)⟩)
theorem S_X10_count   : ∀ q, gb_S RX10 cX10_count 7 (gb_rm 2 46) 1 q (K_X10_count q) := fun q => gb_fx_S (L_X10_count) (gb_tb_S (List.forall_mem_cons.mpr ⟨fun κ hκ => s_X10_count_18 hκ, (fun _ h => absurd h List.not_mem_nil)⟩)) q
noncomputable def f_X10_count : gb_F := gb_hide (gb_mf 7 (k_X10_count_0 (K_X10_count)))
theorem c_X10_count : ∀ l, gb_Met l yX10_count cX10_count 7 (some .int) 1 (gb_rm 2 46) f_X10_count := gb_hide_c (gb_met (own := RX10) (rk := 1) rfl (by decide +kernel) ⟨rfl, rfl⟩ (s_X10_count_0 (S_X10_count)))
theorem dX10_row_0 : decode cX10_row 0 = .ok (.aload_n 0, 1) := by decide +kernel
theorem dX10_row_1 : decode cX10_row 1 = .ok (.iconst 0, 1) := by decide +kernel
theorem dX10_row_2 : decode cX10_row 2 = .ok (.putfield 66, 3) := by decide +kernel
theorem dX10_row_5 : decode cX10_row 5 = .ok (.iload_n 1, 1) := by decide +kernel
theorem dX10_row_6 : decode cX10_row 6 = .ok (.i2l, 1) := by decide +kernel
theorem dX10_row_7 : decode cX10_row 7 = .ok (.lconst 0, 1) := by decide +kernel
theorem dX10_row_8 : decode cX10_row 8 = .ok (.aload_n 0, 1) := by decide +kernel
theorem dX10_row_9 : decode cX10_row 9 = .ok (.getfield 70, 3) := by decide +kernel
theorem dX10_row_12 : decode cX10_row 12 = .ok (.iconst 1, 1) := by decide +kernel
theorem dX10_row_13 : decode cX10_row 13 = .ok (.isub, 1) := by decide +kernel
theorem dX10_row_14 : decode cX10_row 14 = .ok (.i2l, 1) := by decide +kernel
theorem dX10_row_15 : decode cX10_row 15 = .ok (.invokestatic 76, 3) := by decide +kernel
theorem dX10_row_18 : decode cX10_row 18 = .ok (.ifCond .eq 12, 3) := by decide +kernel
theorem dX10_row_21 : decode cX10_row 21 = .ok (.aload_n 0, 1) := by decide +kernel
theorem dX10_row_22 : decode cX10_row 22 = .ok (.getfield 26, 3) := by decide +kernel
theorem dX10_row_25 : decode cX10_row 25 = .ok (.iload_n 1, 1) := by decide +kernel
theorem dX10_row_26 : decode cX10_row 26 = .ok (.laload, 1) := by decide +kernel
theorem dX10_row_27 : decode cX10_row 27 = .ok (.goto 8, 3) := by decide +kernel
theorem dX10_row_30 : decode cX10_row 30 = .ok (.aload_n 0, 1) := by decide +kernel
theorem dX10_row_31 : decode cX10_row 31 = .ok (.invokevirtual 365, 3) := by decide +kernel
theorem dX10_row_34 : decode cX10_row 34 = .ok (.i2l, 1) := by decide +kernel
theorem dX10_row_35 : decode cX10_row 35 = .ok (.lreturn, 1) := by decide +kernel
theorem v_X10_row : yX10_row.cls = RX10 ∧ yX10_row.cls ≠ "java/lang/invoke/MethodHandle" ∧ yX10_row.cls ≠ "java/lang/invoke/VarHandle" ∧ (parseMethodDescriptor yX10_row.desc).map (fun d => d.parameters.length) = some 1 := ⟨rfl, by decide +kernel, by decide +kernel, by decide +kernel⟩
noncomputable def k_X10_row_35 (κ : gb_K) : gb_C := o_rl
theorem l_X10_row_35 : gb_Li (fun κ => k_X10_row_35 κ) := (gb_li0 _)
theorem s_X10_row_35   {κ : gb_K} (hκ : ∀ q, gb_S RX10 cX10_row 2 (gb_rm 1 25) 3 q (κ q)) : gb_S RX10 cX10_row 2 (gb_rm 1 25) 3 35 (k_X10_row_35 κ) := (s_rl rfl dX10_row_35)
noncomputable def k_X10_row_0 (κ : gb_K) : gb_C := (o_al 0 (o_ci 0 (o_pf 10 10 (o_il 1 (o_i2l (o_cl 0 (o_al 0 (o_gf 10 9 (o_ci 1 (o_ib (fun x y => x - y) (o_i2l (o_cs 3 2 f_X10_in (o_zeq (o_al 0 (o_cv 0 10 1 f_X10_lost (o_i2l (k_X10_row_35 κ)))) (o_al 0 (o_gf 10 8 (o_il 1 (o_lald (k_X10_row_35 κ))))))))))))))))))
theorem l_X10_row_0 : gb_Li (fun κ => k_X10_row_0 κ) := (gb_li (q_al 0) (gb_li (q_ci 0) (gb_li (q_pf 10 10) (gb_li (q_il 1) (gb_li q_i2l (gb_li (q_cl 0) (gb_li (q_al 0) (gb_li (q_gf 10 9) (gb_li (q_ci 1) (gb_li (q_ib _) (gb_li q_i2l (gb_li (q_cs 3 2 f_X10_in) (q_zeq (gb_li (q_al 0) (gb_li (q_cv 0 10 1 f_X10_lost) (gb_li q_i2l (l_X10_row_35)))) (gb_li (q_al 0) (gb_li (q_gf 10 8) (gb_li (q_il 1) (gb_li q_lald (l_X10_row_35))))))))))))))))))
theorem s_X10_row_0   {κ : gb_K} (hκ : ∀ q, gb_S RX10 cX10_row 2 (gb_rm 1 25) 3 q (κ q)) : gb_S RX10 cX10_row 2 (gb_rm 1 25) 3 0 (k_X10_row_0 κ) := (s_aln 0 rfl dX10_row_0 (s_iconst (by decide +kernel) dX10_row_1 (s_pf (T := TX10) winX10 rfl (Nat.le_of_ble_eq_true rfl) tyX10_ok nmX10 rfl (by decide +kernel) gw_546 rfl dX10_row_2 (s_iln 1 rfl dX10_row_5 (s_i2l dX10_row_6 (s_lconst (by decide +kernel) dX10_row_7 (s_aln 0 rfl dX10_row_8 (s_gf (T := TX10) winX10 rfl (Nat.le_of_ble_eq_true rfl) gw_548 rfl dX10_row_9 (s_iconst (by decide +kernel) dX10_row_12 (s_isub dX10_row_13 (s_i2l dX10_row_14 (s_cs c_X10_in (gb_l4 gw_551 gw_552 gw_553 gw_554) v_X10_in.2 ⟨rfl, rfl⟩ ⟨Nat.le_of_ble_eq_true rfl, Nat.le_of_ble_eq_true rfl⟩ dX10_row_15 (s_zeq (tgt := 30) (by decide +kernel) dX10_row_18 (s_aln 0 rfl dX10_row_30 (s_cv (C := RX10) c_X10_lost rfl (gb_l5 gw_846 gw_847 gw_848 gw_553 gw_849) v_X10_lost ⟨rfl, rfl⟩ ⟨Nat.le_of_ble_eq_true rfl, Nat.le_of_ble_eq_true rfl⟩ dX10_row_31 (s_i2l dX10_row_34 (s_X10_row_35 hκ)))) (s_aln 0 rfl dX10_row_21 (s_gf (T := TX10) winX10 rfl (Nat.le_of_ble_eq_true rfl) gw_547 rfl dX10_row_22 (s_iln 1 rfl dX10_row_25 (s_lald dX10_row_26 (s_goto (tgt := 35) (by decide +kernel) dX10_row_27 (s_X10_row_35 hκ)))))))))))))))))))
noncomputable def f_X10_row : gb_F := gb_hide (gb_mf 2 (k_X10_row_0 gb_n))
theorem c_X10_row : ∀ l, gb_Met l yX10_row cX10_row 2 (some .long) 3 (gb_rm 1 25) f_X10_row := gb_hide_c (gb_met (own := RX10) (rk := 3) rfl (by decide +kernel) ⟨rfl, rfl⟩ (s_X10_row_0 gb_S_n))
