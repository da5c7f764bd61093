/-! CODE: printed by wip/whole/gen.py -/
theorem dX10_number_0 : decode cX10_number 0 = .ok (.aload_n 0, 1) := by decide +kernel
theorem dX10_number_1 : decode cX10_number 1 = .ok (.getfield 173, 3) := by decide +kernel
theorem dX10_number_4 : decode cX10_number 4 = .ok (.iconst (-1), 1) := by decide +kernel
theorem dX10_number_5 : decode cX10_number 5 = .ok (.if_icmp .eq 5, 3) := by decide +kernel
theorem dX10_number_8 : decode cX10_number 8 = .ok (.iload_n 1, 1) := by decide +kernel
theorem dX10_number_9 : decode cX10_number 9 = .ok (.ireturn, 1) := by decide +kernel
theorem dX10_number_10 : decode cX10_number 10 = .ok (.iconst 0, 1) := by decide +kernel
theorem dX10_number_11 : decode cX10_number 11 = .ok (.istore 4, 2) := by decide +kernel
theorem dX10_number_13 : decode cX10_number 13 = .ok (.iconst 0, 1) := by decide +kernel
theorem dX10_number_14 : decode cX10_number 14 = .ok (.istore 5, 2) := by decide +kernel
theorem dX10_number_16 : decode cX10_number 16 = .ok (.iload 5, 2) := by decide +kernel
theorem dX10_number_18 : decode cX10_number 18 = .ok (.iload_n 3, 1) := by decide +kernel
theorem dX10_number_19 : decode cX10_number 19 = .ok (.if_icmp .ge 61, 3) := by decide +kernel
theorem dX10_number_22 : decode cX10_number 22 = .ok (.iload 5, 2) := by decide +kernel
theorem dX10_number_24 : decode cX10_number 24 = .ok (.ifCond .eq 8, 3) := by decide +kernel
theorem dX10_number_27 : decode cX10_number 27 = .ok (.iload 4, 2) := by decide +kernel
theorem dX10_number_29 : decode cX10_number 29 = .ok (.ifCond .le 51, 3) := by decide +kernel
theorem dX10_number_32 : decode cX10_number 32 = .ok (.aload_n 0, 1) := by decide +kernel
theorem dX10_number_33 : decode cX10_number 33 = .ok (.invokevirtual 176, 3) := by decide +kernel
theorem dX10_number_36 : decode cX10_number 36 = .ok (.i2l, 1) := by decide +kernel
theorem dX10_number_37 : decode cX10_number 37 = .ok (.ldc2_w 184, 3) := by decide +kernel
theorem dX10_number_40 : decode cX10_number 40 = .ok (.ldc2_w 188, 3) := by decide +kernel
theorem dX10_number_43 : decode cX10_number 43 = .ok (.invokestatic 76, 3) := by decide +kernel
theorem dX10_number_46 : decode cX10_number 46 = .ok (.ifCond .eq 34, 3) := by decide +kernel
theorem dX10_number_49 : decode cX10_number 49 = .ok (.bipush 10, 2) := by decide +kernel
theorem dX10_number_51 : decode cX10_number 51 = .ok (.iload 4, 2) := by decide +kernel
theorem dX10_number_53 : decode cX10_number 53 = .ok (.imul, 1) := by decide +kernel
theorem dX10_number_54 : decode cX10_number 54 = .ok (.aload_n 0, 1) := by decide +kernel
theorem dX10_number_55 : decode cX10_number 55 = .ok (.invokevirtual 176, 3) := by decide +kernel
theorem dX10_number_58 : decode cX10_number 58 = .ok (.iadd, 1) := by decide +kernel
theorem dX10_number_59 : decode cX10_number 59 = .ok (.bipush 48, 2) := by decide +kernel
theorem dX10_number_61 : decode cX10_number 61 = .ok (.isub, 1) := by decide +kernel
theorem dX10_number_62 : decode cX10_number 62 = .ok (.istore 4, 2) := by decide +kernel
theorem dX10_number_64 : decode cX10_number 64 = .ok (.aload_n 0, 1) := by decide +kernel
theorem dX10_number_65 : decode cX10_number 65 = .ok (.dup, 1) := by decide +kernel
theorem dX10_number_66 : decode cX10_number 66 = .ok (.getfield 170, 3) := by decide +kernel
theorem dX10_number_69 : decode cX10_number 69 = .ok (.iconst 1, 1) := by decide +kernel
theorem dX10_number_70 : decode cX10_number 70 = .ok (.iadd, 1) := by decide +kernel
theorem dX10_number_71 : decode cX10_number 71 = .ok (.putfield 170, 3) := by decide +kernel
theorem dX10_number_74 : decode cX10_number 74 = .ok (.iinc 5 1, 3) := by decide +kernel
theorem dX10_number_77 : decode cX10_number 77 = .ok (.goto (-61), 3) := by decide +kernel
theorem dX10_number_80 : decode cX10_number 80 = .ok (.iload 5, 2) := by decide +kernel
theorem dX10_number_82 : decode cX10_number 82 = .ok (.ifCond .ne 14, 3) := by decide +kernel
theorem dX10_number_85 : decode cX10_number 85 = .ok (.aload_n 0, 1) := by decide +kernel
theorem dX10_number_86 : decode cX10_number 86 = .ok (.aload_n 0, 1) := by decide +kernel
theorem dX10_number_87 : decode cX10_number 87 = .ok (.getfield 170, 3) := by decide +kernel
theorem dX10_number_90 : decode cX10_number 90 = .ok (.invokevirtual 180, 3) := by decide +kernel
theorem dX10_number_93 : decode cX10_number 93 = .ok (.goto 26, 3) := by decide +kernel
theorem dX10_number_96 : decode cX10_number 96 = .ok (.iload 4, 2) := by decide +kernel
theorem dX10_number_98 : decode cX10_number 98 = .ok (.i2l, 1) := by decide +kernel
theorem dX10_number_99 : decode cX10_number 99 = .ok (.iload_n 1, 1) := by decide +kernel
theorem dX10_number_100 : decode cX10_number 100 = .ok (.i2l, 1) := by decide +kernel
theorem dX10_number_101 : decode cX10_number 101 = .ok (.iload_n 2, 1) := by decide +kernel
theorem dX10_number_102 : decode cX10_number 102 = .ok (.i2l, 1) := by decide +kernel
theorem dX10_number_103 : decode cX10_number 103 = .ok (.invokestatic 76, 3) := by decide +kernel
theorem dX10_number_106 : decode cX10_number 106 = .ok (.ifCond .ne 13, 3) := by decide +kernel
theorem dX10_number_109 : decode cX10_number 109 = .ok (.aload_n 0, 1) := by decide +kernel
theorem dX10_number_110 : decode cX10_number 110 = .ok (.aload_n 0, 1) := by decide +kernel
theorem dX10_number_111 : decode cX10_number 111 = .ok (.getfield 170, 3) := by decide +kernel
theorem dX10_number_114 : decode cX10_number 114 = .ok (.iconst 1, 1) := by decide +kernel
theorem dX10_number_115 : decode cX10_number 115 = .ok (.isub, 1) := by decide +kernel
theorem dX10_number_116 : decode cX10_number 116 = .ok (.invokevirtual 180, 3) := by decide +kernel
theorem dX10_number_119 : decode cX10_number 119 = .ok (.iload 4, 2) := by decide +kernel
theorem dX10_number_121 : decode cX10_number 121 = .ok (.ireturn, 1) := by decide +kernel
theorem v_X10_number : yX10_number.cls = RX10 ∧ yX10_number.cls ≠ "java/lang/invoke/MethodHandle" ∧ yX10_number.cls ≠ "java/lang/invoke/VarHandle" ∧ (parseMethodDescriptor yX10_number.desc).map (fun d => d.parameters.length) = some 3 := ⟨rfl, by decide +kernel, by decide +kernel, by decide +kernel⟩
noncomputable def k_X10_number_0 (κ : gb_K) : gb_C := (o_al 0 (o_gf 10 18 (o_ci (-1) (o_ceq (o_ci 0 (o_is 4 (o_ci 0 (o_is 5 (o_j [0, 1, 2, 3, 4, 5] (κ 16)))))) (o_il 1 o_ri)))))
theorem l_X10_number_0 : gb_Li (fun κ => k_X10_number_0 κ) := (gb_li (q_al 0) (gb_li (q_gf 10 18) (gb_li (q_ci (-1)) (q_ceq (gb_li (q_ci 0) (gb_li (q_is 4) (gb_li (q_ci 0) (gb_li (q_is 5) (q_j [0, 1, 2, 3, 4, 5] 16))))) (gb_li (q_il 1) (gb_li0 _))))))
theorem s_X10_number_0   {κ : gb_K} (hκ : ∀ q, gb_S RX10 cX10_number 6 (gb_rm 1 25) 1 q (κ q)) : gb_S RX10 cX10_number 6 (gb_rm 1 25) 1 0 (k_X10_number_0 κ) := (s_aln 0 rfl dX10_number_0 (s_gf (T := TX10) winX10 rfl (Nat.le_of_ble_eq_true rfl) gw_645 rfl dX10_number_1 (s_iconst (by decide +kernel) dX10_number_4 (s_ceq (tgt := 10) (by decide +kernel) dX10_number_5 (s_iconst (by decide +kernel) dX10_number_10 (s_is (Nat.le_of_ble_eq_true rfl) dX10_number_11 (s_iconst (by decide +kernel) dX10_number_13 (s_is (Nat.le_of_ble_eq_true rfl) dX10_number_14 (s_j (hκ 16)))))) (s_iln 1 rfl dX10_number_8 (s_ri rfl dX10_number_9))))))
noncomputable def k_X10_number_119 (κ : gb_K) : gb_C := (o_il 4 o_ri)
theorem l_X10_number_119 : gb_Li (fun κ => k_X10_number_119 κ) := (gb_li (q_il 4) (gb_li0 _))
theorem s_X10_number_119   {κ : gb_K} (hκ : ∀ q, gb_S RX10 cX10_number 6 (gb_rm 1 25) 1 q (κ q)) : gb_S RX10 cX10_number 6 (gb_rm 1 25) 1 119 (k_X10_number_119 κ) := (s_il dX10_number_119 (s_ri rfl dX10_number_121))
noncomputable def k_X10_number_80 (κ : gb_K) : gb_C := (o_il 5 (o_zeq (o_al 0 (o_al 0 (o_gf 10 17 (o_cv 1 10 0 f_X10_fault (k_X10_number_119 κ))))) (o_il 4 (o_i2l (o_il 1 (o_i2l (o_il 2 (o_i2l (o_cs 3 2 f_X10_in (o_zeq (o_al 0 (o_al 0 (o_gf 10 17 (o_ci 1 (o_ib (fun x y => x - y) (o_cv 1 10 0 f_X10_fault (k_X10_number_119 κ))))))) (k_X10_number_119 κ)))))))))))
theorem l_X10_number_80 : gb_Li (fun κ => k_X10_number_80 κ) := (gb_li (q_il 5) (q_zeq (gb_li (q_al 0) (gb_li (q_al 0) (gb_li (q_gf 10 17) (gb_li (q_cv 1 10 0 f_X10_fault) (l_X10_number_119))))) (gb_li (q_il 4) (gb_li q_i2l (gb_li (q_il 1) (gb_li q_i2l (gb_li (q_il 2) (gb_li q_i2l (gb_li (q_cs 3 2 f_X10_in) (q_zeq (gb_li (q_al 0) (gb_li (q_al 0) (gb_li (q_gf 10 17) (gb_li (q_ci 1) (gb_li (q_ib _) (gb_li (q_cv 1 10 0 f_X10_fault) (l_X10_number_119))))))) (l_X10_number_119)))))))))))
theorem s_X10_number_80   {κ : gb_K} (hκ : ∀ q, gb_S RX10 cX10_number 6 (gb_rm 1 25) 1 q (κ q)) : gb_S RX10 cX10_number 6 (gb_rm 1 25) 1 80 (k_X10_number_80 κ) := (s_il dX10_number_80 (s_zne (tgt := 96) (by decide +kernel) dX10_number_82 (s_il dX10_number_96 (s_i2l dX10_number_98 (s_iln 1 rfl dX10_number_99 (s_i2l dX10_number_100 (s_iln 2 rfl dX10_number_101 (s_i2l dX10_number_102 (s_cs c_X10_in (gb_l4 gw_551 gw_552 gw_553 gw_554) v_X10_in.2 ⟨rfl, rfl⟩ ⟨Nat.le_of_ble_eq_true rfl, Nat.le_of_ble_eq_true rfl⟩ dX10_number_103 (s_zne (tgt := 119) (by decide +kernel) dX10_number_106 (s_X10_number_119 hκ) (s_aln 0 rfl dX10_number_109 (s_aln 0 rfl dX10_number_110 (s_gf (T := TX10) winX10 rfl (Nat.le_of_ble_eq_true rfl) gw_644 rfl dX10_number_111 (s_iconst (by decide +kernel) dX10_number_114 (s_isub dX10_number_115 (s_cv (C := RX10) c_X10_fault rfl (gb_l5 gw_650 gw_651 gw_652 gw_553 gw_653) v_X10_fault ⟨rfl, rfl⟩ ⟨Nat.le_of_ble_eq_true rfl, Nat.le_of_ble_eq_true rfl⟩ dX10_number_116 (s_X10_number_119 hκ))))))))))))))) (s_aln 0 rfl dX10_number_85 (s_aln 0 rfl dX10_number_86 (s_gf (T := TX10) winX10 rfl (Nat.le_of_ble_eq_true rfl) gw_644 rfl dX10_number_87 (s_cv (C := RX10) c_X10_fault rfl (gb_l5 gw_650 gw_651 gw_652 gw_553 gw_653) v_X10_fault ⟨rfl, rfl⟩ ⟨Nat.le_of_ble_eq_true rfl, Nat.le_of_ble_eq_true rfl⟩ dX10_number_90 (s_goto (tgt := 119) (by decide +kernel) dX10_number_93 (s_X10_number_119 hκ))))))))
noncomputable def k_X10_number_32 (κ : gb_K) : gb_C := (o_al 0 (o_cv 0 10 1 f_X10_sees (o_i2l (o_cl 48 (o_cl 57 (o_cs 3 2 f_X10_in (o_zeq (k_X10_number_80 κ) (o_ci 10 (o_il 4 (o_ib (fun x y => x * y) (o_al 0 (o_cv 0 10 1 f_X10_sees (o_ib (fun x y => x + y) (o_ci 48 (o_ib (fun x y => x - y) (o_is 4 (o_al 0 (o_dup (o_gf 10 17 (o_ci 1 (o_ib (fun x y => x + y) (o_pf 10 17 (o_inc 5 1 (o_j [0, 1, 2, 3, 4, 5] (κ 16)))))))))))))))))))))))))
theorem l_X10_number_32 : gb_Li (fun κ => k_X10_number_32 κ) := (gb_li (q_al 0) (gb_li (q_cv 0 10 1 f_X10_sees) (gb_li q_i2l (gb_li (q_cl 48) (gb_li (q_cl 57) (gb_li (q_cs 3 2 f_X10_in) (q_zeq (l_X10_number_80) (gb_li (q_ci 10) (gb_li (q_il 4) (gb_li (q_ib _) (gb_li (q_al 0) (gb_li (q_cv 0 10 1 f_X10_sees) (gb_li (q_ib _) (gb_li (q_ci 48) (gb_li (q_ib _) (gb_li (q_is 4) (gb_li (q_al 0) (gb_li q_dup (gb_li (q_gf 10 17) (gb_li (q_ci 1) (gb_li (q_ib _) (gb_li (q_pf 10 17) (gb_li (q_inc 5 1) (q_j [0, 1, 2, 3, 4, 5] 16))))))))))))))))))))))))
theorem s_X10_number_32   {κ : gb_K} (hκ : ∀ q, gb_S RX10 cX10_number 6 (gb_rm 1 25) 1 q (κ q)) : gb_S RX10 cX10_number 6 (gb_rm 1 25) 1 32 (k_X10_number_32 κ) := (s_aln 0 rfl dX10_number_32 (s_cv (C := RX10) c_X10_sees rfl (gb_l5 gw_646 gw_647 gw_648 gw_553 gw_649) v_X10_sees ⟨rfl, rfl⟩ ⟨Nat.le_of_ble_eq_true rfl, Nat.le_of_ble_eq_true rfl⟩ dX10_number_33 (s_i2l dX10_number_36 (s_ldc2 gw_654 dX10_number_37 (s_ldc2 gw_656 dX10_number_40 (s_cs c_X10_in (gb_l4 gw_551 gw_552 gw_553 gw_554) v_X10_in.2 ⟨rfl, rfl⟩ ⟨Nat.le_of_ble_eq_true rfl, Nat.le_of_ble_eq_true rfl⟩ dX10_number_43 (s_zeq (tgt := 80) (by decide +kernel) dX10_number_46 (s_X10_number_80 hκ) (s_bipush (by decide +kernel) dX10_number_49 (s_il dX10_number_51 (s_imul dX10_number_53 (s_aln 0 rfl dX10_number_54 (s_cv (C := RX10) c_X10_sees rfl (gb_l5 gw_646 gw_647 gw_648 gw_553 gw_649) v_X10_sees ⟨rfl, rfl⟩ ⟨Nat.le_of_ble_eq_true rfl, Nat.le_of_ble_eq_true rfl⟩ dX10_number_55 (s_iadd dX10_number_58 (s_bipush (by decide +kernel) dX10_number_59 (s_isub dX10_number_61 (s_is (Nat.le_of_ble_eq_true rfl) dX10_number_62 (s_aln 0 rfl dX10_number_64 (s_dup dX10_number_65 (s_gf (T := TX10) winX10 rfl (Nat.le_of_ble_eq_true rfl) gw_644 rfl dX10_number_66 (s_iconst (by decide +kernel) dX10_number_69 (s_iadd dX10_number_70 (s_pf (T := TX10) winX10 rfl (Nat.le_of_ble_eq_true rfl) tyX10_ok nmX10 rfl (by decide +kernel) gw_644 rfl dX10_number_71 (s_inc (by decide +kernel) (Nat.le_of_ble_eq_true rfl) dX10_number_74 (s_goto (tgt := 16) (by decide +kernel) dX10_number_77 (s_j (hκ 16))))))))))))))))))))))))))
noncomputable def k_X10_number_16 (κ : gb_K) : gb_C := (o_il 5 (o_il 3 (o_cge (k_X10_number_80 κ) (o_il 5 (o_zeq (k_X10_number_32 κ) (o_il 4 (o_zle (k_X10_number_80 κ) (k_X10_number_32 κ))))))))
theorem l_X10_number_16 : gb_Li (fun κ => k_X10_number_16 κ) := (gb_li (q_il 5) (gb_li (q_il 3) (q_cge (l_X10_number_80) (gb_li (q_il 5) (q_zeq (l_X10_number_32) (gb_li (q_il 4) (q_zle (l_X10_number_80) (l_X10_number_32))))))))
theorem s_X10_number_16   {κ : gb_K} (hκ : ∀ q, gb_S RX10 cX10_number 6 (gb_rm 1 25) 1 q (κ q)) : gb_S RX10 cX10_number 6 (gb_rm 1 25) 1 16 (k_X10_number_16 κ) := (s_il dX10_number_16 (s_iln 3 rfl dX10_number_18 (s_cge (tgt := 80) (by decide +kernel) dX10_number_19 (s_X10_number_80 hκ) (s_il dX10_number_22 (s_zeq (tgt := 32) (by decide +kernel) dX10_number_24 (s_X10_number_32 hκ) (s_il dX10_number_27 (s_zle (tgt := 80) (by decide +kernel) dX10_number_29 (s_X10_number_80 hκ) (s_X10_number_32 hκ))))))))
noncomputable def B_X10_number : List (Nat × (gb_K → gb_C)) := [(16, fun κ => k_X10_number_16 κ)]
noncomputable def K_X10_number : gb_K := gb_fx (gb_tb (B_X10_number))
theorem L_X10_number : ∀ q, gb_Li (fun κ => gb_tb (B_X10_number) κ q) := gb_tb_li (List.forall_mem_cons.mpr ⟨l_X10_number_16, (fun _ h => absurd h List.not_mem_nil)⟩)
theorem S_X10_number   : ∀ q, gb_S RX10 cX10_number 6 (gb_rm 1 25) 1 q (K_X10_number q) := fun q => gb_fx_S (L_X10_number) (gb_tb_S (List.forall_mem_cons.mpr ⟨fun κ hκ => s_X10_number_16 hκ, (fun _ h => absurd h List.not_mem_nil)⟩)) q
noncomputable def f_X10_number : gb_F := gb_hide (gb_mf 6 (k_X10_number_0 (K_X10_number)))
theorem c_X10_number : ∀ l, gb_Met l yX10_number cX10_number 6 (some .int) 1 (gb_rm 1 25) f_X10_number := gb_hide_c (gb_met (own := RX10) (rk := 1) rfl (by decide +kernel) ⟨rfl, rfl⟩ (s_X10_number_0 (S_X10_number)))
theorem dX10_readsGrade_0 : decode cX10_readsGrade 0 = .ok (.aload_n 0, 1) := by decide +kernel
theorem dX10_readsGrade_1 : decode cX10_readsGrade 1 = .ok (.invokevirtual 190, 3) := by decide +kernel
theorem dX10_readsGrade_4 : decode cX10_readsGrade 4 = .ok (.istore_n 1, 1) := by decide +kernel
theorem dX10_readsGrade_5 : decode cX10_readsGrade 5 = .ok (.aload_n 0, 1) := by decide +kernel
theorem dX10_readsGrade_6 : decode cX10_readsGrade 6 = .ok (.getfield 173, 3) := by decide +kernel
theorem dX10_readsGrade_9 : decode cX10_readsGrade 9 = .ok (.iconst (-1), 1) := by decide +kernel
theorem dX10_readsGrade_10 : decode cX10_readsGrade 10 = .ok (.if_icmp .ne 25, 3) := by decide +kernel
theorem dX10_readsGrade_13 : decode cX10_readsGrade 13 = .ok (.aload_n 0, 1) := by decide +kernel
theorem dX10_readsGrade_14 : decode cX10_readsGrade 14 = .ok (.getfield 193, 3) := by decide +kernel
theorem dX10_readsGrade_17 : decode cX10_readsGrade 17 = .ok (.iload_n 1, 1) := by decide +kernel
theorem dX10_readsGrade_18 : decode cX10_readsGrade 18 = .ok (.ishr, 1) := by decide +kernel
theorem dX10_readsGrade_19 : decode cX10_readsGrade 19 = .ok (.iconst 1, 1) := by decide +kernel
theorem dX10_readsGrade_20 : decode cX10_readsGrade 20 = .ok (.iand, 1) := by decide +kernel
theorem dX10_readsGrade_21 : decode cX10_readsGrade 21 = .ok (.iconst 1, 1) := by decide +kernel
theorem dX10_readsGrade_22 : decode cX10_readsGrade 22 = .ok (.if_icmp .ne 13, 3) := by decide +kernel
theorem dX10_readsGrade_25 : decode cX10_readsGrade 25 = .ok (.aload_n 0, 1) := by decide +kernel
theorem dX10_readsGrade_26 : decode cX10_readsGrade 26 = .ok (.aload_n 0, 1) := by decide +kernel
theorem dX10_readsGrade_27 : decode cX10_readsGrade 27 = .ok (.getfield 170, 3) := by decide +kernel
theorem dX10_readsGrade_30 : decode cX10_readsGrade 30 = .ok (.iconst 1, 1) := by decide +kernel
theorem dX10_readsGrade_31 : decode cX10_readsGrade 31 = .ok (.isub, 1) := by decide +kernel
theorem dX10_readsGrade_32 : decode cX10_readsGrade 32 = .ok (.invokevirtual 180, 3) := by decide +kernel
theorem dX10_readsGrade_35 : decode cX10_readsGrade 35 = .ok (.aload_n 0, 1) := by decide +kernel
theorem dX10_readsGrade_36 : decode cX10_readsGrade 36 = .ok (.bipush 119, 2) := by decide +kernel
theorem dX10_readsGrade_38 : decode cX10_readsGrade 38 = .ok (.invokevirtual 196, 3) := by decide +kernel
theorem dX10_readsGrade_41 : decode cX10_readsGrade 41 = .ok (.aload_n 0, 1) := by decide +kernel
theorem dX10_readsGrade_42 : decode cX10_readsGrade 42 = .ok (.iconst 0, 1) := by decide +kernel
theorem dX10_readsGrade_43 : decode cX10_readsGrade 43 = .ok (.sipush 999, 3) := by decide +kernel
theorem dX10_readsGrade_46 : decode cX10_readsGrade 46 = .ok (.iconst 3, 1) := by decide +kernel
theorem dX10_readsGrade_47 : decode cX10_readsGrade 47 = .ok (.invokevirtual 200, 3) := by decide +kernel
theorem dX10_readsGrade_50 : decode cX10_readsGrade 50 = .ok (.istore_n 2, 1) := by decide +kernel
theorem dX10_readsGrade_51 : decode cX10_readsGrade 51 = .ok (.aload_n 0, 1) := by decide +kernel
theorem dX10_readsGrade_52 : decode cX10_readsGrade 52 = .ok (.bipush 107, 2) := by decide +kernel
theorem dX10_readsGrade_54 : decode cX10_readsGrade 54 = .ok (.invokevirtual 196, 3) := by decide +kernel
theorem dX10_readsGrade_57 : decode cX10_readsGrade 57 = .ok (.aload_n 0, 1) := by decide +kernel
theorem dX10_readsGrade_58 : decode cX10_readsGrade 58 = .ok (.iconst 0, 1) := by decide +kernel
theorem dX10_readsGrade_59 : decode cX10_readsGrade 59 = .ok (.bipush 99, 2) := by decide +kernel
theorem dX10_readsGrade_61 : decode cX10_readsGrade 61 = .ok (.iconst 2, 1) := by decide +kernel
theorem dX10_readsGrade_62 : decode cX10_readsGrade 62 = .ok (.invokevirtual 200, 3) := by decide +kernel
theorem dX10_readsGrade_65 : decode cX10_readsGrade 65 = .ok (.istore_n 3, 1) := by decide +kernel
theorem dX10_readsGrade_66 : decode cX10_readsGrade 66 = .ok (.aload_n 0, 1) := by decide +kernel
theorem dX10_readsGrade_67 : decode cX10_readsGrade 67 = .ok (.dup, 1) := by decide +kernel
theorem dX10_readsGrade_68 : decode cX10_readsGrade 68 = .ok (.getfield 193, 3) := by decide +kernel
theorem dX10_readsGrade_71 : decode cX10_readsGrade 71 = .ok (.iconst 1, 1) := by decide +kernel
theorem dX10_readsGrade_72 : decode cX10_readsGrade 72 = .ok (.iload_n 1, 1) := by decide +kernel
theorem dX10_readsGrade_73 : decode cX10_readsGrade 73 = .ok (.ishl, 1) := by decide +kernel
theorem dX10_readsGrade_74 : decode cX10_readsGrade 74 = .ok (.ior, 1) := by decide +kernel
theorem dX10_readsGrade_75 : decode cX10_readsGrade 75 = .ok (.putfield 193, 3) := by decide +kernel
theorem dX10_readsGrade_78 : decode cX10_readsGrade 78 = .ok (.aload_n 0, 1) := by decide +kernel
theorem dX10_readsGrade_79 : decode cX10_readsGrade 79 = .ok (.getfield 39, 3) := by decide +kernel
theorem dX10_readsGrade_82 : decode cX10_readsGrade 82 = .ok (.iconst 0, 1) := by decide +kernel
theorem dX10_readsGrade_83 : decode cX10_readsGrade 83 = .ok (.iload_n 1, 1) := by decide +kernel
theorem dX10_readsGrade_84 : decode cX10_readsGrade 84 = .ok (.iadd, 1) := by decide +kernel
theorem dX10_readsGrade_85 : decode cX10_readsGrade 85 = .ok (.iload_n 2, 1) := by decide +kernel
theorem dX10_readsGrade_86 : decode cX10_readsGrade 86 = .ok (.iastore, 1) := by decide +kernel
theorem dX10_readsGrade_87 : decode cX10_readsGrade 87 = .ok (.aload_n 0, 1) := by decide +kernel
theorem dX10_readsGrade_88 : decode cX10_readsGrade 88 = .ok (.getfield 39, 3) := by decide +kernel
theorem dX10_readsGrade_91 : decode cX10_readsGrade 91 = .ok (.bipush 6, 2) := by decide +kernel
theorem dX10_readsGrade_93 : decode cX10_readsGrade 93 = .ok (.iload_n 1, 1) := by decide +kernel
theorem dX10_readsGrade_94 : decode cX10_readsGrade 94 = .ok (.iadd, 1) := by decide +kernel
theorem dX10_readsGrade_95 : decode cX10_readsGrade 95 = .ok (.iload_n 3, 1) := by decide +kernel
theorem dX10_readsGrade_96 : decode cX10_readsGrade 96 = .ok (.iastore, 1) := by decide +kernel
theorem dX10_readsGrade_97 : decode cX10_readsGrade 97 = .ok (.return_, 1) := by decide +kernel
theorem v_X10_readsGrade : yX10_readsGrade.cls = RX10 ∧ yX10_readsGrade.cls ≠ "java/lang/invoke/MethodHandle" ∧ yX10_readsGrade.cls ≠ "java/lang/invoke/VarHandle" ∧ (parseMethodDescriptor yX10_readsGrade.desc).map (fun d => d.parameters.length) = some 0 := ⟨rfl, by decide +kernel, by decide +kernel, by decide +kernel⟩
noncomputable def k_X10_readsGrade_84 (κ : gb_K) : gb_C := (o_ib (fun x y => x + y) (o_il 2 (o_iast (o_al 0 (o_gf 10 22 (o_ci 6 (o_il 1 (o_ib (fun x y => x + y) (o_il 3 (o_iast o_rv))))))))))
theorem l_X10_readsGrade_84 : gb_Li (fun κ => k_X10_readsGrade_84 κ) := (gb_li (q_ib _) (gb_li (q_il 2) (gb_li q_iast (gb_li (q_al 0) (gb_li (q_gf 10 22) (gb_li (q_ci 6) (gb_li (q_il 1) (gb_li (q_ib _) (gb_li (q_il 3) (gb_li q_iast (gb_li0 _)))))))))))
theorem s_X10_readsGrade_84   {κ : gb_K} (hκ : ∀ q, gb_S RX10 cX10_readsGrade 4 (gb_rm 2 50) 0 q (κ q)) : gb_S RX10 cX10_readsGrade 4 (gb_rm 2 50) 0 84 (k_X10_readsGrade_84 κ) := (s_iadd dX10_readsGrade_84 (s_iln 2 rfl dX10_readsGrade_85 (s_iast dX10_readsGrade_86 (s_aln 0 rfl dX10_readsGrade_87 (s_gf (T := TX10) winX10 rfl (Nat.le_of_ble_eq_true rfl) gw_657 rfl dX10_readsGrade_88 (s_bipush (by decide +kernel) dX10_readsGrade_91 (s_iln 1 rfl dX10_readsGrade_93 (s_iadd dX10_readsGrade_94 (s_iln 3 rfl dX10_readsGrade_95 (s_iast dX10_readsGrade_96 (s_rv rfl dX10_readsGrade_97)))))))))))
noncomputable def k_X10_readsGrade_35 (κ : gb_K) : gb_C := (o_al 0 (o_ci 119 (o_cv 1 10 0 f_X10_expect (o_al 0 (o_ci 0 (o_ci 999 (o_ci 3 (o_cv 3 10 1 f_X10_number (o_is 2 (o_al 0 (o_ci 107 (o_cv 1 10 0 f_X10_expect (o_al 0 (o_ci 0 (o_ci 99 (o_ci 2 (o_cv 3 10 1 f_X10_number (o_is 3 (o_al 0 (o_dup (o_gf 10 19 (o_ci 1 (o_il 1 (o_ib (fun x y => x <<< (y &&& 31)) (o_ib (fun x y => x ||| y) (o_pf 10 19 (o_al 0 (o_gf 10 22 (o_ci 0 (o_il 1 (k_X10_readsGrade_84 κ)))))))))))))))))))))))))))))))
theorem l_X10_readsGrade_35 : gb_Li (fun κ => k_X10_readsGrade_35 κ) := (gb_li (q_al 0) (gb_li (q_ci 119) (gb_li (q_cv 1 10 0 f_X10_expect) (gb_li (q_al 0) (gb_li (q_ci 0) (gb_li (q_ci 999) (gb_li (q_ci 3) (gb_li (q_cv 3 10 1 f_X10_number) (gb_li (q_is 2) (gb_li (q_al 0) (gb_li (q_ci 107) (gb_li (q_cv 1 10 0 f_X10_expect) (gb_li (q_al 0) (gb_li (q_ci 0) (gb_li (q_ci 99) (gb_li (q_ci 2) (gb_li (q_cv 3 10 1 f_X10_number) (gb_li (q_is 3) (gb_li (q_al 0) (gb_li q_dup (gb_li (q_gf 10 19) (gb_li (q_ci 1) (gb_li (q_il 1) (gb_li (q_ib _) (gb_li (q_ib _) (gb_li (q_pf 10 19) (gb_li (q_al 0) (gb_li (q_gf 10 22) (gb_li (q_ci 0) (gb_li (q_il 1) (l_X10_readsGrade_84)))))))))))))))))))))))))))))))
theorem s_X10_readsGrade_35   {κ : gb_K} (hκ : ∀ q, gb_S RX10 cX10_readsGrade 4 (gb_rm 2 50) 0 q (κ q)) : gb_S RX10 cX10_readsGrade 4 (gb_rm 2 50) 0 35 (k_X10_readsGrade_35 κ) := (s_aln 0 rfl dX10_readsGrade_35 (s_bipush (by decide +kernel) dX10_readsGrade_36 (s_cv (C := RX10) c_X10_expect rfl (gb_l5 gw_658 gw_659 gw_660 gw_553 gw_661) v_X10_expect ⟨rfl, rfl⟩ ⟨Nat.le_of_ble_eq_true rfl, Nat.le_of_ble_eq_true rfl⟩ dX10_readsGrade_38 (s_aln 0 rfl dX10_readsGrade_41 (s_iconst (by decide +kernel) dX10_readsGrade_42 (s_sipush (by decide +kernel) dX10_readsGrade_43 (s_iconst (by decide +kernel) dX10_readsGrade_46 (s_cv (C := RX10) c_X10_number rfl (gb_l5 gw_662 gw_663 gw_664 gw_553 gw_665) v_X10_number ⟨rfl, rfl⟩ ⟨Nat.le_of_ble_eq_true rfl, Nat.le_of_ble_eq_true rfl⟩ dX10_readsGrade_47 (s_isn 2 rfl (Nat.le_of_ble_eq_true rfl) dX10_readsGrade_50 (s_aln 0 rfl dX10_readsGrade_51 (s_bipush (by decide +kernel) dX10_readsGrade_52 (s_cv (C := RX10) c_X10_expect rfl (gb_l5 gw_658 gw_659 gw_660 gw_553 gw_661) v_X10_expect ⟨rfl, rfl⟩ ⟨Nat.le_of_ble_eq_true rfl, Nat.le_of_ble_eq_true rfl⟩ dX10_readsGrade_54 (s_aln 0 rfl dX10_readsGrade_57 (s_iconst (by decide +kernel) dX10_readsGrade_58 (s_bipush (by decide +kernel) dX10_readsGrade_59 (s_iconst (by decide +kernel) dX10_readsGrade_61 (s_cv (C := RX10) c_X10_number rfl (gb_l5 gw_662 gw_663 gw_664 gw_553 gw_665) v_X10_number ⟨rfl, rfl⟩ ⟨Nat.le_of_ble_eq_true rfl, Nat.le_of_ble_eq_true rfl⟩ dX10_readsGrade_62 (s_isn 3 rfl (Nat.le_of_ble_eq_true rfl) dX10_readsGrade_65 (s_aln 0 rfl dX10_readsGrade_66 (s_dup dX10_readsGrade_67 (s_gf (T := TX10) winX10 rfl (Nat.le_of_ble_eq_true rfl) gw_666 rfl dX10_readsGrade_68 (s_iconst (by decide +kernel) dX10_readsGrade_71 (s_iln 1 rfl dX10_readsGrade_72 (s_ishl dX10_readsGrade_73 (s_ior dX10_readsGrade_74 (s_pf (T := TX10) winX10 rfl (Nat.le_of_ble_eq_true rfl) tyX10_ok nmX10 rfl (by decide +kernel) gw_666 rfl dX10_readsGrade_75 (s_aln 0 rfl dX10_readsGrade_78 (s_gf (T := TX10) winX10 rfl (Nat.le_of_ble_eq_true rfl) gw_657 rfl dX10_readsGrade_79 (s_iconst (by decide +kernel) dX10_readsGrade_82 (s_iln 1 rfl dX10_readsGrade_83 (s_X10_readsGrade_84 hκ)))))))))))))))))))))))))))))))
noncomputable def k_X10_readsGrade_0 (κ : gb_K) : gb_C := (o_al 0 (o_cv 0 10 1 f_X10_gradeSign (o_is 1 (o_al 0 (o_gf 10 18 (o_ci (-1) (o_ceq (o_al 0 (o_gf 10 19 (o_il 1 (o_ib (fun x y => x >>> (y &&& 31)) (o_ci 1 (o_ib (fun x y => x &&& y) (o_ci 1 (o_ceq (o_al 0 (o_al 0 (o_gf 10 17 (o_ci 1 (o_ib (fun x y => x - y) (o_cv 1 10 0 f_X10_fault (k_X10_readsGrade_35 κ))))))) (k_X10_readsGrade_35 κ))))))))) (k_X10_readsGrade_35 κ))))))))
theorem l_X10_readsGrade_0 : gb_Li (fun κ => k_X10_readsGrade_0 κ) := (gb_li (q_al 0) (gb_li (q_cv 0 10 1 f_X10_gradeSign) (gb_li (q_is 1) (gb_li (q_al 0) (gb_li (q_gf 10 18) (gb_li (q_ci (-1)) (q_ceq (gb_li (q_al 0) (gb_li (q_gf 10 19) (gb_li (q_il 1) (gb_li (q_ib _) (gb_li (q_ci 1) (gb_li (q_ib _) (gb_li (q_ci 1) (q_ceq (gb_li (q_al 0) (gb_li (q_al 0) (gb_li (q_gf 10 17) (gb_li (q_ci 1) (gb_li (q_ib _) (gb_li (q_cv 1 10 0 f_X10_fault) (l_X10_readsGrade_35))))))) (l_X10_readsGrade_35))))))))) (l_X10_readsGrade_35))))))))
theorem s_X10_readsGrade_0   {κ : gb_K} (hκ : ∀ q, gb_S RX10 cX10_readsGrade 4 (gb_rm 2 50) 0 q (κ q)) : gb_S RX10 cX10_readsGrade 4 (gb_rm 2 50) 0 0 (k_X10_readsGrade_0 κ) := (s_aln 0 rfl dX10_readsGrade_0 (s_cv (C := RX10) c_X10_gradeSign rfl (gb_l5 gw_667 gw_668 gw_669 gw_553 gw_670) v_X10_gradeSign ⟨rfl, rfl⟩ ⟨Nat.le_of_ble_eq_true rfl, Nat.le_of_ble_eq_true rfl⟩ dX10_readsGrade_1 (s_isn 1 rfl (Nat.le_of_ble_eq_true rfl) dX10_readsGrade_4 (s_aln 0 rfl dX10_readsGrade_5 (s_gf (T := TX10) winX10 rfl (Nat.le_of_ble_eq_true rfl) gw_645 rfl dX10_readsGrade_6 (s_iconst (by decide +kernel) dX10_readsGrade_9 (s_cne (tgt := 35) (by decide +kernel) dX10_readsGrade_10 (s_X10_readsGrade_35 hκ) (s_aln 0 rfl dX10_readsGrade_13 (s_gf (T := TX10) winX10 rfl (Nat.le_of_ble_eq_true rfl) gw_666 rfl dX10_readsGrade_14 (s_iln 1 rfl dX10_readsGrade_17 (s_ishr dX10_readsGrade_18 (s_iconst (by decide +kernel) dX10_readsGrade_19 (s_iand dX10_readsGrade_20 (s_iconst (by decide +kernel) dX10_readsGrade_21 (s_cne (tgt := 35) (by decide +kernel) dX10_readsGrade_22 (s_X10_readsGrade_35 hκ) (s_aln 0 rfl dX10_readsGrade_25 (s_aln 0 rfl dX10_readsGrade_26 (s_gf (T := TX10) winX10 rfl (Nat.le_of_ble_eq_true rfl) gw_644 rfl dX10_readsGrade_27 (s_iconst (by decide +kernel) dX10_readsGrade_30 (s_isub dX10_readsGrade_31 (s_cv (C := RX10) c_X10_fault rfl (gb_l5 gw_650 gw_651 gw_652 gw_553 gw_653) v_X10_fault ⟨rfl, rfl⟩ ⟨Nat.le_of_ble_eq_true rfl, Nat.le_of_ble_eq_true rfl⟩ dX10_readsGrade_32 (s_X10_readsGrade_35 hκ))))))))))))))))))))))
noncomputable def f_X10_readsGrade : gb_F := gb_hide (gb_mf 4 (k_X10_readsGrade_0 gb_n))
theorem c_X10_readsGrade : ∀ l, gb_Met l yX10_readsGrade cX10_readsGrade 4 none 0 (gb_rm 2 50) f_X10_readsGrade := gb_hide_c (gb_met (own := RX10) (rk := 0) rfl (by decide +kernel) ⟨rfl, rfl⟩ (s_X10_readsGrade_0 gb_S_n))
theorem dX10_readsBin_0 : decode cX10_readsBin 0 = .ok (.aload_n 0, 1) := by decide +kernel
theorem dX10_readsBin_1 : decode cX10_readsBin 1 = .ok (.invokevirtual 190, 3) := by decide +kernel
theorem dX10_readsBin_4 : decode cX10_readsBin 4 = .ok (.istore_n 1, 1) := by decide +kernel
theorem dX10_readsBin_5 : decode cX10_readsBin 5 = .ok (.aload_n 0, 1) := by decide +kernel
theorem dX10_readsBin_6 : decode cX10_readsBin 6 = .ok (.getfield 173, 3) := by decide +kernel
theorem dX10_readsBin_9 : decode cX10_readsBin 9 = .ok (.iconst (-1), 1) := by decide +kernel
theorem dX10_readsBin_10 : decode cX10_readsBin 10 = .ok (.if_icmp .ne 25, 3) := by decide +kernel
theorem dX10_readsBin_13 : decode cX10_readsBin 13 = .ok (.aload_n 0, 1) := by decide +kernel
theorem dX10_readsBin_14 : decode cX10_readsBin 14 = .ok (.getfield 203, 3) := by decide +kernel
theorem dX10_readsBin_17 : decode cX10_readsBin 17 = .ok (.iload_n 1, 1) := by decide +kernel
theorem dX10_readsBin_18 : decode cX10_readsBin 18 = .ok (.ishr, 1) := by decide +kernel
theorem dX10_readsBin_19 : decode cX10_readsBin 19 = .ok (.iconst 1, 1) := by decide +kernel
theorem dX10_readsBin_20 : decode cX10_readsBin 20 = .ok (.iand, 1) := by decide +kernel
theorem dX10_readsBin_21 : decode cX10_readsBin 21 = .ok (.iconst 1, 1) := by decide +kernel
theorem dX10_readsBin_22 : decode cX10_readsBin 22 = .ok (.if_icmp .ne 13, 3) := by decide +kernel
theorem dX10_readsBin_25 : decode cX10_readsBin 25 = .ok (.aload_n 0, 1) := by decide +kernel
theorem dX10_readsBin_26 : decode cX10_readsBin 26 = .ok (.aload_n 0, 1) := by decide +kernel
theorem dX10_readsBin_27 : decode cX10_readsBin 27 = .ok (.getfield 170, 3) := by decide +kernel
theorem dX10_readsBin_30 : decode cX10_readsBin 30 = .ok (.iconst 1, 1) := by decide +kernel
theorem dX10_readsBin_31 : decode cX10_readsBin 31 = .ok (.isub, 1) := by decide +kernel
theorem dX10_readsBin_32 : decode cX10_readsBin 32 = .ok (.invokevirtual 180, 3) := by decide +kernel
theorem dX10_readsBin_35 : decode cX10_readsBin 35 = .ok (.aload_n 0, 1) := by decide +kernel
theorem dX10_readsBin_36 : decode cX10_readsBin 36 = .ok (.bipush 99, 2) := by decide +kernel
theorem dX10_readsBin_38 : decode cX10_readsBin 38 = .ok (.invokevirtual 196, 3) := by decide +kernel
theorem dX10_readsBin_41 : decode cX10_readsBin 41 = .ok (.aload_n 0, 1) := by decide +kernel
theorem dX10_readsBin_42 : decode cX10_readsBin 42 = .ok (.iconst 0, 1) := by decide +kernel
theorem dX10_readsBin_43 : decode cX10_readsBin 43 = .ok (.bipush 99, 2) := by decide +kernel
theorem dX10_readsBin_45 : decode cX10_readsBin 45 = .ok (.iconst 2, 1) := by decide +kernel
theorem dX10_readsBin_46 : decode cX10_readsBin 46 = .ok (.invokevirtual 200, 3) := by decide +kernel
theorem dX10_readsBin_49 : decode cX10_readsBin 49 = .ok (.istore_n 2, 1) := by decide +kernel
theorem dX10_readsBin_50 : decode cX10_readsBin 50 = .ok (.aload_n 0, 1) := by decide +kernel
theorem dX10_readsBin_51 : decode cX10_readsBin 51 = .ok (.dup, 1) := by decide +kernel
theorem dX10_readsBin_52 : decode cX10_readsBin 52 = .ok (.getfield 203, 3) := by decide +kernel
theorem dX10_readsBin_55 : decode cX10_readsBin 55 = .ok (.iconst 1, 1) := by decide +kernel
theorem dX10_readsBin_56 : decode cX10_readsBin 56 = .ok (.iload_n 1, 1) := by decide +kernel
theorem dX10_readsBin_57 : decode cX10_readsBin 57 = .ok (.ishl, 1) := by decide +kernel
theorem dX10_readsBin_58 : decode cX10_readsBin 58 = .ok (.ior, 1) := by decide +kernel
theorem dX10_readsBin_59 : decode cX10_readsBin 59 = .ok (.putfield 203, 3) := by decide +kernel
theorem dX10_readsBin_62 : decode cX10_readsBin 62 = .ok (.aload_n 0, 1) := by decide +kernel
theorem dX10_readsBin_63 : decode cX10_readsBin 63 = .ok (.getfield 39, 3) := by decide +kernel
theorem dX10_readsBin_66 : decode cX10_readsBin 66 = .ok (.bipush 48, 2) := by decide +kernel
theorem dX10_readsBin_68 : decode cX10_readsBin 68 = .ok (.iload_n 1, 1) := by decide +kernel
theorem dX10_readsBin_69 : decode cX10_readsBin 69 = .ok (.iadd, 1) := by decide +kernel
theorem dX10_readsBin_70 : decode cX10_readsBin 70 = .ok (.iload_n 2, 1) := by decide +kernel
theorem dX10_readsBin_71 : decode cX10_readsBin 71 = .ok (.iastore, 1) := by decide +kernel
theorem dX10_readsBin_72 : decode cX10_readsBin 72 = .ok (.return_, 1) := by decide +kernel
theorem v_X10_readsBin : yX10_readsBin.cls = RX10 ∧ yX10_readsBin.cls ≠ "java/lang/invoke/MethodHandle" ∧ yX10_readsBin.cls ≠ "java/lang/invoke/VarHandle" ∧ (parseMethodDescriptor yX10_readsBin.desc).map (fun d => d.parameters.length) = some 0 := ⟨rfl, by decide +kernel, by decide +kernel, by decide +kernel⟩
noncomputable def k_X10_readsBin_35 (κ : gb_K) : gb_C := (o_al 0 (o_ci 99 (o_cv 1 10 0 f_X10_expect (o_al 0 (o_ci 0 (o_ci 99 (o_ci 2 (o_cv 3 10 1 f_X10_number (o_is 2 (o_al 0 (o_dup (o_gf 10 20 (o_ci 1 (o_il 1 (o_ib (fun x y => x <<< (y &&& 31)) (o_ib (fun x y => x ||| y) (o_pf 10 20 (o_al 0 (o_gf 10 22 (o_ci 48 (o_il 1 (o_ib (fun x y => x + y) (o_il 2 (o_iast o_rv))))))))))))))))))))))))
theorem l_X10_readsBin_35 : gb_Li (fun κ => k_X10_readsBin_35 κ) := (gb_li (q_al 0) (gb_li (q_ci 99) (gb_li (q_cv 1 10 0 f_X10_expect) (gb_li (q_al 0) (gb_li (q_ci 0) (gb_li (q_ci 99) (gb_li (q_ci 2) (gb_li (q_cv 3 10 1 f_X10_number) (gb_li (q_is 2) (gb_li (q_al 0) (gb_li q_dup (gb_li (q_gf 10 20) (gb_li (q_ci 1) (gb_li (q_il 1) (gb_li (q_ib _) (gb_li (q_ib _) (gb_li (q_pf 10 20) (gb_li (q_al 0) (gb_li (q_gf 10 22) (gb_li (q_ci 48) (gb_li (q_il 1) (gb_li (q_ib _) (gb_li (q_il 2) (gb_li q_iast (gb_li0 _)))))))))))))))))))))))))
theorem s_X10_readsBin_35   {κ : gb_K} (hκ : ∀ q, gb_S RX10 cX10_readsBin 3 (gb_rm 2 50) 0 q (κ q)) : gb_S RX10 cX10_readsBin 3 (gb_rm 2 50) 0 35 (k_X10_readsBin_35 κ) := (s_aln 0 rfl dX10_readsBin_35 (s_bipush (by decide +kernel) dX10_readsBin_36 (s_cv (C := RX10) c_X10_expect rfl (gb_l5 gw_658 gw_659 gw_660 gw_553 gw_661) v_X10_expect ⟨rfl, rfl⟩ ⟨Nat.le_of_ble_eq_true rfl, Nat.le_of_ble_eq_true rfl⟩ dX10_readsBin_38 (s_aln 0 rfl dX10_readsBin_41 (s_iconst (by decide +kernel) dX10_readsBin_42 (s_bipush (by decide +kernel) dX10_readsBin_43 (s_iconst (by decide +kernel) dX10_readsBin_45 (s_cv (C := RX10) c_X10_number rfl (gb_l5 gw_662 gw_663 gw_664 gw_553 gw_665) v_X10_number ⟨rfl, rfl⟩ ⟨Nat.le_of_ble_eq_true rfl, Nat.le_of_ble_eq_true rfl⟩ dX10_readsBin_46 (s_isn 2 rfl (Nat.le_of_ble_eq_true rfl) dX10_readsBin_49 (s_aln 0 rfl dX10_readsBin_50 (s_dup dX10_readsBin_51 (s_gf (T := TX10) winX10 rfl (Nat.le_of_ble_eq_true rfl) gw_671 rfl dX10_readsBin_52 (s_iconst (by decide +kernel) dX10_readsBin_55 (s_iln 1 rfl dX10_readsBin_56 (s_ishl dX10_readsBin_57 (s_ior dX10_readsBin_58 (s_pf (T := TX10) winX10 rfl (Nat.le_of_ble_eq_true rfl) tyX10_ok nmX10 rfl (by decide +kernel) gw_671 rfl dX10_readsBin_59 (s_aln 0 rfl dX10_readsBin_62 (s_gf (T := TX10) winX10 rfl (Nat.le_of_ble_eq_true rfl) gw_657 rfl dX10_readsBin_63 (s_bipush (by decide +kernel) dX10_readsBin_66 (s_iln 1 rfl dX10_readsBin_68 (s_iadd dX10_readsBin_69 (s_iln 2 rfl dX10_readsBin_70 (s_iast dX10_readsBin_71 (s_rv rfl dX10_readsBin_72)))))))))))))))))))))))))
noncomputable def k_X10_readsBin_0 (κ : gb_K) : gb_C := (o_al 0 (o_cv 0 10 1 f_X10_gradeSign (o_is 1 (o_al 0 (o_gf 10 18 (o_ci (-1) (o_ceq (o_al 0 (o_gf 10 20 (o_il 1 (o_ib (fun x y => x >>> (y &&& 31)) (o_ci 1 (o_ib (fun x y => x &&& y) (o_ci 1 (o_ceq (o_al 0 (o_al 0 (o_gf 10 17 (o_ci 1 (o_ib (fun x y => x - y) (o_cv 1 10 0 f_X10_fault (k_X10_readsBin_35 κ))))))) (k_X10_readsBin_35 κ))))))))) (k_X10_readsBin_35 κ))))))))
theorem l_X10_readsBin_0 : gb_Li (fun κ => k_X10_readsBin_0 κ) := (gb_li (q_al 0) (gb_li (q_cv 0 10 1 f_X10_gradeSign) (gb_li (q_is 1) (gb_li (q_al 0) (gb_li (q_gf 10 18) (gb_li (q_ci (-1)) (q_ceq (gb_li (q_al 0) (gb_li (q_gf 10 20) (gb_li (q_il 1) (gb_li (q_ib _) (gb_li (q_ci 1) (gb_li (q_ib _) (gb_li (q_ci 1) (q_ceq (gb_li (q_al 0) (gb_li (q_al 0) (gb_li (q_gf 10 17) (gb_li (q_ci 1) (gb_li (q_ib _) (gb_li (q_cv 1 10 0 f_X10_fault) (l_X10_readsBin_35))))))) (l_X10_readsBin_35))))))))) (l_X10_readsBin_35))))))))
theorem s_X10_readsBin_0   {κ : gb_K} (hκ : ∀ q, gb_S RX10 cX10_readsBin 3 (gb_rm 2 50) 0 q (κ q)) : gb_S RX10 cX10_readsBin 3 (gb_rm 2 50) 0 0 (k_X10_readsBin_0 κ) := (s_aln 0 rfl dX10_readsBin_0 (s_cv (C := RX10) c_X10_gradeSign rfl (gb_l5 gw_667 gw_668 gw_669 gw_553 gw_670) v_X10_gradeSign ⟨rfl, rfl⟩ ⟨Nat.le_of_ble_eq_true rfl, Nat.le_of_ble_eq_true rfl⟩ dX10_readsBin_1 (s_isn 1 rfl (Nat.le_of_ble_eq_true rfl) dX10_readsBin_4 (s_aln 0 rfl dX10_readsBin_5 (s_gf (T := TX10) winX10 rfl (Nat.le_of_ble_eq_true rfl) gw_645 rfl dX10_readsBin_6 (s_iconst (by decide +kernel) dX10_readsBin_9 (s_cne (tgt := 35) (by decide +kernel) dX10_readsBin_10 (s_X10_readsBin_35 hκ) (s_aln 0 rfl dX10_readsBin_13 (s_gf (T := TX10) winX10 rfl (Nat.le_of_ble_eq_true rfl) gw_671 rfl dX10_readsBin_14 (s_iln 1 rfl dX10_readsBin_17 (s_ishr dX10_readsBin_18 (s_iconst (by decide +kernel) dX10_readsBin_19 (s_iand dX10_readsBin_20 (s_iconst (by decide +kernel) dX10_readsBin_21 (s_cne (tgt := 35) (by decide +kernel) dX10_readsBin_22 (s_X10_readsBin_35 hκ) (s_aln 0 rfl dX10_readsBin_25 (s_aln 0 rfl dX10_readsBin_26 (s_gf (T := TX10) winX10 rfl (Nat.le_of_ble_eq_true rfl) gw_644 rfl dX10_readsBin_27 (s_iconst (by decide +kernel) dX10_readsBin_30 (s_isub dX10_readsBin_31 (s_cv (C := RX10) c_X10_fault rfl (gb_l5 gw_650 gw_651 gw_652 gw_553 gw_653) v_X10_fault ⟨rfl, rfl⟩ ⟨Nat.le_of_ble_eq_true rfl, Nat.le_of_ble_eq_true rfl⟩ dX10_readsBin_32 (s_X10_readsBin_35 hκ))))))))))))))))))))))
noncomputable def f_X10_readsBin : gb_F := gb_hide (gb_mf 3 (k_X10_readsBin_0 gb_n))
theorem c_X10_readsBin : ∀ l, gb_Met l yX10_readsBin cX10_readsBin 3 none 0 (gb_rm 2 50) f_X10_readsBin := gb_hide_c (gb_met (own := RX10) (rk := 0) rfl (by decide +kernel) ⟨rfl, rfl⟩ (s_X10_readsBin_0 gb_S_n))
theorem dX10_readsPair_0 : decode cX10_readsPair 0 = .ok (.aload_n 0, 1) := by decide +kernel
theorem dX10_readsPair_1 : decode cX10_readsPair 1 = .ok (.invokevirtual 190, 3) := by decide +kernel
theorem dX10_readsPair_4 : decode cX10_readsPair 4 = .ok (.istore_n 2, 1) := by decide +kernel
theorem dX10_readsPair_5 : decode cX10_readsPair 5 = .ok (.aload_n 0, 1) := by decide +kernel
theorem dX10_readsPair_6 : decode cX10_readsPair 6 = .ok (.invokevirtual 190, 3) := by decide +kernel
theorem dX10_readsPair_9 : decode cX10_readsPair 9 = .ok (.istore_n 3, 1) := by decide +kernel
theorem dX10_readsPair_10 : decode cX10_readsPair 10 = .ok (.bipush 6, 2) := by decide +kernel
theorem dX10_readsPair_12 : decode cX10_readsPair 12 = .ok (.iload_n 2, 1) := by decide +kernel
theorem dX10_readsPair_13 : decode cX10_readsPair 13 = .ok (.iload_n 3, 1) := by decide +kernel
theorem dX10_readsPair_14 : decode cX10_readsPair 14 = .ok (.invokestatic 116, 3) := by decide +kernel
theorem dX10_readsPair_17 : decode cX10_readsPair 17 = .ok (.imul, 1) := by decide +kernel
theorem dX10_readsPair_18 : decode cX10_readsPair 18 = .ok (.iload_n 2, 1) := by decide +kernel
theorem dX10_readsPair_19 : decode cX10_readsPair 19 = .ok (.iload_n 3, 1) := by decide +kernel
theorem dX10_readsPair_20 : decode cX10_readsPair 20 = .ok (.invokestatic 101, 3) := by decide +kernel
theorem dX10_readsPair_23 : decode cX10_readsPair 23 = .ok (.iadd, 1) := by decide +kernel
theorem dX10_readsPair_24 : decode cX10_readsPair 24 = .ok (.istore 4, 2) := by decide +kernel
theorem dX10_readsPair_26 : decode cX10_readsPair 26 = .ok (.aload_n 0, 1) := by decide +kernel
theorem dX10_readsPair_27 : decode cX10_readsPair 27 = .ok (.getfield 173, 3) := by decide +kernel
theorem dX10_readsPair_30 : decode cX10_readsPair 30 = .ok (.iconst (-1), 1) := by decide +kernel
theorem dX10_readsPair_31 : decode cX10_readsPair 31 = .ok (.if_icmp .ne 32, 3) := by decide +kernel
theorem dX10_readsPair_34 : decode cX10_readsPair 34 = .ok (.iload_n 2, 1) := by decide +kernel
theorem dX10_readsPair_35 : decode cX10_readsPair 35 = .ok (.iload_n 3, 1) := by decide +kernel
theorem dX10_readsPair_36 : decode cX10_readsPair 36 = .ok (.if_icmp .eq 17, 3) := by decide +kernel
theorem dX10_readsPair_39 : decode cX10_readsPair 39 = .ok (.aload_n 0, 1) := by decide +kernel
theorem dX10_readsPair_40 : decode cX10_readsPair 40 = .ok (.getfield 206, 3) := by decide +kernel
theorem dX10_readsPair_43 : decode cX10_readsPair 43 = .ok (.iload 4, 2) := by decide +kernel
theorem dX10_readsPair_45 : decode cX10_readsPair 45 = .ok (.lshr, 1) := by decide +kernel
theorem dX10_readsPair_46 : decode cX10_readsPair 46 = .ok (.lconst 1, 1) := by decide +kernel
theorem dX10_readsPair_47 : decode cX10_readsPair 47 = .ok (.land, 1) := by decide +kernel
theorem dX10_readsPair_48 : decode cX10_readsPair 48 = .ok (.lconst 1, 1) := by decide +kernel
theorem dX10_readsPair_49 : decode cX10_readsPair 49 = .ok (.lcmp, 1) := by decide +kernel
theorem dX10_readsPair_50 : decode cX10_readsPair 50 = .ok (.ifCond .ne 13, 3) := by decide +kernel
theorem dX10_readsPair_53 : decode cX10_readsPair 53 = .ok (.aload_n 0, 1) := by decide +kernel
theorem dX10_readsPair_54 : decode cX10_readsPair 54 = .ok (.aload_n 0, 1) := by decide +kernel
theorem dX10_readsPair_55 : decode cX10_readsPair 55 = .ok (.getfield 170, 3) := by decide +kernel
theorem dX10_readsPair_58 : decode cX10_readsPair 58 = .ok (.iconst 1, 1) := by decide +kernel
theorem dX10_readsPair_59 : decode cX10_readsPair 59 = .ok (.isub, 1) := by decide +kernel
theorem dX10_readsPair_60 : decode cX10_readsPair 60 = .ok (.invokevirtual 180, 3) := by decide +kernel
theorem dX10_readsPair_63 : decode cX10_readsPair 63 = .ok (.iload_n 1, 1) := by decide +kernel
theorem dX10_readsPair_64 : decode cX10_readsPair 64 = .ok (.ifCond .eq 7, 3) := by decide +kernel
theorem dX10_readsPair_67 : decode cX10_readsPair 67 = .ok (.iconst (-1), 1) := by decide +kernel
theorem dX10_readsPair_68 : decode cX10_readsPair 68 = .ok (.goto 11, 3) := by decide +kernel
theorem dX10_readsPair_71 : decode cX10_readsPair 71 = .ok (.aload_n 0, 1) := by decide +kernel
theorem dX10_readsPair_72 : decode cX10_readsPair 72 = .ok (.iconst 1, 1) := by decide +kernel
theorem dX10_readsPair_73 : decode cX10_readsPair 73 = .ok (.bipush 99, 2) := by decide +kernel
theorem dX10_readsPair_75 : decode cX10_readsPair 75 = .ok (.iconst 2, 1) := by decide +kernel
theorem dX10_readsPair_76 : decode cX10_readsPair 76 = .ok (.invokevirtual 200, 3) := by decide +kernel
theorem dX10_readsPair_79 : decode cX10_readsPair 79 = .ok (.istore 5, 2) := by decide +kernel
theorem dX10_readsPair_81 : decode cX10_readsPair 81 = .ok (.aload_n 0, 1) := by decide +kernel
theorem dX10_readsPair_82 : decode cX10_readsPair 82 = .ok (.getfield 173, 3) := by decide +kernel
theorem dX10_readsPair_85 : decode cX10_readsPair 85 = .ok (.iconst (-1), 1) := by decide +kernel
theorem dX10_readsPair_86 : decode cX10_readsPair 86 = .ok (.if_icmp .eq 4, 3) := by decide +kernel
theorem dX10_readsPair_89 : decode cX10_readsPair 89 = .ok (.return_, 1) := by decide +kernel
theorem dX10_readsPair_90 : decode cX10_readsPair 90 = .ok (.aload_n 0, 1) := by decide +kernel
theorem dX10_readsPair_91 : decode cX10_readsPair 91 = .ok (.dup, 1) := by decide +kernel
theorem dX10_readsPair_92 : decode cX10_readsPair 92 = .ok (.getfield 206, 3) := by decide +kernel
theorem dX10_readsPair_95 : decode cX10_readsPair 95 = .ok (.lconst 1, 1) := by decide +kernel
theorem dX10_readsPair_96 : decode cX10_readsPair 96 = .ok (.iload 4, 2) := by decide +kernel
theorem dX10_readsPair_98 : decode cX10_readsPair 98 = .ok (.lshl, 1) := by decide +kernel
theorem dX10_readsPair_99 : decode cX10_readsPair 99 = .ok (.lor, 1) := by decide +kernel
theorem dX10_readsPair_100 : decode cX10_readsPair 100 = .ok (.putfield 206, 3) := by decide +kernel
theorem dX10_readsPair_103 : decode cX10_readsPair 103 = .ok (.aload_n 0, 1) := by decide +kernel
theorem dX10_readsPair_104 : decode cX10_readsPair 104 = .ok (.getfield 39, 3) := by decide +kernel
theorem dX10_readsPair_107 : decode cX10_readsPair 107 = .ok (.bipush 12, 2) := by decide +kernel
theorem dX10_readsPair_109 : decode cX10_readsPair 109 = .ok (.bipush 6, 2) := by decide +kernel
theorem dX10_readsPair_111 : decode cX10_readsPair 111 = .ok (.iload_n 2, 1) := by decide +kernel
theorem dX10_readsPair_112 : decode cX10_readsPair 112 = .ok (.imul, 1) := by decide +kernel
theorem dX10_readsPair_113 : decode cX10_readsPair 113 = .ok (.iadd, 1) := by decide +kernel
theorem dX10_readsPair_114 : decode cX10_readsPair 114 = .ok (.iload_n 3, 1) := by decide +kernel
theorem dX10_readsPair_115 : decode cX10_readsPair 115 = .ok (.iadd, 1) := by decide +kernel
theorem dX10_readsPair_116 : decode cX10_readsPair 116 = .ok (.iload 5, 2) := by decide +kernel
theorem dX10_readsPair_118 : decode cX10_readsPair 118 = .ok (.iastore, 1) := by decide +kernel
theorem dX10_readsPair_119 : decode cX10_readsPair 119 = .ok (.aload_n 0, 1) := by decide +kernel
theorem dX10_readsPair_120 : decode cX10_readsPair 120 = .ok (.getfield 39, 3) := by decide +kernel
theorem dX10_readsPair_123 : decode cX10_readsPair 123 = .ok (.bipush 12, 2) := by decide +kernel
theorem dX10_readsPair_125 : decode cX10_readsPair 125 = .ok (.bipush 6, 2) := by decide +kernel
theorem dX10_readsPair_127 : decode cX10_readsPair 127 = .ok (.iload_n 3, 1) := by decide +kernel
theorem dX10_readsPair_128 : decode cX10_readsPair 128 = .ok (.imul, 1) := by decide +kernel
theorem dX10_readsPair_129 : decode cX10_readsPair 129 = .ok (.iadd, 1) := by decide +kernel
theorem dX10_readsPair_130 : decode cX10_readsPair 130 = .ok (.iload_n 2, 1) := by decide +kernel
theorem dX10_readsPair_131 : decode cX10_readsPair 131 = .ok (.iadd, 1) := by decide +kernel
theorem dX10_readsPair_132 : decode cX10_readsPair 132 = .ok (.iload 5, 2) := by decide +kernel
theorem dX10_readsPair_134 : decode cX10_readsPair 134 = .ok (.iastore, 1) := by decide +kernel
theorem dX10_readsPair_135 : decode cX10_readsPair 135 = .ok (.return_, 1) := by decide +kernel
theorem v_X10_readsPair : yX10_readsPair.cls = RX10 ∧ yX10_readsPair.cls ≠ "java/lang/invoke/MethodHandle" ∧ yX10_readsPair.cls ≠ "java/lang/invoke/VarHandle" ∧ (parseMethodDescriptor yX10_readsPair.desc).map (fun d => d.parameters.length) = some 1 := ⟨rfl, by decide +kernel, by decide +kernel, by decide +kernel⟩
noncomputable def k_X10_readsPair_129 (κ : gb_K) : gb_C := (o_ib (fun x y => x + y) (o_il 2 (o_ib (fun x y => x + y) (o_il 5 (o_iast o_rv)))))
theorem l_X10_readsPair_129 : gb_Li (fun κ => k_X10_readsPair_129 κ) := (gb_li (q_ib _) (gb_li (q_il 2) (gb_li (q_ib _) (gb_li (q_il 5) (gb_li q_iast (gb_li0 _))))))
theorem s_X10_readsPair_129   {κ : gb_K} (hκ : ∀ q, gb_S RX10 cX10_readsPair 6 (gb_rm 2 50) 0 q (κ q)) : gb_S RX10 cX10_readsPair 6 (gb_rm 2 50) 0 129 (k_X10_readsPair_129 κ) := (s_iadd dX10_readsPair_129 (s_iln 2 rfl dX10_readsPair_130 (s_iadd dX10_readsPair_131 (s_il dX10_readsPair_132 (s_iast dX10_readsPair_134 (s_rv rfl dX10_readsPair_135))))))
noncomputable def k_X10_readsPair_79 (κ : gb_K) : gb_C := (o_is 5 (o_al 0 (o_gf 10 18 (o_ci (-1) (o_ceq (o_al 0 (o_dup (o_gf 10 21 (o_cl 1 (o_il 4 (o_lsh (fun x y => x <<< (y.toInt64 &&& 63)) (o_lb (fun x y => x ||| y) (o_pl 10 21 (o_al 0 (o_gf 10 22 (o_ci 12 (o_ci 6 (o_il 2 (o_ib (fun x y => x * y) (o_ib (fun x y => x + y) (o_il 3 (o_ib (fun x y => x + y) (o_il 5 (o_iast (o_al 0 (o_gf 10 22 (o_ci 12 (o_ci 6 (o_il 3 (o_ib (fun x y => x * y) (k_X10_readsPair_129 κ)))))))))))))))))))))))))) o_rv)))))
theorem l_X10_readsPair_79 : gb_Li (fun κ => k_X10_readsPair_79 κ) := (gb_li (q_is 5) (gb_li (q_al 0) (gb_li (q_gf 10 18) (gb_li (q_ci (-1)) (q_ceq (gb_li (q_al 0) (gb_li q_dup (gb_li (q_gf 10 21) (gb_li (q_cl 1) (gb_li (q_il 4) (gb_li (q_lsh _) (gb_li (q_lb _) (gb_li (q_pl 10 21) (gb_li (q_al 0) (gb_li (q_gf 10 22) (gb_li (q_ci 12) (gb_li (q_ci 6) (gb_li (q_il 2) (gb_li (q_ib _) (gb_li (q_ib _) (gb_li (q_il 3) (gb_li (q_ib _) (gb_li (q_il 5) (gb_li q_iast (gb_li (q_al 0) (gb_li (q_gf 10 22) (gb_li (q_ci 12) (gb_li (q_ci 6) (gb_li (q_il 3) (gb_li (q_ib _) (l_X10_readsPair_129)))))))))))))))))))))))))) (gb_li0 _))))))
theorem s_X10_readsPair_79   {κ : gb_K} (hκ : ∀ q, gb_S RX10 cX10_readsPair 6 (gb_rm 2 50) 0 q (κ q)) : gb_S RX10 cX10_readsPair 6 (gb_rm 2 50) 0 79 (k_X10_readsPair_79 κ) := (s_is (Nat.le_of_ble_eq_true rfl) dX10_readsPair_79 (s_aln 0 rfl dX10_readsPair_81 (s_gf (T := TX10) winX10 rfl (Nat.le_of_ble_eq_true rfl) gw_645 rfl dX10_readsPair_82 (s_iconst (by decide +kernel) dX10_readsPair_85 (s_ceq (tgt := 90) (by decide +kernel) dX10_readsPair_86 (s_aln 0 rfl dX10_readsPair_90 (s_dup dX10_readsPair_91 (s_gf (T := TX10) winX10 rfl (Nat.le_of_ble_eq_true rfl) gw_672 rfl dX10_readsPair_92 (s_lconst (by decide +kernel) dX10_readsPair_95 (s_il dX10_readsPair_96 (s_lshl dX10_readsPair_98 (s_lor dX10_readsPair_99 (s_pl (T := TX10) winX10 rfl (Nat.le_of_ble_eq_true rfl) tyX10_ok nmX10 rfl (by decide +kernel) gw_672 rfl dX10_readsPair_100 (s_aln 0 rfl dX10_readsPair_103 (s_gf (T := TX10) winX10 rfl (Nat.le_of_ble_eq_true rfl) gw_657 rfl dX10_readsPair_104 (s_bipush (by decide +kernel) dX10_readsPair_107 (s_bipush (by decide +kernel) dX10_readsPair_109 (s_iln 2 rfl dX10_readsPair_111 (s_imul dX10_readsPair_112 (s_iadd dX10_readsPair_113 (s_iln 3 rfl dX10_readsPair_114 (s_iadd dX10_readsPair_115 (s_il dX10_readsPair_116 (s_iast dX10_readsPair_118 (s_aln 0 rfl dX10_readsPair_119 (s_gf (T := TX10) winX10 rfl (Nat.le_of_ble_eq_true rfl) gw_657 rfl dX10_readsPair_120 (s_bipush (by decide +kernel) dX10_readsPair_123 (s_bipush (by decide +kernel) dX10_readsPair_125 (s_iln 3 rfl dX10_readsPair_127 (s_imul dX10_readsPair_128 (s_X10_readsPair_129 hκ)))))))))))))))))))))))))) (s_rv rfl dX10_readsPair_89))))))
noncomputable def k_X10_readsPair_63 (κ : gb_K) : gb_C := (o_il 1 (o_zeq (o_al 0 (o_ci 1 (o_ci 99 (o_ci 2 (o_cv 3 10 1 f_X10_number (k_X10_readsPair_79 κ)))))) (o_ci (-1) (k_X10_readsPair_79 κ))))
theorem l_X10_readsPair_63 : gb_Li (fun κ => k_X10_readsPair_63 κ) := (gb_li (q_il 1) (q_zeq (gb_li (q_al 0) (gb_li (q_ci 1) (gb_li (q_ci 99) (gb_li (q_ci 2) (gb_li (q_cv 3 10 1 f_X10_number) (l_X10_readsPair_79)))))) (gb_li (q_ci (-1)) (l_X10_readsPair_79))))
theorem s_X10_readsPair_63   {κ : gb_K} (hκ : ∀ q, gb_S RX10 cX10_readsPair 6 (gb_rm 2 50) 0 q (κ q)) : gb_S RX10 cX10_readsPair 6 (gb_rm 2 50) 0 63 (k_X10_readsPair_63 κ) := (s_iln 1 rfl dX10_readsPair_63 (s_zeq (tgt := 71) (by decide +kernel) dX10_readsPair_64 (s_aln 0 rfl dX10_readsPair_71 (s_iconst (by decide +kernel) dX10_readsPair_72 (s_bipush (by decide +kernel) dX10_readsPair_73 (s_iconst (by decide +kernel) dX10_readsPair_75 (s_cv (C := RX10) c_X10_number rfl (gb_l5 gw_662 gw_663 gw_664 gw_553 gw_665) v_X10_number ⟨rfl, rfl⟩ ⟨Nat.le_of_ble_eq_true rfl, Nat.le_of_ble_eq_true rfl⟩ dX10_readsPair_76 (s_X10_readsPair_79 hκ)))))) (s_iconst (by decide +kernel) dX10_readsPair_67 (s_goto (tgt := 79) (by decide +kernel) dX10_readsPair_68 (s_X10_readsPair_79 hκ)))))
noncomputable def k_X10_readsPair_53 (κ : gb_K) : gb_C := (o_al 0 (o_al 0 (o_gf 10 17 (o_ci 1 (o_ib (fun x y => x - y) (o_cv 1 10 0 f_X10_fault (k_X10_readsPair_63 κ)))))))
theorem l_X10_readsPair_53 : gb_Li (fun κ => k_X10_readsPair_53 κ) := (gb_li (q_al 0) (gb_li (q_al 0) (gb_li (q_gf 10 17) (gb_li (q_ci 1) (gb_li (q_ib _) (gb_li (q_cv 1 10 0 f_X10_fault) (l_X10_readsPair_63)))))))
theorem s_X10_readsPair_53   {κ : gb_K} (hκ : ∀ q, gb_S RX10 cX10_readsPair 6 (gb_rm 2 50) 0 q (κ q)) : gb_S RX10 cX10_readsPair 6 (gb_rm 2 50) 0 53 (k_X10_readsPair_53 κ) := (s_aln 0 rfl dX10_readsPair_53 (s_aln 0 rfl dX10_readsPair_54 (s_gf (T := TX10) winX10 rfl (Nat.le_of_ble_eq_true rfl) gw_644 rfl dX10_readsPair_55 (s_iconst (by decide +kernel) dX10_readsPair_58 (s_isub dX10_readsPair_59 (s_cv (C := RX10) c_X10_fault rfl (gb_l5 gw_650 gw_651 gw_652 gw_553 gw_653) v_X10_fault ⟨rfl, rfl⟩ ⟨Nat.le_of_ble_eq_true rfl, Nat.le_of_ble_eq_true rfl⟩ dX10_readsPair_60 (s_X10_readsPair_63 hκ)))))))
noncomputable def k_X10_readsPair_49 (κ : gb_K) : gb_C := (o_lcmp (o_zeq (k_X10_readsPair_53 κ) (k_X10_readsPair_63 κ)))
theorem l_X10_readsPair_49 : gb_Li (fun κ => k_X10_readsPair_49 κ) := (gb_li q_lcmp (q_zeq (l_X10_readsPair_53) (l_X10_readsPair_63)))
theorem s_X10_readsPair_49   {κ : gb_K} (hκ : ∀ q, gb_S RX10 cX10_readsPair 6 (gb_rm 2 50) 0 q (κ q)) : gb_S RX10 cX10_readsPair 6 (gb_rm 2 50) 0 49 (k_X10_readsPair_49 κ) := (s_lcmp dX10_readsPair_49 (s_zne (tgt := 63) (by decide +kernel) dX10_readsPair_50 (s_X10_readsPair_63 hκ) (s_X10_readsPair_53 hκ)))
noncomputable def k_X10_readsPair_0 (κ : gb_K) : gb_C := (o_al 0 (o_cv 0 10 1 f_X10_gradeSign (o_is 2 (o_al 0 (o_cv 0 10 1 f_X10_gradeSign (o_is 3 (o_ci 6 (o_il 2 (o_il 3 (o_mmin (o_ib (fun x y => x * y) (o_il 2 (o_il 3 (o_mmax (o_ib (fun x y => x + y) (o_is 4 (o_al 0 (o_gf 10 18 (o_ci (-1) (o_ceq (o_il 2 (o_il 3 (o_ceq (k_X10_readsPair_53 κ) (o_al 0 (o_gf 10 21 (o_il 4 (o_lsh (fun x y => x >>> (y.toInt64 &&& 63)) (o_cl 1 (o_lb (fun x y => x &&& y) (o_cl 1 (k_X10_readsPair_49 κ))))))))))) (k_X10_readsPair_63 κ)))))))))))))))))))))
theorem l_X10_readsPair_0 : gb_Li (fun κ => k_X10_readsPair_0 κ) := (gb_li (q_al 0) (gb_li (q_cv 0 10 1 f_X10_gradeSign) (gb_li (q_is 2) (gb_li (q_al 0) (gb_li (q_cv 0 10 1 f_X10_gradeSign) (gb_li (q_is 3) (gb_li (q_ci 6) (gb_li (q_il 2) (gb_li (q_il 3) (gb_li q_mmin (gb_li (q_ib _) (gb_li (q_il 2) (gb_li (q_il 3) (gb_li q_mmax (gb_li (q_ib _) (gb_li (q_is 4) (gb_li (q_al 0) (gb_li (q_gf 10 18) (gb_li (q_ci (-1)) (q_ceq (gb_li (q_il 2) (gb_li (q_il 3) (q_ceq (l_X10_readsPair_53) (gb_li (q_al 0) (gb_li (q_gf 10 21) (gb_li (q_il 4) (gb_li (q_lsh _) (gb_li (q_cl 1) (gb_li (q_lb _) (gb_li (q_cl 1) (l_X10_readsPair_49))))))))))) (l_X10_readsPair_63)))))))))))))))))))))
theorem s_X10_readsPair_0   {κ : gb_K} (hκ : ∀ q, gb_S RX10 cX10_readsPair 6 (gb_rm 2 50) 0 q (κ q)) : gb_S RX10 cX10_readsPair 6 (gb_rm 2 50) 0 0 (k_X10_readsPair_0 κ) := (s_aln 0 rfl dX10_readsPair_0 (s_cv (C := RX10) c_X10_gradeSign rfl (gb_l5 gw_667 gw_668 gw_669 gw_553 gw_670) v_X10_gradeSign ⟨rfl, rfl⟩ ⟨Nat.le_of_ble_eq_true rfl, Nat.le_of_ble_eq_true rfl⟩ dX10_readsPair_1 (s_isn 2 rfl (Nat.le_of_ble_eq_true rfl) dX10_readsPair_4 (s_aln 0 rfl dX10_readsPair_5 (s_cv (C := RX10) c_X10_gradeSign rfl (gb_l5 gw_667 gw_668 gw_669 gw_553 gw_670) v_X10_gradeSign ⟨rfl, rfl⟩ ⟨Nat.le_of_ble_eq_true rfl, Nat.le_of_ble_eq_true rfl⟩ dX10_readsPair_6 (s_isn 3 rfl (Nat.le_of_ble_eq_true rfl) dX10_readsPair_9 (s_bipush (by decide +kernel) dX10_readsPair_10 (s_iln 2 rfl dX10_readsPair_12 (s_iln 3 rfl dX10_readsPair_13 (s_mmin ⟨Nat.le_of_ble_eq_true rfl, Nat.le_of_ble_eq_true rfl⟩ (gb_l4 gw_589 gw_95 gw_17 gw_96) dX10_readsPair_14 (s_imul dX10_readsPair_17 (s_iln 2 rfl dX10_readsPair_18 (s_iln 3 rfl dX10_readsPair_19 (s_mmax ⟨Nat.le_of_ble_eq_true rfl, Nat.le_of_ble_eq_true rfl⟩ (gb_l4 gw_576 gw_16 gw_17 gw_18) dX10_readsPair_20 (s_iadd dX10_readsPair_23 (s_is (Nat.le_of_ble_eq_true rfl) dX10_readsPair_24 (s_aln 0 rfl dX10_readsPair_26 (s_gf (T := TX10) winX10 rfl (Nat.le_of_ble_eq_true rfl) gw_645 rfl dX10_readsPair_27 (s_iconst (by decide +kernel) dX10_readsPair_30 (s_cne (tgt := 63) (by decide +kernel) dX10_readsPair_31 (s_X10_readsPair_63 hκ) (s_iln 2 rfl dX10_readsPair_34 (s_iln 3 rfl dX10_readsPair_35 (s_ceq (tgt := 53) (by decide +kernel) dX10_readsPair_36 (s_X10_readsPair_53 hκ) (s_aln 0 rfl dX10_readsPair_39 (s_gf (T := TX10) winX10 rfl (Nat.le_of_ble_eq_true rfl) gw_672 rfl dX10_readsPair_40 (s_il dX10_readsPair_43 (s_lshr dX10_readsPair_45 (s_lconst (by decide +kernel) dX10_readsPair_46 (s_land dX10_readsPair_47 (s_lconst (by decide +kernel) dX10_readsPair_48 (s_X10_readsPair_49 hκ)))))))))))))))))))))))))))))))
noncomputable def f_X10_readsPair : gb_F := gb_hide (gb_mf 6 (k_X10_readsPair_0 gb_n))
theorem c_X10_readsPair : ∀ l, gb_Met l yX10_readsPair cX10_readsPair 6 none 0 (gb_rm 2 50) f_X10_readsPair := gb_hide_c (gb_met (own := RX10) (rk := 0) rfl (by decide +kernel) ⟨rfl, rfl⟩ (s_X10_readsPair_0 gb_S_n))
theorem dX10_readsLine_0 : decode cX10_readsLine 0 = .ok (.aload_n 0, 1) := by decide +kernel
theorem dX10_readsLine_1 : decode cX10_readsLine 1 = .ok (.invokevirtual 176, 3) := by decide +kernel
theorem dX10_readsLine_4 : decode cX10_readsLine 4 = .ok (.istore_n 1, 1) := by decide +kernel
theorem dX10_readsLine_5 : decode cX10_readsLine 5 = .ok (.iload_n 1, 1) := by decide +kernel
theorem dX10_readsLine_6 : decode cX10_readsLine 6 = .ok (.bipush 103, 2) := by decide +kernel
theorem dX10_readsLine_8 : decode cX10_readsLine 8 = .ok (.if_icmp .eq 30, 3) := by decide +kernel
theorem dX10_readsLine_11 : decode cX10_readsLine 11 = .ok (.iload_n 1, 1) := by decide +kernel
theorem dX10_readsLine_12 : decode cX10_readsLine 12 = .ok (.bipush 98, 2) := by decide +kernel
theorem dX10_readsLine_14 : decode cX10_readsLine 14 = .ok (.if_icmp .eq 24, 3) := by decide +kernel
theorem dX10_readsLine_17 : decode cX10_readsLine 17 = .ok (.iload_n 1, 1) := by decide +kernel
theorem dX10_readsLine_18 : decode cX10_readsLine 18 = .ok (.bipush 108, 2) := by decide +kernel
theorem dX10_readsLine_20 : decode cX10_readsLine 20 = .ok (.if_icmp .eq 18, 3) := by decide +kernel
theorem dX10_readsLine_23 : decode cX10_readsLine 23 = .ok (.iload_n 1, 1) := by decide +kernel
theorem dX10_readsLine_24 : decode cX10_readsLine 24 = .ok (.bipush 120, 2) := by decide +kernel
theorem dX10_readsLine_26 : decode cX10_readsLine 26 = .ok (.if_icmp .eq 12, 3) := by decide +kernel
theorem dX10_readsLine_29 : decode cX10_readsLine 29 = .ok (.aload_n 0, 1) := by decide +kernel
theorem dX10_readsLine_30 : decode cX10_readsLine 30 = .ok (.aload_n 0, 1) := by decide +kernel
theorem dX10_readsLine_31 : decode cX10_readsLine 31 = .ok (.getfield 170, 3) := by decide +kernel
theorem dX10_readsLine_34 : decode cX10_readsLine 34 = .ok (.invokevirtual 180, 3) := by decide +kernel
theorem dX10_readsLine_37 : decode cX10_readsLine 37 = .ok (.return_, 1) := by decide +kernel
theorem dX10_readsLine_38 : decode cX10_readsLine 38 = .ok (.aload_n 0, 1) := by decide +kernel
theorem dX10_readsLine_39 : decode cX10_readsLine 39 = .ok (.dup, 1) := by decide +kernel
theorem dX10_readsLine_40 : decode cX10_readsLine 40 = .ok (.getfield 170, 3) := by decide +kernel
theorem dX10_readsLine_43 : decode cX10_readsLine 43 = .ok (.iconst 1, 1) := by decide +kernel
theorem dX10_readsLine_44 : decode cX10_readsLine 44 = .ok (.iadd, 1) := by decide +kernel
theorem dX10_readsLine_45 : decode cX10_readsLine 45 = .ok (.putfield 170, 3) := by decide +kernel
theorem dX10_readsLine_48 : decode cX10_readsLine 48 = .ok (.iload_n 1, 1) := by decide +kernel
theorem dX10_readsLine_49 : decode cX10_readsLine 49 = .ok (.bipush 103, 2) := by decide +kernel
theorem dX10_readsLine_51 : decode cX10_readsLine 51 = .ok (.if_icmp .ne 10, 3) := by decide +kernel
theorem dX10_readsLine_54 : decode cX10_readsLine 54 = .ok (.aload_n 0, 1) := by decide +kernel
theorem dX10_readsLine_55 : decode cX10_readsLine 55 = .ok (.invokevirtual 210, 3) := by decide +kernel
theorem dX10_readsLine_58 : decode cX10_readsLine 58 = .ok (.goto 31, 3) := by decide +kernel
theorem dX10_readsLine_61 : decode cX10_readsLine 61 = .ok (.iload_n 1, 1) := by decide +kernel
theorem dX10_readsLine_62 : decode cX10_readsLine 62 = .ok (.bipush 98, 2) := by decide +kernel
theorem dX10_readsLine_64 : decode cX10_readsLine 64 = .ok (.if_icmp .ne 10, 3) := by decide +kernel
theorem dX10_readsLine_67 : decode cX10_readsLine 67 = .ok (.aload_n 0, 1) := by decide +kernel
theorem dX10_readsLine_68 : decode cX10_readsLine 68 = .ok (.invokevirtual 213, 3) := by decide +kernel
theorem dX10_readsLine_71 : decode cX10_readsLine 71 = .ok (.goto 18, 3) := by decide +kernel
theorem dX10_readsLine_74 : decode cX10_readsLine 74 = .ok (.aload_n 0, 1) := by decide +kernel
theorem dX10_readsLine_75 : decode cX10_readsLine 75 = .ok (.iload_n 1, 1) := by decide +kernel
theorem dX10_readsLine_76 : decode cX10_readsLine 76 = .ok (.bipush 120, 2) := by decide +kernel
theorem dX10_readsLine_78 : decode cX10_readsLine 78 = .ok (.if_icmp .ne 7, 3) := by decide +kernel
theorem dX10_readsLine_81 : decode cX10_readsLine 81 = .ok (.iconst 1, 1) := by decide +kernel
theorem dX10_readsLine_82 : decode cX10_readsLine 82 = .ok (.goto 4, 3) := by decide +kernel
theorem dX10_readsLine_85 : decode cX10_readsLine 85 = .ok (.iconst 0, 1) := by decide +kernel
theorem dX10_readsLine_86 : decode cX10_readsLine 86 = .ok (.invokevirtual 216, 3) := by decide +kernel
theorem dX10_readsLine_89 : decode cX10_readsLine 89 = .ok (.return_, 1) := by decide +kernel
theorem v_X10_readsLine : yX10_readsLine.cls = RX10 ∧ yX10_readsLine.cls ≠ "java/lang/invoke/MethodHandle" ∧ yX10_readsLine.cls ≠ "java/lang/invoke/VarHandle" ∧ (parseMethodDescriptor yX10_readsLine.desc).map (fun d => d.parameters.length) = some 0 := ⟨rfl, by decide +kernel, by decide +kernel, by decide +kernel⟩
noncomputable def k_X10_readsLine_89 (κ : gb_K) : gb_C := o_rv
theorem l_X10_readsLine_89 : gb_Li (fun κ => k_X10_readsLine_89 κ) := (gb_li0 _)
theorem s_X10_readsLine_89   {κ : gb_K} (hκ : ∀ q, gb_S RX10 cX10_readsLine 2 (gb_rm 3 75) 0 q (κ q)) : gb_S RX10 cX10_readsLine 2 (gb_rm 3 75) 0 89 (k_X10_readsLine_89 κ) := (s_rv rfl dX10_readsLine_89)
noncomputable def k_X10_readsLine_86 (κ : gb_K) : gb_C := (o_cv 1 10 0 f_X10_readsPair (k_X10_readsLine_89 κ))
theorem l_X10_readsLine_86 : gb_Li (fun κ => k_X10_readsLine_86 κ) := (gb_li (q_cv 1 10 0 f_X10_readsPair) (l_X10_readsLine_89))
theorem s_X10_readsLine_86   {κ : gb_K} (hκ : ∀ q, gb_S RX10 cX10_readsLine 2 (gb_rm 3 75) 0 q (κ q)) : gb_S RX10 cX10_readsLine 2 (gb_rm 3 75) 0 86 (k_X10_readsLine_86 κ) := (s_cv (C := RX10) c_X10_readsPair rfl (gb_l5 gw_673 gw_674 gw_675 gw_553 gw_676) v_X10_readsPair ⟨rfl, rfl⟩ ⟨Nat.le_of_ble_eq_true rfl, Nat.le_of_ble_eq_true rfl⟩ dX10_readsLine_86 (s_X10_readsLine_89 hκ))
noncomputable def k_X10_readsLine_38 (κ : gb_K) : gb_C := (o_al 0 (o_dup (o_gf 10 17 (o_ci 1 (o_ib (fun x y => x + y) (o_pf 10 17 (o_il 1 (o_ci 103 (o_ceq (o_al 0 (o_cv 0 10 0 f_X10_readsGrade (k_X10_readsLine_89 κ))) (o_il 1 (o_ci 98 (o_ceq (o_al 0 (o_cv 0 10 0 f_X10_readsBin (k_X10_readsLine_89 κ))) (o_al 0 (o_il 1 (o_ci 120 (o_ceq (o_ci 1 (k_X10_readsLine_86 κ)) (o_ci 0 (k_X10_readsLine_86 κ))))))))))))))))))
theorem l_X10_readsLine_38 : gb_Li (fun κ => k_X10_readsLine_38 κ) := (gb_li (q_al 0) (gb_li q_dup (gb_li (q_gf 10 17) (gb_li (q_ci 1) (gb_li (q_ib _) (gb_li (q_pf 10 17) (gb_li (q_il 1) (gb_li (q_ci 103) (q_ceq (gb_li (q_al 0) (gb_li (q_cv 0 10 0 f_X10_readsGrade) (l_X10_readsLine_89))) (gb_li (q_il 1) (gb_li (q_ci 98) (q_ceq (gb_li (q_al 0) (gb_li (q_cv 0 10 0 f_X10_readsBin) (l_X10_readsLine_89))) (gb_li (q_al 0) (gb_li (q_il 1) (gb_li (q_ci 120) (q_ceq (gb_li (q_ci 1) (l_X10_readsLine_86)) (gb_li (q_ci 0) (l_X10_readsLine_86))))))))))))))))))
theorem s_X10_readsLine_38   {κ : gb_K} (hκ : ∀ q, gb_S RX10 cX10_readsLine 2 (gb_rm 3 75) 0 q (κ q)) : gb_S RX10 cX10_readsLine 2 (gb_rm 3 75) 0 38 (k_X10_readsLine_38 κ) := (s_aln 0 rfl dX10_readsLine_38 (s_dup dX10_readsLine_39 (s_gf (T := TX10) winX10 rfl (Nat.le_of_ble_eq_true rfl) gw_644 rfl dX10_readsLine_40 (s_iconst (by decide +kernel) dX10_readsLine_43 (s_iadd dX10_readsLine_44 (s_pf (T := TX10) winX10 rfl (Nat.le_of_ble_eq_true rfl) tyX10_ok nmX10 rfl (by decide +kernel) gw_644 rfl dX10_readsLine_45 (s_iln 1 rfl dX10_readsLine_48 (s_bipush (by decide +kernel) dX10_readsLine_49 (s_cne (tgt := 61) (by decide +kernel) dX10_readsLine_51 (s_iln 1 rfl dX10_readsLine_61 (s_bipush (by decide +kernel) dX10_readsLine_62 (s_cne (tgt := 74) (by decide +kernel) dX10_readsLine_64 (s_aln 0 rfl dX10_readsLine_74 (s_iln 1 rfl dX10_readsLine_75 (s_bipush (by decide +kernel) dX10_readsLine_76 (s_cne (tgt := 85) (by decide +kernel) dX10_readsLine_78 (s_iconst (by decide +kernel) dX10_readsLine_85 (s_X10_readsLine_86 hκ)) (s_iconst (by decide +kernel) dX10_readsLine_81 (s_goto (tgt := 86) (by decide +kernel) dX10_readsLine_82 (s_X10_readsLine_86 hκ))))))) (s_aln 0 rfl dX10_readsLine_67 (s_cv (C := RX10) c_X10_readsBin rfl (gb_l5 gw_677 gw_678 gw_679 gw_553 gw_680) v_X10_readsBin ⟨rfl, rfl⟩ ⟨Nat.le_of_ble_eq_true rfl, Nat.le_of_ble_eq_true rfl⟩ dX10_readsLine_68 (s_goto (tgt := 89) (by decide +kernel) dX10_readsLine_71 (s_X10_readsLine_89 hκ))))))) (s_aln 0 rfl dX10_readsLine_54 (s_cv (C := RX10) c_X10_readsGrade rfl (gb_l5 gw_681 gw_682 gw_683 gw_553 gw_684) v_X10_readsGrade ⟨rfl, rfl⟩ ⟨Nat.le_of_ble_eq_true rfl, Nat.le_of_ble_eq_true rfl⟩ dX10_readsLine_55 (s_goto (tgt := 89) (by decide +kernel) dX10_readsLine_58 (s_X10_readsLine_89 hκ)))))))))))))
noncomputable def k_X10_readsLine_0 (κ : gb_K) : gb_C := (o_al 0 (o_cv 0 10 1 f_X10_sees (o_is 1 (o_il 1 (o_ci 103 (o_ceq (k_X10_readsLine_38 κ) (o_il 1 (o_ci 98 (o_ceq (k_X10_readsLine_38 κ) (o_il 1 (o_ci 108 (o_ceq (k_X10_readsLine_38 κ) (o_il 1 (o_ci 120 (o_ceq (k_X10_readsLine_38 κ) (o_al 0 (o_al 0 (o_gf 10 17 (o_cv 1 10 0 f_X10_fault o_rv)))))))))))))))))))
theorem l_X10_readsLine_0 : gb_Li (fun κ => k_X10_readsLine_0 κ) := (gb_li (q_al 0) (gb_li (q_cv 0 10 1 f_X10_sees) (gb_li (q_is 1) (gb_li (q_il 1) (gb_li (q_ci 103) (q_ceq (l_X10_readsLine_38) (gb_li (q_il 1) (gb_li (q_ci 98) (q_ceq (l_X10_readsLine_38) (gb_li (q_il 1) (gb_li (q_ci 108) (q_ceq (l_X10_readsLine_38) (gb_li (q_il 1) (gb_li (q_ci 120) (q_ceq (l_X10_readsLine_38) (gb_li (q_al 0) (gb_li (q_al 0) (gb_li (q_gf 10 17) (gb_li (q_cv 1 10 0 f_X10_fault) (gb_li0 _))))))))))))))))))))
theorem s_X10_readsLine_0   {κ : gb_K} (hκ : ∀ q, gb_S RX10 cX10_readsLine 2 (gb_rm 3 75) 0 q (κ q)) : gb_S RX10 cX10_readsLine 2 (gb_rm 3 75) 0 0 (k_X10_readsLine_0 κ) := (s_aln 0 rfl dX10_readsLine_0 (s_cv (C := RX10) c_X10_sees rfl (gb_l5 gw_646 gw_647 gw_648 gw_553 gw_649) v_X10_sees ⟨rfl, rfl⟩ ⟨Nat.le_of_ble_eq_true rfl, Nat.le_of_ble_eq_true rfl⟩ dX10_readsLine_1 (s_isn 1 rfl (Nat.le_of_ble_eq_true rfl) dX10_readsLine_4 (s_iln 1 rfl dX10_readsLine_5 (s_bipush (by decide +kernel) dX10_readsLine_6 (s_ceq (tgt := 38) (by decide +kernel) dX10_readsLine_8 (s_X10_readsLine_38 hκ) (s_iln 1 rfl dX10_readsLine_11 (s_bipush (by decide +kernel) dX10_readsLine_12 (s_ceq (tgt := 38) (by decide +kernel) dX10_readsLine_14 (s_X10_readsLine_38 hκ) (s_iln 1 rfl dX10_readsLine_17 (s_bipush (by decide +kernel) dX10_readsLine_18 (s_ceq (tgt := 38) (by decide +kernel) dX10_readsLine_20 (s_X10_readsLine_38 hκ) (s_iln 1 rfl dX10_readsLine_23 (s_bipush (by decide +kernel) dX10_readsLine_24 (s_ceq (tgt := 38) (by decide +kernel) dX10_readsLine_26 (s_X10_readsLine_38 hκ) (s_aln 0 rfl dX10_readsLine_29 (s_aln 0 rfl dX10_readsLine_30 (s_gf (T := TX10) winX10 rfl (Nat.le_of_ble_eq_true rfl) gw_644 rfl dX10_readsLine_31 (s_cv (C := RX10) c_X10_fault rfl (gb_l5 gw_650 gw_651 gw_652 gw_553 gw_653) v_X10_fault ⟨rfl, rfl⟩ ⟨Nat.le_of_ble_eq_true rfl, Nat.le_of_ble_eq_true rfl⟩ dX10_readsLine_34 (s_rv rfl dX10_readsLine_37))))))))))))))))))))
noncomputable def f_X10_readsLine : gb_F := gb_hide (gb_mf 2 (k_X10_readsLine_0 gb_n))
theorem c_X10_readsLine : ∀ l, gb_Met l yX10_readsLine cX10_readsLine 2 none 0 (gb_rm 3 75) f_X10_readsLine := gb_hide_c (gb_met (own := RX10) (rk := 0) rfl (by decide +kernel) ⟨rfl, rfl⟩ (s_X10_readsLine_0 gb_S_n))
theorem dX10_land_0 : decode cX10_land 0 = .ok (.aload_n 0, 1) := by decide +kernel
theorem dX10_land_1 : decode cX10_land 1 = .ok (.iconst 0, 1) := by decide +kernel
theorem dX10_land_2 : decode cX10_land 2 = .ok (.putfield 66, 3) := by decide +kernel
theorem dX10_land_5 : decode cX10_land 5 = .ok (.aload_n 0, 1) := by decide +kernel
theorem dX10_land_6 : decode cX10_land 6 = .ok (.invokevirtual 220, 3) := by decide +kernel
theorem dX10_land_9 : decode cX10_land 9 = .ok (.iconst 0, 1) := by decide +kernel
theorem dX10_land_10 : decode cX10_land 10 = .ok (.istore_n 1, 1) := by decide +kernel
theorem dX10_land_11 : decode cX10_land 11 = .ok (.iload_n 1, 1) := by decide +kernel
theorem dX10_land_12 : decode cX10_land 12 = .ok (.bipush 54, 2) := by decide +kernel
theorem dX10_land_14 : decode cX10_land 14 = .ok (.if_icmp .ge 33, 3) := by decide +kernel
theorem dX10_land_17 : decode cX10_land 17 = .ok (.aload_n 0, 1) := by decide +kernel
theorem dX10_land_18 : decode cX10_land 18 = .ok (.getfield 39, 3) := by decide +kernel
theorem dX10_land_21 : decode cX10_land 21 = .ok (.iload_n 1, 1) := by decide +kernel
theorem dX10_land_22 : decode cX10_land 22 = .ok (.iload_n 1, 1) := by decide +kernel
theorem dX10_land_23 : decode cX10_land 23 = .ok (.bipush 6, 2) := by decide +kernel
theorem dX10_land_25 : decode cX10_land 25 = .ok (.if_icmp .lt 14, 3) := by decide +kernel
theorem dX10_land_28 : decode cX10_land 28 = .ok (.iload_n 1, 1) := by decide +kernel
theorem dX10_land_29 : decode cX10_land 29 = .ok (.bipush 12, 2) := by decide +kernel
theorem dX10_land_31 : decode cX10_land 31 = .ok (.if_icmp .ge 8, 3) := by decide +kernel
theorem dX10_land_34 : decode cX10_land 34 = .ok (.bipush 99, 2) := by decide +kernel
theorem dX10_land_36 : decode cX10_land 36 = .ok (.goto 4, 3) := by decide +kernel
theorem dX10_land_39 : decode cX10_land 39 = .ok (.iconst 0, 1) := by decide +kernel
theorem dX10_land_40 : decode cX10_land 40 = .ok (.iastore, 1) := by decide +kernel
theorem dX10_land_41 : decode cX10_land 41 = .ok (.iinc 1 1, 3) := by decide +kernel
theorem dX10_land_44 : decode cX10_land 44 = .ok (.goto (-33), 3) := by decide +kernel
theorem dX10_land_47 : decode cX10_land 47 = .ok (.aload_n 0, 1) := by decide +kernel
theorem dX10_land_48 : decode cX10_land 48 = .ok (.iconst 0, 1) := by decide +kernel
theorem dX10_land_49 : decode cX10_land 49 = .ok (.putfield 193, 3) := by decide +kernel
theorem dX10_land_52 : decode cX10_land 52 = .ok (.aload_n 0, 1) := by decide +kernel
theorem dX10_land_53 : decode cX10_land 53 = .ok (.iconst 0, 1) := by decide +kernel
theorem dX10_land_54 : decode cX10_land 54 = .ok (.putfield 203, 3) := by decide +kernel
theorem dX10_land_57 : decode cX10_land 57 = .ok (.aload_n 0, 1) := by decide +kernel
theorem dX10_land_58 : decode cX10_land 58 = .ok (.lconst 0, 1) := by decide +kernel
theorem dX10_land_59 : decode cX10_land 59 = .ok (.putfield 206, 3) := by decide +kernel
theorem dX10_land_62 : decode cX10_land 62 = .ok (.iconst 0, 1) := by decide +kernel
theorem dX10_land_63 : decode cX10_land 63 = .ok (.istore_n 1, 1) := by decide +kernel
theorem dX10_land_64 : decode cX10_land 64 = .ok (.aload_n 0, 1) := by decide +kernel
theorem dX10_land_65 : decode cX10_land 65 = .ok (.getfield 167, 3) := by decide +kernel
theorem dX10_land_68 : decode cX10_land 68 = .ok (.ifCond .le 7, 3) := by decide +kernel
theorem dX10_land_71 : decode cX10_land 71 = .ok (.iconst 1, 1) := by decide +kernel
theorem dX10_land_72 : decode cX10_land 72 = .ok (.goto 4, 3) := by decide +kernel
theorem dX10_land_75 : decode cX10_land 75 = .ok (.iconst 0, 1) := by decide +kernel
theorem dX10_land_76 : decode cX10_land 76 = .ok (.istore_n 2, 1) := by decide +kernel
theorem dX10_land_77 : decode cX10_land 77 = .ok (.iload_n 2, 1) := by decide +kernel
theorem dX10_land_78 : decode cX10_land 78 = .ok (.ifCond .eq 58, 3) := by decide +kernel
theorem dX10_land_81 : decode cX10_land 81 = .ok (.aload_n 0, 1) := by decide +kernel
theorem dX10_land_82 : decode cX10_land 82 = .ok (.getfield 173, 3) := by decide +kernel
theorem dX10_land_85 : decode cX10_land 85 = .ok (.iconst (-1), 1) := by decide +kernel
theorem dX10_land_86 : decode cX10_land 86 = .ok (.if_icmp .ne 50, 3) := by decide +kernel
theorem dX10_land_89 : decode cX10_land 89 = .ok (.aload_n 0, 1) := by decide +kernel
theorem dX10_land_90 : decode cX10_land 90 = .ok (.invokevirtual 223, 3) := by decide +kernel
theorem dX10_land_93 : decode cX10_land 93 = .ok (.iinc 1 1, 3) := by decide +kernel
theorem dX10_land_96 : decode cX10_land 96 = .ok (.aload_n 0, 1) := by decide +kernel
theorem dX10_land_97 : decode cX10_land 97 = .ok (.getfield 173, 3) := by decide +kernel
theorem dX10_land_100 : decode cX10_land 100 = .ok (.iconst (-1), 1) := by decide +kernel
theorem dX10_land_101 : decode cX10_land 101 = .ok (.if_icmp .ne 16, 3) := by decide +kernel
theorem dX10_land_104 : decode cX10_land 104 = .ok (.aload_n 0, 1) := by decide +kernel
theorem dX10_land_105 : decode cX10_land 105 = .ok (.invokevirtual 176, 3) := by decide +kernel
theorem dX10_land_108 : decode cX10_land 108 = .ok (.bipush 59, 2) := by decide +kernel
theorem dX10_land_110 : decode cX10_land 110 = .ok (.if_icmp .ne 7, 3) := by decide +kernel
theorem dX10_land_113 : decode cX10_land 113 = .ok (.iconst 1, 1) := by decide +kernel
theorem dX10_land_114 : decode cX10_land 114 = .ok (.goto 4, 3) := by decide +kernel
theorem dX10_land_117 : decode cX10_land 117 = .ok (.iconst 0, 1) := by decide +kernel
theorem dX10_land_118 : decode cX10_land 118 = .ok (.istore_n 2, 1) := by decide +kernel
theorem dX10_land_119 : decode cX10_land 119 = .ok (.iload_n 2, 1) := by decide +kernel
theorem dX10_land_120 : decode cX10_land 120 = .ok (.ifCond .eq (-43), 3) := by decide +kernel
theorem dX10_land_123 : decode cX10_land 123 = .ok (.aload_n 0, 1) := by decide +kernel
theorem dX10_land_124 : decode cX10_land 124 = .ok (.dup, 1) := by decide +kernel
theorem dX10_land_125 : decode cX10_land 125 = .ok (.getfield 170, 3) := by decide +kernel
theorem dX10_land_128 : decode cX10_land 128 = .ok (.iconst 1, 1) := by decide +kernel
theorem dX10_land_129 : decode cX10_land 129 = .ok (.iadd, 1) := by decide +kernel
theorem dX10_land_130 : decode cX10_land 130 = .ok (.putfield 170, 3) := by decide +kernel
theorem dX10_land_133 : decode cX10_land 133 = .ok (.goto (-56), 3) := by decide +kernel
theorem dX10_land_136 : decode cX10_land 136 = .ok (.aload_n 0, 1) := by decide +kernel
theorem dX10_land_137 : decode cX10_land 137 = .ok (.getfield 173, 3) := by decide +kernel
theorem dX10_land_140 : decode cX10_land 140 = .ok (.iconst (-1), 1) := by decide +kernel
theorem dX10_land_141 : decode cX10_land 141 = .ok (.if_icmp .ne 22, 3) := by decide +kernel
theorem dX10_land_144 : decode cX10_land 144 = .ok (.aload_n 0, 1) := by decide +kernel
theorem dX10_land_145 : decode cX10_land 145 = .ok (.getfield 170, 3) := by decide +kernel
theorem dX10_land_148 : decode cX10_land 148 = .ok (.aload_n 0, 1) := by decide +kernel
theorem dX10_land_149 : decode cX10_land 149 = .ok (.getfield 167, 3) := by decide +kernel
theorem dX10_land_152 : decode cX10_land 152 = .ok (.if_icmp .ge 11, 3) := by decide +kernel
theorem dX10_land_155 : decode cX10_land 155 = .ok (.aload_n 0, 1) := by decide +kernel
theorem dX10_land_156 : decode cX10_land 156 = .ok (.aload_n 0, 1) := by decide +kernel
theorem dX10_land_157 : decode cX10_land 157 = .ok (.getfield 170, 3) := by decide +kernel
theorem dX10_land_160 : decode cX10_land 160 = .ok (.invokevirtual 180, 3) := by decide +kernel
theorem dX10_land_163 : decode cX10_land 163 = .ok (.aload_n 0, 1) := by decide +kernel
theorem dX10_land_164 : decode cX10_land 164 = .ok (.getfield 173, 3) := by decide +kernel
theorem dX10_land_167 : decode cX10_land 167 = .ok (.iconst (-1), 1) := by decide +kernel
theorem dX10_land_168 : decode cX10_land 168 = .ok (.if_icmp .eq 11, 3) := by decide +kernel
theorem dX10_land_171 : decode cX10_land 171 = .ok (.bipush (-21), 2) := by decide +kernel
theorem dX10_land_173 : decode cX10_land 173 = .ok (.aload_n 0, 1) := by decide +kernel
theorem dX10_land_174 : decode cX10_land 174 = .ok (.getfield 173, 3) := by decide +kernel
theorem dX10_land_177 : decode cX10_land 177 = .ok (.isub, 1) := by decide +kernel
theorem dX10_land_178 : decode cX10_land 178 = .ok (.ireturn, 1) := by decide +kernel
theorem dX10_land_179 : decode cX10_land 179 = .ok (.aload_n 0, 1) := by decide +kernel
theorem dX10_land_180 : decode cX10_land 180 = .ok (.invokevirtual 63, 3) := by decide +kernel
theorem dX10_land_183 : decode cX10_land 183 = .ok (.iconst 0, 1) := by decide +kernel
theorem dX10_land_184 : decode cX10_land 184 = .ok (.istore_n 3, 1) := by decide +kernel
theorem dX10_land_185 : decode cX10_land 185 = .ok (.iload_n 3, 1) := by decide +kernel
theorem dX10_land_186 : decode cX10_land 186 = .ok (.bipush 54, 2) := by decide +kernel
theorem dX10_land_188 : decode cX10_land 188 = .ok (.if_icmp .ge 21, 3) := by decide +kernel
theorem dX10_land_191 : decode cX10_land 191 = .ok (.aload_n 0, 1) := by decide +kernel
theorem dX10_land_192 : decode cX10_land 192 = .ok (.getfield 7, 3) := by decide +kernel
theorem dX10_land_195 : decode cX10_land 195 = .ok (.iload_n 3, 1) := by decide +kernel
theorem dX10_land_196 : decode cX10_land 196 = .ok (.aload_n 0, 1) := by decide +kernel
theorem dX10_land_197 : decode cX10_land 197 = .ok (.getfield 39, 3) := by decide +kernel
theorem dX10_land_200 : decode cX10_land 200 = .ok (.iload_n 3, 1) := by decide +kernel
theorem dX10_land_201 : decode cX10_land 201 = .ok (.iaload, 1) := by decide +kernel
theorem dX10_land_202 : decode cX10_land 202 = .ok (.iastore, 1) := by decide +kernel
theorem dX10_land_203 : decode cX10_land 203 = .ok (.iinc 3 1, 3) := by decide +kernel
theorem dX10_land_206 : decode cX10_land 206 = .ok (.goto (-21), 3) := by decide +kernel
theorem dX10_land_209 : decode cX10_land 209 = .ok (.aload_n 0, 1) := by decide +kernel
theorem dX10_land_210 : decode cX10_land 210 = .ok (.iconst 0, 1) := by decide +kernel
theorem dX10_land_211 : decode cX10_land 211 = .ok (.putfield 92, 3) := by decide +kernel
theorem dX10_land_214 : decode cX10_land 214 = .ok (.aload_n 0, 1) := by decide +kernel
theorem dX10_land_215 : decode cX10_land 215 = .ok (.iconst 0, 1) := by decide +kernel
theorem dX10_land_216 : decode cX10_land 216 = .ok (.putfield 226, 3) := by decide +kernel
theorem dX10_land_219 : decode cX10_land 219 = .ok (.iload_n 1, 1) := by decide +kernel
theorem dX10_land_220 : decode cX10_land 220 = .ok (.ireturn, 1) := by decide +kernel
theorem v_X10_land : yX10_land.cls = RX10 ∧ yX10_land.cls ≠ "java/lang/invoke/MethodHandle" ∧ yX10_land.cls ≠ "java/lang/invoke/VarHandle" ∧ (parseMethodDescriptor yX10_land.desc).map (fun d => d.parameters.length) = some 0 := ⟨rfl, by decide +kernel, by decide +kernel, by decide +kernel⟩
noncomputable def k_X10_land_0 (κ : gb_K) : gb_C := (o_al 0 (o_ci 0 (o_pf 10 10 (o_al 0 (o_cv 0 10 0 f_X10_begin (o_ci 0 (o_is 1 (o_j [0, 1] (κ 11)))))))))
theorem l_X10_land_0 : gb_Li (fun κ => k_X10_land_0 κ) := (gb_li (q_al 0) (gb_li (q_ci 0) (gb_li (q_pf 10 10) (gb_li (q_al 0) (gb_li (q_cv 0 10 0 f_X10_begin) (gb_li (q_ci 0) (gb_li (q_is 1) (q_j [0, 1] 11))))))))
theorem s_X10_land_0   {κ : gb_K} (hκ : ∀ q, gb_S RX10 cX10_land 4 (gb_rm 4 96) 1 q (κ q)) : gb_S RX10 cX10_land 4 (gb_rm 4 96) 1 0 (k_X10_land_0 κ) := (s_aln 0 rfl dX10_land_0 (s_iconst (by decide +kernel) dX10_land_1 (s_pf (T := TX10) winX10 rfl (Nat.le_of_ble_eq_true rfl) tyX10_ok nmX10 rfl (by decide +kernel) gw_546 rfl dX10_land_2 (s_aln 0 rfl dX10_land_5 (s_cv (C := RX10) c_X10_begin rfl (gb_l5 gw_685 gw_686 gw_687 gw_553 gw_688) v_X10_begin ⟨rfl, rfl⟩ ⟨Nat.le_of_ble_eq_true rfl, Nat.le_of_ble_eq_true rfl⟩ dX10_land_6 (s_iconst (by decide +kernel) dX10_land_9 (s_isn 1 rfl (Nat.le_of_ble_eq_true rfl) dX10_land_10 (s_j (hκ 11)))))))))
noncomputable def k_X10_land_40 (κ : gb_K) : gb_C := (o_iast (o_inc 1 1 (o_j [0, 1] (κ 11))))
theorem l_X10_land_40 : gb_Li (fun κ => k_X10_land_40 κ) := (gb_li q_iast (gb_li (q_inc 1 1) (q_j [0, 1] 11)))
theorem s_X10_land_40   {κ : gb_K} (hκ : ∀ q, gb_S RX10 cX10_land 4 (gb_rm 4 96) 1 q (κ q)) : gb_S RX10 cX10_land 4 (gb_rm 4 96) 1 40 (k_X10_land_40 κ) := (s_iast dX10_land_40 (s_inc (by decide +kernel) (Nat.le_of_ble_eq_true rfl) dX10_land_41 (s_goto (tgt := 11) (by decide +kernel) dX10_land_44 (s_j (hκ 11)))))
noncomputable def k_X10_land_39 (κ : gb_K) : gb_C := (o_ci 0 (k_X10_land_40 κ))
theorem l_X10_land_39 : gb_Li (fun κ => k_X10_land_39 κ) := (gb_li (q_ci 0) (l_X10_land_40))
theorem s_X10_land_39   {κ : gb_K} (hκ : ∀ q, gb_S RX10 cX10_land 4 (gb_rm 4 96) 1 q (κ q)) : gb_S RX10 cX10_land 4 (gb_rm 4 96) 1 39 (k_X10_land_39 κ) := (s_iconst (by decide +kernel) dX10_land_39 (s_X10_land_40 hκ))
noncomputable def k_X10_land_76 (κ : gb_K) : gb_C := (o_is 2 (o_j [0, 1, 2] (κ 77)))
theorem l_X10_land_76 : gb_Li (fun κ => k_X10_land_76 κ) := (gb_li (q_is 2) (q_j [0, 1, 2] 77))
theorem s_X10_land_76   {κ : gb_K} (hκ : ∀ q, gb_S RX10 cX10_land 4 (gb_rm 4 96) 1 q (κ q)) : gb_S RX10 cX10_land 4 (gb_rm 4 96) 1 76 (k_X10_land_76 κ) := (s_isn 2 rfl (Nat.le_of_ble_eq_true rfl) dX10_land_76 (s_j (hκ 77)))
noncomputable def k_X10_land_11 (κ : gb_K) : gb_C := (o_il 1 (o_ci 54 (o_cge (o_al 0 (o_ci 0 (o_pf 10 19 (o_al 0 (o_ci 0 (o_pf 10 20 (o_al 0 (o_cl 0 (o_pl 10 21 (o_ci 0 (o_is 1 (o_al 0 (o_gf 10 16 (o_zle (o_ci 0 (k_X10_land_76 κ)) (o_ci 1 (k_X10_land_76 κ)))))))))))))))) (o_al 0 (o_gf 10 22 (o_il 1 (o_il 1 (o_ci 6 (o_clt (k_X10_land_39 κ) (o_il 1 (o_ci 12 (o_cge (k_X10_land_39 κ) (o_ci 99 (k_X10_land_40 κ))))))))))))))
theorem l_X10_land_11 : gb_Li (fun κ => k_X10_land_11 κ) := (gb_li (q_il 1) (gb_li (q_ci 54) (q_cge (gb_li (q_al 0) (gb_li (q_ci 0) (gb_li (q_pf 10 19) (gb_li (q_al 0) (gb_li (q_ci 0) (gb_li (q_pf 10 20) (gb_li (q_al 0) (gb_li (q_cl 0) (gb_li (q_pl 10 21) (gb_li (q_ci 0) (gb_li (q_is 1) (gb_li (q_al 0) (gb_li (q_gf 10 16) (q_zle (gb_li (q_ci 0) (l_X10_land_76)) (gb_li (q_ci 1) (l_X10_land_76)))))))))))))))) (gb_li (q_al 0) (gb_li (q_gf 10 22) (gb_li (q_il 1) (gb_li (q_il 1) (gb_li (q_ci 6) (q_clt (l_X10_land_39) (gb_li (q_il 1) (gb_li (q_ci 12) (q_cge (l_X10_land_39) (gb_li (q_ci 99) (l_X10_land_40))))))))))))))
theorem s_X10_land_11   {κ : gb_K} (hκ : ∀ q, gb_S RX10 cX10_land 4 (gb_rm 4 96) 1 q (κ q)) : gb_S RX10 cX10_land 4 (gb_rm 4 96) 1 11 (k_X10_land_11 κ) := (s_iln 1 rfl dX10_land_11 (s_bipush (by decide +kernel) dX10_land_12 (s_cge (tgt := 47) (by decide +kernel) dX10_land_14 (s_aln 0 rfl dX10_land_47 (s_iconst (by decide +kernel) dX10_land_48 (s_pf (T := TX10) winX10 rfl (Nat.le_of_ble_eq_true rfl) tyX10_ok nmX10 rfl (by decide +kernel) gw_666 rfl dX10_land_49 (s_aln 0 rfl dX10_land_52 (s_iconst (by decide +kernel) dX10_land_53 (s_pf (T := TX10) winX10 rfl (Nat.le_of_ble_eq_true rfl) tyX10_ok nmX10 rfl (by decide +kernel) gw_671 rfl dX10_land_54 (s_aln 0 rfl dX10_land_57 (s_lconst (by decide +kernel) dX10_land_58 (s_pl (T := TX10) winX10 rfl (Nat.le_of_ble_eq_true rfl) tyX10_ok nmX10 rfl (by decide +kernel) gw_672 rfl dX10_land_59 (s_iconst (by decide +kernel) dX10_land_62 (s_isn 1 rfl (Nat.le_of_ble_eq_true rfl) dX10_land_63 (s_aln 0 rfl dX10_land_64 (s_gf (T := TX10) winX10 rfl (Nat.le_of_ble_eq_true rfl) gw_643 rfl dX10_land_65 (s_zle (tgt := 75) (by decide +kernel) dX10_land_68 (s_iconst (by decide +kernel) dX10_land_75 (s_X10_land_76 hκ)) (s_iconst (by decide +kernel) dX10_land_71 (s_goto (tgt := 76) (by decide +kernel) dX10_land_72 (s_X10_land_76 hκ))))))))))))))))) (s_aln 0 rfl dX10_land_17 (s_gf (T := TX10) winX10 rfl (Nat.le_of_ble_eq_true rfl) gw_657 rfl dX10_land_18 (s_iln 1 rfl dX10_land_21 (s_iln 1 rfl dX10_land_22 (s_bipush (by decide +kernel) dX10_land_23 (s_clt (tgt := 39) (by decide +kernel) dX10_land_25 (s_X10_land_39 hκ) (s_iln 1 rfl dX10_land_28 (s_bipush (by decide +kernel) dX10_land_29 (s_cge (tgt := 39) (by decide +kernel) dX10_land_31 (s_X10_land_39 hκ) (s_bipush (by decide +kernel) dX10_land_34 (s_goto (tgt := 40) (by decide +kernel) dX10_land_36 (s_X10_land_40 hκ)))))))))))))))
noncomputable def k_X10_land_118 (κ : gb_K) : gb_C := (o_is 2 (o_il 2 (o_zeq (o_j [0, 1, 2] (κ 77)) (o_al 0 (o_dup (o_gf 10 17 (o_ci 1 (o_ib (fun x y => x + y) (o_pf 10 17 (o_j [0, 1, 2] (κ 77)))))))))))
theorem l_X10_land_118 : gb_Li (fun κ => k_X10_land_118 κ) := (gb_li (q_is 2) (gb_li (q_il 2) (q_zeq (q_j [0, 1, 2] 77) (gb_li (q_al 0) (gb_li q_dup (gb_li (q_gf 10 17) (gb_li (q_ci 1) (gb_li (q_ib _) (gb_li (q_pf 10 17) (q_j [0, 1, 2] 77))))))))))
theorem s_X10_land_118   {κ : gb_K} (hκ : ∀ q, gb_S RX10 cX10_land 4 (gb_rm 4 96) 1 q (κ q)) : gb_S RX10 cX10_land 4 (gb_rm 4 96) 1 118 (k_X10_land_118 κ) := (s_isn 2 rfl (Nat.le_of_ble_eq_true rfl) dX10_land_118 (s_iln 2 rfl dX10_land_119 (s_zeq (tgt := 77) (by decide +kernel) dX10_land_120 (s_j (hκ 77)) (s_aln 0 rfl dX10_land_123 (s_dup dX10_land_124 (s_gf (T := TX10) winX10 rfl (Nat.le_of_ble_eq_true rfl) gw_644 rfl dX10_land_125 (s_iconst (by decide +kernel) dX10_land_128 (s_iadd dX10_land_129 (s_pf (T := TX10) winX10 rfl (Nat.le_of_ble_eq_true rfl) tyX10_ok nmX10 rfl (by decide +kernel) gw_644 rfl dX10_land_130 (s_goto (tgt := 77) (by decide +kernel) dX10_land_133 (s_j (hκ 77))))))))))))
noncomputable def k_X10_land_117 (κ : gb_K) : gb_C := (o_ci 0 (k_X10_land_118 κ))
theorem l_X10_land_117 : gb_Li (fun κ => k_X10_land_117 κ) := (gb_li (q_ci 0) (l_X10_land_118))
theorem s_X10_land_117   {κ : gb_K} (hκ : ∀ q, gb_S RX10 cX10_land 4 (gb_rm 4 96) 1 q (κ q)) : gb_S RX10 cX10_land 4 (gb_rm 4 96) 1 117 (k_X10_land_117 κ) := (s_iconst (by decide +kernel) dX10_land_117 (s_X10_land_118 hκ))
noncomputable def k_X10_land_163 (κ : gb_K) : gb_C := (o_al 0 (o_gf 10 18 (o_ci (-1) (o_ceq (o_al 0 (o_cv 0 10 0 f_X10_begins (o_ci 0 (o_is 3 (o_j [0, 1, 3] (κ 185)))))) (o_ci (-21) (o_al 0 (o_gf 10 18 (o_ib (fun x y => x - y) o_ri))))))))
theorem l_X10_land_163 : gb_Li (fun κ => k_X10_land_163 κ) := (gb_li (q_al 0) (gb_li (q_gf 10 18) (gb_li (q_ci (-1)) (q_ceq (gb_li (q_al 0) (gb_li (q_cv 0 10 0 f_X10_begins) (gb_li (q_ci 0) (gb_li (q_is 3) (q_j [0, 1, 3] 185))))) (gb_li (q_ci (-21)) (gb_li (q_al 0) (gb_li (q_gf 10 18) (gb_li (q_ib _) (gb_li0 _)))))))))
theorem s_X10_land_163   {κ : gb_K} (hκ : ∀ q, gb_S RX10 cX10_land 4 (gb_rm 4 96) 1 q (κ q)) : gb_S RX10 cX10_land 4 (gb_rm 4 96) 1 163 (k_X10_land_163 κ) := (s_aln 0 rfl dX10_land_163 (s_gf (T := TX10) winX10 rfl (Nat.le_of_ble_eq_true rfl) gw_645 rfl dX10_land_164 (s_iconst (by decide +kernel) dX10_land_167 (s_ceq (tgt := 179) (by decide +kernel) dX10_land_168 (s_aln 0 rfl dX10_land_179 (s_cv (C := RX10) c_X10_begins rfl (gb_l5 gw_689 gw_690 gw_691 gw_553 gw_692) v_X10_begins ⟨rfl, rfl⟩ ⟨Nat.le_of_ble_eq_true rfl, Nat.le_of_ble_eq_true rfl⟩ dX10_land_180 (s_iconst (by decide +kernel) dX10_land_183 (s_isn 3 rfl (Nat.le_of_ble_eq_true rfl) dX10_land_184 (s_j (hκ 185)))))) (s_bipush (by decide +kernel) dX10_land_171 (s_aln 0 rfl dX10_land_173 (s_gf (T := TX10) winX10 rfl (Nat.le_of_ble_eq_true rfl) gw_645 rfl dX10_land_174 (s_isub dX10_land_177 (s_ri rfl dX10_land_178)))))))))
noncomputable def k_X10_land_136 (κ : gb_K) : gb_C := (o_al 0 (o_gf 10 18 (o_ci (-1) (o_ceq (o_al 0 (o_gf 10 17 (o_al 0 (o_gf 10 16 (o_cge (k_X10_land_163 κ) (o_al 0 (o_al 0 (o_gf 10 17 (o_cv 1 10 0 f_X10_fault (k_X10_land_163 κ)))))))))) (k_X10_land_163 κ)))))
theorem l_X10_land_136 : gb_Li (fun κ => k_X10_land_136 κ) := (gb_li (q_al 0) (gb_li (q_gf 10 18) (gb_li (q_ci (-1)) (q_ceq (gb_li (q_al 0) (gb_li (q_gf 10 17) (gb_li (q_al 0) (gb_li (q_gf 10 16) (q_cge (l_X10_land_163) (gb_li (q_al 0) (gb_li (q_al 0) (gb_li (q_gf 10 17) (gb_li (q_cv 1 10 0 f_X10_fault) (l_X10_land_163)))))))))) (l_X10_land_163)))))
theorem s_X10_land_136   {κ : gb_K} (hκ : ∀ q, gb_S RX10 cX10_land 4 (gb_rm 4 96) 1 q (κ q)) : gb_S RX10 cX10_land 4 (gb_rm 4 96) 1 136 (k_X10_land_136 κ) := (s_aln 0 rfl dX10_land_136 (s_gf (T := TX10) winX10 rfl (Nat.le_of_ble_eq_true rfl) gw_645 rfl dX10_land_137 (s_iconst (by decide +kernel) dX10_land_140 (s_cne (tgt := 163) (by decide +kernel) dX10_land_141 (s_X10_land_163 hκ) (s_aln 0 rfl dX10_land_144 (s_gf (T := TX10) winX10 rfl (Nat.le_of_ble_eq_true rfl) gw_644 rfl dX10_land_145 (s_aln 0 rfl dX10_land_148 (s_gf (T := TX10) winX10 rfl (Nat.le_of_ble_eq_true rfl) gw_643 rfl dX10_land_149 (s_cge (tgt := 163) (by decide +kernel) dX10_land_152 (s_X10_land_163 hκ) (s_aln 0 rfl dX10_land_155 (s_aln 0 rfl dX10_land_156 (s_gf (T := TX10) winX10 rfl (Nat.le_of_ble_eq_true rfl) gw_644 rfl dX10_land_157 (s_cv (C := RX10) c_X10_fault rfl (gb_l5 gw_650 gw_651 gw_652 gw_553 gw_653) v_X10_fault ⟨rfl, rfl⟩ ⟨Nat.le_of_ble_eq_true rfl, Nat.le_of_ble_eq_true rfl⟩ dX10_land_160 (s_X10_land_163 hκ))))))))))))))
noncomputable def k_X10_land_77 (κ : gb_K) : gb_C := (o_il 2 (o_zeq (k_X10_land_136 κ) (o_al 0 (o_gf 10 18 (o_ci (-1) (o_ceq (o_al 0 (o_cv 0 10 0 f_X10_readsLine (o_inc 1 1 (o_al 0 (o_gf 10 18 (o_ci (-1) (o_ceq (o_al 0 (o_cv 0 10 1 f_X10_sees (o_ci 59 (o_ceq (o_ci 1 (k_X10_land_118 κ)) (k_X10_land_117 κ))))) (k_X10_land_117 κ)))))))) (k_X10_land_136 κ)))))))
theorem l_X10_land_77 : gb_Li (fun κ => k_X10_land_77 κ) := (gb_li (q_il 2) (q_zeq (l_X10_land_136) (gb_li (q_al 0) (gb_li (q_gf 10 18) (gb_li (q_ci (-1)) (q_ceq (gb_li (q_al 0) (gb_li (q_cv 0 10 0 f_X10_readsLine) (gb_li (q_inc 1 1) (gb_li (q_al 0) (gb_li (q_gf 10 18) (gb_li (q_ci (-1)) (q_ceq (gb_li (q_al 0) (gb_li (q_cv 0 10 1 f_X10_sees) (gb_li (q_ci 59) (q_ceq (gb_li (q_ci 1) (l_X10_land_118)) (l_X10_land_117))))) (l_X10_land_117)))))))) (l_X10_land_136)))))))
theorem s_X10_land_77   {κ : gb_K} (hκ : ∀ q, gb_S RX10 cX10_land 4 (gb_rm 4 96) 1 q (κ q)) : gb_S RX10 cX10_land 4 (gb_rm 4 96) 1 77 (k_X10_land_77 κ) := (s_iln 2 rfl dX10_land_77 (s_zeq (tgt := 136) (by decide +kernel) dX10_land_78 (s_X10_land_136 hκ) (s_aln 0 rfl dX10_land_81 (s_gf (T := TX10) winX10 rfl (Nat.le_of_ble_eq_true rfl) gw_645 rfl dX10_land_82 (s_iconst (by decide +kernel) dX10_land_85 (s_cne (tgt := 136) (by decide +kernel) dX10_land_86 (s_X10_land_136 hκ) (s_aln 0 rfl dX10_land_89 (s_cv (C := RX10) c_X10_readsLine rfl (gb_l5 gw_693 gw_694 gw_695 gw_553 gw_696) v_X10_readsLine ⟨rfl, rfl⟩ ⟨Nat.le_of_ble_eq_true rfl, Nat.le_of_ble_eq_true rfl⟩ dX10_land_90 (s_inc (by decide +kernel) (Nat.le_of_ble_eq_true rfl) dX10_land_93 (s_aln 0 rfl dX10_land_96 (s_gf (T := TX10) winX10 rfl (Nat.le_of_ble_eq_true rfl) gw_645 rfl dX10_land_97 (s_iconst (by decide +kernel) dX10_land_100 (s_cne (tgt := 117) (by decide +kernel) dX10_land_101 (s_X10_land_117 hκ) (s_aln 0 rfl dX10_land_104 (s_cv (C := RX10) c_X10_sees rfl (gb_l5 gw_646 gw_647 gw_648 gw_553 gw_649) v_X10_sees ⟨rfl, rfl⟩ ⟨Nat.le_of_ble_eq_true rfl, Nat.le_of_ble_eq_true rfl⟩ dX10_land_105 (s_bipush (by decide +kernel) dX10_land_108 (s_cne (tgt := 117) (by decide +kernel) dX10_land_110 (s_X10_land_117 hκ) (s_iconst (by decide +kernel) dX10_land_113 (s_goto (tgt := 118) (by decide +kernel) dX10_land_114 (s_X10_land_118 hκ))))))))))))))))))))
noncomputable def k_X10_land_185 (κ : gb_K) : gb_C := (o_il 3 (o_ci 54 (o_cge (o_al 0 (o_ci 0 (o_pf 10 5 (o_al 0 (o_ci 0 (o_pz 10 3 (o_il 1 o_ri))))))) (o_al 0 (o_gf 10 0 (o_il 3 (o_al 0 (o_gf 10 22 (o_il 3 (o_iald (o_iast (o_inc 3 1 (o_j [0, 1, 3] (κ 185))))))))))))))
theorem l_X10_land_185 : gb_Li (fun κ => k_X10_land_185 κ) := (gb_li (q_il 3) (gb_li (q_ci 54) (q_cge (gb_li (q_al 0) (gb_li (q_ci 0) (gb_li (q_pf 10 5) (gb_li (q_al 0) (gb_li (q_ci 0) (gb_li (q_pz 10 3) (gb_li (q_il 1) (gb_li0 _)))))))) (gb_li (q_al 0) (gb_li (q_gf 10 0) (gb_li (q_il 3) (gb_li (q_al 0) (gb_li (q_gf 10 22) (gb_li (q_il 3) (gb_li q_iald (gb_li q_iast (gb_li (q_inc 3 1) (q_j [0, 1, 3] 185)))))))))))))
theorem s_X10_land_185   {κ : gb_K} (hκ : ∀ q, gb_S RX10 cX10_land 4 (gb_rm 4 96) 1 q (κ q)) : gb_S RX10 cX10_land 4 (gb_rm 4 96) 1 185 (k_X10_land_185 κ) := (s_iln 3 rfl dX10_land_185 (s_bipush (by decide +kernel) dX10_land_186 (s_cge (tgt := 209) (by decide +kernel) dX10_land_188 (s_aln 0 rfl dX10_land_209 (s_iconst (by decide +kernel) dX10_land_210 (s_pf (T := TX10) winX10 rfl (Nat.le_of_ble_eq_true rfl) tyX10_ok nmX10 rfl (by decide +kernel) gw_566 rfl dX10_land_211 (s_aln 0 rfl dX10_land_214 (s_iconst (by decide +kernel) dX10_land_215 (s_pz (T := TX10) winX10 rfl (Nat.le_of_ble_eq_true rfl) tyX10_ok nmX10 rfl (by decide +kernel) gw_697 rfl dX10_land_216 (s_iln 1 rfl dX10_land_219 (s_ri rfl dX10_land_220)))))))) (s_aln 0 rfl dX10_land_191 (s_gf (T := TX10) winX10 rfl (Nat.le_of_ble_eq_true rfl) gw_545 rfl dX10_land_192 (s_iln 3 rfl dX10_land_195 (s_aln 0 rfl dX10_land_196 (s_gf (T := TX10) winX10 rfl (Nat.le_of_ble_eq_true rfl) gw_657 rfl dX10_land_197 (s_iln 3 rfl dX10_land_200 (s_iald dX10_land_201 (s_iast dX10_land_202 (s_inc (by decide +kernel) (Nat.le_of_ble_eq_true rfl) dX10_land_203 (s_goto (tgt := 185) (by decide +kernel) dX10_land_206 (s_j (hκ 185)))))))))))))))
noncomputable def B_X10_land : List (Nat × (gb_K → gb_C)) := [(11, fun κ => k_X10_land_11 κ), (77, fun κ => k_X10_land_77 κ), (185, fun κ => k_X10_land_185 κ)]
noncomputable def K_X10_land : gb_K := gb_fx (gb_tb (B_X10_land))
theorem L_X10_land : ∀ q, gb_Li (fun κ => gb_tb (B_X10_land) κ q) := gb_tb_li (List.forall_mem_cons.mpr ⟨l_X10_land_11, List.forall_mem_cons.mpr ⟨l_X10_land_77, List.forall_mem_cons.mpr ⟨l_X10_land_185, (fun _ h => absurd h List.not_mem_nil)⟩⟩⟩)
theorem S_X10_land   : ∀ q, gb_S RX10 cX10_land 4 (gb_rm 4 96) 1 q (K_X10_land q) := fun q => gb_fx_S (L_X10_land) (gb_tb_S (List.forall_mem_cons.mpr ⟨fun κ hκ => s_X10_land_11 hκ, List.forall_mem_cons.mpr ⟨fun κ hκ => s_X10_land_77 hκ, List.forall_mem_cons.mpr ⟨fun κ hκ => s_X10_land_185 hκ, (fun _ h => absurd h List.not_mem_nil)⟩⟩⟩)) q
noncomputable def f_X10_land : gb_F := gb_hide (gb_mf 4 (k_X10_land_0 (K_X10_land)))
theorem c_X10_land : ∀ l, gb_Met l yX10_land cX10_land 4 (some .int) 1 (gb_rm 4 96) f_X10_land := gb_hide_c (gb_met (own := RX10) (rk := 1) rfl (by decide +kernel) ⟨rfl, rfl⟩ (s_X10_land_0 (S_X10_land)))
theorem dX10_grade_0 : decode cX10_grade 0 = .ok (.aload_n 0, 1) := by decide +kernel
theorem dX10_grade_1 : decode cX10_grade 1 = .ok (.iconst 0, 1) := by decide +kernel
theorem dX10_grade_2 : decode cX10_grade 2 = .ok (.putfield 66, 3) := by decide +kernel
theorem dX10_grade_5 : decode cX10_grade 5 = .ok (.iload_n 1, 1) := by decide +kernel
theorem dX10_grade_6 : decode cX10_grade 6 = .ok (.invokestatic 230, 3) := by decide +kernel
theorem dX10_grade_9 : decode cX10_grade 9 = .ok (.ifCond .ne 5, 3) := by decide +kernel
theorem dX10_grade_12 : decode cX10_grade 12 = .ok (.iconst (-1), 1) := by decide +kernel
theorem dX10_grade_13 : decode cX10_grade 13 = .ok (.ireturn, 1) := by decide +kernel
theorem dX10_grade_14 : decode cX10_grade 14 = .ok (.iconst 0, 1) := by decide +kernel
theorem dX10_grade_15 : decode cX10_grade 15 = .ok (.istore_n 3, 1) := by decide +kernel
theorem dX10_grade_16 : decode cX10_grade 16 = .ok (.iconst 0, 1) := by decide +kernel
theorem dX10_grade_17 : decode cX10_grade 17 = .ok (.istore 4, 2) := by decide +kernel
theorem dX10_grade_19 : decode cX10_grade 19 = .ok (.iload 4, 2) := by decide +kernel
theorem dX10_grade_21 : decode cX10_grade 21 = .ok (.bipush 6, 2) := by decide +kernel
theorem dX10_grade_23 : decode cX10_grade 23 = .ok (.if_icmp .ge 19, 3) := by decide +kernel
theorem dX10_grade_26 : decode cX10_grade 26 = .ok (.iload_n 3, 1) := by decide +kernel
theorem dX10_grade_27 : decode cX10_grade 27 = .ok (.aload_n 0, 1) := by decide +kernel
theorem dX10_grade_28 : decode cX10_grade 28 = .ok (.iload 4, 2) := by decide +kernel
theorem dX10_grade_30 : decode cX10_grade 30 = .ok (.iload_n 1, 1) := by decide +kernel
theorem dX10_grade_31 : decode cX10_grade 31 = .ok (.invokevirtual 113, 3) := by decide +kernel
theorem dX10_grade_34 : decode cX10_grade 34 = .ok (.iadd, 1) := by decide +kernel
theorem dX10_grade_35 : decode cX10_grade 35 = .ok (.istore_n 3, 1) := by decide +kernel
theorem dX10_grade_36 : decode cX10_grade 36 = .ok (.iinc 4 1, 3) := by decide +kernel
theorem dX10_grade_39 : decode cX10_grade 39 = .ok (.goto (-20), 3) := by decide +kernel
theorem dX10_grade_42 : decode cX10_grade 42 = .ok (.iload_n 2, 1) := by decide +kernel
theorem dX10_grade_43 : decode cX10_grade 43 = .ok (.ifCond .ne 14, 3) := by decide +kernel
theorem dX10_grade_46 : decode cX10_grade 46 = .ok (.aload_n 0, 1) := by decide +kernel
theorem dX10_grade_47 : decode cX10_grade 47 = .ok (.getfield 7, 3) := by decide +kernel
theorem dX10_grade_50 : decode cX10_grade 50 = .ok (.iconst 0, 1) := by decide +kernel
theorem dX10_grade_51 : decode cX10_grade 51 = .ok (.iload_n 1, 1) := by decide +kernel
theorem dX10_grade_52 : decode cX10_grade 52 = .ok (.iadd, 1) := by decide +kernel
theorem dX10_grade_53 : decode cX10_grade 53 = .ok (.iaload, 1) := by decide +kernel
theorem dX10_grade_54 : decode cX10_grade 54 = .ok (.goto 30, 3) := by decide +kernel
theorem dX10_grade_57 : decode cX10_grade 57 = .ok (.iload_n 2, 1) := by decide +kernel
theorem dX10_grade_58 : decode cX10_grade 58 = .ok (.iconst 1, 1) := by decide +kernel
theorem dX10_grade_59 : decode cX10_grade 59 = .ok (.if_icmp .ne 15, 3) := by decide +kernel
theorem dX10_grade_62 : decode cX10_grade 62 = .ok (.aload_n 0, 1) := by decide +kernel
theorem dX10_grade_63 : decode cX10_grade 63 = .ok (.getfield 7, 3) := by decide +kernel
theorem dX10_grade_66 : decode cX10_grade 66 = .ok (.bipush 6, 2) := by decide +kernel
theorem dX10_grade_68 : decode cX10_grade 68 = .ok (.iload_n 1, 1) := by decide +kernel
theorem dX10_grade_69 : decode cX10_grade 69 = .ok (.iadd, 1) := by decide +kernel
theorem dX10_grade_70 : decode cX10_grade 70 = .ok (.iaload, 1) := by decide +kernel
theorem dX10_grade_71 : decode cX10_grade 71 = .ok (.goto 13, 3) := by decide +kernel
theorem dX10_grade_74 : decode cX10_grade 74 = .ok (.iload_n 2, 1) := by decide +kernel
theorem dX10_grade_75 : decode cX10_grade 75 = .ok (.iconst 2, 1) := by decide +kernel
theorem dX10_grade_76 : decode cX10_grade 76 = .ok (.if_icmp .ne 7, 3) := by decide +kernel
theorem dX10_grade_79 : decode cX10_grade 79 = .ok (.iload_n 3, 1) := by decide +kernel
theorem dX10_grade_80 : decode cX10_grade 80 = .ok (.goto 4, 3) := by decide +kernel
theorem dX10_grade_83 : decode cX10_grade 83 = .ok (.iconst (-1), 1) := by decide +kernel
theorem dX10_grade_84 : decode cX10_grade 84 = .ok (.ireturn, 1) := by decide +kernel
theorem v_X10_grade : yX10_grade.cls = RX10 ∧ yX10_grade.cls ≠ "java/lang/invoke/MethodHandle" ∧ yX10_grade.cls ≠ "java/lang/invoke/VarHandle" ∧ (parseMethodDescriptor yX10_grade.desc).map (fun d => d.parameters.length) = some 2 := ⟨rfl, by decide +kernel, by decide +kernel, by decide +kernel⟩
noncomputable def k_X10_grade_0 (κ : gb_K) : gb_C := (o_al 0 (o_ci 0 (o_pf 10 10 (o_il 1 (o_cs 1 2 f_X10_isGrade (o_zeq (o_ci (-1) o_ri) (o_ci 0 (o_is 3 (o_ci 0 (o_is 4 (o_j [0, 1, 2, 3, 4] (κ 19))))))))))))
theorem l_X10_grade_0 : gb_Li (fun κ => k_X10_grade_0 κ) := (gb_li (q_al 0) (gb_li (q_ci 0) (gb_li (q_pf 10 10) (gb_li (q_il 1) (gb_li (q_cs 1 2 f_X10_isGrade) (q_zeq (gb_li (q_ci (-1)) (gb_li0 _)) (gb_li (q_ci 0) (gb_li (q_is 3) (gb_li (q_ci 0) (gb_li (q_is 4) (q_j [0, 1, 2, 3, 4] 19)))))))))))
theorem s_X10_grade_0   {κ : gb_K} (hκ : ∀ q, gb_S RX10 cX10_grade 5 (gb_rm 2 47) 1 q (κ q)) : gb_S RX10 cX10_grade 5 (gb_rm 2 47) 1 0 (k_X10_grade_0 κ) := (s_aln 0 rfl dX10_grade_0 (s_iconst (by decide +kernel) dX10_grade_1 (s_pf (T := TX10) winX10 rfl (Nat.le_of_ble_eq_true rfl) tyX10_ok nmX10 rfl (by decide +kernel) gw_546 rfl dX10_grade_2 (s_iln 1 rfl dX10_grade_5 (s_cs c_X10_isGrade (gb_l4 gw_698 gw_699 gw_553 gw_700) v_X10_isGrade.2 ⟨rfl, rfl⟩ ⟨Nat.le_of_ble_eq_true rfl, Nat.le_of_ble_eq_true rfl⟩ dX10_grade_6 (s_zne (tgt := 14) (by decide +kernel) dX10_grade_9 (s_iconst (by decide +kernel) dX10_grade_14 (s_isn 3 rfl (Nat.le_of_ble_eq_true rfl) dX10_grade_15 (s_iconst (by decide +kernel) dX10_grade_16 (s_is (Nat.le_of_ble_eq_true rfl) dX10_grade_17 (s_j (hκ 19)))))) (s_iconst (by decide +kernel) dX10_grade_12 (s_ri rfl dX10_grade_13))))))))
noncomputable def k_X10_grade_84 (κ : gb_K) : gb_C := o_ri
theorem l_X10_grade_84 : gb_Li (fun κ => k_X10_grade_84 κ) := (gb_li0 _)
theorem s_X10_grade_84   {κ : gb_K} (hκ : ∀ q, gb_S RX10 cX10_grade 5 (gb_rm 2 47) 1 q (κ q)) : gb_S RX10 cX10_grade 5 (gb_rm 2 47) 1 84 (k_X10_grade_84 κ) := (s_ri rfl dX10_grade_84)
noncomputable def k_X10_grade_19 (κ : gb_K) : gb_C := (o_il 4 (o_ci 6 (o_cge (o_il 2 (o_zeq (o_al 0 (o_gf 10 0 (o_ci 0 (o_il 1 (o_ib (fun x y => x + y) (o_iald (k_X10_grade_84 κ))))))) (o_il 2 (o_ci 1 (o_ceq (o_al 0 (o_gf 10 0 (o_ci 6 (o_il 1 (o_ib (fun x y => x + y) (o_iald (k_X10_grade_84 κ))))))) (o_il 2 (o_ci 2 (o_ceq (o_il 3 (k_X10_grade_84 κ)) (o_ci (-1) (k_X10_grade_84 κ)))))))))) (o_il 3 (o_al 0 (o_il 4 (o_il 1 (o_cv 2 10 1 f_X10_tonsOf (o_ib (fun x y => x + y) (o_is 3 (o_inc 4 1 (o_j [0, 1, 2, 3, 4] (κ 19)))))))))))))
theorem l_X10_grade_19 : gb_Li (fun κ => k_X10_grade_19 κ) := (gb_li (q_il 4) (gb_li (q_ci 6) (q_cge (gb_li (q_il 2) (q_zeq (gb_li (q_al 0) (gb_li (q_gf 10 0) (gb_li (q_ci 0) (gb_li (q_il 1) (gb_li (q_ib _) (gb_li q_iald (l_X10_grade_84))))))) (gb_li (q_il 2) (gb_li (q_ci 1) (q_ceq (gb_li (q_al 0) (gb_li (q_gf 10 0) (gb_li (q_ci 6) (gb_li (q_il 1) (gb_li (q_ib _) (gb_li q_iald (l_X10_grade_84))))))) (gb_li (q_il 2) (gb_li (q_ci 2) (q_ceq (gb_li (q_il 3) (l_X10_grade_84)) (gb_li (q_ci (-1)) (l_X10_grade_84)))))))))) (gb_li (q_il 3) (gb_li (q_al 0) (gb_li (q_il 4) (gb_li (q_il 1) (gb_li (q_cv 2 10 1 f_X10_tonsOf) (gb_li (q_ib _) (gb_li (q_is 3) (gb_li (q_inc 4 1) (q_j [0, 1, 2, 3, 4] 19))))))))))))
theorem s_X10_grade_19   {κ : gb_K} (hκ : ∀ q, gb_S RX10 cX10_grade 5 (gb_rm 2 47) 1 q (κ q)) : gb_S RX10 cX10_grade 5 (gb_rm 2 47) 1 19 (k_X10_grade_19 κ) := (s_il dX10_grade_19 (s_bipush (by decide +kernel) dX10_grade_21 (s_cge (tgt := 42) (by decide +kernel) dX10_grade_23 (s_iln 2 rfl dX10_grade_42 (s_zne (tgt := 57) (by decide +kernel) dX10_grade_43 (s_iln 2 rfl dX10_grade_57 (s_iconst (by decide +kernel) dX10_grade_58 (s_cne (tgt := 74) (by decide +kernel) dX10_grade_59 (s_iln 2 rfl dX10_grade_74 (s_iconst (by decide +kernel) dX10_grade_75 (s_cne (tgt := 83) (by decide +kernel) dX10_grade_76 (s_iconst (by decide +kernel) dX10_grade_83 (s_X10_grade_84 hκ)) (s_iln 3 rfl dX10_grade_79 (s_goto (tgt := 84) (by decide +kernel) dX10_grade_80 (s_X10_grade_84 hκ)))))) (s_aln 0 rfl dX10_grade_62 (s_gf (T := TX10) winX10 rfl (Nat.le_of_ble_eq_true rfl) gw_545 rfl dX10_grade_63 (s_bipush (by decide +kernel) dX10_grade_66 (s_iln 1 rfl dX10_grade_68 (s_iadd dX10_grade_69 (s_iald dX10_grade_70 (s_goto (tgt := 84) (by decide +kernel) dX10_grade_71 (s_X10_grade_84 hκ))))))))))) (s_aln 0 rfl dX10_grade_46 (s_gf (T := TX10) winX10 rfl (Nat.le_of_ble_eq_true rfl) gw_545 rfl dX10_grade_47 (s_iconst (by decide +kernel) dX10_grade_50 (s_iln 1 rfl dX10_grade_51 (s_iadd dX10_grade_52 (s_iald dX10_grade_53 (s_goto (tgt := 84) (by decide +kernel) dX10_grade_54 (s_X10_grade_84 hκ)))))))))) (s_iln 3 rfl dX10_grade_26 (s_aln 0 rfl dX10_grade_27 (s_il dX10_grade_28 (s_iln 1 rfl dX10_grade_30 (s_cv (C := RX10) c_X10_tonsOf rfl (gb_l5 gw_585 gw_586 gw_587 gw_553 gw_588) v_X10_tonsOf ⟨rfl, rfl⟩ ⟨Nat.le_of_ble_eq_true rfl, Nat.le_of_ble_eq_true rfl⟩ dX10_grade_31 (s_iadd dX10_grade_34 (s_isn 3 rfl (Nat.le_of_ble_eq_true rfl) dX10_grade_35 (s_inc (by decide +kernel) (Nat.le_of_ble_eq_true rfl) dX10_grade_36 (s_goto (tgt := 19) (by decide +kernel) dX10_grade_39 (s_j (hκ 19))))))))))))))
noncomputable def B_X10_grade : List (Nat × (gb_K → gb_C)) := [(19, fun κ => k_X10_grade_19 κ)]
noncomputable def K_X10_grade : gb_K := gb_fx (gb_tb (B_X10_grade))
theorem L_X10_grade : ∀ q, gb_Li (fun κ => gb_tb (B_X10_grade) κ q) := gb_tb_li (List.forall_mem_cons.mpr ⟨l_X10_grade_19, (fun _ h => absurd h List.not_mem_nil)⟩)
theorem S_X10_grade   : ∀ q, gb_S RX10 cX10_grade 5 (gb_rm 2 47) 1 q (K_X10_grade q) := fun q => gb_fx_S (L_X10_grade) (gb_tb_S (List.forall_mem_cons.mpr ⟨fun κ hκ => s_X10_grade_19 hκ, (fun _ h => absurd h List.not_mem_nil)⟩)) q
noncomputable def f_X10_grade : gb_F := gb_hide (gb_mf 5 (k_X10_grade_0 (K_X10_grade)))
theorem c_X10_grade : ∀ l, gb_Met l yX10_grade cX10_grade 5 (some .int) 1 (gb_rm 2 47) f_X10_grade := gb_hide_c (gb_met (own := RX10) (rk := 1) rfl (by decide +kernel) ⟨rfl, rfl⟩ (s_X10_grade_0 (S_X10_grade)))
theorem dX10_pair_0 : decode cX10_pair 0 = .ok (.aload_n 0, 1) := by decide +kernel
theorem dX10_pair_1 : decode cX10_pair 1 = .ok (.iconst 0, 1) := by decide +kernel
theorem dX10_pair_2 : decode cX10_pair 2 = .ok (.putfield 66, 3) := by decide +kernel
theorem dX10_pair_5 : decode cX10_pair 5 = .ok (.iload_n 1, 1) := by decide +kernel
theorem dX10_pair_6 : decode cX10_pair 6 = .ok (.invokestatic 230, 3) := by decide +kernel
theorem dX10_pair_9 : decode cX10_pair 9 = .ok (.ifCond .eq 10, 3) := by decide +kernel
theorem dX10_pair_12 : decode cX10_pair 12 = .ok (.iload_n 2, 1) := by decide +kernel
theorem dX10_pair_13 : decode cX10_pair 13 = .ok (.invokestatic 230, 3) := by decide +kernel
theorem dX10_pair_16 : decode cX10_pair 16 = .ok (.ifCond .ne 5, 3) := by decide +kernel
theorem dX10_pair_19 : decode cX10_pair 19 = .ok (.iconst (-1), 1) := by decide +kernel
theorem dX10_pair_20 : decode cX10_pair 20 = .ok (.ireturn, 1) := by decide +kernel
theorem dX10_pair_21 : decode cX10_pair 21 = .ok (.aload_n 0, 1) := by decide +kernel
theorem dX10_pair_22 : decode cX10_pair 22 = .ok (.iload_n 1, 1) := by decide +kernel
theorem dX10_pair_23 : decode cX10_pair 23 = .ok (.iload_n 2, 1) := by decide +kernel
theorem dX10_pair_24 : decode cX10_pair 24 = .ok (.invokevirtual 110, 3) := by decide +kernel
theorem dX10_pair_27 : decode cX10_pair 27 = .ok (.ifCond .ge 8, 3) := by decide +kernel
theorem dX10_pair_30 : decode cX10_pair 30 = .ok (.bipush (-2), 2) := by decide +kernel
theorem dX10_pair_32 : decode cX10_pair 32 = .ok (.goto 9, 3) := by decide +kernel
theorem dX10_pair_35 : decode cX10_pair 35 = .ok (.aload_n 0, 1) := by decide +kernel
theorem dX10_pair_36 : decode cX10_pair 36 = .ok (.iload_n 1, 1) := by decide +kernel
theorem dX10_pair_37 : decode cX10_pair 37 = .ok (.iload_n 2, 1) := by decide +kernel
theorem dX10_pair_38 : decode cX10_pair 38 = .ok (.invokevirtual 110, 3) := by decide +kernel
theorem dX10_pair_41 : decode cX10_pair 41 = .ok (.ireturn, 1) := by decide +kernel
theorem v_X10_pair : yX10_pair.cls = RX10 ∧ yX10_pair.cls ≠ "java/lang/invoke/MethodHandle" ∧ yX10_pair.cls ≠ "java/lang/invoke/VarHandle" ∧ (parseMethodDescriptor yX10_pair.desc).map (fun d => d.parameters.length) = some 2 := ⟨rfl, by decide +kernel, by decide +kernel, by decide +kernel⟩
noncomputable def k_X10_pair_19 (κ : gb_K) : gb_C := (o_ci (-1) o_ri)
theorem l_X10_pair_19 : gb_Li (fun κ => k_X10_pair_19 κ) := (gb_li (q_ci (-1)) (gb_li0 _))
theorem s_X10_pair_19   {κ : gb_K} (hκ : ∀ q, gb_S RX10 cX10_pair 3 (gb_rm 2 45) 1 q (κ q)) : gb_S RX10 cX10_pair 3 (gb_rm 2 45) 1 19 (k_X10_pair_19 κ) := (s_iconst (by decide +kernel) dX10_pair_19 (s_ri rfl dX10_pair_20))
noncomputable def k_X10_pair_41 (κ : gb_K) : gb_C := o_ri
theorem l_X10_pair_41 : gb_Li (fun κ => k_X10_pair_41 κ) := (gb_li0 _)
theorem s_X10_pair_41   {κ : gb_K} (hκ : ∀ q, gb_S RX10 cX10_pair 3 (gb_rm 2 45) 1 q (κ q)) : gb_S RX10 cX10_pair 3 (gb_rm 2 45) 1 41 (k_X10_pair_41 κ) := (s_ri rfl dX10_pair_41)
noncomputable def k_X10_pair_0 (κ : gb_K) : gb_C := (o_al 0 (o_ci 0 (o_pf 10 10 (o_il 1 (o_cs 1 2 f_X10_isGrade (o_zeq (k_X10_pair_19 κ) (o_il 2 (o_cs 1 2 f_X10_isGrade (o_zeq (k_X10_pair_19 κ) (o_al 0 (o_il 1 (o_il 2 (o_cv 2 10 1 f_X10_loss (o_zge (o_al 0 (o_il 1 (o_il 2 (o_cv 2 10 1 f_X10_loss (k_X10_pair_41 κ))))) (o_ci (-2) (k_X10_pair_41 κ))))))))))))))))
theorem l_X10_pair_0 : gb_Li (fun κ => k_X10_pair_0 κ) := (gb_li (q_al 0) (gb_li (q_ci 0) (gb_li (q_pf 10 10) (gb_li (q_il 1) (gb_li (q_cs 1 2 f_X10_isGrade) (q_zeq (l_X10_pair_19) (gb_li (q_il 2) (gb_li (q_cs 1 2 f_X10_isGrade) (q_zeq (l_X10_pair_19) (gb_li (q_al 0) (gb_li (q_il 1) (gb_li (q_il 2) (gb_li (q_cv 2 10 1 f_X10_loss) (q_zge (gb_li (q_al 0) (gb_li (q_il 1) (gb_li (q_il 2) (gb_li (q_cv 2 10 1 f_X10_loss) (l_X10_pair_41))))) (gb_li (q_ci (-2)) (l_X10_pair_41))))))))))))))))
theorem s_X10_pair_0   {κ : gb_K} (hκ : ∀ q, gb_S RX10 cX10_pair 3 (gb_rm 2 45) 1 q (κ q)) : gb_S RX10 cX10_pair 3 (gb_rm 2 45) 1 0 (k_X10_pair_0 κ) := (s_aln 0 rfl dX10_pair_0 (s_iconst (by decide +kernel) dX10_pair_1 (s_pf (T := TX10) winX10 rfl (Nat.le_of_ble_eq_true rfl) tyX10_ok nmX10 rfl (by decide +kernel) gw_546 rfl dX10_pair_2 (s_iln 1 rfl dX10_pair_5 (s_cs c_X10_isGrade (gb_l4 gw_698 gw_699 gw_553 gw_700) v_X10_isGrade.2 ⟨rfl, rfl⟩ ⟨Nat.le_of_ble_eq_true rfl, Nat.le_of_ble_eq_true rfl⟩ dX10_pair_6 (s_zeq (tgt := 19) (by decide +kernel) dX10_pair_9 (s_X10_pair_19 hκ) (s_iln 2 rfl dX10_pair_12 (s_cs c_X10_isGrade (gb_l4 gw_698 gw_699 gw_553 gw_700) v_X10_isGrade.2 ⟨rfl, rfl⟩ ⟨Nat.le_of_ble_eq_true rfl, Nat.le_of_ble_eq_true rfl⟩ dX10_pair_13 (s_zne (tgt := 21) (by decide +kernel) dX10_pair_16 (s_aln 0 rfl dX10_pair_21 (s_iln 1 rfl dX10_pair_22 (s_iln 2 rfl dX10_pair_23 (s_cv (C := RX10) c_X10_loss rfl (gb_l5 gw_581 gw_582 gw_583 gw_553 gw_584) v_X10_loss ⟨rfl, rfl⟩ ⟨Nat.le_of_ble_eq_true rfl, Nat.le_of_ble_eq_true rfl⟩ dX10_pair_24 (s_zge (tgt := 35) (by decide +kernel) dX10_pair_27 (s_aln 0 rfl dX10_pair_35 (s_iln 1 rfl dX10_pair_36 (s_iln 2 rfl dX10_pair_37 (s_cv (C := RX10) c_X10_loss rfl (gb_l5 gw_581 gw_582 gw_583 gw_553 gw_584) v_X10_loss ⟨rfl, rfl⟩ ⟨Nat.le_of_ble_eq_true rfl, Nat.le_of_ble_eq_true rfl⟩ dX10_pair_38 (s_X10_pair_41 hκ))))) (s_bipush (by decide +kernel) dX10_pair_30 (s_goto (tgt := 41) (by decide +kernel) dX10_pair_32 (s_X10_pair_41 hκ)))))))) (s_X10_pair_19 hκ))))))))))
noncomputable def f_X10_pair : gb_F := gb_hide (gb_mf 3 (k_X10_pair_0 gb_n))
theorem c_X10_pair : ∀ l, gb_Met l yX10_pair cX10_pair 3 (some .int) 1 (gb_rm 2 45) f_X10_pair := gb_hide_c (gb_met (own := RX10) (rk := 1) rfl (by decide +kernel) ⟨rfl, rfl⟩ (s_X10_pair_0 gb_S_n))
theorem dX10_gradesIn_0 : decode cX10_gradesIn 0 = .ok (.iconst 0, 1) := by decide +kernel
theorem dX10_gradesIn_1 : decode cX10_gradesIn 1 = .ok (.istore_n 2, 1) := by decide +kernel
theorem dX10_gradesIn_2 : decode cX10_gradesIn 2 = .ok (.iconst 0, 1) := by decide +kernel
theorem dX10_gradesIn_3 : decode cX10_gradesIn 3 = .ok (.istore_n 3, 1) := by decide +kernel
theorem dX10_gradesIn_4 : decode cX10_gradesIn 4 = .ok (.iload_n 3, 1) := by decide +kernel
theorem dX10_gradesIn_5 : decode cX10_gradesIn 5 = .ok (.aload_n 0, 1) := by decide +kernel
theorem dX10_gradesIn_6 : decode cX10_gradesIn 6 = .ok (.iload_n 1, 1) := by decide +kernel
theorem dX10_gradesIn_7 : decode cX10_gradesIn 7 = .ok (.invokevirtual 84, 3) := by decide +kernel
theorem dX10_gradesIn_10 : decode cX10_gradesIn 10 = .ok (.if_icmp .ge 21, 3) := by decide +kernel
theorem dX10_gradesIn_13 : decode cX10_gradesIn 13 = .ok (.iload_n 2, 1) := by decide +kernel
theorem dX10_gradesIn_14 : decode cX10_gradesIn 14 = .ok (.iconst 1, 1) := by decide +kernel
theorem dX10_gradesIn_15 : decode cX10_gradesIn 15 = .ok (.aload_n 0, 1) := by decide +kernel
theorem dX10_gradesIn_16 : decode cX10_gradesIn 16 = .ok (.iload_n 1, 1) := by decide +kernel
theorem dX10_gradesIn_17 : decode cX10_gradesIn 17 = .ok (.iload_n 3, 1) := by decide +kernel
theorem dX10_gradesIn_18 : decode cX10_gradesIn 18 = .ok (.iconst 0, 1) := by decide +kernel
theorem dX10_gradesIn_19 : decode cX10_gradesIn 19 = .ok (.invokevirtual 88, 3) := by decide +kernel
theorem dX10_gradesIn_22 : decode cX10_gradesIn 22 = .ok (.ishl, 1) := by decide +kernel
theorem dX10_gradesIn_23 : decode cX10_gradesIn 23 = .ok (.ior, 1) := by decide +kernel
theorem dX10_gradesIn_24 : decode cX10_gradesIn 24 = .ok (.istore_n 2, 1) := by decide +kernel
theorem dX10_gradesIn_25 : decode cX10_gradesIn 25 = .ok (.iinc 3 1, 3) := by decide +kernel
theorem dX10_gradesIn_28 : decode cX10_gradesIn 28 = .ok (.goto (-24), 3) := by decide +kernel
theorem dX10_gradesIn_31 : decode cX10_gradesIn 31 = .ok (.iload_n 2, 1) := by decide +kernel
theorem dX10_gradesIn_32 : decode cX10_gradesIn 32 = .ok (.ireturn, 1) := by decide +kernel
theorem v_X10_gradesIn : yX10_gradesIn.cls = RX10 ∧ yX10_gradesIn.cls ≠ "java/lang/invoke/MethodHandle" ∧ yX10_gradesIn.cls ≠ "java/lang/invoke/VarHandle" ∧ (parseMethodDescriptor yX10_gradesIn.desc).map (fun d => d.parameters.length) = some 1 := ⟨rfl, by decide +kernel, by decide +kernel, by decide +kernel⟩
noncomputable def k_X10_gradesIn_0 (κ : gb_K) : gb_C := (o_ci 0 (o_is 2 (o_ci 0 (o_is 3 (o_j [0, 1, 2, 3] (κ 4))))))
theorem l_X10_gradesIn_0 : gb_Li (fun κ => k_X10_gradesIn_0 κ) := (gb_li (q_ci 0) (gb_li (q_is 2) (gb_li (q_ci 0) (gb_li (q_is 3) (q_j [0, 1, 2, 3] 4)))))
theorem s_X10_gradesIn_0   {κ : gb_K} (hκ : ∀ q, gb_S RX10 cX10_gradesIn 4 (gb_rm 1 23) 1 q (κ q)) : gb_S RX10 cX10_gradesIn 4 (gb_rm 1 23) 1 0 (k_X10_gradesIn_0 κ) := (s_iconst (by decide +kernel) dX10_gradesIn_0 (s_isn 2 rfl (Nat.le_of_ble_eq_true rfl) dX10_gradesIn_1 (s_iconst (by decide +kernel) dX10_gradesIn_2 (s_isn 3 rfl (Nat.le_of_ble_eq_true rfl) dX10_gradesIn_3 (s_j (hκ 4))))))
noncomputable def k_X10_gradesIn_4 (κ : gb_K) : gb_C := (o_il 3 (o_al 0 (o_il 1 (o_cv 1 10 1 f_X10_many (o_cge (o_il 2 o_ri) (o_il 2 (o_ci 1 (o_al 0 (o_il 1 (o_il 3 (o_ci 0 (o_cv 3 10 1 f_X10_layerOf (o_ib (fun x y => x <<< (y &&& 31)) (o_ib (fun x y => x ||| y) (o_is 2 (o_inc 3 1 (o_j [0, 1, 2, 3] (κ 4))))))))))))))))))
theorem l_X10_gradesIn_4 : gb_Li (fun κ => k_X10_gradesIn_4 κ) := (gb_li (q_il 3) (gb_li (q_al 0) (gb_li (q_il 1) (gb_li (q_cv 1 10 1 f_X10_many) (q_cge (gb_li (q_il 2) (gb_li0 _)) (gb_li (q_il 2) (gb_li (q_ci 1) (gb_li (q_al 0) (gb_li (q_il 1) (gb_li (q_il 3) (gb_li (q_ci 0) (gb_li (q_cv 3 10 1 f_X10_layerOf) (gb_li (q_ib _) (gb_li (q_ib _) (gb_li (q_is 2) (gb_li (q_inc 3 1) (q_j [0, 1, 2, 3] 4)))))))))))))))))
theorem s_X10_gradesIn_4   {κ : gb_K} (hκ : ∀ q, gb_S RX10 cX10_gradesIn 4 (gb_rm 1 23) 1 q (κ q)) : gb_S RX10 cX10_gradesIn 4 (gb_rm 1 23) 1 4 (k_X10_gradesIn_4 κ) := (s_iln 3 rfl dX10_gradesIn_4 (s_aln 0 rfl dX10_gradesIn_5 (s_iln 1 rfl dX10_gradesIn_6 (s_cv (C := RX10) c_X10_many rfl (gb_l5 gw_557 gw_558 gw_559 gw_553 gw_560) v_X10_many ⟨rfl, rfl⟩ ⟨Nat.le_of_ble_eq_true rfl, Nat.le_of_ble_eq_true rfl⟩ dX10_gradesIn_7 (s_cge (tgt := 31) (by decide +kernel) dX10_gradesIn_10 (s_iln 2 rfl dX10_gradesIn_31 (s_ri rfl dX10_gradesIn_32)) (s_iln 2 rfl dX10_gradesIn_13 (s_iconst (by decide +kernel) dX10_gradesIn_14 (s_aln 0 rfl dX10_gradesIn_15 (s_iln 1 rfl dX10_gradesIn_16 (s_iln 3 rfl dX10_gradesIn_17 (s_iconst (by decide +kernel) dX10_gradesIn_18 (s_cv (C := RX10) c_X10_layerOf rfl (gb_l5 gw_561 gw_562 gw_563 gw_553 gw_564) v_X10_layerOf ⟨rfl, rfl⟩ ⟨Nat.le_of_ble_eq_true rfl, Nat.le_of_ble_eq_true rfl⟩ dX10_gradesIn_19 (s_ishl dX10_gradesIn_22 (s_ior dX10_gradesIn_23 (s_isn 2 rfl (Nat.le_of_ble_eq_true rfl) dX10_gradesIn_24 (s_inc (by decide +kernel) (Nat.le_of_ble_eq_true rfl) dX10_gradesIn_25 (s_goto (tgt := 4) (by decide +kernel) dX10_gradesIn_28 (s_j (hκ 4)))))))))))))))))))
noncomputable def B_X10_gradesIn : List (Nat × (gb_K → gb_C)) := [(4, fun κ => k_X10_gradesIn_4 κ)]
noncomputable def K_X10_gradesIn : gb_K := gb_fx (gb_tb (B_X10_gradesIn))
theorem L_X10_gradesIn : ∀ q, gb_Li (fun κ => gb_tb (B_X10_gradesIn) κ q) := gb_tb_li (List.forall_mem_cons.mpr ⟨l_X10_gradesIn_4, (fun _ h => absurd h List.not_mem_nil)⟩)
theorem S_X10_gradesIn   : ∀ q, gb_S RX10 cX10_gradesIn 4 (gb_rm 1 23) 1 q (K_X10_gradesIn q) := fun q => gb_fx_S (L_X10_gradesIn) (gb_tb_S (List.forall_mem_cons.mpr ⟨fun κ hκ => s_X10_gradesIn_4 hκ, (fun _ h => absurd h List.not_mem_nil)⟩)) q
noncomputable def f_X10_gradesIn : gb_F := gb_hide (gb_mf 4 (k_X10_gradesIn_0 (K_X10_gradesIn)))
theorem c_X10_gradesIn : ∀ l, gb_Met l yX10_gradesIn cX10_gradesIn 4 (some .int) 1 (gb_rm 1 23) f_X10_gradesIn := gb_hide_c (gb_met (own := RX10) (rk := 1) rfl (by decide +kernel) ⟨rfl, rfl⟩ (s_X10_gradesIn_0 (S_X10_gradesIn)))
theorem dX10_bin_0 : decode cX10_bin 0 = .ok (.aload_n 0, 1) := by decide +kernel
theorem dX10_bin_1 : decode cX10_bin 1 = .ok (.iconst 0, 1) := by decide +kernel
theorem dX10_bin_2 : decode cX10_bin 2 = .ok (.putfield 66, 3) := by decide +kernel
theorem dX10_bin_5 : decode cX10_bin 5 = .ok (.iload_n 1, 1) := by decide +kernel
theorem dX10_bin_6 : decode cX10_bin 6 = .ok (.invokestatic 233, 3) := by decide +kernel
theorem dX10_bin_9 : decode cX10_bin 9 = .ok (.ifCond .ne 5, 3) := by decide +kernel
theorem dX10_bin_12 : decode cX10_bin 12 = .ok (.iconst (-1), 1) := by decide +kernel
theorem dX10_bin_13 : decode cX10_bin 13 = .ok (.ireturn, 1) := by decide +kernel
theorem dX10_bin_14 : decode cX10_bin 14 = .ok (.iload_n 2, 1) := by decide +kernel
theorem dX10_bin_15 : decode cX10_bin 15 = .ok (.tableswitch 84 0 4 #[33, 43, 49, 55, 78], 33) := by decide +kernel
theorem dX10_bin_48 : decode cX10_bin 48 = .ok (.aload_n 0, 1) := by decide +kernel
theorem dX10_bin_49 : decode cX10_bin 49 = .ok (.getfield 7, 3) := by decide +kernel
theorem dX10_bin_52 : decode cX10_bin 52 = .ok (.bipush 48, 2) := by decide +kernel
theorem dX10_bin_54 : decode cX10_bin 54 = .ok (.iload_n 1, 1) := by decide +kernel
theorem dX10_bin_55 : decode cX10_bin 55 = .ok (.iadd, 1) := by decide +kernel
theorem dX10_bin_56 : decode cX10_bin 56 = .ok (.iaload, 1) := by decide +kernel
theorem dX10_bin_57 : decode cX10_bin 57 = .ok (.ireturn, 1) := by decide +kernel
theorem dX10_bin_58 : decode cX10_bin 58 = .ok (.aload_n 0, 1) := by decide +kernel
theorem dX10_bin_59 : decode cX10_bin 59 = .ok (.iload_n 1, 1) := by decide +kernel
theorem dX10_bin_60 : decode cX10_bin 60 = .ok (.invokevirtual 138, 3) := by decide +kernel
theorem dX10_bin_63 : decode cX10_bin 63 = .ok (.ireturn, 1) := by decide +kernel
theorem dX10_bin_64 : decode cX10_bin 64 = .ok (.aload_n 0, 1) := by decide +kernel
theorem dX10_bin_65 : decode cX10_bin 65 = .ok (.iload_n 1, 1) := by decide +kernel
theorem dX10_bin_66 : decode cX10_bin 66 = .ok (.invokevirtual 84, 3) := by decide +kernel
theorem dX10_bin_69 : decode cX10_bin 69 = .ok (.ireturn, 1) := by decide +kernel
theorem dX10_bin_70 : decode cX10_bin 70 = .ok (.iconst 0, 1) := by decide +kernel
theorem dX10_bin_71 : decode cX10_bin 71 = .ok (.aload_n 0, 1) := by decide +kernel
theorem dX10_bin_72 : decode cX10_bin 72 = .ok (.getfield 7, 3) := by decide +kernel
theorem dX10_bin_75 : decode cX10_bin 75 = .ok (.bipush 54, 2) := by decide +kernel
theorem dX10_bin_77 : decode cX10_bin 77 = .ok (.iload_n 1, 1) := by decide +kernel
theorem dX10_bin_78 : decode cX10_bin 78 = .ok (.iadd, 1) := by decide +kernel
theorem dX10_bin_79 : decode cX10_bin 79 = .ok (.iaload, 1) := by decide +kernel
theorem dX10_bin_80 : decode cX10_bin 80 = .ok (.aload_n 0, 1) := by decide +kernel
theorem dX10_bin_81 : decode cX10_bin 81 = .ok (.getfield 7, 3) := by decide +kernel
theorem dX10_bin_84 : decode cX10_bin 84 = .ok (.sipush 174, 3) := by decide +kernel
theorem dX10_bin_87 : decode cX10_bin 87 = .ok (.iaload, 1) := by decide +kernel
theorem dX10_bin_88 : decode cX10_bin 88 = .ok (.isub, 1) := by decide +kernel
theorem dX10_bin_89 : decode cX10_bin 89 = .ok (.invokestatic 101, 3) := by decide +kernel
theorem dX10_bin_92 : decode cX10_bin 92 = .ok (.ireturn, 1) := by decide +kernel
theorem dX10_bin_93 : decode cX10_bin 93 = .ok (.aload_n 0, 1) := by decide +kernel
theorem dX10_bin_94 : decode cX10_bin 94 = .ok (.iload_n 1, 1) := by decide +kernel
theorem dX10_bin_95 : decode cX10_bin 95 = .ok (.invokevirtual 236, 3) := by decide +kernel
theorem dX10_bin_98 : decode cX10_bin 98 = .ok (.ireturn, 1) := by decide +kernel
theorem dX10_bin_99 : decode cX10_bin 99 = .ok (.iconst (-1), 1) := by decide +kernel
theorem dX10_bin_100 : decode cX10_bin 100 = .ok (.ireturn, 1) := by decide +kernel
theorem v_X10_bin : yX10_bin.cls = RX10 ∧ yX10_bin.cls ≠ "java/lang/invoke/MethodHandle" ∧ yX10_bin.cls ≠ "java/lang/invoke/VarHandle" ∧ (parseMethodDescriptor yX10_bin.desc).map (fun d => d.parameters.length) = some 2 := ⟨rfl, by decide +kernel, by decide +kernel, by decide +kernel⟩
noncomputable def k_X10_bin_99 (κ : gb_K) : gb_C := (o_ci (-1) o_ri)
theorem l_X10_bin_99 : gb_Li (fun κ => k_X10_bin_99 κ) := (gb_li (q_ci (-1)) (gb_li0 _))
theorem s_X10_bin_99   {κ : gb_K} (hκ : ∀ q, gb_S RX10 cX10_bin 3 (gb_rm 2 46) 1 q (κ q)) : gb_S RX10 cX10_bin 3 (gb_rm 2 46) 1 99 (k_X10_bin_99 κ) := (s_iconst (by decide +kernel) dX10_bin_99 (s_ri rfl dX10_bin_100))
noncomputable def k_X10_bin_93 (κ : gb_K) : gb_C := (o_al 0 (o_il 1 (o_cv 1 10 1 f_X10_gradesIn o_ri)))
theorem l_X10_bin_93 : gb_Li (fun κ => k_X10_bin_93 κ) := (gb_li (q_al 0) (gb_li (q_il 1) (gb_li (q_cv 1 10 1 f_X10_gradesIn) (gb_li0 _))))
theorem s_X10_bin_93   {κ : gb_K} (hκ : ∀ q, gb_S RX10 cX10_bin 3 (gb_rm 2 46) 1 q (κ q)) : gb_S RX10 cX10_bin 3 (gb_rm 2 46) 1 93 (k_X10_bin_93 κ) := (s_aln 0 rfl dX10_bin_93 (s_iln 1 rfl dX10_bin_94 (s_cv (C := RX10) c_X10_gradesIn rfl (gb_l5 gw_701 gw_702 gw_703 gw_553 gw_704) v_X10_gradesIn ⟨rfl, rfl⟩ ⟨Nat.le_of_ble_eq_true rfl, Nat.le_of_ble_eq_true rfl⟩ dX10_bin_95 (s_ri rfl dX10_bin_98))))
noncomputable def k_X10_bin_70 (κ : gb_K) : gb_C := (o_ci 0 (o_al 0 (o_gf 10 0 (o_ci 54 (o_il 1 (o_ib (fun x y => x + y) (o_iald (o_al 0 (o_gf 10 0 (o_ci 174 (o_iald (o_ib (fun x y => x - y) (o_mmax o_ri)))))))))))))
theorem l_X10_bin_70 : gb_Li (fun κ => k_X10_bin_70 κ) := (gb_li (q_ci 0) (gb_li (q_al 0) (gb_li (q_gf 10 0) (gb_li (q_ci 54) (gb_li (q_il 1) (gb_li (q_ib _) (gb_li q_iald (gb_li (q_al 0) (gb_li (q_gf 10 0) (gb_li (q_ci 174) (gb_li q_iald (gb_li (q_ib _) (gb_li q_mmax (gb_li0 _))))))))))))))
theorem s_X10_bin_70   {κ : gb_K} (hκ : ∀ q, gb_S RX10 cX10_bin 3 (gb_rm 2 46) 1 q (κ q)) : gb_S RX10 cX10_bin 3 (gb_rm 2 46) 1 70 (k_X10_bin_70 κ) := (s_iconst (by decide +kernel) dX10_bin_70 (s_aln 0 rfl dX10_bin_71 (s_gf (T := TX10) winX10 rfl (Nat.le_of_ble_eq_true rfl) gw_545 rfl dX10_bin_72 (s_bipush (by decide +kernel) dX10_bin_75 (s_iln 1 rfl dX10_bin_77 (s_iadd dX10_bin_78 (s_iald dX10_bin_79 (s_aln 0 rfl dX10_bin_80 (s_gf (T := TX10) winX10 rfl (Nat.le_of_ble_eq_true rfl) gw_545 rfl dX10_bin_81 (s_sipush (by decide +kernel) dX10_bin_84 (s_iald dX10_bin_87 (s_isub dX10_bin_88 (s_mmax ⟨Nat.le_of_ble_eq_true rfl, Nat.le_of_ble_eq_true rfl⟩ (gb_l4 gw_576 gw_16 gw_17 gw_18) dX10_bin_89 (s_ri rfl dX10_bin_92))))))))))))))
noncomputable def k_X10_bin_64 (κ : gb_K) : gb_C := (o_al 0 (o_il 1 (o_cv 1 10 1 f_X10_many o_ri)))
theorem l_X10_bin_64 : gb_Li (fun κ => k_X10_bin_64 κ) := (gb_li (q_al 0) (gb_li (q_il 1) (gb_li (q_cv 1 10 1 f_X10_many) (gb_li0 _))))
theorem s_X10_bin_64   {κ : gb_K} (hκ : ∀ q, gb_S RX10 cX10_bin 3 (gb_rm 2 46) 1 q (κ q)) : gb_S RX10 cX10_bin 3 (gb_rm 2 46) 1 64 (k_X10_bin_64 κ) := (s_aln 0 rfl dX10_bin_64 (s_iln 1 rfl dX10_bin_65 (s_cv (C := RX10) c_X10_many rfl (gb_l5 gw_557 gw_558 gw_559 gw_553 gw_560) v_X10_many ⟨rfl, rfl⟩ ⟨Nat.le_of_ble_eq_true rfl, Nat.le_of_ble_eq_true rfl⟩ dX10_bin_66 (s_ri rfl dX10_bin_69))))
noncomputable def k_X10_bin_58 (κ : gb_K) : gb_C := (o_al 0 (o_il 1 (o_cv 1 10 1 f_X10_tonsIn o_ri)))
theorem l_X10_bin_58 : gb_Li (fun κ => k_X10_bin_58 κ) := (gb_li (q_al 0) (gb_li (q_il 1) (gb_li (q_cv 1 10 1 f_X10_tonsIn) (gb_li0 _))))
theorem s_X10_bin_58   {κ : gb_K} (hκ : ∀ q, gb_S RX10 cX10_bin 3 (gb_rm 2 46) 1 q (κ q)) : gb_S RX10 cX10_bin 3 (gb_rm 2 46) 1 58 (k_X10_bin_58 κ) := (s_aln 0 rfl dX10_bin_58 (s_iln 1 rfl dX10_bin_59 (s_cv (C := RX10) c_X10_tonsIn rfl (gb_l5 gw_618 gw_619 gw_620 gw_553 gw_621) v_X10_tonsIn ⟨rfl, rfl⟩ ⟨Nat.le_of_ble_eq_true rfl, Nat.le_of_ble_eq_true rfl⟩ dX10_bin_60 (s_ri rfl dX10_bin_63))))
noncomputable def k_X10_bin_48 (κ : gb_K) : gb_C := (o_al 0 (o_gf 10 0 (o_ci 48 (o_il 1 (o_ib (fun x y => x + y) (o_iald o_ri))))))
theorem l_X10_bin_48 : gb_Li (fun κ => k_X10_bin_48 κ) := (gb_li (q_al 0) (gb_li (q_gf 10 0) (gb_li (q_ci 48) (gb_li (q_il 1) (gb_li (q_ib _) (gb_li q_iald (gb_li0 _)))))))
theorem s_X10_bin_48   {κ : gb_K} (hκ : ∀ q, gb_S RX10 cX10_bin 3 (gb_rm 2 46) 1 q (κ q)) : gb_S RX10 cX10_bin 3 (gb_rm 2 46) 1 48 (k_X10_bin_48 κ) := (s_aln 0 rfl dX10_bin_48 (s_gf (T := TX10) winX10 rfl (Nat.le_of_ble_eq_true rfl) gw_545 rfl dX10_bin_49 (s_bipush (by decide +kernel) dX10_bin_52 (s_iln 1 rfl dX10_bin_54 (s_iadd dX10_bin_55 (s_iald dX10_bin_56 (s_ri rfl dX10_bin_57)))))))
noncomputable def k_X10_bin_0 (κ : gb_K) : gb_C := (o_al 0 (o_ci 0 (o_pf 10 10 (o_il 1 (o_cs 1 2 f_X10_isBin (o_zeq (o_ci (-1) o_ri) (o_il 2 (o_ts 0 4 [(k_X10_bin_48 κ), (k_X10_bin_58 κ), (k_X10_bin_64 κ), (k_X10_bin_70 κ), (k_X10_bin_93 κ)] (k_X10_bin_99 κ)))))))))
theorem l_X10_bin_0 : gb_Li (fun κ => k_X10_bin_0 κ) := (gb_li (q_al 0) (gb_li (q_ci 0) (gb_li (q_pf 10 10) (gb_li (q_il 1) (gb_li (q_cs 1 2 f_X10_isBin) (q_zeq (gb_li (q_ci (-1)) (gb_li0 _)) (gb_li (q_il 2) (q_ts (ts := [(fun κ => (k_X10_bin_48 κ)), (fun κ => (k_X10_bin_58 κ)), (fun κ => (k_X10_bin_64 κ)), (fun κ => (k_X10_bin_70 κ)), (fun κ => (k_X10_bin_93 κ))]) (List.forall_mem_cons.mpr ⟨(l_X10_bin_48), List.forall_mem_cons.mpr ⟨(l_X10_bin_58), List.forall_mem_cons.mpr ⟨(l_X10_bin_64), List.forall_mem_cons.mpr ⟨(l_X10_bin_70), List.forall_mem_cons.mpr ⟨(l_X10_bin_93), (fun _ h => absurd h List.not_mem_nil)⟩⟩⟩⟩⟩) (l_X10_bin_99)))))))))
theorem s_X10_bin_0   {κ : gb_K} (hκ : ∀ q, gb_S RX10 cX10_bin 3 (gb_rm 2 46) 1 q (κ q)) : gb_S RX10 cX10_bin 3 (gb_rm 2 46) 1 0 (k_X10_bin_0 κ) := (s_aln 0 rfl dX10_bin_0 (s_iconst (by decide +kernel) dX10_bin_1 (s_pf (T := TX10) winX10 rfl (Nat.le_of_ble_eq_true rfl) tyX10_ok nmX10 rfl (by decide +kernel) gw_546 rfl dX10_bin_2 (s_iln 1 rfl dX10_bin_5 (s_cs c_X10_isBin (gb_l4 gw_705 gw_706 gw_553 gw_707) v_X10_isBin.2 ⟨rfl, rfl⟩ ⟨Nat.le_of_ble_eq_true rfl, Nat.le_of_ble_eq_true rfl⟩ dX10_bin_6 (s_zne (tgt := 14) (by decide +kernel) dX10_bin_9 (s_iln 2 rfl dX10_bin_14 (s_ts (dt := 99) dX10_bin_15 (by decide +kernel) (s_X10_bin_99 hκ) (gb_tsl (gb_tslc (off := 33) (tgt := 48) (by decide +kernel) (s_X10_bin_48 hκ) (gb_tslc (off := 43) (tgt := 58) (by decide +kernel) (s_X10_bin_58 hκ) (gb_tslc (off := 49) (tgt := 64) (by decide +kernel) (s_X10_bin_64 hκ) (gb_tslc (off := 55) (tgt := 70) (by decide +kernel) (s_X10_bin_70 hκ) (gb_tslc (off := 78) (tgt := 93) (by decide +kernel) (s_X10_bin_93 hκ) gb_tsl0)))))))) (s_iconst (by decide +kernel) dX10_bin_12 (s_ri rfl dX10_bin_13))))))))
noncomputable def f_X10_bin : gb_F := gb_hide (gb_mf 3 (k_X10_bin_0 gb_n))
theorem c_X10_bin : ∀ l, gb_Met l yX10_bin cX10_bin 3 (some .int) 1 (gb_rm 2 46) f_X10_bin := gb_hide_c (gb_met (own := RX10) (rk := 1) rfl (by decide +kernel) ⟨rfl, rfl⟩ (s_X10_bin_0 gb_S_n))
theorem dX10_layer_0 : decode cX10_layer 0 = .ok (.aload_n 0, 1) := by decide +kernel
theorem dX10_layer_1 : decode cX10_layer 1 = .ok (.iconst 0, 1) := by decide +kernel
theorem dX10_layer_2 : decode cX10_layer 2 = .ok (.putfield 66, 3) := by decide +kernel
theorem dX10_layer_5 : decode cX10_layer 5 = .ok (.iload_n 1, 1) := by decide +kernel
theorem dX10_layer_6 : decode cX10_layer 6 = .ok (.invokestatic 233, 3) := by decide +kernel
theorem dX10_layer_9 : decode cX10_layer 9 = .ok (.ifCond .eq 32, 3) := by decide +kernel
theorem dX10_layer_12 : decode cX10_layer 12 = .ok (.iload_n 2, 1) := by decide +kernel
theorem dX10_layer_13 : decode cX10_layer 13 = .ok (.i2l, 1) := by decide +kernel
theorem dX10_layer_14 : decode cX10_layer 14 = .ok (.lconst 0, 1) := by decide +kernel
theorem dX10_layer_15 : decode cX10_layer 15 = .ok (.aload_n 0, 1) := by decide +kernel
theorem dX10_layer_16 : decode cX10_layer 16 = .ok (.iload_n 1, 1) := by decide +kernel
theorem dX10_layer_17 : decode cX10_layer 17 = .ok (.invokevirtual 84, 3) := by decide +kernel
theorem dX10_layer_20 : decode cX10_layer 20 = .ok (.iconst 1, 1) := by decide +kernel
theorem dX10_layer_21 : decode cX10_layer 21 = .ok (.isub, 1) := by decide +kernel
theorem dX10_layer_22 : decode cX10_layer 22 = .ok (.i2l, 1) := by decide +kernel
theorem dX10_layer_23 : decode cX10_layer 23 = .ok (.invokestatic 76, 3) := by decide +kernel
theorem dX10_layer_26 : decode cX10_layer 26 = .ok (.ifCond .eq 15, 3) := by decide +kernel
theorem dX10_layer_29 : decode cX10_layer 29 = .ok (.iload_n 3, 1) := by decide +kernel
theorem dX10_layer_30 : decode cX10_layer 30 = .ok (.i2l, 1) := by decide +kernel
theorem dX10_layer_31 : decode cX10_layer 31 = .ok (.lconst 0, 1) := by decide +kernel
theorem dX10_layer_32 : decode cX10_layer 32 = .ok (.ldc2_w 239, 3) := by decide +kernel
theorem dX10_layer_35 : decode cX10_layer 35 = .ok (.invokestatic 76, 3) := by decide +kernel
theorem dX10_layer_38 : decode cX10_layer 38 = .ok (.ifCond .ne 5, 3) := by decide +kernel
theorem dX10_layer_41 : decode cX10_layer 41 = .ok (.iconst (-1), 1) := by decide +kernel
theorem dX10_layer_42 : decode cX10_layer 42 = .ok (.ireturn, 1) := by decide +kernel
theorem dX10_layer_43 : decode cX10_layer 43 = .ok (.iload_n 3, 1) := by decide +kernel
theorem dX10_layer_44 : decode cX10_layer 44 = .ok (.iconst 3, 1) := by decide +kernel
theorem dX10_layer_45 : decode cX10_layer 45 = .ok (.if_icmp .ne 12, 3) := by decide +kernel
theorem dX10_layer_48 : decode cX10_layer 48 = .ok (.aload_n 0, 1) := by decide +kernel
theorem dX10_layer_49 : decode cX10_layer 49 = .ok (.iload_n 1, 1) := by decide +kernel
theorem dX10_layer_50 : decode cX10_layer 50 = .ok (.iload_n 2, 1) := by decide +kernel
theorem dX10_layer_51 : decode cX10_layer 51 = .ok (.invokevirtual 159, 3) := by decide +kernel
theorem dX10_layer_54 : decode cX10_layer 54 = .ok (.goto 10, 3) := by decide +kernel
theorem dX10_layer_57 : decode cX10_layer 57 = .ok (.aload_n 0, 1) := by decide +kernel
theorem dX10_layer_58 : decode cX10_layer 58 = .ok (.iload_n 1, 1) := by decide +kernel
theorem dX10_layer_59 : decode cX10_layer 59 = .ok (.iload_n 2, 1) := by decide +kernel
theorem dX10_layer_60 : decode cX10_layer 60 = .ok (.iload_n 3, 1) := by decide +kernel
theorem dX10_layer_61 : decode cX10_layer 61 = .ok (.invokevirtual 88, 3) := by decide +kernel
theorem dX10_layer_64 : decode cX10_layer 64 = .ok (.ireturn, 1) := by decide +kernel
theorem v_X10_layer : yX10_layer.cls = RX10 ∧ yX10_layer.cls ≠ "java/lang/invoke/MethodHandle" ∧ yX10_layer.cls ≠ "java/lang/invoke/VarHandle" ∧ (parseMethodDescriptor yX10_layer.desc).map (fun d => d.parameters.length) = some 3 := ⟨rfl, by decide +kernel, by decide +kernel, by decide +kernel⟩
noncomputable def k_X10_layer_41 (κ : gb_K) : gb_C := (o_ci (-1) o_ri)
theorem l_X10_layer_41 : gb_Li (fun κ => k_X10_layer_41 κ) := (gb_li (q_ci (-1)) (gb_li0 _))
theorem s_X10_layer_41   {κ : gb_K} (hκ : ∀ q, gb_S RX10 cX10_layer 4 (gb_rm 3 70) 1 q (κ q)) : gb_S RX10 cX10_layer 4 (gb_rm 3 70) 1 41 (k_X10_layer_41 κ) := (s_iconst (by decide +kernel) dX10_layer_41 (s_ri rfl dX10_layer_42))
noncomputable def k_X10_layer_64 (κ : gb_K) : gb_C := o_ri
theorem l_X10_layer_64 : gb_Li (fun κ => k_X10_layer_64 κ) := (gb_li0 _)
theorem s_X10_layer_64   {κ : gb_K} (hκ : ∀ q, gb_S RX10 cX10_layer 4 (gb_rm 3 70) 1 q (κ q)) : gb_S RX10 cX10_layer 4 (gb_rm 3 70) 1 64 (k_X10_layer_64 κ) := (s_ri rfl dX10_layer_64)
noncomputable def k_X10_layer_54 (κ : gb_K) : gb_C := (k_X10_layer_64 κ)
theorem l_X10_layer_54 : gb_Li (fun κ => k_X10_layer_54 κ) := (l_X10_layer_64)
theorem s_X10_layer_54   {κ : gb_K} (hκ : ∀ q, gb_S RX10 cX10_layer 4 (gb_rm 3 70) 1 q (κ q)) : gb_S RX10 cX10_layer 4 (gb_rm 3 70) 1 54 (k_X10_layer_54 κ) := (s_goto (tgt := 64) (by decide +kernel) dX10_layer_54 (s_X10_layer_64 hκ))
noncomputable def k_X10_layer_61 (κ : gb_K) : gb_C := (o_cv 3 10 1 f_X10_layerOf (k_X10_layer_64 κ))
theorem l_X10_layer_61 : gb_Li (fun κ => k_X10_layer_61 κ) := (gb_li (q_cv 3 10 1 f_X10_layerOf) (l_X10_layer_64))
theorem s_X10_layer_61   {κ : gb_K} (hκ : ∀ q, gb_S RX10 cX10_layer 4 (gb_rm 3 70) 1 q (κ q)) : gb_S RX10 cX10_layer 4 (gb_rm 3 70) 1 61 (k_X10_layer_61 κ) := (s_cv (C := RX10) c_X10_layerOf rfl (gb_l5 gw_561 gw_562 gw_563 gw_553 gw_564) v_X10_layerOf ⟨rfl, rfl⟩ ⟨Nat.le_of_ble_eq_true rfl, Nat.le_of_ble_eq_true rfl⟩ dX10_layer_61 (s_X10_layer_64 hκ))
noncomputable def k_X10_layer_0 (κ : gb_K) : gb_C := (o_al 0 (o_ci 0 (o_pf 10 10 (o_il 1 (o_cs 1 2 f_X10_isBin (o_zeq (k_X10_layer_41 κ) (o_il 2 (o_i2l (o_cl 0 (o_al 0 (o_il 1 (o_cv 1 10 1 f_X10_many (o_ci 1 (o_ib (fun x y => x - y) (o_i2l (o_cs 3 2 f_X10_in (o_zeq (k_X10_layer_41 κ) (o_il 3 (o_i2l (o_cl 0 (o_cl 3 (o_cs 3 2 f_X10_in (o_zeq (k_X10_layer_41 κ) (o_il 3 (o_ci 3 (o_ceq (o_al 0 (o_il 1 (o_il 2 (o_cv 2 10 1 f_X10_unit (k_X10_layer_54 κ))))) (o_al 0 (o_il 1 (o_il 2 (o_il 3 (k_X10_layer_61 κ)))))))))))))))))))))))))))))))
theorem l_X10_layer_0 : gb_Li (fun κ => k_X10_layer_0 κ) := (gb_li (q_al 0) (gb_li (q_ci 0) (gb_li (q_pf 10 10) (gb_li (q_il 1) (gb_li (q_cs 1 2 f_X10_isBin) (q_zeq (l_X10_layer_41) (gb_li (q_il 2) (gb_li q_i2l (gb_li (q_cl 0) (gb_li (q_al 0) (gb_li (q_il 1) (gb_li (q_cv 1 10 1 f_X10_many) (gb_li (q_ci 1) (gb_li (q_ib _) (gb_li q_i2l (gb_li (q_cs 3 2 f_X10_in) (q_zeq (l_X10_layer_41) (gb_li (q_il 3) (gb_li q_i2l (gb_li (q_cl 0) (gb_li (q_cl 3) (gb_li (q_cs 3 2 f_X10_in) (q_zeq (l_X10_layer_41) (gb_li (q_il 3) (gb_li (q_ci 3) (q_ceq (gb_li (q_al 0) (gb_li (q_il 1) (gb_li (q_il 2) (gb_li (q_cv 2 10 1 f_X10_unit) (l_X10_layer_54))))) (gb_li (q_al 0) (gb_li (q_il 1) (gb_li (q_il 2) (gb_li (q_il 3) (l_X10_layer_61)))))))))))))))))))))))))))))))
theorem s_X10_layer_0   {κ : gb_K} (hκ : ∀ q, gb_S RX10 cX10_layer 4 (gb_rm 3 70) 1 q (κ q)) : gb_S RX10 cX10_layer 4 (gb_rm 3 70) 1 0 (k_X10_layer_0 κ) := (s_aln 0 rfl dX10_layer_0 (s_iconst (by decide +kernel) dX10_layer_1 (s_pf (T := TX10) winX10 rfl (Nat.le_of_ble_eq_true rfl) tyX10_ok nmX10 rfl (by decide +kernel) gw_546 rfl dX10_layer_2 (s_iln 1 rfl dX10_layer_5 (s_cs c_X10_isBin (gb_l4 gw_705 gw_706 gw_553 gw_707) v_X10_isBin.2 ⟨rfl, rfl⟩ ⟨Nat.le_of_ble_eq_true rfl, Nat.le_of_ble_eq_true rfl⟩ dX10_layer_6 (s_zeq (tgt := 41) (by decide +kernel) dX10_layer_9 (s_X10_layer_41 hκ) (s_iln 2 rfl dX10_layer_12 (s_i2l dX10_layer_13 (s_lconst (by decide +kernel) dX10_layer_14 (s_aln 0 rfl dX10_layer_15 (s_iln 1 rfl dX10_layer_16 (s_cv (C := RX10) c_X10_many rfl (gb_l5 gw_557 gw_558 gw_559 gw_553 gw_560) v_X10_many ⟨rfl, rfl⟩ ⟨Nat.le_of_ble_eq_true rfl, Nat.le_of_ble_eq_true rfl⟩ dX10_layer_17 (s_iconst (by decide +kernel) dX10_layer_20 (s_isub dX10_layer_21 (s_i2l dX10_layer_22 (s_cs c_X10_in (gb_l4 gw_551 gw_552 gw_553 gw_554) v_X10_in.2 ⟨rfl, rfl⟩ ⟨Nat.le_of_ble_eq_true rfl, Nat.le_of_ble_eq_true rfl⟩ dX10_layer_23 (s_zeq (tgt := 41) (by decide +kernel) dX10_layer_26 (s_X10_layer_41 hκ) (s_iln 3 rfl dX10_layer_29 (s_i2l dX10_layer_30 (s_lconst (by decide +kernel) dX10_layer_31 (s_ldc2 gw_708 dX10_layer_32 (s_cs c_X10_in (gb_l4 gw_551 gw_552 gw_553 gw_554) v_X10_in.2 ⟨rfl, rfl⟩ ⟨Nat.le_of_ble_eq_true rfl, Nat.le_of_ble_eq_true rfl⟩ dX10_layer_35 (s_zne (tgt := 43) (by decide +kernel) dX10_layer_38 (s_iln 3 rfl dX10_layer_43 (s_iconst (by decide +kernel) dX10_layer_44 (s_cne (tgt := 57) (by decide +kernel) dX10_layer_45 (s_aln 0 rfl dX10_layer_57 (s_iln 1 rfl dX10_layer_58 (s_iln 2 rfl dX10_layer_59 (s_iln 3 rfl dX10_layer_60 (s_X10_layer_61 hκ))))) (s_aln 0 rfl dX10_layer_48 (s_iln 1 rfl dX10_layer_49 (s_iln 2 rfl dX10_layer_50 (s_cv (C := RX10) c_X10_unit rfl (gb_l5 gw_635 gw_636 gw_637 gw_553 gw_638) v_X10_unit ⟨rfl, rfl⟩ ⟨Nat.le_of_ble_eq_true rfl, Nat.le_of_ble_eq_true rfl⟩ dX10_layer_51 (s_X10_layer_54 hκ)))))))) (s_X10_layer_41 hκ))))))))))))))))))))))))
noncomputable def f_X10_layer : gb_F := gb_hide (gb_mf 4 (k_X10_layer_0 gb_n))
theorem c_X10_layer : ∀ l, gb_Met l yX10_layer cX10_layer 4 (some .int) 1 (gb_rm 3 70) f_X10_layer := gb_hide_c (gb_met (own := RX10) (rk := 1) rfl (by decide +kernel) ⟨rfl, rfl⟩ (s_X10_layer_0 gb_S_n))
theorem dX10_load_0 : decode cX10_load 0 = .ok (.aload_n 0, 1) := by decide +kernel
theorem dX10_load_1 : decode cX10_load 1 = .ok (.iconst 0, 1) := by decide +kernel
theorem dX10_load_2 : decode cX10_load 2 = .ok (.putfield 66, 3) := by decide +kernel
theorem dX10_load_5 : decode cX10_load 5 = .ok (.iload_n 1, 1) := by decide +kernel
theorem dX10_load_6 : decode cX10_load 6 = .ok (.invokestatic 230, 3) := by decide +kernel
theorem dX10_load_9 : decode cX10_load 9 = .ok (.ifCond .eq 17, 3) := by decide +kernel
theorem dX10_load_12 : decode cX10_load 12 = .ok (.iload_n 2, 1) := by decide +kernel
theorem dX10_load_13 : decode cX10_load 13 = .ok (.invokestatic 241, 3) := by decide +kernel
theorem dX10_load_16 : decode cX10_load 16 = .ok (.ifCond .eq 10, 3) := by decide +kernel
theorem dX10_load_19 : decode cX10_load 19 = .ok (.iload_n 3, 1) := by decide +kernel
theorem dX10_load_20 : decode cX10_load 20 = .ok (.invokestatic 233, 3) := by decide +kernel
theorem dX10_load_23 : decode cX10_load 23 = .ok (.ifCond .ne 5, 3) := by decide +kernel
theorem dX10_load_26 : decode cX10_load 26 = .ok (.iconst (-1), 1) := by decide +kernel
theorem dX10_load_27 : decode cX10_load 27 = .ok (.ireturn, 1) := by decide +kernel
theorem dX10_load_28 : decode cX10_load 28 = .ok (.aload_n 0, 1) := by decide +kernel
theorem dX10_load_29 : decode cX10_load 29 = .ok (.iload_n 3, 1) := by decide +kernel
theorem dX10_load_30 : decode cX10_load 30 = .ok (.iload_n 1, 1) := by decide +kernel
theorem dX10_load_31 : decode cX10_load 31 = .ok (.iload_n 2, 1) := by decide +kernel
theorem dX10_load_32 : decode cX10_load 32 = .ok (.aload_n 0, 1) := by decide +kernel
theorem dX10_load_33 : decode cX10_load 33 = .ok (.getfield 7, 3) := by decide +kernel
theorem dX10_load_36 : decode cX10_load 36 = .ok (.sipush 174, 3) := by decide +kernel
theorem dX10_load_39 : decode cX10_load 39 = .ok (.iaload, 1) := by decide +kernel
theorem dX10_load_40 : decode cX10_load 40 = .ok (.invokevirtual 244, 3) := by decide +kernel
theorem dX10_load_43 : decode cX10_load 43 = .ok (.istore 4, 2) := by decide +kernel
theorem dX10_load_45 : decode cX10_load 45 = .ok (.iload 4, 2) := by decide +kernel
theorem dX10_load_47 : decode cX10_load 47 = .ok (.ifCond .eq 6, 3) := by decide +kernel
theorem dX10_load_50 : decode cX10_load 50 = .ok (.iload 4, 2) := by decide +kernel
theorem dX10_load_52 : decode cX10_load 52 = .ok (.ireturn, 1) := by decide +kernel
theorem dX10_load_53 : decode cX10_load 53 = .ok (.aload_n 0, 1) := by decide +kernel
theorem dX10_load_54 : decode cX10_load 54 = .ok (.invokevirtual 248, 3) := by decide +kernel
theorem dX10_load_57 : decode cX10_load 57 = .ok (.aload_n 0, 1) := by decide +kernel
theorem dX10_load_58 : decode cX10_load 58 = .ok (.iload_n 3, 1) := by decide +kernel
theorem dX10_load_59 : decode cX10_load 59 = .ok (.iload_n 1, 1) := by decide +kernel
theorem dX10_load_60 : decode cX10_load 60 = .ok (.iload_n 2, 1) := by decide +kernel
theorem dX10_load_61 : decode cX10_load 61 = .ok (.aload_n 0, 1) := by decide +kernel
theorem dX10_load_62 : decode cX10_load 62 = .ok (.getfield 7, 3) := by decide +kernel
theorem dX10_load_65 : decode cX10_load 65 = .ok (.sipush 174, 3) := by decide +kernel
theorem dX10_load_68 : decode cX10_load 68 = .ok (.iaload, 1) := by decide +kernel
theorem dX10_load_69 : decode cX10_load 69 = .ok (.invokevirtual 251, 3) := by decide +kernel
theorem dX10_load_72 : decode cX10_load 72 = .ok (.aload_n 0, 1) := by decide +kernel
theorem dX10_load_73 : decode cX10_load 73 = .ok (.iload_n 3, 1) := by decide +kernel
theorem dX10_load_74 : decode cX10_load 74 = .ok (.invokevirtual 138, 3) := by decide +kernel
theorem dX10_load_77 : decode cX10_load 77 = .ok (.ireturn, 1) := by decide +kernel
theorem v_X10_load : yX10_load.cls = RX10 ∧ yX10_load.cls ≠ "java/lang/invoke/MethodHandle" ∧ yX10_load.cls ≠ "java/lang/invoke/VarHandle" ∧ (parseMethodDescriptor yX10_load.desc).map (fun d => d.parameters.length) = some 3 := ⟨rfl, by decide +kernel, by decide +kernel, by decide +kernel⟩
noncomputable def k_X10_load_26 (κ : gb_K) : gb_C := (o_ci (-1) o_ri)
theorem l_X10_load_26 : gb_Li (fun κ => k_X10_load_26 κ) := (gb_li (q_ci (-1)) (gb_li0 _))
theorem s_X10_load_26   {κ : gb_K} (hκ : ∀ q, gb_S RX10 cX10_load 5 (gb_rm 3 71) 1 q (κ q)) : gb_S RX10 cX10_load 5 (gb_rm 3 71) 1 26 (k_X10_load_26 κ) := (s_iconst (by decide +kernel) dX10_load_26 (s_ri rfl dX10_load_27))
noncomputable def k_X10_load_61 (κ : gb_K) : gb_C := (o_al 0 (o_gf 10 0 (o_ci 174 (o_iald (o_cv 4 10 0 f_X10_lies (o_al 0 (o_il 3 (o_cv 1 10 1 f_X10_tonsIn o_ri))))))))
theorem l_X10_load_61 : gb_Li (fun κ => k_X10_load_61 κ) := (gb_li (q_al 0) (gb_li (q_gf 10 0) (gb_li (q_ci 174) (gb_li q_iald (gb_li (q_cv 4 10 0 f_X10_lies) (gb_li (q_al 0) (gb_li (q_il 3) (gb_li (q_cv 1 10 1 f_X10_tonsIn) (gb_li0 _)))))))))
theorem s_X10_load_61   {κ : gb_K} (hκ : ∀ q, gb_S RX10 cX10_load 5 (gb_rm 3 71) 1 q (κ q)) : gb_S RX10 cX10_load 5 (gb_rm 3 71) 1 61 (k_X10_load_61 κ) := (s_aln 0 rfl dX10_load_61 (s_gf (T := TX10) winX10 rfl (Nat.le_of_ble_eq_true rfl) gw_545 rfl dX10_load_62 (s_sipush (by decide +kernel) dX10_load_65 (s_iald dX10_load_68 (s_cv (C := RX10) c_X10_lies rfl (gb_l5 gw_709 gw_710 gw_711 gw_553 gw_712) v_X10_lies ⟨rfl, rfl⟩ ⟨Nat.le_of_ble_eq_true rfl, Nat.le_of_ble_eq_true rfl⟩ dX10_load_69 (s_aln 0 rfl dX10_load_72 (s_iln 3 rfl dX10_load_73 (s_cv (C := RX10) c_X10_tonsIn rfl (gb_l5 gw_618 gw_619 gw_620 gw_553 gw_621) v_X10_tonsIn ⟨rfl, rfl⟩ ⟨Nat.le_of_ble_eq_true rfl, Nat.le_of_ble_eq_true rfl⟩ dX10_load_74 (s_ri rfl dX10_load_77)))))))))
noncomputable def k_X10_load_0 (κ : gb_K) : gb_C := (o_al 0 (o_ci 0 (o_pf 10 10 (o_il 1 (o_cs 1 2 f_X10_isGrade (o_zeq (k_X10_load_26 κ) (o_il 2 (o_cs 1 2 f_X10_isLoad (o_zeq (k_X10_load_26 κ) (o_il 3 (o_cs 1 2 f_X10_isBin (o_zeq (k_X10_load_26 κ) (o_al 0 (o_il 3 (o_il 1 (o_il 2 (o_al 0 (o_gf 10 0 (o_ci 174 (o_iald (o_cv 4 10 1 f_X10_whyNot (o_is 4 (o_il 4 (o_zeq (o_al 0 (o_cv 0 10 0 f_X10_does (o_al 0 (o_il 3 (o_il 1 (o_il 2 (k_X10_load_61 κ))))))) (o_il 4 o_ri)))))))))))))))))))))))))
theorem l_X10_load_0 : gb_Li (fun κ => k_X10_load_0 κ) := (gb_li (q_al 0) (gb_li (q_ci 0) (gb_li (q_pf 10 10) (gb_li (q_il 1) (gb_li (q_cs 1 2 f_X10_isGrade) (q_zeq (l_X10_load_26) (gb_li (q_il 2) (gb_li (q_cs 1 2 f_X10_isLoad) (q_zeq (l_X10_load_26) (gb_li (q_il 3) (gb_li (q_cs 1 2 f_X10_isBin) (q_zeq (l_X10_load_26) (gb_li (q_al 0) (gb_li (q_il 3) (gb_li (q_il 1) (gb_li (q_il 2) (gb_li (q_al 0) (gb_li (q_gf 10 0) (gb_li (q_ci 174) (gb_li q_iald (gb_li (q_cv 4 10 1 f_X10_whyNot) (gb_li (q_is 4) (gb_li (q_il 4) (q_zeq (gb_li (q_al 0) (gb_li (q_cv 0 10 0 f_X10_does) (gb_li (q_al 0) (gb_li (q_il 3) (gb_li (q_il 1) (gb_li (q_il 2) (l_X10_load_61))))))) (gb_li (q_il 4) (gb_li0 _))))))))))))))))))))))))))
theorem s_X10_load_0   {κ : gb_K} (hκ : ∀ q, gb_S RX10 cX10_load 5 (gb_rm 3 71) 1 q (κ q)) : gb_S RX10 cX10_load 5 (gb_rm 3 71) 1 0 (k_X10_load_0 κ) := (s_aln 0 rfl dX10_load_0 (s_iconst (by decide +kernel) dX10_load_1 (s_pf (T := TX10) winX10 rfl (Nat.le_of_ble_eq_true rfl) tyX10_ok nmX10 rfl (by decide +kernel) gw_546 rfl dX10_load_2 (s_iln 1 rfl dX10_load_5 (s_cs c_X10_isGrade (gb_l4 gw_698 gw_699 gw_553 gw_700) v_X10_isGrade.2 ⟨rfl, rfl⟩ ⟨Nat.le_of_ble_eq_true rfl, Nat.le_of_ble_eq_true rfl⟩ dX10_load_6 (s_zeq (tgt := 26) (by decide +kernel) dX10_load_9 (s_X10_load_26 hκ) (s_iln 2 rfl dX10_load_12 (s_cs c_X10_isLoad (gb_l4 gw_713 gw_714 gw_553 gw_715) v_X10_isLoad.2 ⟨rfl, rfl⟩ ⟨Nat.le_of_ble_eq_true rfl, Nat.le_of_ble_eq_true rfl⟩ dX10_load_13 (s_zeq (tgt := 26) (by decide +kernel) dX10_load_16 (s_X10_load_26 hκ) (s_iln 3 rfl dX10_load_19 (s_cs c_X10_isBin (gb_l4 gw_705 gw_706 gw_553 gw_707) v_X10_isBin.2 ⟨rfl, rfl⟩ ⟨Nat.le_of_ble_eq_true rfl, Nat.le_of_ble_eq_true rfl⟩ dX10_load_20 (s_zne (tgt := 28) (by decide +kernel) dX10_load_23 (s_aln 0 rfl dX10_load_28 (s_iln 3 rfl dX10_load_29 (s_iln 1 rfl dX10_load_30 (s_iln 2 rfl dX10_load_31 (s_aln 0 rfl dX10_load_32 (s_gf (T := TX10) winX10 rfl (Nat.le_of_ble_eq_true rfl) gw_545 rfl dX10_load_33 (s_sipush (by decide +kernel) dX10_load_36 (s_iald dX10_load_39 (s_cv (C := RX10) c_X10_whyNot rfl (gb_l5 gw_716 gw_717 gw_718 gw_553 gw_719) v_X10_whyNot ⟨rfl, rfl⟩ ⟨Nat.le_of_ble_eq_true rfl, Nat.le_of_ble_eq_true rfl⟩ dX10_load_40 (s_is (Nat.le_of_ble_eq_true rfl) dX10_load_43 (s_il dX10_load_45 (s_zeq (tgt := 53) (by decide +kernel) dX10_load_47 (s_aln 0 rfl dX10_load_53 (s_cv (C := RX10) c_X10_does rfl (gb_l5 gw_720 gw_721 gw_722 gw_553 gw_723) v_X10_does ⟨rfl, rfl⟩ ⟨Nat.le_of_ble_eq_true rfl, Nat.le_of_ble_eq_true rfl⟩ dX10_load_54 (s_aln 0 rfl dX10_load_57 (s_iln 3 rfl dX10_load_58 (s_iln 1 rfl dX10_load_59 (s_iln 2 rfl dX10_load_60 (s_X10_load_61 hκ))))))) (s_il dX10_load_50 (s_ri rfl dX10_load_52)))))))))))))) (s_X10_load_26 hκ)))))))))))))
noncomputable def f_X10_load : gb_F := gb_hide (gb_mf 5 (k_X10_load_0 gb_n))
theorem c_X10_load : ∀ l, gb_Met l yX10_load cX10_load 5 (some .int) 1 (gb_rm 3 71) f_X10_load := gb_hide_c (gb_met (own := RX10) (rk := 1) rfl (by decide +kernel) ⟨rfl, rfl⟩ (s_X10_load_0 gb_S_n))
theorem dX10_draw_0 : decode cX10_draw 0 = .ok (.aload_n 0, 1) := by decide +kernel
theorem dX10_draw_1 : decode cX10_draw 1 = .ok (.iconst 0, 1) := by decide +kernel
theorem dX10_draw_2 : decode cX10_draw 2 = .ok (.putfield 66, 3) := by decide +kernel
theorem dX10_draw_5 : decode cX10_draw 5 = .ok (.iload_n 1, 1) := by decide +kernel
theorem dX10_draw_6 : decode cX10_draw 6 = .ok (.invokestatic 233, 3) := by decide +kernel
theorem dX10_draw_9 : decode cX10_draw 9 = .ok (.ifCond .eq 10, 3) := by decide +kernel
theorem dX10_draw_12 : decode cX10_draw 12 = .ok (.iload_n 2, 1) := by decide +kernel
theorem dX10_draw_13 : decode cX10_draw 13 = .ok (.invokestatic 241, 3) := by decide +kernel
theorem dX10_draw_16 : decode cX10_draw 16 = .ok (.ifCond .ne 5, 3) := by decide +kernel
theorem dX10_draw_19 : decode cX10_draw 19 = .ok (.iconst (-1), 1) := by decide +kernel
theorem dX10_draw_20 : decode cX10_draw 20 = .ok (.ireturn, 1) := by decide +kernel
theorem dX10_draw_21 : decode cX10_draw 21 = .ok (.aload_n 0, 1) := by decide +kernel
theorem dX10_draw_22 : decode cX10_draw 22 = .ok (.iload_n 1, 1) := by decide +kernel
theorem dX10_draw_23 : decode cX10_draw 23 = .ok (.invokevirtual 134, 3) := by decide +kernel
theorem dX10_draw_26 : decode cX10_draw 26 = .ok (.ifCond .eq 6, 3) := by decide +kernel
theorem dX10_draw_29 : decode cX10_draw 29 = .ok (.bipush (-2), 2) := by decide +kernel
theorem dX10_draw_31 : decode cX10_draw 31 = .ok (.ireturn, 1) := by decide +kernel
theorem dX10_draw_32 : decode cX10_draw 32 = .ok (.aload_n 0, 1) := by decide +kernel
theorem dX10_draw_33 : decode cX10_draw 33 = .ok (.iload_n 1, 1) := by decide +kernel
theorem dX10_draw_34 : decode cX10_draw 34 = .ok (.invokevirtual 138, 3) := by decide +kernel
theorem dX10_draw_37 : decode cX10_draw 37 = .ok (.iload_n 2, 1) := by decide +kernel
theorem dX10_draw_38 : decode cX10_draw 38 = .ok (.if_icmp .ge 6, 3) := by decide +kernel
theorem dX10_draw_41 : decode cX10_draw 41 = .ok (.bipush (-3), 2) := by decide +kernel
theorem dX10_draw_43 : decode cX10_draw 43 = .ok (.ireturn, 1) := by decide +kernel
theorem dX10_draw_44 : decode cX10_draw 44 = .ok (.aload_n 0, 1) := by decide +kernel
theorem dX10_draw_45 : decode cX10_draw 45 = .ok (.invokevirtual 248, 3) := by decide +kernel
theorem dX10_draw_48 : decode cX10_draw 48 = .ok (.aload_n 0, 1) := by decide +kernel
theorem dX10_draw_49 : decode cX10_draw 49 = .ok (.iload_n 1, 1) := by decide +kernel
theorem dX10_draw_50 : decode cX10_draw 50 = .ok (.iload_n 2, 1) := by decide +kernel
theorem dX10_draw_51 : decode cX10_draw 51 = .ok (.invokevirtual 255, 3) := by decide +kernel
theorem dX10_draw_54 : decode cX10_draw 54 = .ok (.aload_n 0, 1) := by decide +kernel
theorem dX10_draw_55 : decode cX10_draw 55 = .ok (.iconst 0, 1) := by decide +kernel
theorem dX10_draw_56 : decode cX10_draw 56 = .ok (.putfield 70, 3) := by decide +kernel
theorem dX10_draw_59 : decode cX10_draw 59 = .ok (.iconst 0, 1) := by decide +kernel
theorem dX10_draw_60 : decode cX10_draw 60 = .ok (.istore_n 3, 1) := by decide +kernel
theorem dX10_draw_61 : decode cX10_draw 61 = .ok (.iload_n 3, 1) := by decide +kernel
theorem dX10_draw_62 : decode cX10_draw 62 = .ok (.bipush 6, 2) := by decide +kernel
theorem dX10_draw_64 : decode cX10_draw 64 = .ok (.if_icmp .ge 64, 3) := by decide +kernel
theorem dX10_draw_67 : decode cX10_draw 67 = .ok (.iconst 0, 1) := by decide +kernel
theorem dX10_draw_68 : decode cX10_draw 68 = .ok (.istore 4, 2) := by decide +kernel
theorem dX10_draw_70 : decode cX10_draw 70 = .ok (.iconst 0, 1) := by decide +kernel
theorem dX10_draw_71 : decode cX10_draw 71 = .ok (.istore 5, 2) := by decide +kernel
theorem dX10_draw_73 : decode cX10_draw 73 = .ok (.iload 5, 2) := by decide +kernel
theorem dX10_draw_75 : decode cX10_draw 75 = .ok (.aload_n 0, 1) := by decide +kernel
theorem dX10_draw_76 : decode cX10_draw 76 = .ok (.getfield 153, 3) := by decide +kernel
theorem dX10_draw_79 : decode cX10_draw 79 = .ok (.if_icmp .ge 36, 3) := by decide +kernel
theorem dX10_draw_82 : decode cX10_draw 82 = .ok (.iload 4, 2) := by decide +kernel
theorem dX10_draw_84 : decode cX10_draw 84 = .ok (.aload_n 0, 1) := by decide +kernel
theorem dX10_draw_85 : decode cX10_draw 85 = .ok (.getfield 30, 3) := by decide +kernel
theorem dX10_draw_88 : decode cX10_draw 88 = .ok (.iload 5, 2) := by decide +kernel
theorem dX10_draw_90 : decode cX10_draw 90 = .ok (.iaload, 1) := by decide +kernel
theorem dX10_draw_91 : decode cX10_draw 91 = .ok (.iload_n 3, 1) := by decide +kernel
theorem dX10_draw_92 : decode cX10_draw 92 = .ok (.if_icmp .ne 13, 3) := by decide +kernel
theorem dX10_draw_95 : decode cX10_draw 95 = .ok (.aload_n 0, 1) := by decide +kernel
theorem dX10_draw_96 : decode cX10_draw 96 = .ok (.getfield 33, 3) := by decide +kernel
theorem dX10_draw_99 : decode cX10_draw 99 = .ok (.iload 5, 2) := by decide +kernel
theorem dX10_draw_101 : decode cX10_draw 101 = .ok (.iaload, 1) := by decide +kernel
theorem dX10_draw_102 : decode cX10_draw 102 = .ok (.goto 4, 3) := by decide +kernel
theorem dX10_draw_105 : decode cX10_draw 105 = .ok (.iconst 0, 1) := by decide +kernel
theorem dX10_draw_106 : decode cX10_draw 106 = .ok (.iadd, 1) := by decide +kernel
theorem dX10_draw_107 : decode cX10_draw 107 = .ok (.istore 4, 2) := by decide +kernel
theorem dX10_draw_109 : decode cX10_draw 109 = .ok (.iinc 5 1, 3) := by decide +kernel
theorem dX10_draw_112 : decode cX10_draw 112 = .ok (.goto (-39), 3) := by decide +kernel
theorem dX10_draw_115 : decode cX10_draw 115 = .ok (.aload_n 0, 1) := by decide +kernel
theorem dX10_draw_116 : decode cX10_draw 116 = .ok (.iload 4, 2) := by decide +kernel
theorem dX10_draw_118 : decode cX10_draw 118 = .ok (.i2l, 1) := by decide +kernel
theorem dX10_draw_119 : decode cX10_draw 119 = .ok (.invokevirtual 259, 3) := by decide +kernel
theorem dX10_draw_122 : decode cX10_draw 122 = .ok (.iinc 3 1, 3) := by decide +kernel
theorem dX10_draw_125 : decode cX10_draw 125 = .ok (.goto (-64), 3) := by decide +kernel
theorem dX10_draw_128 : decode cX10_draw 128 = .ok (.aload_n 0, 1) := by decide +kernel
theorem dX10_draw_129 : decode cX10_draw 129 = .ok (.iload_n 2, 1) := by decide +kernel
theorem dX10_draw_130 : decode cX10_draw 130 = .ok (.aload_n 0, 1) := by decide +kernel
theorem dX10_draw_131 : decode cX10_draw 131 = .ok (.getfield 156, 3) := by decide +kernel
theorem dX10_draw_134 : decode cX10_draw 134 = .ok (.imul, 1) := by decide +kernel
theorem dX10_draw_135 : decode cX10_draw 135 = .ok (.invokevirtual 263, 3) := by decide +kernel
theorem dX10_draw_138 : decode cX10_draw 138 = .ok (.iload_n 2, 1) := by decide +kernel
theorem dX10_draw_139 : decode cX10_draw 139 = .ok (.aload_n 0, 1) := by decide +kernel
theorem dX10_draw_140 : decode cX10_draw 140 = .ok (.getfield 156, 3) := by decide +kernel
theorem dX10_draw_143 : decode cX10_draw 143 = .ok (.imul, 1) := by decide +kernel
theorem dX10_draw_144 : decode cX10_draw 144 = .ok (.ireturn, 1) := by decide +kernel
theorem v_X10_draw : yX10_draw.cls = RX10 ∧ yX10_draw.cls ≠ "java/lang/invoke/MethodHandle" ∧ yX10_draw.cls ≠ "java/lang/invoke/VarHandle" ∧ (parseMethodDescriptor yX10_draw.desc).map (fun d => d.parameters.length) = some 2 := ⟨rfl, by decide +kernel, by decide +kernel, by decide +kernel⟩
noncomputable def k_X10_draw_19 (κ : gb_K) : gb_C := (o_ci (-1) o_ri)
theorem l_X10_draw_19 : gb_Li (fun κ => k_X10_draw_19 κ) := (gb_li (q_ci (-1)) (gb_li0 _))
theorem s_X10_draw_19   {κ : gb_K} (hκ : ∀ q, gb_S RX10 cX10_draw 6 (gb_rm 4 96) 1 q (κ q)) : gb_S RX10 cX10_draw 6 (gb_rm 4 96) 1 19 (k_X10_draw_19 κ) := (s_iconst (by decide +kernel) dX10_draw_19 (s_ri rfl dX10_draw_20))
noncomputable def k_X10_draw_0 (κ : gb_K) : gb_C := (o_al 0 (o_ci 0 (o_pf 10 10 (o_il 1 (o_cs 1 2 f_X10_isBin (o_zeq (k_X10_draw_19 κ) (o_il 2 (o_cs 1 2 f_X10_isLoad (o_zeq (k_X10_draw_19 κ) (o_al 0 (o_il 1 (o_cv 1 10 2 f_X10_isClosed (o_zeq (o_al 0 (o_il 1 (o_cv 1 10 1 f_X10_tonsIn (o_il 2 (o_cge (o_al 0 (o_cv 0 10 0 f_X10_does (o_al 0 (o_il 1 (o_il 2 (o_cv 2 10 0 f_X10_goes (o_al 0 (o_ci 0 (o_pf 10 9 (o_ci 0 (o_is 3 (o_j [0, 2, 3] (κ 61))))))))))))) (o_ci (-3) o_ri)))))) (o_ci (-2) o_ri))))))))))))))
theorem l_X10_draw_0 : gb_Li (fun κ => k_X10_draw_0 κ) := (gb_li (q_al 0) (gb_li (q_ci 0) (gb_li (q_pf 10 10) (gb_li (q_il 1) (gb_li (q_cs 1 2 f_X10_isBin) (q_zeq (l_X10_draw_19) (gb_li (q_il 2) (gb_li (q_cs 1 2 f_X10_isLoad) (q_zeq (l_X10_draw_19) (gb_li (q_al 0) (gb_li (q_il 1) (gb_li (q_cv 1 10 2 f_X10_isClosed) (q_zeq (gb_li (q_al 0) (gb_li (q_il 1) (gb_li (q_cv 1 10 1 f_X10_tonsIn) (gb_li (q_il 2) (q_cge (gb_li (q_al 0) (gb_li (q_cv 0 10 0 f_X10_does) (gb_li (q_al 0) (gb_li (q_il 1) (gb_li (q_il 2) (gb_li (q_cv 2 10 0 f_X10_goes) (gb_li (q_al 0) (gb_li (q_ci 0) (gb_li (q_pf 10 9) (gb_li (q_ci 0) (gb_li (q_is 3) (q_j [0, 2, 3] 61)))))))))))) (gb_li (q_ci (-3)) (gb_li0 _))))))) (gb_li (q_ci (-2)) (gb_li0 _)))))))))))))))
theorem s_X10_draw_0   {κ : gb_K} (hκ : ∀ q, gb_S RX10 cX10_draw 6 (gb_rm 4 96) 1 q (κ q)) : gb_S RX10 cX10_draw 6 (gb_rm 4 96) 1 0 (k_X10_draw_0 κ) := (s_aln 0 rfl dX10_draw_0 (s_iconst (by decide +kernel) dX10_draw_1 (s_pf (T := TX10) winX10 rfl (Nat.le_of_ble_eq_true rfl) tyX10_ok nmX10 rfl (by decide +kernel) gw_546 rfl dX10_draw_2 (s_iln 1 rfl dX10_draw_5 (s_cs c_X10_isBin (gb_l4 gw_705 gw_706 gw_553 gw_707) v_X10_isBin.2 ⟨rfl, rfl⟩ ⟨Nat.le_of_ble_eq_true rfl, Nat.le_of_ble_eq_true rfl⟩ dX10_draw_6 (s_zeq (tgt := 19) (by decide +kernel) dX10_draw_9 (s_X10_draw_19 hκ) (s_iln 2 rfl dX10_draw_12 (s_cs c_X10_isLoad (gb_l4 gw_713 gw_714 gw_553 gw_715) v_X10_isLoad.2 ⟨rfl, rfl⟩ ⟨Nat.le_of_ble_eq_true rfl, Nat.le_of_ble_eq_true rfl⟩ dX10_draw_13 (s_zne (tgt := 21) (by decide +kernel) dX10_draw_16 (s_aln 0 rfl dX10_draw_21 (s_iln 1 rfl dX10_draw_22 (s_cv (C := RX10) c_X10_isClosed rfl (gb_l5 gw_614 gw_615 gw_616 gw_553 gw_617) v_X10_isClosed ⟨rfl, rfl⟩ ⟨Nat.le_of_ble_eq_true rfl, Nat.le_of_ble_eq_true rfl⟩ dX10_draw_23 (s_zeq (tgt := 32) (by decide +kernel) dX10_draw_26 (s_aln 0 rfl dX10_draw_32 (s_iln 1 rfl dX10_draw_33 (s_cv (C := RX10) c_X10_tonsIn rfl (gb_l5 gw_618 gw_619 gw_620 gw_553 gw_621) v_X10_tonsIn ⟨rfl, rfl⟩ ⟨Nat.le_of_ble_eq_true rfl, Nat.le_of_ble_eq_true rfl⟩ dX10_draw_34 (s_iln 2 rfl dX10_draw_37 (s_cge (tgt := 44) (by decide +kernel) dX10_draw_38 (s_aln 0 rfl dX10_draw_44 (s_cv (C := RX10) c_X10_does rfl (gb_l5 gw_720 gw_721 gw_722 gw_553 gw_723) v_X10_does ⟨rfl, rfl⟩ ⟨Nat.le_of_ble_eq_true rfl, Nat.le_of_ble_eq_true rfl⟩ dX10_draw_45 (s_aln 0 rfl dX10_draw_48 (s_iln 1 rfl dX10_draw_49 (s_iln 2 rfl dX10_draw_50 (s_cv (C := RX10) c_X10_goes rfl (gb_l5 gw_724 gw_725 gw_726 gw_553 gw_727) v_X10_goes ⟨rfl, rfl⟩ ⟨Nat.le_of_ble_eq_true rfl, Nat.le_of_ble_eq_true rfl⟩ dX10_draw_51 (s_aln 0 rfl dX10_draw_54 (s_iconst (by decide +kernel) dX10_draw_55 (s_pf (T := TX10) winX10 rfl (Nat.le_of_ble_eq_true rfl) tyX10_ok nmX10 rfl (by decide +kernel) gw_548 rfl dX10_draw_56 (s_iconst (by decide +kernel) dX10_draw_59 (s_isn 3 rfl (Nat.le_of_ble_eq_true rfl) dX10_draw_60 (s_j (hκ 61))))))))))))) (s_bipush (by decide +kernel) dX10_draw_41 (s_ri rfl dX10_draw_43))))))) (s_bipush (by decide +kernel) dX10_draw_29 (s_ri rfl dX10_draw_31)))))) (s_X10_draw_19 hκ))))))))))
noncomputable def k_X10_draw_61 (κ : gb_K) : gb_C := (o_il 3 (o_ci 6 (o_cge (o_al 0 (o_il 2 (o_al 0 (o_gf 10 15 (o_ib (fun x y => x * y) (o_cv 1 10 0 f_X10_counts (o_il 2 (o_al 0 (o_gf 10 15 (o_ib (fun x y => x * y) o_ri)))))))))) (o_ci 0 (o_is 4 (o_ci 0 (o_is 5 (o_j [0, 2, 3, 4, 5] (κ 73)))))))))
theorem l_X10_draw_61 : gb_Li (fun κ => k_X10_draw_61 κ) := (gb_li (q_il 3) (gb_li (q_ci 6) (q_cge (gb_li (q_al 0) (gb_li (q_il 2) (gb_li (q_al 0) (gb_li (q_gf 10 15) (gb_li (q_ib _) (gb_li (q_cv 1 10 0 f_X10_counts) (gb_li (q_il 2) (gb_li (q_al 0) (gb_li (q_gf 10 15) (gb_li (q_ib _) (gb_li0 _))))))))))) (gb_li (q_ci 0) (gb_li (q_is 4) (gb_li (q_ci 0) (gb_li (q_is 5) (q_j [0, 2, 3, 4, 5] 73))))))))
theorem s_X10_draw_61   {κ : gb_K} (hκ : ∀ q, gb_S RX10 cX10_draw 6 (gb_rm 4 96) 1 q (κ q)) : gb_S RX10 cX10_draw 6 (gb_rm 4 96) 1 61 (k_X10_draw_61 κ) := (s_iln 3 rfl dX10_draw_61 (s_bipush (by decide +kernel) dX10_draw_62 (s_cge (tgt := 128) (by decide +kernel) dX10_draw_64 (s_aln 0 rfl dX10_draw_128 (s_iln 2 rfl dX10_draw_129 (s_aln 0 rfl dX10_draw_130 (s_gf (T := TX10) winX10 rfl (Nat.le_of_ble_eq_true rfl) gw_631 rfl dX10_draw_131 (s_imul dX10_draw_134 (s_cv (C := RX10) c_X10_counts rfl (gb_l5 gw_728 gw_729 gw_730 gw_553 gw_731) v_X10_counts ⟨rfl, rfl⟩ ⟨Nat.le_of_ble_eq_true rfl, Nat.le_of_ble_eq_true rfl⟩ dX10_draw_135 (s_iln 2 rfl dX10_draw_138 (s_aln 0 rfl dX10_draw_139 (s_gf (T := TX10) winX10 rfl (Nat.le_of_ble_eq_true rfl) gw_631 rfl dX10_draw_140 (s_imul dX10_draw_143 (s_ri rfl dX10_draw_144))))))))))) (s_iconst (by decide +kernel) dX10_draw_67 (s_is (Nat.le_of_ble_eq_true rfl) dX10_draw_68 (s_iconst (by decide +kernel) dX10_draw_70 (s_is (Nat.le_of_ble_eq_true rfl) dX10_draw_71 (s_j (hκ 73)))))))))
noncomputable def k_X10_draw_106 (κ : gb_K) : gb_C := (o_ib (fun x y => x + y) (o_is 4 (o_inc 5 1 (o_j [0, 2, 3, 4, 5] (κ 73)))))
theorem l_X10_draw_106 : gb_Li (fun κ => k_X10_draw_106 κ) := (gb_li (q_ib _) (gb_li (q_is 4) (gb_li (q_inc 5 1) (q_j [0, 2, 3, 4, 5] 73))))
theorem s_X10_draw_106   {κ : gb_K} (hκ : ∀ q, gb_S RX10 cX10_draw 6 (gb_rm 4 96) 1 q (κ q)) : gb_S RX10 cX10_draw 6 (gb_rm 4 96) 1 106 (k_X10_draw_106 κ) := (s_iadd dX10_draw_106 (s_is (Nat.le_of_ble_eq_true rfl) dX10_draw_107 (s_inc (by decide +kernel) (Nat.le_of_ble_eq_true rfl) dX10_draw_109 (s_goto (tgt := 73) (by decide +kernel) dX10_draw_112 (s_j (hκ 73))))))
noncomputable def k_X10_draw_73 (κ : gb_K) : gb_C := (o_il 5 (o_al 0 (o_gf 10 14 (o_cge (o_al 0 (o_il 4 (o_i2l (o_cv 1 10 0 f_X10_tell (o_inc 3 1 (o_j [0, 2, 3] (κ 61))))))) (o_il 4 (o_al 0 (o_gf 10 11 (o_il 5 (o_iald (o_il 3 (o_ceq (o_al 0 (o_gf 10 12 (o_il 5 (o_iald (k_X10_draw_106 κ))))) (o_ci 0 (k_X10_draw_106 κ)))))))))))))
theorem l_X10_draw_73 : gb_Li (fun κ => k_X10_draw_73 κ) := (gb_li (q_il 5) (gb_li (q_al 0) (gb_li (q_gf 10 14) (q_cge (gb_li (q_al 0) (gb_li (q_il 4) (gb_li q_i2l (gb_li (q_cv 1 10 0 f_X10_tell) (gb_li (q_inc 3 1) (q_j [0, 2, 3] 61)))))) (gb_li (q_il 4) (gb_li (q_al 0) (gb_li (q_gf 10 11) (gb_li (q_il 5) (gb_li q_iald (gb_li (q_il 3) (q_ceq (gb_li (q_al 0) (gb_li (q_gf 10 12) (gb_li (q_il 5) (gb_li q_iald (l_X10_draw_106))))) (gb_li (q_ci 0) (l_X10_draw_106)))))))))))))
theorem s_X10_draw_73   {κ : gb_K} (hκ : ∀ q, gb_S RX10 cX10_draw 6 (gb_rm 4 96) 1 q (κ q)) : gb_S RX10 cX10_draw 6 (gb_rm 4 96) 1 73 (k_X10_draw_73 κ) := (s_il dX10_draw_73 (s_aln 0 rfl dX10_draw_75 (s_gf (T := TX10) winX10 rfl (Nat.le_of_ble_eq_true rfl) gw_630 rfl dX10_draw_76 (s_cge (tgt := 115) (by decide +kernel) dX10_draw_79 (s_aln 0 rfl dX10_draw_115 (s_il dX10_draw_116 (s_i2l dX10_draw_118 (s_cv (C := RX10) c_X10_tell rfl (gb_l5 gw_732 gw_733 gw_734 gw_553 gw_735) v_X10_tell ⟨rfl, rfl⟩ ⟨Nat.le_of_ble_eq_true rfl, Nat.le_of_ble_eq_true rfl⟩ dX10_draw_119 (s_inc (by decide +kernel) (Nat.le_of_ble_eq_true rfl) dX10_draw_122 (s_goto (tgt := 61) (by decide +kernel) dX10_draw_125 (s_j (hκ 61)))))))) (s_il dX10_draw_82 (s_aln 0 rfl dX10_draw_84 (s_gf (T := TX10) winX10 rfl (Nat.le_of_ble_eq_true rfl) gw_632 rfl dX10_draw_85 (s_il dX10_draw_88 (s_iald dX10_draw_90 (s_iln 3 rfl dX10_draw_91 (s_cne (tgt := 105) (by decide +kernel) dX10_draw_92 (s_iconst (by decide +kernel) dX10_draw_105 (s_X10_draw_106 hκ)) (s_aln 0 rfl dX10_draw_95 (s_gf (T := TX10) winX10 rfl (Nat.le_of_ble_eq_true rfl) gw_633 rfl dX10_draw_96 (s_il dX10_draw_99 (s_iald dX10_draw_101 (s_goto (tgt := 106) (by decide +kernel) dX10_draw_102 (s_X10_draw_106 hκ)))))))))))))))))
noncomputable def B_X10_draw : List (Nat × (gb_K → gb_C)) := [(61, fun κ => k_X10_draw_61 κ), (73, fun κ => k_X10_draw_73 κ)]
noncomputable def K_X10_draw : gb_K := gb_fx (gb_tb (B_X10_draw))
theorem L_X10_draw : ∀ q, gb_Li (fun κ => gb_tb (B_X10_draw) κ q) := gb_tb_li (List.forall_mem_cons.mpr ⟨l_X10_draw_61, List.forall_mem_cons.mpr ⟨l_X10_draw_73, (fun _ h => absurd h List.not_mem_nil)⟩⟩)
theorem S_X10_draw   : ∀ q, gb_S RX10 cX10_draw 6 (gb_rm 4 96) 1 q (K_X10_draw q) := fun q => gb_fx_S (L_X10_draw) (gb_tb_S (List.forall_mem_cons.mpr ⟨fun κ hκ => s_X10_draw_61 hκ, List.forall_mem_cons.mpr ⟨fun κ hκ => s_X10_draw_73 hκ, (fun _ h => absurd h List.not_mem_nil)⟩⟩)) q
noncomputable def f_X10_draw : gb_F := gb_hide (gb_mf 6 (k_X10_draw_0 (K_X10_draw)))
theorem c_X10_draw : ∀ l, gb_Met l yX10_draw cX10_draw 6 (some .int) 1 (gb_rm 4 96) f_X10_draw := gb_hide_c (gb_met (own := RX10) (rk := 1) rfl (by decide +kernel) ⟨rfl, rfl⟩ (s_X10_draw_0 (S_X10_draw)))
