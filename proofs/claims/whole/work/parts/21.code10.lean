/-! CODE: printed by wip/whole/gen.py -/
theorem dX10_sells_0 : decode cX10_sells 0 = .ok (.aload_n 0, 1) := by decide +kernel
theorem dX10_sells_1 : decode cX10_sells 1 = .ok (.iconst 0, 1) := by decide +kernel
theorem dX10_sells_2 : decode cX10_sells 2 = .ok (.putfield 66, 3) := by decide +kernel
theorem dX10_sells_5 : decode cX10_sells 5 = .ok (.aload_n 0, 1) := by decide +kernel
theorem dX10_sells_6 : decode cX10_sells 6 = .ok (.invokevirtual 309, 3) := by decide +kernel
theorem dX10_sells_9 : decode cX10_sells 9 = .ok (.aload_n 0, 1) := by decide +kernel
theorem dX10_sells_10 : decode cX10_sells 10 = .ok (.getfield 173, 3) := by decide +kernel
theorem dX10_sells_13 : decode cX10_sells 13 = .ok (.iconst (-1), 1) := by decide +kernel
theorem dX10_sells_14 : decode cX10_sells 14 = .ok (.if_icmp .eq 11, 3) := by decide +kernel
theorem dX10_sells_17 : decode cX10_sells 17 = .ok (.bipush (-21), 2) := by decide +kernel
theorem dX10_sells_19 : decode cX10_sells 19 = .ok (.aload_n 0, 1) := by decide +kernel
theorem dX10_sells_20 : decode cX10_sells 20 = .ok (.getfield 173, 3) := by decide +kernel
theorem dX10_sells_23 : decode cX10_sells 23 = .ok (.isub, 1) := by decide +kernel
theorem dX10_sells_24 : decode cX10_sells 24 = .ok (.ireturn, 1) := by decide +kernel
theorem dX10_sells_25 : decode cX10_sells 25 = .ok (.aload_n 0, 1) := by decide +kernel
theorem dX10_sells_26 : decode cX10_sells 26 = .ok (.invokevirtual 312, 3) := by decide +kernel
theorem dX10_sells_29 : decode cX10_sells 29 = .ok (.aload_n 0, 1) := by decide +kernel
theorem dX10_sells_30 : decode cX10_sells 30 = .ok (.getfield 288, 3) := by decide +kernel
theorem dX10_sells_33 : decode cX10_sells 33 = .ok (.istore_n 1, 1) := by decide +kernel
theorem dX10_sells_34 : decode cX10_sells 34 = .ok (.aload_n 0, 1) := by decide +kernel
theorem dX10_sells_35 : decode cX10_sells 35 = .ok (.invokevirtual 248, 3) := by decide +kernel
theorem dX10_sells_38 : decode cX10_sells 38 = .ok (.aload_n 0, 1) := by decide +kernel
theorem dX10_sells_39 : decode cX10_sells 39 = .ok (.invokevirtual 315, 3) := by decide +kernel
theorem dX10_sells_42 : decode cX10_sells 42 = .ok (.istore_n 2, 1) := by decide +kernel
theorem dX10_sells_43 : decode cX10_sells 43 = .ok (.iconst 0, 1) := by decide +kernel
theorem dX10_sells_44 : decode cX10_sells 44 = .ok (.istore_n 3, 1) := by decide +kernel
theorem dX10_sells_45 : decode cX10_sells 45 = .ok (.iconst 0, 1) := by decide +kernel
theorem dX10_sells_46 : decode cX10_sells 46 = .ok (.istore 4, 2) := by decide +kernel
theorem dX10_sells_48 : decode cX10_sells 48 = .ok (.iload 4, 2) := by decide +kernel
theorem dX10_sells_50 : decode cX10_sells 50 = .ok (.iload_n 1, 1) := by decide +kernel
theorem dX10_sells_51 : decode cX10_sells 51 = .ok (.if_icmp .ge 42, 3) := by decide +kernel
theorem dX10_sells_54 : decode cX10_sells 54 = .ok (.aload_n 0, 1) := by decide +kernel
theorem dX10_sells_55 : decode cX10_sells 55 = .ok (.aload_n 0, 1) := by decide +kernel
theorem dX10_sells_56 : decode cX10_sells 56 = .ok (.getfield 51, 3) := by decide +kernel
theorem dX10_sells_59 : decode cX10_sells 59 = .ok (.iload 4, 2) := by decide +kernel
theorem dX10_sells_61 : decode cX10_sells 61 = .ok (.iaload, 1) := by decide +kernel
theorem dX10_sells_62 : decode cX10_sells 62 = .ok (.aload_n 0, 1) := by decide +kernel
theorem dX10_sells_63 : decode cX10_sells 63 = .ok (.getfield 45, 3) := by decide +kernel
theorem dX10_sells_66 : decode cX10_sells 66 = .ok (.iload 4, 2) := by decide +kernel
theorem dX10_sells_68 : decode cX10_sells 68 = .ok (.iaload, 1) := by decide +kernel
theorem dX10_sells_69 : decode cX10_sells 69 = .ok (.invokevirtual 255, 3) := by decide +kernel
theorem dX10_sells_72 : decode cX10_sells 72 = .ok (.iload_n 3, 1) := by decide +kernel
theorem dX10_sells_73 : decode cX10_sells 73 = .ok (.aload_n 0, 1) := by decide +kernel
theorem dX10_sells_74 : decode cX10_sells 74 = .ok (.getfield 45, 3) := by decide +kernel
theorem dX10_sells_77 : decode cX10_sells 77 = .ok (.iload 4, 2) := by decide +kernel
theorem dX10_sells_79 : decode cX10_sells 79 = .ok (.iaload, 1) := by decide +kernel
theorem dX10_sells_80 : decode cX10_sells 80 = .ok (.aload_n 0, 1) := by decide +kernel
theorem dX10_sells_81 : decode cX10_sells 81 = .ok (.getfield 156, 3) := by decide +kernel
theorem dX10_sells_84 : decode cX10_sells 84 = .ok (.imul, 1) := by decide +kernel
theorem dX10_sells_85 : decode cX10_sells 85 = .ok (.iadd, 1) := by decide +kernel
theorem dX10_sells_86 : decode cX10_sells 86 = .ok (.istore_n 3, 1) := by decide +kernel
theorem dX10_sells_87 : decode cX10_sells 87 = .ok (.iinc 4 1, 3) := by decide +kernel
theorem dX10_sells_90 : decode cX10_sells 90 = .ok (.goto (-42), 3) := by decide +kernel
theorem dX10_sells_93 : decode cX10_sells 93 = .ok (.aload_n 0, 1) := by decide +kernel
theorem dX10_sells_94 : decode cX10_sells 94 = .ok (.iload_n 3, 1) := by decide +kernel
theorem dX10_sells_95 : decode cX10_sells 95 = .ok (.invokevirtual 263, 3) := by decide +kernel
theorem dX10_sells_98 : decode cX10_sells 98 = .ok (.aload_n 0, 1) := by decide +kernel
theorem dX10_sells_99 : decode cX10_sells 99 = .ok (.iconst 0, 1) := by decide +kernel
theorem dX10_sells_100 : decode cX10_sells 100 = .ok (.putfield 70, 3) := by decide +kernel
theorem dX10_sells_103 : decode cX10_sells 103 = .ok (.aload_n 0, 1) := by decide +kernel
theorem dX10_sells_104 : decode cX10_sells 104 = .ok (.iload_n 3, 1) := by decide +kernel
theorem dX10_sells_105 : decode cX10_sells 105 = .ok (.i2l, 1) := by decide +kernel
theorem dX10_sells_106 : decode cX10_sells 106 = .ok (.invokevirtual 259, 3) := by decide +kernel
theorem dX10_sells_109 : decode cX10_sells 109 = .ok (.aload_n 0, 1) := by decide +kernel
theorem dX10_sells_110 : decode cX10_sells 110 = .ok (.iload_n 2, 1) := by decide +kernel
theorem dX10_sells_111 : decode cX10_sells 111 = .ok (.i2l, 1) := by decide +kernel
theorem dX10_sells_112 : decode cX10_sells 112 = .ok (.invokevirtual 259, 3) := by decide +kernel
theorem dX10_sells_115 : decode cX10_sells 115 = .ok (.aload_n 0, 1) := by decide +kernel
theorem dX10_sells_116 : decode cX10_sells 116 = .ok (.aload_n 0, 1) := by decide +kernel
theorem dX10_sells_117 : decode cX10_sells 117 = .ok (.invokevirtual 315, 3) := by decide +kernel
theorem dX10_sells_120 : decode cX10_sells 120 = .ok (.i2l, 1) := by decide +kernel
theorem dX10_sells_121 : decode cX10_sells 121 = .ok (.invokevirtual 259, 3) := by decide +kernel
theorem dX10_sells_124 : decode cX10_sells 124 = .ok (.iload_n 1, 1) := by decide +kernel
theorem dX10_sells_125 : decode cX10_sells 125 = .ok (.ireturn, 1) := by decide +kernel
theorem v_X10_sells : yX10_sells.cls = RX10 ∧ yX10_sells.cls ≠ "java/lang/invoke/MethodHandle" ∧ yX10_sells.cls ≠ "java/lang/invoke/VarHandle" ∧ (parseMethodDescriptor yX10_sells.desc).map (fun d => d.parameters.length) = some 0 := ⟨rfl, by decide +kernel, by decide +kernel, by decide +kernel⟩
noncomputable def k_X10_sells_0 (κ : gb_K) : gb_C := (o_al 0 (o_ci 0 (o_pf 10 10 (o_al 0 (o_cv 0 10 0 f_X10_readsList (o_al 0 (o_gf 10 18 (o_ci (-1) (o_ceq (o_al 0 (o_cv 0 10 0 f_X10_findsServed (o_al 0 (o_gf 10 29 (o_is 1 (o_al 0 (o_cv 0 10 0 f_X10_does (o_al 0 (o_cv 0 10 1 f_X10_allNow (o_is 2 (o_ci 0 (o_is 3 (o_ci 0 (o_is 4 (o_j [0, 1, 2, 3, 4] (κ 48)))))))))))))))) (o_ci (-21) (o_al 0 (o_gf 10 18 (o_ib (fun x y => x - y) o_ri)))))))))))))
theorem l_X10_sells_0 : gb_Li (fun κ => k_X10_sells_0 κ) := (gb_li (q_al 0) (gb_li (q_ci 0) (gb_li (q_pf 10 10) (gb_li (q_al 0) (gb_li (q_cv 0 10 0 f_X10_readsList) (gb_li (q_al 0) (gb_li (q_gf 10 18) (gb_li (q_ci (-1)) (q_ceq (gb_li (q_al 0) (gb_li (q_cv 0 10 0 f_X10_findsServed) (gb_li (q_al 0) (gb_li (q_gf 10 29) (gb_li (q_is 1) (gb_li (q_al 0) (gb_li (q_cv 0 10 0 f_X10_does) (gb_li (q_al 0) (gb_li (q_cv 0 10 1 f_X10_allNow) (gb_li (q_is 2) (gb_li (q_ci 0) (gb_li (q_is 3) (gb_li (q_ci 0) (gb_li (q_is 4) (q_j [0, 1, 2, 3, 4] 48))))))))))))))) (gb_li (q_ci (-21)) (gb_li (q_al 0) (gb_li (q_gf 10 18) (gb_li (q_ib _) (gb_li0 _))))))))))))))
theorem s_X10_sells_0   {κ : gb_K} (hκ : ∀ q, gb_S RX10 cX10_sells 5 (gb_rm 14 314) 1 q (κ q)) : gb_S RX10 cX10_sells 5 (gb_rm 14 314) 1 0 (k_X10_sells_0 κ) := (s_aln 0 rfl dX10_sells_0 (s_iconst (by decide +kernel) dX10_sells_1 (s_pf (T := TX10) winX10 rfl (Nat.le_of_ble_eq_true rfl) tyX10_ok nmX10 rfl (by decide +kernel) gw_546 rfl dX10_sells_2 (s_aln 0 rfl dX10_sells_5 (s_cv (C := RX10) c_X10_readsList rfl (gb_l5 gw_789 gw_790 gw_791 gw_553 gw_792) v_X10_readsList ⟨rfl, rfl⟩ ⟨Nat.le_of_ble_eq_true rfl, Nat.le_of_ble_eq_true rfl⟩ dX10_sells_6 (s_aln 0 rfl dX10_sells_9 (s_gf (T := TX10) winX10 rfl (Nat.le_of_ble_eq_true rfl) gw_645 rfl dX10_sells_10 (s_iconst (by decide +kernel) dX10_sells_13 (s_ceq (tgt := 25) (by decide +kernel) dX10_sells_14 (s_aln 0 rfl dX10_sells_25 (s_cv (C := RX10) c_X10_findsServed rfl (gb_l5 gw_793 gw_794 gw_795 gw_553 gw_796) v_X10_findsServed ⟨rfl, rfl⟩ ⟨Nat.le_of_ble_eq_true rfl, Nat.le_of_ble_eq_true rfl⟩ dX10_sells_26 (s_aln 0 rfl dX10_sells_29 (s_gf (T := TX10) winX10 rfl (Nat.le_of_ble_eq_true rfl) gw_768 rfl dX10_sells_30 (s_isn 1 rfl (Nat.le_of_ble_eq_true rfl) dX10_sells_33 (s_aln 0 rfl dX10_sells_34 (s_cv (C := RX10) c_X10_does rfl (gb_l5 gw_720 gw_721 gw_722 gw_553 gw_723) v_X10_does ⟨rfl, rfl⟩ ⟨Nat.le_of_ble_eq_true rfl, Nat.le_of_ble_eq_true rfl⟩ dX10_sells_35 (s_aln 0 rfl dX10_sells_38 (s_cv (C := RX10) c_X10_allNow rfl (gb_l5 gw_797 gw_798 gw_799 gw_553 gw_800) v_X10_allNow ⟨rfl, rfl⟩ ⟨Nat.le_of_ble_eq_true rfl, Nat.le_of_ble_eq_true rfl⟩ dX10_sells_39 (s_isn 2 rfl (Nat.le_of_ble_eq_true rfl) dX10_sells_42 (s_iconst (by decide +kernel) dX10_sells_43 (s_isn 3 rfl (Nat.le_of_ble_eq_true rfl) dX10_sells_44 (s_iconst (by decide +kernel) dX10_sells_45 (s_is (Nat.le_of_ble_eq_true rfl) dX10_sells_46 (s_j (hκ 48)))))))))))))))) (s_bipush (by decide +kernel) dX10_sells_17 (s_aln 0 rfl dX10_sells_19 (s_gf (T := TX10) winX10 rfl (Nat.le_of_ble_eq_true rfl) gw_645 rfl dX10_sells_20 (s_isub dX10_sells_23 (s_ri rfl dX10_sells_24))))))))))))))
noncomputable def k_X10_sells_48 (κ : gb_K) : gb_C := (o_il 4 (o_il 1 (o_cge (o_al 0 (o_il 3 (o_cv 1 10 0 f_X10_counts (o_al 0 (o_ci 0 (o_pf 10 9 (o_al 0 (o_il 3 (o_i2l (o_cv 1 10 0 f_X10_tell (o_al 0 (o_il 2 (o_i2l (o_cv 1 10 0 f_X10_tell (o_al 0 (o_al 0 (o_cv 0 10 1 f_X10_allNow (o_i2l (o_cv 1 10 0 f_X10_tell (o_il 1 o_ri)))))))))))))))))))) (o_al 0 (o_al 0 (o_gf 10 27 (o_il 4 (o_iald (o_al 0 (o_gf 10 24 (o_il 4 (o_iald (o_cv 2 10 0 f_X10_goes (o_il 3 (o_al 0 (o_gf 10 24 (o_il 4 (o_iald (o_al 0 (o_gf 10 15 (o_ib (fun x y => x * y) (o_ib (fun x y => x + y) (o_is 3 (o_inc 4 1 (o_j [0, 1, 2, 3, 4] (κ 48))))))))))))))))))))))))))
theorem l_X10_sells_48 : gb_Li (fun κ => k_X10_sells_48 κ) := (gb_li (q_il 4) (gb_li (q_il 1) (q_cge (gb_li (q_al 0) (gb_li (q_il 3) (gb_li (q_cv 1 10 0 f_X10_counts) (gb_li (q_al 0) (gb_li (q_ci 0) (gb_li (q_pf 10 9) (gb_li (q_al 0) (gb_li (q_il 3) (gb_li q_i2l (gb_li (q_cv 1 10 0 f_X10_tell) (gb_li (q_al 0) (gb_li (q_il 2) (gb_li q_i2l (gb_li (q_cv 1 10 0 f_X10_tell) (gb_li (q_al 0) (gb_li (q_al 0) (gb_li (q_cv 0 10 1 f_X10_allNow) (gb_li q_i2l (gb_li (q_cv 1 10 0 f_X10_tell) (gb_li (q_il 1) (gb_li0 _))))))))))))))))))))) (gb_li (q_al 0) (gb_li (q_al 0) (gb_li (q_gf 10 27) (gb_li (q_il 4) (gb_li q_iald (gb_li (q_al 0) (gb_li (q_gf 10 24) (gb_li (q_il 4) (gb_li q_iald (gb_li (q_cv 2 10 0 f_X10_goes) (gb_li (q_il 3) (gb_li (q_al 0) (gb_li (q_gf 10 24) (gb_li (q_il 4) (gb_li q_iald (gb_li (q_al 0) (gb_li (q_gf 10 15) (gb_li (q_ib _) (gb_li (q_ib _) (gb_li (q_is 3) (gb_li (q_inc 4 1) (q_j [0, 1, 2, 3, 4] 48)))))))))))))))))))))))))
theorem s_X10_sells_48   {κ : gb_K} (hκ : ∀ q, gb_S RX10 cX10_sells 5 (gb_rm 14 314) 1 q (κ q)) : gb_S RX10 cX10_sells 5 (gb_rm 14 314) 1 48 (k_X10_sells_48 κ) := (s_il dX10_sells_48 (s_iln 1 rfl dX10_sells_50 (s_cge (tgt := 93) (by decide +kernel) dX10_sells_51 (s_aln 0 rfl dX10_sells_93 (s_iln 3 rfl dX10_sells_94 (s_cv (C := RX10) c_X10_counts rfl (gb_l5 gw_728 gw_729 gw_730 gw_553 gw_731) v_X10_counts ⟨rfl, rfl⟩ ⟨Nat.le_of_ble_eq_true rfl, Nat.le_of_ble_eq_true rfl⟩ dX10_sells_95 (s_aln 0 rfl dX10_sells_98 (s_iconst (by decide +kernel) dX10_sells_99 (s_pf (T := TX10) winX10 rfl (Nat.le_of_ble_eq_true rfl) tyX10_ok nmX10 rfl (by decide +kernel) gw_548 rfl dX10_sells_100 (s_aln 0 rfl dX10_sells_103 (s_iln 3 rfl dX10_sells_104 (s_i2l dX10_sells_105 (s_cv (C := RX10) c_X10_tell rfl (gb_l5 gw_732 gw_733 gw_734 gw_553 gw_735) v_X10_tell ⟨rfl, rfl⟩ ⟨Nat.le_of_ble_eq_true rfl, Nat.le_of_ble_eq_true rfl⟩ dX10_sells_106 (s_aln 0 rfl dX10_sells_109 (s_iln 2 rfl dX10_sells_110 (s_i2l dX10_sells_111 (s_cv (C := RX10) c_X10_tell rfl (gb_l5 gw_732 gw_733 gw_734 gw_553 gw_735) v_X10_tell ⟨rfl, rfl⟩ ⟨Nat.le_of_ble_eq_true rfl, Nat.le_of_ble_eq_true rfl⟩ dX10_sells_112 (s_aln 0 rfl dX10_sells_115 (s_aln 0 rfl dX10_sells_116 (s_cv (C := RX10) c_X10_allNow rfl (gb_l5 gw_797 gw_798 gw_799 gw_553 gw_800) v_X10_allNow ⟨rfl, rfl⟩ ⟨Nat.le_of_ble_eq_true rfl, Nat.le_of_ble_eq_true rfl⟩ dX10_sells_117 (s_i2l dX10_sells_120 (s_cv (C := RX10) c_X10_tell rfl (gb_l5 gw_732 gw_733 gw_734 gw_553 gw_735) v_X10_tell ⟨rfl, rfl⟩ ⟨Nat.le_of_ble_eq_true rfl, Nat.le_of_ble_eq_true rfl⟩ dX10_sells_121 (s_iln 1 rfl dX10_sells_124 (s_ri rfl dX10_sells_125))))))))))))))))))))) (s_aln 0 rfl dX10_sells_54 (s_aln 0 rfl dX10_sells_55 (s_gf (T := TX10) winX10 rfl (Nat.le_of_ble_eq_true rfl) gw_758 rfl dX10_sells_56 (s_il dX10_sells_59 (s_iald dX10_sells_61 (s_aln 0 rfl dX10_sells_62 (s_gf (T := TX10) winX10 rfl (Nat.le_of_ble_eq_true rfl) gw_756 rfl dX10_sells_63 (s_il dX10_sells_66 (s_iald dX10_sells_68 (s_cv (C := RX10) c_X10_goes rfl (gb_l5 gw_724 gw_725 gw_726 gw_553 gw_727) v_X10_goes ⟨rfl, rfl⟩ ⟨Nat.le_of_ble_eq_true rfl, Nat.le_of_ble_eq_true rfl⟩ dX10_sells_69 (s_iln 3 rfl dX10_sells_72 (s_aln 0 rfl dX10_sells_73 (s_gf (T := TX10) winX10 rfl (Nat.le_of_ble_eq_true rfl) gw_756 rfl dX10_sells_74 (s_il dX10_sells_77 (s_iald dX10_sells_79 (s_aln 0 rfl dX10_sells_80 (s_gf (T := TX10) winX10 rfl (Nat.le_of_ble_eq_true rfl) gw_631 rfl dX10_sells_81 (s_imul dX10_sells_84 (s_iadd dX10_sells_85 (s_isn 3 rfl (Nat.le_of_ble_eq_true rfl) dX10_sells_86 (s_inc (by decide +kernel) (Nat.le_of_ble_eq_true rfl) dX10_sells_87 (s_goto (tgt := 48) (by decide +kernel) dX10_sells_90 (s_j (hκ 48)))))))))))))))))))))))))))
noncomputable def B_X10_sells : List (Nat × (gb_K → gb_C)) := [(48, fun κ => k_X10_sells_48 κ)]
noncomputable def K_X10_sells : gb_K := gb_fx (gb_tb (B_X10_sells))
theorem L_X10_sells : ∀ q, gb_Li (fun κ => gb_tb (B_X10_sells) κ q) := gb_tb_li (List.forall_mem_cons.mpr ⟨l_X10_sells_48, (fun _ h => absurd h List.not_mem_nil)⟩)
theorem S_X10_sells   : ∀ q, gb_S RX10 cX10_sells 5 (gb_rm 14 314) 1 q (K_X10_sells q) := fun q => gb_fx_S (L_X10_sells) (gb_tb_S (List.forall_mem_cons.mpr ⟨fun κ hκ => s_X10_sells_48 hκ, (fun _ h => absurd h List.not_mem_nil)⟩)) q
noncomputable def f_X10_sells : gb_F := gb_hide (gb_mf 5 (k_X10_sells_0 (K_X10_sells)))
theorem c_X10_sells : ∀ l, gb_Met l yX10_sells cX10_sells 5 (some .int) 1 (gb_rm 14 314) f_X10_sells := gb_hide_c (gb_met (own := RX10) (rk := 1) rfl (by decide +kernel) ⟨rfl, rfl⟩ (s_X10_sells_0 (S_X10_sells)))
theorem dX10_value_0 : decode cX10_value 0 = .ok (.aload_n 0, 1) := by decide +kernel
theorem dX10_value_1 : decode cX10_value 1 = .ok (.iconst 0, 1) := by decide +kernel
theorem dX10_value_2 : decode cX10_value 2 = .ok (.putfield 66, 3) := by decide +kernel
theorem dX10_value_5 : decode cX10_value 5 = .ok (.iload_n 1, 1) := by decide +kernel
theorem dX10_value_6 : decode cX10_value 6 = .ok (.invokestatic 233, 3) := by decide +kernel
theorem dX10_value_9 : decode cX10_value 9 = .ok (.ifCond .ne 5, 3) := by decide +kernel
theorem dX10_value_12 : decode cX10_value 12 = .ok (.iconst (-1), 1) := by decide +kernel
theorem dX10_value_13 : decode cX10_value 13 = .ok (.ireturn, 1) := by decide +kernel
theorem dX10_value_14 : decode cX10_value 14 = .ok (.iconst 0, 1) := by decide +kernel
theorem dX10_value_15 : decode cX10_value 15 = .ok (.istore_n 2, 1) := by decide +kernel
theorem dX10_value_16 : decode cX10_value 16 = .ok (.iconst 0, 1) := by decide +kernel
theorem dX10_value_17 : decode cX10_value 17 = .ok (.istore_n 3, 1) := by decide +kernel
theorem dX10_value_18 : decode cX10_value 18 = .ok (.iload_n 3, 1) := by decide +kernel
theorem dX10_value_19 : decode cX10_value 19 = .ok (.aload_n 0, 1) := by decide +kernel
theorem dX10_value_20 : decode cX10_value 20 = .ok (.iload_n 1, 1) := by decide +kernel
theorem dX10_value_21 : decode cX10_value 21 = .ok (.invokevirtual 84, 3) := by decide +kernel
theorem dX10_value_24 : decode cX10_value 24 = .ok (.if_icmp .ge 34, 3) := by decide +kernel
theorem dX10_value_27 : decode cX10_value 27 = .ok (.iload_n 2, 1) := by decide +kernel
theorem dX10_value_28 : decode cX10_value 28 = .ok (.aload_n 0, 1) := by decide +kernel
theorem dX10_value_29 : decode cX10_value 29 = .ok (.iload_n 1, 1) := by decide +kernel
theorem dX10_value_30 : decode cX10_value 30 = .ok (.iload_n 3, 1) := by decide +kernel
theorem dX10_value_31 : decode cX10_value 31 = .ok (.iconst 1, 1) := by decide +kernel
theorem dX10_value_32 : decode cX10_value 32 = .ok (.invokevirtual 88, 3) := by decide +kernel
theorem dX10_value_35 : decode cX10_value 35 = .ok (.aload_n 0, 1) := by decide +kernel
theorem dX10_value_36 : decode cX10_value 36 = .ok (.getfield 7, 3) := by decide +kernel
theorem dX10_value_39 : decode cX10_value 39 = .ok (.iconst 0, 1) := by decide +kernel
theorem dX10_value_40 : decode cX10_value 40 = .ok (.aload_n 0, 1) := by decide +kernel
theorem dX10_value_41 : decode cX10_value 41 = .ok (.iload_n 1, 1) := by decide +kernel
theorem dX10_value_42 : decode cX10_value 42 = .ok (.iload_n 3, 1) := by decide +kernel
theorem dX10_value_43 : decode cX10_value 43 = .ok (.iconst 0, 1) := by decide +kernel
theorem dX10_value_44 : decode cX10_value 44 = .ok (.invokevirtual 88, 3) := by decide +kernel
theorem dX10_value_47 : decode cX10_value 47 = .ok (.iadd, 1) := by decide +kernel
theorem dX10_value_48 : decode cX10_value 48 = .ok (.iaload, 1) := by decide +kernel
theorem dX10_value_49 : decode cX10_value 49 = .ok (.imul, 1) := by decide +kernel
theorem dX10_value_50 : decode cX10_value 50 = .ok (.iadd, 1) := by decide +kernel
theorem dX10_value_51 : decode cX10_value 51 = .ok (.istore_n 2, 1) := by decide +kernel
theorem dX10_value_52 : decode cX10_value 52 = .ok (.iinc 3 1, 3) := by decide +kernel
theorem dX10_value_55 : decode cX10_value 55 = .ok (.goto (-37), 3) := by decide +kernel
theorem dX10_value_58 : decode cX10_value 58 = .ok (.aload_n 0, 1) := by decide +kernel
theorem dX10_value_59 : decode cX10_value 59 = .ok (.iconst 0, 1) := by decide +kernel
theorem dX10_value_60 : decode cX10_value 60 = .ok (.putfield 70, 3) := by decide +kernel
theorem dX10_value_63 : decode cX10_value 63 = .ok (.aload_n 0, 1) := by decide +kernel
theorem dX10_value_64 : decode cX10_value 64 = .ok (.aload_n 0, 1) := by decide +kernel
theorem dX10_value_65 : decode cX10_value 65 = .ok (.aload_n 0, 1) := by decide +kernel
theorem dX10_value_66 : decode cX10_value 66 = .ok (.getfield 7, 3) := by decide +kernel
theorem dX10_value_69 : decode cX10_value 69 = .ok (.sipush 174, 3) := by decide +kernel
theorem dX10_value_72 : decode cX10_value 72 = .ok (.iaload, 1) := by decide +kernel
theorem dX10_value_73 : decode cX10_value 73 = .ok (.iload_n 1, 1) := by decide +kernel
theorem dX10_value_74 : decode cX10_value 74 = .ok (.invokevirtual 122, 3) := by decide +kernel
theorem dX10_value_77 : decode cX10_value 77 = .ok (.i2l, 1) := by decide +kernel
theorem dX10_value_78 : decode cX10_value 78 = .ok (.invokevirtual 259, 3) := by decide +kernel
theorem dX10_value_81 : decode cX10_value 81 = .ok (.aload_n 0, 1) := by decide +kernel
theorem dX10_value_82 : decode cX10_value 82 = .ok (.aload_n 0, 1) := by decide +kernel
theorem dX10_value_83 : decode cX10_value 83 = .ok (.iload_n 1, 1) := by decide +kernel
theorem dX10_value_84 : decode cX10_value 84 = .ok (.invokevirtual 125, 3) := by decide +kernel
theorem dX10_value_87 : decode cX10_value 87 = .ok (.i2l, 1) := by decide +kernel
theorem dX10_value_88 : decode cX10_value 88 = .ok (.invokevirtual 259, 3) := by decide +kernel
theorem dX10_value_91 : decode cX10_value 91 = .ok (.aload_n 0, 1) := by decide +kernel
theorem dX10_value_92 : decode cX10_value 92 = .ok (.iload_n 2, 1) := by decide +kernel
theorem dX10_value_93 : decode cX10_value 93 = .ok (.i2l, 1) := by decide +kernel
theorem dX10_value_94 : decode cX10_value 94 = .ok (.invokevirtual 259, 3) := by decide +kernel
theorem dX10_value_97 : decode cX10_value 97 = .ok (.aload_n 0, 1) := by decide +kernel
theorem dX10_value_98 : decode cX10_value 98 = .ok (.iload_n 1, 1) := by decide +kernel
theorem dX10_value_99 : decode cX10_value 99 = .ok (.invokevirtual 266, 3) := by decide +kernel
theorem dX10_value_102 : decode cX10_value 102 = .ok (.ireturn, 1) := by decide +kernel
theorem v_X10_value : yX10_value.cls = RX10 ∧ yX10_value.cls ≠ "java/lang/invoke/MethodHandle" ∧ yX10_value.cls ≠ "java/lang/invoke/VarHandle" ∧ (parseMethodDescriptor yX10_value.desc).map (fun d => d.parameters.length) = some 1 := ⟨rfl, by decide +kernel, by decide +kernel, by decide +kernel⟩
noncomputable def k_X10_value_0 (κ : gb_K) : gb_C := (o_al 0 (o_ci 0 (o_pf 10 10 (o_il 1 (o_cs 1 2 f_X10_isBin (o_zeq (o_ci (-1) o_ri) (o_ci 0 (o_is 2 (o_ci 0 (o_is 3 (o_j [0, 1, 2, 3] (κ 18))))))))))))
theorem l_X10_value_0 : gb_Li (fun κ => k_X10_value_0 κ) := (gb_li (q_al 0) (gb_li (q_ci 0) (gb_li (q_pf 10 10) (gb_li (q_il 1) (gb_li (q_cs 1 2 f_X10_isBin) (q_zeq (gb_li (q_ci (-1)) (gb_li0 _)) (gb_li (q_ci 0) (gb_li (q_is 2) (gb_li (q_ci 0) (gb_li (q_is 3) (q_j [0, 1, 2, 3] 18)))))))))))
theorem s_X10_value_0   {κ : gb_K} (hκ : ∀ q, gb_S RX10 cX10_value 4 (gb_rm 6 137) 1 q (κ q)) : gb_S RX10 cX10_value 4 (gb_rm 6 137) 1 0 (k_X10_value_0 κ) := (s_aln 0 rfl dX10_value_0 (s_iconst (by decide +kernel) dX10_value_1 (s_pf (T := TX10) winX10 rfl (Nat.le_of_ble_eq_true rfl) tyX10_ok nmX10 rfl (by decide +kernel) gw_546 rfl dX10_value_2 (s_iln 1 rfl dX10_value_5 (s_cs c_X10_isBin (gb_l4 gw_705 gw_706 gw_553 gw_707) v_X10_isBin.2 ⟨rfl, rfl⟩ ⟨Nat.le_of_ble_eq_true rfl, Nat.le_of_ble_eq_true rfl⟩ dX10_value_6 (s_zne (tgt := 14) (by decide +kernel) dX10_value_9 (s_iconst (by decide +kernel) dX10_value_14 (s_isn 2 rfl (Nat.le_of_ble_eq_true rfl) dX10_value_15 (s_iconst (by decide +kernel) dX10_value_16 (s_isn 3 rfl (Nat.le_of_ble_eq_true rfl) dX10_value_17 (s_j (hκ 18)))))) (s_iconst (by decide +kernel) dX10_value_12 (s_ri rfl dX10_value_13))))))))
noncomputable def k_X10_value_99 (κ : gb_K) : gb_C := (o_cv 1 10 1 f_X10_valueOf o_ri)
theorem l_X10_value_99 : gb_Li (fun κ => k_X10_value_99 κ) := (gb_li (q_cv 1 10 1 f_X10_valueOf) (gb_li0 _))
theorem s_X10_value_99   {κ : gb_K} (hκ : ∀ q, gb_S RX10 cX10_value 4 (gb_rm 6 137) 1 q (κ q)) : gb_S RX10 cX10_value 4 (gb_rm 6 137) 1 99 (k_X10_value_99 κ) := (s_cv (C := RX10) c_X10_valueOf rfl (gb_l5 gw_740 gw_741 gw_742 gw_553 gw_743) v_X10_valueOf ⟨rfl, rfl⟩ ⟨Nat.le_of_ble_eq_true rfl, Nat.le_of_ble_eq_true rfl⟩ dX10_value_99 (s_ri rfl dX10_value_102))
noncomputable def k_X10_value_18 (κ : gb_K) : gb_C := (o_il 3 (o_al 0 (o_il 1 (o_cv 1 10 1 f_X10_many (o_cge (o_al 0 (o_ci 0 (o_pf 10 9 (o_al 0 (o_al 0 (o_al 0 (o_gf 10 0 (o_ci 174 (o_iald (o_il 1 (o_cv 2 10 1 f_X10_rawOn (o_i2l (o_cv 1 10 0 f_X10_tell (o_al 0 (o_al 0 (o_il 1 (o_cv 1 10 1 f_X10_mixedIn (o_i2l (o_cv 1 10 0 f_X10_tell (o_al 0 (o_il 2 (o_i2l (o_cv 1 10 0 f_X10_tell (o_al 0 (o_il 1 (k_X10_value_99 κ)))))))))))))))))))))))))) (o_il 2 (o_al 0 (o_il 1 (o_il 3 (o_ci 1 (o_cv 3 10 1 f_X10_layerOf (o_al 0 (o_gf 10 0 (o_ci 0 (o_al 0 (o_il 1 (o_il 3 (o_ci 0 (o_cv 3 10 1 f_X10_layerOf (o_ib (fun x y => x + y) (o_iald (o_ib (fun x y => x * y) (o_ib (fun x y => x + y) (o_is 2 (o_inc 3 1 (o_j [0, 1, 2, 3] (κ 18)))))))))))))))))))))))))))
theorem l_X10_value_18 : gb_Li (fun κ => k_X10_value_18 κ) := (gb_li (q_il 3) (gb_li (q_al 0) (gb_li (q_il 1) (gb_li (q_cv 1 10 1 f_X10_many) (q_cge (gb_li (q_al 0) (gb_li (q_ci 0) (gb_li (q_pf 10 9) (gb_li (q_al 0) (gb_li (q_al 0) (gb_li (q_al 0) (gb_li (q_gf 10 0) (gb_li (q_ci 174) (gb_li q_iald (gb_li (q_il 1) (gb_li (q_cv 2 10 1 f_X10_rawOn) (gb_li q_i2l (gb_li (q_cv 1 10 0 f_X10_tell) (gb_li (q_al 0) (gb_li (q_al 0) (gb_li (q_il 1) (gb_li (q_cv 1 10 1 f_X10_mixedIn) (gb_li q_i2l (gb_li (q_cv 1 10 0 f_X10_tell) (gb_li (q_al 0) (gb_li (q_il 2) (gb_li q_i2l (gb_li (q_cv 1 10 0 f_X10_tell) (gb_li (q_al 0) (gb_li (q_il 1) (l_X10_value_99)))))))))))))))))))))))))) (gb_li (q_il 2) (gb_li (q_al 0) (gb_li (q_il 1) (gb_li (q_il 3) (gb_li (q_ci 1) (gb_li (q_cv 3 10 1 f_X10_layerOf) (gb_li (q_al 0) (gb_li (q_gf 10 0) (gb_li (q_ci 0) (gb_li (q_al 0) (gb_li (q_il 1) (gb_li (q_il 3) (gb_li (q_ci 0) (gb_li (q_cv 3 10 1 f_X10_layerOf) (gb_li (q_ib _) (gb_li q_iald (gb_li (q_ib _) (gb_li (q_ib _) (gb_li (q_is 2) (gb_li (q_inc 3 1) (q_j [0, 1, 2, 3] 18))))))))))))))))))))))))))
theorem s_X10_value_18   {κ : gb_K} (hκ : ∀ q, gb_S RX10 cX10_value 4 (gb_rm 6 137) 1 q (κ q)) : gb_S RX10 cX10_value 4 (gb_rm 6 137) 1 18 (k_X10_value_18 κ) := (s_iln 3 rfl dX10_value_18 (s_aln 0 rfl dX10_value_19 (s_iln 1 rfl dX10_value_20 (s_cv (C := RX10) c_X10_many rfl (gb_l5 gw_557 gw_558 gw_559 gw_553 gw_560) v_X10_many ⟨rfl, rfl⟩ ⟨Nat.le_of_ble_eq_true rfl, Nat.le_of_ble_eq_true rfl⟩ dX10_value_21 (s_cge (tgt := 58) (by decide +kernel) dX10_value_24 (s_aln 0 rfl dX10_value_58 (s_iconst (by decide +kernel) dX10_value_59 (s_pf (T := TX10) winX10 rfl (Nat.le_of_ble_eq_true rfl) tyX10_ok nmX10 rfl (by decide +kernel) gw_548 rfl dX10_value_60 (s_aln 0 rfl dX10_value_63 (s_aln 0 rfl dX10_value_64 (s_aln 0 rfl dX10_value_65 (s_gf (T := TX10) winX10 rfl (Nat.le_of_ble_eq_true rfl) gw_545 rfl dX10_value_66 (s_sipush (by decide +kernel) dX10_value_69 (s_iald dX10_value_72 (s_iln 1 rfl dX10_value_73 (s_cv (C := RX10) c_X10_rawOn rfl (gb_l5 gw_594 gw_595 gw_596 gw_553 gw_597) v_X10_rawOn ⟨rfl, rfl⟩ ⟨Nat.le_of_ble_eq_true rfl, Nat.le_of_ble_eq_true rfl⟩ dX10_value_74 (s_i2l dX10_value_77 (s_cv (C := RX10) c_X10_tell rfl (gb_l5 gw_732 gw_733 gw_734 gw_553 gw_735) v_X10_tell ⟨rfl, rfl⟩ ⟨Nat.le_of_ble_eq_true rfl, Nat.le_of_ble_eq_true rfl⟩ dX10_value_78 (s_aln 0 rfl dX10_value_81 (s_aln 0 rfl dX10_value_82 (s_iln 1 rfl dX10_value_83 (s_cv (C := RX10) c_X10_mixedIn rfl (gb_l5 gw_598 gw_599 gw_600 gw_553 gw_601) v_X10_mixedIn ⟨rfl, rfl⟩ ⟨Nat.le_of_ble_eq_true rfl, Nat.le_of_ble_eq_true rfl⟩ dX10_value_84 (s_i2l dX10_value_87 (s_cv (C := RX10) c_X10_tell rfl (gb_l5 gw_732 gw_733 gw_734 gw_553 gw_735) v_X10_tell ⟨rfl, rfl⟩ ⟨Nat.le_of_ble_eq_true rfl, Nat.le_of_ble_eq_true rfl⟩ dX10_value_88 (s_aln 0 rfl dX10_value_91 (s_iln 2 rfl dX10_value_92 (s_i2l dX10_value_93 (s_cv (C := RX10) c_X10_tell rfl (gb_l5 gw_732 gw_733 gw_734 gw_553 gw_735) v_X10_tell ⟨rfl, rfl⟩ ⟨Nat.le_of_ble_eq_true rfl, Nat.le_of_ble_eq_true rfl⟩ dX10_value_94 (s_aln 0 rfl dX10_value_97 (s_iln 1 rfl dX10_value_98 (s_X10_value_99 hκ)))))))))))))))))))))))))) (s_iln 2 rfl dX10_value_27 (s_aln 0 rfl dX10_value_28 (s_iln 1 rfl dX10_value_29 (s_iln 3 rfl dX10_value_30 (s_iconst (by decide +kernel) dX10_value_31 (s_cv (C := RX10) c_X10_layerOf rfl (gb_l5 gw_561 gw_562 gw_563 gw_553 gw_564) v_X10_layerOf ⟨rfl, rfl⟩ ⟨Nat.le_of_ble_eq_true rfl, Nat.le_of_ble_eq_true rfl⟩ dX10_value_32 (s_aln 0 rfl dX10_value_35 (s_gf (T := TX10) winX10 rfl (Nat.le_of_ble_eq_true rfl) gw_545 rfl dX10_value_36 (s_iconst (by decide +kernel) dX10_value_39 (s_aln 0 rfl dX10_value_40 (s_iln 1 rfl dX10_value_41 (s_iln 3 rfl dX10_value_42 (s_iconst (by decide +kernel) dX10_value_43 (s_cv (C := RX10) c_X10_layerOf rfl (gb_l5 gw_561 gw_562 gw_563 gw_553 gw_564) v_X10_layerOf ⟨rfl, rfl⟩ ⟨Nat.le_of_ble_eq_true rfl, Nat.le_of_ble_eq_true rfl⟩ dX10_value_44 (s_iadd dX10_value_47 (s_iald dX10_value_48 (s_imul dX10_value_49 (s_iadd dX10_value_50 (s_isn 2 rfl (Nat.le_of_ble_eq_true rfl) dX10_value_51 (s_inc (by decide +kernel) (Nat.le_of_ble_eq_true rfl) dX10_value_52 (s_goto (tgt := 18) (by decide +kernel) dX10_value_55 (s_j (hκ 18))))))))))))))))))))))))))))
noncomputable def B_X10_value : List (Nat × (gb_K → gb_C)) := [(18, fun κ => k_X10_value_18 κ)]
noncomputable def K_X10_value : gb_K := gb_fx (gb_tb (B_X10_value))
theorem L_X10_value : ∀ q, gb_Li (fun κ => gb_tb (B_X10_value) κ q) := gb_tb_li (List.forall_mem_cons.mpr ⟨l_X10_value_18, (fun _ h => absurd h List.not_mem_nil)⟩)
theorem S_X10_value   : ∀ q, gb_S RX10 cX10_value 4 (gb_rm 6 137) 1 q (K_X10_value q) := fun q => gb_fx_S (L_X10_value) (gb_tb_S (List.forall_mem_cons.mpr ⟨fun κ hκ => s_X10_value_18 hκ, (fun _ h => absurd h List.not_mem_nil)⟩)) q
noncomputable def f_X10_value : gb_F := gb_hide (gb_mf 4 (k_X10_value_0 (K_X10_value)))
theorem c_X10_value : ∀ l, gb_Met l yX10_value cX10_value 4 (some .int) 1 (gb_rm 6 137) f_X10_value := gb_hide_c (gb_met (own := RX10) (rk := 1) rfl (by decide +kernel) ⟨rfl, rfl⟩ (s_X10_value_0 (S_X10_value)))
theorem dX10_all_0 : decode cX10_all 0 = .ok (.aload_n 0, 1) := by decide +kernel
theorem dX10_all_1 : decode cX10_all 1 = .ok (.iconst 0, 1) := by decide +kernel
theorem dX10_all_2 : decode cX10_all 2 = .ok (.putfield 66, 3) := by decide +kernel
theorem dX10_all_5 : decode cX10_all 5 = .ok (.aload_n 0, 1) := by decide +kernel
theorem dX10_all_6 : decode cX10_all 6 = .ok (.iconst 0, 1) := by decide +kernel
theorem dX10_all_7 : decode cX10_all 7 = .ok (.putfield 70, 3) := by decide +kernel
theorem dX10_all_10 : decode cX10_all 10 = .ok (.iconst 0, 1) := by decide +kernel
theorem dX10_all_11 : decode cX10_all 11 = .ok (.istore_n 1, 1) := by decide +kernel
theorem dX10_all_12 : decode cX10_all 12 = .ok (.iload_n 1, 1) := by decide +kernel
theorem dX10_all_13 : decode cX10_all 13 = .ok (.bipush 6, 2) := by decide +kernel
theorem dX10_all_15 : decode cX10_all 15 = .ok (.if_icmp .ge 19, 3) := by decide +kernel
theorem dX10_all_18 : decode cX10_all 18 = .ok (.aload_n 0, 1) := by decide +kernel
theorem dX10_all_19 : decode cX10_all 19 = .ok (.aload_n 0, 1) := by decide +kernel
theorem dX10_all_20 : decode cX10_all 20 = .ok (.iload_n 1, 1) := by decide +kernel
theorem dX10_all_21 : decode cX10_all 21 = .ok (.invokevirtual 266, 3) := by decide +kernel
theorem dX10_all_24 : decode cX10_all 24 = .ok (.i2l, 1) := by decide +kernel
theorem dX10_all_25 : decode cX10_all 25 = .ok (.invokevirtual 259, 3) := by decide +kernel
theorem dX10_all_28 : decode cX10_all 28 = .ok (.iinc 1 1, 3) := by decide +kernel
theorem dX10_all_31 : decode cX10_all 31 = .ok (.goto (-19), 3) := by decide +kernel
theorem dX10_all_34 : decode cX10_all 34 = .ok (.aload_n 0, 1) := by decide +kernel
theorem dX10_all_35 : decode cX10_all 35 = .ok (.invokevirtual 315, 3) := by decide +kernel
theorem dX10_all_38 : decode cX10_all 38 = .ok (.ireturn, 1) := by decide +kernel
theorem v_X10_all : yX10_all.cls = RX10 ∧ yX10_all.cls ≠ "java/lang/invoke/MethodHandle" ∧ yX10_all.cls ≠ "java/lang/invoke/VarHandle" ∧ (parseMethodDescriptor yX10_all.desc).map (fun d => d.parameters.length) = some 0 := ⟨rfl, by decide +kernel, by decide +kernel, by decide +kernel⟩
noncomputable def k_X10_all_0 (κ : gb_K) : gb_C := (o_al 0 (o_ci 0 (o_pf 10 10 (o_al 0 (o_ci 0 (o_pf 10 9 (o_ci 0 (o_is 1 (o_j [0, 1] (κ 12))))))))))
theorem l_X10_all_0 : gb_Li (fun κ => k_X10_all_0 κ) := (gb_li (q_al 0) (gb_li (q_ci 0) (gb_li (q_pf 10 10) (gb_li (q_al 0) (gb_li (q_ci 0) (gb_li (q_pf 10 9) (gb_li (q_ci 0) (gb_li (q_is 1) (q_j [0, 1] 12)))))))))
theorem s_X10_all_0   {κ : gb_K} (hκ : ∀ q, gb_S RX10 cX10_all 2 (gb_rm 7 159) 1 q (κ q)) : gb_S RX10 cX10_all 2 (gb_rm 7 159) 1 0 (k_X10_all_0 κ) := (s_aln 0 rfl dX10_all_0 (s_iconst (by decide +kernel) dX10_all_1 (s_pf (T := TX10) winX10 rfl (Nat.le_of_ble_eq_true rfl) tyX10_ok nmX10 rfl (by decide +kernel) gw_546 rfl dX10_all_2 (s_aln 0 rfl dX10_all_5 (s_iconst (by decide +kernel) dX10_all_6 (s_pf (T := TX10) winX10 rfl (Nat.le_of_ble_eq_true rfl) tyX10_ok nmX10 rfl (by decide +kernel) gw_548 rfl dX10_all_7 (s_iconst (by decide +kernel) dX10_all_10 (s_isn 1 rfl (Nat.le_of_ble_eq_true rfl) dX10_all_11 (s_j (hκ 12))))))))))
noncomputable def k_X10_all_12 (κ : gb_K) : gb_C := (o_il 1 (o_ci 6 (o_cge (o_al 0 (o_cv 0 10 1 f_X10_allNow o_ri)) (o_al 0 (o_al 0 (o_il 1 (o_cv 1 10 1 f_X10_valueOf (o_i2l (o_cv 1 10 0 f_X10_tell (o_inc 1 1 (o_j [0, 1] (κ 12))))))))))))
theorem l_X10_all_12 : gb_Li (fun κ => k_X10_all_12 κ) := (gb_li (q_il 1) (gb_li (q_ci 6) (q_cge (gb_li (q_al 0) (gb_li (q_cv 0 10 1 f_X10_allNow) (gb_li0 _))) (gb_li (q_al 0) (gb_li (q_al 0) (gb_li (q_il 1) (gb_li (q_cv 1 10 1 f_X10_valueOf) (gb_li q_i2l (gb_li (q_cv 1 10 0 f_X10_tell) (gb_li (q_inc 1 1) (q_j [0, 1] 12)))))))))))
theorem s_X10_all_12   {κ : gb_K} (hκ : ∀ q, gb_S RX10 cX10_all 2 (gb_rm 7 159) 1 q (κ q)) : gb_S RX10 cX10_all 2 (gb_rm 7 159) 1 12 (k_X10_all_12 κ) := (s_iln 1 rfl dX10_all_12 (s_bipush (by decide +kernel) dX10_all_13 (s_cge (tgt := 34) (by decide +kernel) dX10_all_15 (s_aln 0 rfl dX10_all_34 (s_cv (C := RX10) c_X10_allNow rfl (gb_l5 gw_797 gw_798 gw_799 gw_553 gw_800) v_X10_allNow ⟨rfl, rfl⟩ ⟨Nat.le_of_ble_eq_true rfl, Nat.le_of_ble_eq_true rfl⟩ dX10_all_35 (s_ri rfl dX10_all_38))) (s_aln 0 rfl dX10_all_18 (s_aln 0 rfl dX10_all_19 (s_iln 1 rfl dX10_all_20 (s_cv (C := RX10) c_X10_valueOf rfl (gb_l5 gw_740 gw_741 gw_742 gw_553 gw_743) v_X10_valueOf ⟨rfl, rfl⟩ ⟨Nat.le_of_ble_eq_true rfl, Nat.le_of_ble_eq_true rfl⟩ dX10_all_21 (s_i2l dX10_all_24 (s_cv (C := RX10) c_X10_tell rfl (gb_l5 gw_732 gw_733 gw_734 gw_553 gw_735) v_X10_tell ⟨rfl, rfl⟩ ⟨Nat.le_of_ble_eq_true rfl, Nat.le_of_ble_eq_true rfl⟩ dX10_all_25 (s_inc (by decide +kernel) (Nat.le_of_ble_eq_true rfl) dX10_all_28 (s_goto (tgt := 12) (by decide +kernel) dX10_all_31 (s_j (hκ 12)))))))))))))
noncomputable def B_X10_all : List (Nat × (gb_K → gb_C)) := [(12, fun κ => k_X10_all_12 κ)]
noncomputable def K_X10_all : gb_K := gb_fx (gb_tb (B_X10_all))
theorem L_X10_all : ∀ q, gb_Li (fun κ => gb_tb (B_X10_all) κ q) := gb_tb_li (List.forall_mem_cons.mpr ⟨l_X10_all_12, (fun _ h => absurd h List.not_mem_nil)⟩)
theorem S_X10_all   : ∀ q, gb_S RX10 cX10_all 2 (gb_rm 7 159) 1 q (K_X10_all q) := fun q => gb_fx_S (L_X10_all) (gb_tb_S (List.forall_mem_cons.mpr ⟨fun κ hκ => s_X10_all_12 hκ, (fun _ h => absurd h List.not_mem_nil)⟩)) q
noncomputable def f_X10_all : gb_F := gb_hide (gb_mf 2 (k_X10_all_0 (K_X10_all)))
theorem c_X10_all : ∀ l, gb_Met l yX10_all cX10_all 2 (some .int) 1 (gb_rm 7 159) f_X10_all := gb_hide_c (gb_met (own := RX10) (rk := 1) rfl (by decide +kernel) ⟨rfl, rfl⟩ (s_X10_all_0 (S_X10_all)))
theorem dX10_mixed_0 : decode cX10_mixed 0 = .ok (.aload_n 0, 1) := by decide +kernel
theorem dX10_mixed_1 : decode cX10_mixed 1 = .ok (.iconst 0, 1) := by decide +kernel
theorem dX10_mixed_2 : decode cX10_mixed 2 = .ok (.putfield 66, 3) := by decide +kernel
theorem dX10_mixed_5 : decode cX10_mixed 5 = .ok (.iload_n 1, 1) := by decide +kernel
theorem dX10_mixed_6 : decode cX10_mixed 6 = .ok (.invokestatic 230, 3) := by decide +kernel
theorem dX10_mixed_9 : decode cX10_mixed 9 = .ok (.ifCond .ne 5, 3) := by decide +kernel
theorem dX10_mixed_12 : decode cX10_mixed 12 = .ok (.iconst (-1), 1) := by decide +kernel
theorem dX10_mixed_13 : decode cX10_mixed 13 = .ok (.ireturn, 1) := by decide +kernel
theorem dX10_mixed_14 : decode cX10_mixed 14 = .ok (.iconst 0, 1) := by decide +kernel
theorem dX10_mixed_15 : decode cX10_mixed 15 = .ok (.istore_n 2, 1) := by decide +kernel
theorem dX10_mixed_16 : decode cX10_mixed 16 = .ok (.aload_n 0, 1) := by decide +kernel
theorem dX10_mixed_17 : decode cX10_mixed 17 = .ok (.iconst 0, 1) := by decide +kernel
theorem dX10_mixed_18 : decode cX10_mixed 18 = .ok (.putfield 70, 3) := by decide +kernel
theorem dX10_mixed_21 : decode cX10_mixed 21 = .ok (.iconst 0, 1) := by decide +kernel
theorem dX10_mixed_22 : decode cX10_mixed 22 = .ok (.istore_n 3, 1) := by decide +kernel
theorem dX10_mixed_23 : decode cX10_mixed 23 = .ok (.iload_n 3, 1) := by decide +kernel
theorem dX10_mixed_24 : decode cX10_mixed 24 = .ok (.bipush 6, 2) := by decide +kernel
theorem dX10_mixed_26 : decode cX10_mixed 26 = .ok (.if_icmp .ge 53, 3) := by decide +kernel
theorem dX10_mixed_29 : decode cX10_mixed 29 = .ok (.iconst 0, 1) := by decide +kernel
theorem dX10_mixed_30 : decode cX10_mixed 30 = .ok (.istore 4, 2) := by decide +kernel
theorem dX10_mixed_32 : decode cX10_mixed 32 = .ok (.iconst 0, 1) := by decide +kernel
theorem dX10_mixed_33 : decode cX10_mixed 33 = .ok (.istore 5, 2) := by decide +kernel
theorem dX10_mixed_35 : decode cX10_mixed 35 = .ok (.iload 5, 2) := by decide +kernel
theorem dX10_mixed_37 : decode cX10_mixed 37 = .ok (.bipush 6, 2) := by decide +kernel
theorem dX10_mixed_39 : decode cX10_mixed 39 = .ok (.if_icmp .ge 22, 3) := by decide +kernel
theorem dX10_mixed_42 : decode cX10_mixed 42 = .ok (.iload 4, 2) := by decide +kernel
theorem dX10_mixed_44 : decode cX10_mixed 44 = .ok (.aload_n 0, 1) := by decide +kernel
theorem dX10_mixed_45 : decode cX10_mixed 45 = .ok (.iload 5, 2) := by decide +kernel
theorem dX10_mixed_47 : decode cX10_mixed 47 = .ok (.iload_n 1, 1) := by decide +kernel
theorem dX10_mixed_48 : decode cX10_mixed 48 = .ok (.iload_n 3, 1) := by decide +kernel
theorem dX10_mixed_49 : decode cX10_mixed 49 = .ok (.invokevirtual 119, 3) := by decide +kernel
theorem dX10_mixed_52 : decode cX10_mixed 52 = .ok (.iadd, 1) := by decide +kernel
theorem dX10_mixed_53 : decode cX10_mixed 53 = .ok (.istore 4, 2) := by decide +kernel
theorem dX10_mixed_55 : decode cX10_mixed 55 = .ok (.iinc 5 1, 3) := by decide +kernel
theorem dX10_mixed_58 : decode cX10_mixed 58 = .ok (.goto (-23), 3) := by decide +kernel
theorem dX10_mixed_61 : decode cX10_mixed 61 = .ok (.aload_n 0, 1) := by decide +kernel
theorem dX10_mixed_62 : decode cX10_mixed 62 = .ok (.iload 4, 2) := by decide +kernel
theorem dX10_mixed_64 : decode cX10_mixed 64 = .ok (.i2l, 1) := by decide +kernel
theorem dX10_mixed_65 : decode cX10_mixed 65 = .ok (.invokevirtual 259, 3) := by decide +kernel
theorem dX10_mixed_68 : decode cX10_mixed 68 = .ok (.iload_n 2, 1) := by decide +kernel
theorem dX10_mixed_69 : decode cX10_mixed 69 = .ok (.iload 4, 2) := by decide +kernel
theorem dX10_mixed_71 : decode cX10_mixed 71 = .ok (.iadd, 1) := by decide +kernel
theorem dX10_mixed_72 : decode cX10_mixed 72 = .ok (.istore_n 2, 1) := by decide +kernel
theorem dX10_mixed_73 : decode cX10_mixed 73 = .ok (.iinc 3 1, 3) := by decide +kernel
theorem dX10_mixed_76 : decode cX10_mixed 76 = .ok (.goto (-53), 3) := by decide +kernel
theorem dX10_mixed_79 : decode cX10_mixed 79 = .ok (.iload_n 2, 1) := by decide +kernel
theorem dX10_mixed_80 : decode cX10_mixed 80 = .ok (.ireturn, 1) := by decide +kernel
theorem v_X10_mixed : yX10_mixed.cls = RX10 ∧ yX10_mixed.cls ≠ "java/lang/invoke/MethodHandle" ∧ yX10_mixed.cls ≠ "java/lang/invoke/VarHandle" ∧ (parseMethodDescriptor yX10_mixed.desc).map (fun d => d.parameters.length) = some 1 := ⟨rfl, by decide +kernel, by decide +kernel, by decide +kernel⟩
noncomputable def k_X10_mixed_0 (κ : gb_K) : gb_C := (o_al 0 (o_ci 0 (o_pf 10 10 (o_il 1 (o_cs 1 2 f_X10_isGrade (o_zeq (o_ci (-1) o_ri) (o_ci 0 (o_is 2 (o_al 0 (o_ci 0 (o_pf 10 9 (o_ci 0 (o_is 3 (o_j [0, 1, 2, 3] (κ 23)))))))))))))))
theorem l_X10_mixed_0 : gb_Li (fun κ => k_X10_mixed_0 κ) := (gb_li (q_al 0) (gb_li (q_ci 0) (gb_li (q_pf 10 10) (gb_li (q_il 1) (gb_li (q_cs 1 2 f_X10_isGrade) (q_zeq (gb_li (q_ci (-1)) (gb_li0 _)) (gb_li (q_ci 0) (gb_li (q_is 2) (gb_li (q_al 0) (gb_li (q_ci 0) (gb_li (q_pf 10 9) (gb_li (q_ci 0) (gb_li (q_is 3) (q_j [0, 1, 2, 3] 23))))))))))))))
theorem s_X10_mixed_0   {κ : gb_K} (hκ : ∀ q, gb_S RX10 cX10_mixed 6 (gb_rm 3 70) 1 q (κ q)) : gb_S RX10 cX10_mixed 6 (gb_rm 3 70) 1 0 (k_X10_mixed_0 κ) := (s_aln 0 rfl dX10_mixed_0 (s_iconst (by decide +kernel) dX10_mixed_1 (s_pf (T := TX10) winX10 rfl (Nat.le_of_ble_eq_true rfl) tyX10_ok nmX10 rfl (by decide +kernel) gw_546 rfl dX10_mixed_2 (s_iln 1 rfl dX10_mixed_5 (s_cs c_X10_isGrade (gb_l4 gw_698 gw_699 gw_553 gw_700) v_X10_isGrade.2 ⟨rfl, rfl⟩ ⟨Nat.le_of_ble_eq_true rfl, Nat.le_of_ble_eq_true rfl⟩ dX10_mixed_6 (s_zne (tgt := 14) (by decide +kernel) dX10_mixed_9 (s_iconst (by decide +kernel) dX10_mixed_14 (s_isn 2 rfl (Nat.le_of_ble_eq_true rfl) dX10_mixed_15 (s_aln 0 rfl dX10_mixed_16 (s_iconst (by decide +kernel) dX10_mixed_17 (s_pf (T := TX10) winX10 rfl (Nat.le_of_ble_eq_true rfl) tyX10_ok nmX10 rfl (by decide +kernel) gw_548 rfl dX10_mixed_18 (s_iconst (by decide +kernel) dX10_mixed_21 (s_isn 3 rfl (Nat.le_of_ble_eq_true rfl) dX10_mixed_22 (s_j (hκ 23))))))))) (s_iconst (by decide +kernel) dX10_mixed_12 (s_ri rfl dX10_mixed_13))))))))
noncomputable def k_X10_mixed_23 (κ : gb_K) : gb_C := (o_il 3 (o_ci 6 (o_cge (o_il 2 o_ri) (o_ci 0 (o_is 4 (o_ci 0 (o_is 5 (o_j [0, 1, 2, 3, 4, 5] (κ 35)))))))))
theorem l_X10_mixed_23 : gb_Li (fun κ => k_X10_mixed_23 κ) := (gb_li (q_il 3) (gb_li (q_ci 6) (q_cge (gb_li (q_il 2) (gb_li0 _)) (gb_li (q_ci 0) (gb_li (q_is 4) (gb_li (q_ci 0) (gb_li (q_is 5) (q_j [0, 1, 2, 3, 4, 5] 35))))))))
theorem s_X10_mixed_23   {κ : gb_K} (hκ : ∀ q, gb_S RX10 cX10_mixed 6 (gb_rm 3 70) 1 q (κ q)) : gb_S RX10 cX10_mixed 6 (gb_rm 3 70) 1 23 (k_X10_mixed_23 κ) := (s_iln 3 rfl dX10_mixed_23 (s_bipush (by decide +kernel) dX10_mixed_24 (s_cge (tgt := 79) (by decide +kernel) dX10_mixed_26 (s_iln 2 rfl dX10_mixed_79 (s_ri rfl dX10_mixed_80)) (s_iconst (by decide +kernel) dX10_mixed_29 (s_is (Nat.le_of_ble_eq_true rfl) dX10_mixed_30 (s_iconst (by decide +kernel) dX10_mixed_32 (s_is (Nat.le_of_ble_eq_true rfl) dX10_mixed_33 (s_j (hκ 35)))))))))
noncomputable def k_X10_mixed_35 (κ : gb_K) : gb_C := (o_il 5 (o_ci 6 (o_cge (o_al 0 (o_il 4 (o_i2l (o_cv 1 10 0 f_X10_tell (o_il 2 (o_il 4 (o_ib (fun x y => x + y) (o_is 2 (o_inc 3 1 (o_j [0, 1, 2, 3] (κ 23))))))))))) (o_il 4 (o_al 0 (o_il 5 (o_il 1 (o_il 3 (o_cv 3 10 1 f_X10_mixedOf (o_ib (fun x y => x + y) (o_is 4 (o_inc 5 1 (o_j [0, 1, 2, 3, 4, 5] (κ 35))))))))))))))
theorem l_X10_mixed_35 : gb_Li (fun κ => k_X10_mixed_35 κ) := (gb_li (q_il 5) (gb_li (q_ci 6) (q_cge (gb_li (q_al 0) (gb_li (q_il 4) (gb_li q_i2l (gb_li (q_cv 1 10 0 f_X10_tell) (gb_li (q_il 2) (gb_li (q_il 4) (gb_li (q_ib _) (gb_li (q_is 2) (gb_li (q_inc 3 1) (q_j [0, 1, 2, 3] 23)))))))))) (gb_li (q_il 4) (gb_li (q_al 0) (gb_li (q_il 5) (gb_li (q_il 1) (gb_li (q_il 3) (gb_li (q_cv 3 10 1 f_X10_mixedOf) (gb_li (q_ib _) (gb_li (q_is 4) (gb_li (q_inc 5 1) (q_j [0, 1, 2, 3, 4, 5] 35)))))))))))))
theorem s_X10_mixed_35   {κ : gb_K} (hκ : ∀ q, gb_S RX10 cX10_mixed 6 (gb_rm 3 70) 1 q (κ q)) : gb_S RX10 cX10_mixed 6 (gb_rm 3 70) 1 35 (k_X10_mixed_35 κ) := (s_il dX10_mixed_35 (s_bipush (by decide +kernel) dX10_mixed_37 (s_cge (tgt := 61) (by decide +kernel) dX10_mixed_39 (s_aln 0 rfl dX10_mixed_61 (s_il dX10_mixed_62 (s_i2l dX10_mixed_64 (s_cv (C := RX10) c_X10_tell rfl (gb_l5 gw_732 gw_733 gw_734 gw_553 gw_735) v_X10_tell ⟨rfl, rfl⟩ ⟨Nat.le_of_ble_eq_true rfl, Nat.le_of_ble_eq_true rfl⟩ dX10_mixed_65 (s_iln 2 rfl dX10_mixed_68 (s_il dX10_mixed_69 (s_iadd dX10_mixed_71 (s_isn 2 rfl (Nat.le_of_ble_eq_true rfl) dX10_mixed_72 (s_inc (by decide +kernel) (Nat.le_of_ble_eq_true rfl) dX10_mixed_73 (s_goto (tgt := 23) (by decide +kernel) dX10_mixed_76 (s_j (hκ 23)))))))))))) (s_il dX10_mixed_42 (s_aln 0 rfl dX10_mixed_44 (s_il dX10_mixed_45 (s_iln 1 rfl dX10_mixed_47 (s_iln 3 rfl dX10_mixed_48 (s_cv (C := RX10) c_X10_mixedOf rfl (gb_l5 gw_590 gw_591 gw_592 gw_553 gw_593) v_X10_mixedOf ⟨rfl, rfl⟩ ⟨Nat.le_of_ble_eq_true rfl, Nat.le_of_ble_eq_true rfl⟩ dX10_mixed_49 (s_iadd dX10_mixed_52 (s_is (Nat.le_of_ble_eq_true rfl) dX10_mixed_53 (s_inc (by decide +kernel) (Nat.le_of_ble_eq_true rfl) dX10_mixed_55 (s_goto (tgt := 35) (by decide +kernel) dX10_mixed_58 (s_j (hκ 35)))))))))))))))
noncomputable def B_X10_mixed : List (Nat × (gb_K → gb_C)) := [(23, fun κ => k_X10_mixed_23 κ), (35, fun κ => k_X10_mixed_35 κ)]
noncomputable def K_X10_mixed : gb_K := gb_fx (gb_tb (B_X10_mixed))
theorem L_X10_mixed : ∀ q, gb_Li (fun κ => gb_tb (B_X10_mixed) κ q) := gb_tb_li (List.forall_mem_cons.mpr ⟨l_X10_mixed_23, List.forall_mem_cons.mpr ⟨l_X10_mixed_35, (fun _ h => absurd h List.not_mem_nil)⟩⟩)
theorem S_X10_mixed   : ∀ q, gb_S RX10 cX10_mixed 6 (gb_rm 3 70) 1 q (K_X10_mixed q) := fun q => gb_fx_S (L_X10_mixed) (gb_tb_S (List.forall_mem_cons.mpr ⟨fun κ hκ => s_X10_mixed_23 hκ, List.forall_mem_cons.mpr ⟨fun κ hκ => s_X10_mixed_35 hκ, (fun _ h => absurd h List.not_mem_nil)⟩⟩)) q
noncomputable def f_X10_mixed : gb_F := gb_hide (gb_mf 6 (k_X10_mixed_0 (K_X10_mixed)))
theorem c_X10_mixed : ∀ l, gb_Met l yX10_mixed cX10_mixed 6 (some .int) 1 (gb_rm 3 70) f_X10_mixed := gb_hide_c (gb_met (own := RX10) (rk := 1) rfl (by decide +kernel) ⟨rfl, rfl⟩ (s_X10_mixed_0 (S_X10_mixed)))
theorem dX10_more_0 : decode cX10_more 0 = .ok (.aload_n 0, 1) := by decide +kernel
theorem dX10_more_1 : decode cX10_more 1 = .ok (.iload_n 3, 1) := by decide +kernel
theorem dX10_more_2 : decode cX10_more 2 = .ok (.invokevirtual 266, 3) := by decide +kernel
theorem dX10_more_5 : decode cX10_more 5 = .ok (.istore 4, 2) := by decide +kernel
theorem dX10_more_7 : decode cX10_more 7 = .ok (.aload_n 0, 1) := by decide +kernel
theorem dX10_more_8 : decode cX10_more 8 = .ok (.bipush 6, 2) := by decide +kernel
theorem dX10_more_10 : decode cX10_more 10 = .ok (.invokevirtual 294, 3) := by decide +kernel
theorem dX10_more_13 : decode cX10_more 13 = .ok (.aload_n 0, 1) := by decide +kernel
theorem dX10_more_14 : decode cX10_more 14 = .ok (.iload_n 3, 1) := by decide +kernel
theorem dX10_more_15 : decode cX10_more 15 = .ok (.iload_n 1, 1) := by decide +kernel
theorem dX10_more_16 : decode cX10_more 16 = .ok (.iload_n 2, 1) := by decide +kernel
theorem dX10_more_17 : decode cX10_more 17 = .ok (.aload_n 0, 1) := by decide +kernel
theorem dX10_more_18 : decode cX10_more 18 = .ok (.getfield 7, 3) := by decide +kernel
theorem dX10_more_21 : decode cX10_more 21 = .ok (.sipush 174, 3) := by decide +kernel
theorem dX10_more_24 : decode cX10_more 24 = .ok (.iaload, 1) := by decide +kernel
theorem dX10_more_25 : decode cX10_more 25 = .ok (.invokevirtual 251, 3) := by decide +kernel
theorem dX10_more_28 : decode cX10_more 28 = .ok (.aload_n 0, 1) := by decide +kernel
theorem dX10_more_29 : decode cX10_more 29 = .ok (.aload_n 0, 1) := by decide +kernel
theorem dX10_more_30 : decode cX10_more 30 = .ok (.iload_n 3, 1) := by decide +kernel
theorem dX10_more_31 : decode cX10_more 31 = .ok (.invokevirtual 266, 3) := by decide +kernel
theorem dX10_more_34 : decode cX10_more 34 = .ok (.putfield 318, 3) := by decide +kernel
theorem dX10_more_37 : decode cX10_more 37 = .ok (.aload_n 0, 1) := by decide +kernel
theorem dX10_more_38 : decode cX10_more 38 = .ok (.aload_n 0, 1) := by decide +kernel
theorem dX10_more_39 : decode cX10_more 39 = .ok (.iload_n 3, 1) := by decide +kernel
theorem dX10_more_40 : decode cX10_more 40 = .ok (.invokevirtual 125, 3) := by decide +kernel
theorem dX10_more_43 : decode cX10_more 43 = .ok (.putfield 321, 3) := by decide +kernel
theorem dX10_more_46 : decode cX10_more 46 = .ok (.aload_n 0, 1) := by decide +kernel
theorem dX10_more_47 : decode cX10_more 47 = .ok (.bipush 6, 2) := by decide +kernel
theorem dX10_more_49 : decode cX10_more 49 = .ok (.invokevirtual 303, 3) := by decide +kernel
theorem dX10_more_52 : decode cX10_more 52 = .ok (.aload_n 0, 1) := by decide +kernel
theorem dX10_more_53 : decode cX10_more 53 = .ok (.getfield 318, 3) := by decide +kernel
theorem dX10_more_56 : decode cX10_more 56 = .ok (.iload 4, 2) := by decide +kernel
theorem dX10_more_58 : decode cX10_more 58 = .ok (.isub, 1) := by decide +kernel
theorem dX10_more_59 : decode cX10_more 59 = .ok (.ireturn, 1) := by decide +kernel
theorem v_X10_more : yX10_more.cls = RX10 ∧ yX10_more.cls ≠ "java/lang/invoke/MethodHandle" ∧ yX10_more.cls ≠ "java/lang/invoke/VarHandle" ∧ (parseMethodDescriptor yX10_more.desc).map (fun d => d.parameters.length) = some 3 := ⟨rfl, by decide +kernel, by decide +kernel, by decide +kernel⟩
noncomputable def k_X10_more_53 (κ : gb_K) : gb_C := (o_gf 10 30 (o_il 4 (o_ib (fun x y => x - y) o_ri)))
theorem l_X10_more_53 : gb_Li (fun κ => k_X10_more_53 κ) := (gb_li (q_gf 10 30) (gb_li (q_il 4) (gb_li (q_ib _) (gb_li0 _))))
theorem s_X10_more_53   {κ : gb_K} (hκ : ∀ q, gb_S RX10 cX10_more 5 (gb_rm 6 137) 1 q (κ q)) : gb_S RX10 cX10_more 5 (gb_rm 6 137) 1 53 (k_X10_more_53 κ) := (s_gf (T := TX10) winX10 rfl (Nat.le_of_ble_eq_true rfl) gw_801 rfl dX10_more_53 (s_il dX10_more_56 (s_isub dX10_more_58 (s_ri rfl dX10_more_59))))
noncomputable def k_X10_more_0 (κ : gb_K) : gb_C := (o_al 0 (o_il 3 (o_cv 1 10 1 f_X10_valueOf (o_is 4 (o_al 0 (o_ci 6 (o_cv 1 10 0 f_X10_laysDown (o_al 0 (o_il 3 (o_il 1 (o_il 2 (o_al 0 (o_gf 10 0 (o_ci 174 (o_iald (o_cv 4 10 0 f_X10_lies (o_al 0 (o_al 0 (o_il 3 (o_cv 1 10 1 f_X10_valueOf (o_pf 10 30 (o_al 0 (o_al 0 (o_il 3 (o_cv 1 10 1 f_X10_mixedIn (o_pf 10 31 (o_al 0 (o_ci 6 (o_cv 1 10 0 f_X10_takesUp (o_al 0 (k_X10_more_53 κ)))))))))))))))))))))))))))))))
theorem l_X10_more_0 : gb_Li (fun κ => k_X10_more_0 κ) := (gb_li (q_al 0) (gb_li (q_il 3) (gb_li (q_cv 1 10 1 f_X10_valueOf) (gb_li (q_is 4) (gb_li (q_al 0) (gb_li (q_ci 6) (gb_li (q_cv 1 10 0 f_X10_laysDown) (gb_li (q_al 0) (gb_li (q_il 3) (gb_li (q_il 1) (gb_li (q_il 2) (gb_li (q_al 0) (gb_li (q_gf 10 0) (gb_li (q_ci 174) (gb_li q_iald (gb_li (q_cv 4 10 0 f_X10_lies) (gb_li (q_al 0) (gb_li (q_al 0) (gb_li (q_il 3) (gb_li (q_cv 1 10 1 f_X10_valueOf) (gb_li (q_pf 10 30) (gb_li (q_al 0) (gb_li (q_al 0) (gb_li (q_il 3) (gb_li (q_cv 1 10 1 f_X10_mixedIn) (gb_li (q_pf 10 31) (gb_li (q_al 0) (gb_li (q_ci 6) (gb_li (q_cv 1 10 0 f_X10_takesUp) (gb_li (q_al 0) (l_X10_more_53)))))))))))))))))))))))))))))))
theorem s_X10_more_0   {κ : gb_K} (hκ : ∀ q, gb_S RX10 cX10_more 5 (gb_rm 6 137) 1 q (κ q)) : gb_S RX10 cX10_more 5 (gb_rm 6 137) 1 0 (k_X10_more_0 κ) := (s_aln 0 rfl dX10_more_0 (s_iln 3 rfl dX10_more_1 (s_cv (C := RX10) c_X10_valueOf rfl (gb_l5 gw_740 gw_741 gw_742 gw_553 gw_743) v_X10_valueOf ⟨rfl, rfl⟩ ⟨Nat.le_of_ble_eq_true rfl, Nat.le_of_ble_eq_true rfl⟩ dX10_more_2 (s_is (Nat.le_of_ble_eq_true rfl) dX10_more_5 (s_aln 0 rfl dX10_more_7 (s_bipush (by decide +kernel) dX10_more_8 (s_cv (C := RX10) c_X10_laysDown rfl (gb_l5 gw_764 gw_765 gw_766 gw_553 gw_767) v_X10_laysDown ⟨rfl, rfl⟩ ⟨Nat.le_of_ble_eq_true rfl, Nat.le_of_ble_eq_true rfl⟩ dX10_more_10 (s_aln 0 rfl dX10_more_13 (s_iln 3 rfl dX10_more_14 (s_iln 1 rfl dX10_more_15 (s_iln 2 rfl dX10_more_16 (s_aln 0 rfl dX10_more_17 (s_gf (T := TX10) winX10 rfl (Nat.le_of_ble_eq_true rfl) gw_545 rfl dX10_more_18 (s_sipush (by decide +kernel) dX10_more_21 (s_iald dX10_more_24 (s_cv (C := RX10) c_X10_lies rfl (gb_l5 gw_709 gw_710 gw_711 gw_553 gw_712) v_X10_lies ⟨rfl, rfl⟩ ⟨Nat.le_of_ble_eq_true rfl, Nat.le_of_ble_eq_true rfl⟩ dX10_more_25 (s_aln 0 rfl dX10_more_28 (s_aln 0 rfl dX10_more_29 (s_iln 3 rfl dX10_more_30 (s_cv (C := RX10) c_X10_valueOf rfl (gb_l5 gw_740 gw_741 gw_742 gw_553 gw_743) v_X10_valueOf ⟨rfl, rfl⟩ ⟨Nat.le_of_ble_eq_true rfl, Nat.le_of_ble_eq_true rfl⟩ dX10_more_31 (s_pf (T := TX10) winX10 rfl (Nat.le_of_ble_eq_true rfl) tyX10_ok nmX10 rfl (by decide +kernel) gw_801 rfl dX10_more_34 (s_aln 0 rfl dX10_more_37 (s_aln 0 rfl dX10_more_38 (s_iln 3 rfl dX10_more_39 (s_cv (C := RX10) c_X10_mixedIn rfl (gb_l5 gw_598 gw_599 gw_600 gw_553 gw_601) v_X10_mixedIn ⟨rfl, rfl⟩ ⟨Nat.le_of_ble_eq_true rfl, Nat.le_of_ble_eq_true rfl⟩ dX10_more_40 (s_pf (T := TX10) winX10 rfl (Nat.le_of_ble_eq_true rfl) tyX10_ok nmX10 rfl (by decide +kernel) gw_802 rfl dX10_more_43 (s_aln 0 rfl dX10_more_46 (s_bipush (by decide +kernel) dX10_more_47 (s_cv (C := RX10) c_X10_takesUp rfl (gb_l5 gw_773 gw_774 gw_775 gw_553 gw_776) v_X10_takesUp ⟨rfl, rfl⟩ ⟨Nat.le_of_ble_eq_true rfl, Nat.le_of_ble_eq_true rfl⟩ dX10_more_49 (s_aln 0 rfl dX10_more_52 (s_X10_more_53 hκ)))))))))))))))))))))))))))))))
noncomputable def f_X10_more : gb_F := gb_hide (gb_mf 5 (k_X10_more_0 gb_n))
theorem c_X10_more : ∀ l, gb_Met l yX10_more cX10_more 5 (some .int) 1 (gb_rm 6 137) f_X10_more := gb_hide_c (gb_met (own := RX10) (rk := 1) rfl (by decide +kernel) ⟨rfl, rfl⟩ (s_X10_more_0 gb_S_n))
theorem dX10_would_0 : decode cX10_would 0 = .ok (.aload_n 0, 1) := by decide +kernel
theorem dX10_would_1 : decode cX10_would 1 = .ok (.iconst 0, 1) := by decide +kernel
theorem dX10_would_2 : decode cX10_would 2 = .ok (.putfield 66, 3) := by decide +kernel
theorem dX10_would_5 : decode cX10_would 5 = .ok (.iload_n 1, 1) := by decide +kernel
theorem dX10_would_6 : decode cX10_would 6 = .ok (.invokestatic 230, 3) := by decide +kernel
theorem dX10_would_9 : decode cX10_would 9 = .ok (.ifCond .eq 17, 3) := by decide +kernel
theorem dX10_would_12 : decode cX10_would 12 = .ok (.iload_n 2, 1) := by decide +kernel
theorem dX10_would_13 : decode cX10_would 13 = .ok (.invokestatic 241, 3) := by decide +kernel
theorem dX10_would_16 : decode cX10_would 16 = .ok (.ifCond .eq 10, 3) := by decide +kernel
theorem dX10_would_19 : decode cX10_would 19 = .ok (.iload_n 3, 1) := by decide +kernel
theorem dX10_would_20 : decode cX10_would 20 = .ok (.invokestatic 233, 3) := by decide +kernel
theorem dX10_would_23 : decode cX10_would 23 = .ok (.ifCond .ne 5, 3) := by decide +kernel
theorem dX10_would_26 : decode cX10_would 26 = .ok (.iconst (-1), 1) := by decide +kernel
theorem dX10_would_27 : decode cX10_would 27 = .ok (.ireturn, 1) := by decide +kernel
theorem dX10_would_28 : decode cX10_would 28 = .ok (.aload_n 0, 1) := by decide +kernel
theorem dX10_would_29 : decode cX10_would 29 = .ok (.iload_n 3, 1) := by decide +kernel
theorem dX10_would_30 : decode cX10_would 30 = .ok (.iload_n 1, 1) := by decide +kernel
theorem dX10_would_31 : decode cX10_would 31 = .ok (.iload_n 2, 1) := by decide +kernel
theorem dX10_would_32 : decode cX10_would 32 = .ok (.aload_n 0, 1) := by decide +kernel
theorem dX10_would_33 : decode cX10_would 33 = .ok (.getfield 7, 3) := by decide +kernel
theorem dX10_would_36 : decode cX10_would 36 = .ok (.sipush 174, 3) := by decide +kernel
theorem dX10_would_39 : decode cX10_would 39 = .ok (.iaload, 1) := by decide +kernel
theorem dX10_would_40 : decode cX10_would 40 = .ok (.invokevirtual 244, 3) := by decide +kernel
theorem dX10_would_43 : decode cX10_would 43 = .ok (.istore 4, 2) := by decide +kernel
theorem dX10_would_45 : decode cX10_would 45 = .ok (.iload 4, 2) := by decide +kernel
theorem dX10_would_47 : decode cX10_would 47 = .ok (.ifCond .eq 10, 3) := by decide +kernel
theorem dX10_would_50 : decode cX10_would 50 = .ok (.iload 4, 2) := by decide +kernel
theorem dX10_would_52 : decode cX10_would 52 = .ok (.ldc_w 324, 3) := by decide +kernel
theorem dX10_would_55 : decode cX10_would 55 = .ok (.isub, 1) := by decide +kernel
theorem dX10_would_56 : decode cX10_would 56 = .ok (.ireturn, 1) := by decide +kernel
theorem dX10_would_57 : decode cX10_would 57 = .ok (.aload_n 0, 1) := by decide +kernel
theorem dX10_would_58 : decode cX10_would 58 = .ok (.iload_n 1, 1) := by decide +kernel
theorem dX10_would_59 : decode cX10_would 59 = .ok (.iload_n 2, 1) := by decide +kernel
theorem dX10_would_60 : decode cX10_would 60 = .ok (.iload_n 3, 1) := by decide +kernel
theorem dX10_would_61 : decode cX10_would 61 = .ok (.invokevirtual 325, 3) := by decide +kernel
theorem dX10_would_64 : decode cX10_would 64 = .ok (.istore 5, 2) := by decide +kernel
theorem dX10_would_66 : decode cX10_would 66 = .ok (.aload_n 0, 1) := by decide +kernel
theorem dX10_would_67 : decode cX10_would 67 = .ok (.iconst 0, 1) := by decide +kernel
theorem dX10_would_68 : decode cX10_would 68 = .ok (.putfield 70, 3) := by decide +kernel
theorem dX10_would_71 : decode cX10_would 71 = .ok (.aload_n 0, 1) := by decide +kernel
theorem dX10_would_72 : decode cX10_would 72 = .ok (.aload_n 0, 1) := by decide +kernel
theorem dX10_would_73 : decode cX10_would 73 = .ok (.getfield 318, 3) := by decide +kernel
theorem dX10_would_76 : decode cX10_would 76 = .ok (.i2l, 1) := by decide +kernel
theorem dX10_would_77 : decode cX10_would 77 = .ok (.invokevirtual 259, 3) := by decide +kernel
theorem dX10_would_80 : decode cX10_would 80 = .ok (.aload_n 0, 1) := by decide +kernel
theorem dX10_would_81 : decode cX10_would 81 = .ok (.aload_n 0, 1) := by decide +kernel
theorem dX10_would_82 : decode cX10_would 82 = .ok (.getfield 321, 3) := by decide +kernel
theorem dX10_would_85 : decode cX10_would 85 = .ok (.i2l, 1) := by decide +kernel
theorem dX10_would_86 : decode cX10_would 86 = .ok (.invokevirtual 259, 3) := by decide +kernel
theorem dX10_would_89 : decode cX10_would 89 = .ok (.iload 5, 2) := by decide +kernel
theorem dX10_would_91 : decode cX10_would 91 = .ok (.ireturn, 1) := by decide +kernel
theorem v_X10_would : yX10_would.cls = RX10 ∧ yX10_would.cls ≠ "java/lang/invoke/MethodHandle" ∧ yX10_would.cls ≠ "java/lang/invoke/VarHandle" ∧ (parseMethodDescriptor yX10_would.desc).map (fun d => d.parameters.length) = some 3 := ⟨rfl, by decide +kernel, by decide +kernel, by decide +kernel⟩
noncomputable def k_X10_would_26 (κ : gb_K) : gb_C := (o_ci (-1) o_ri)
theorem l_X10_would_26 : gb_Li (fun κ => k_X10_would_26 κ) := (gb_li (q_ci (-1)) (gb_li0 _))
theorem s_X10_would_26   {κ : gb_K} (hκ : ∀ q, gb_S RX10 cX10_would 6 (gb_rm 7 161) 1 q (κ q)) : gb_S RX10 cX10_would 6 (gb_rm 7 161) 1 26 (k_X10_would_26 κ) := (s_iconst (by decide +kernel) dX10_would_26 (s_ri rfl dX10_would_27))
noncomputable def k_X10_would_66 (κ : gb_K) : gb_C := (o_al 0 (o_ci 0 (o_pf 10 9 (o_al 0 (o_al 0 (o_gf 10 30 (o_i2l (o_cv 1 10 0 f_X10_tell (o_al 0 (o_al 0 (o_gf 10 31 (o_i2l (o_cv 1 10 0 f_X10_tell (o_il 5 o_ri))))))))))))))
theorem l_X10_would_66 : gb_Li (fun κ => k_X10_would_66 κ) := (gb_li (q_al 0) (gb_li (q_ci 0) (gb_li (q_pf 10 9) (gb_li (q_al 0) (gb_li (q_al 0) (gb_li (q_gf 10 30) (gb_li q_i2l (gb_li (q_cv 1 10 0 f_X10_tell) (gb_li (q_al 0) (gb_li (q_al 0) (gb_li (q_gf 10 31) (gb_li q_i2l (gb_li (q_cv 1 10 0 f_X10_tell) (gb_li (q_il 5) (gb_li0 _)))))))))))))))
theorem s_X10_would_66   {κ : gb_K} (hκ : ∀ q, gb_S RX10 cX10_would 6 (gb_rm 7 161) 1 q (κ q)) : gb_S RX10 cX10_would 6 (gb_rm 7 161) 1 66 (k_X10_would_66 κ) := (s_aln 0 rfl dX10_would_66 (s_iconst (by decide +kernel) dX10_would_67 (s_pf (T := TX10) winX10 rfl (Nat.le_of_ble_eq_true rfl) tyX10_ok nmX10 rfl (by decide +kernel) gw_548 rfl dX10_would_68 (s_aln 0 rfl dX10_would_71 (s_aln 0 rfl dX10_would_72 (s_gf (T := TX10) winX10 rfl (Nat.le_of_ble_eq_true rfl) gw_801 rfl dX10_would_73 (s_i2l dX10_would_76 (s_cv (C := RX10) c_X10_tell rfl (gb_l5 gw_732 gw_733 gw_734 gw_553 gw_735) v_X10_tell ⟨rfl, rfl⟩ ⟨Nat.le_of_ble_eq_true rfl, Nat.le_of_ble_eq_true rfl⟩ dX10_would_77 (s_aln 0 rfl dX10_would_80 (s_aln 0 rfl dX10_would_81 (s_gf (T := TX10) winX10 rfl (Nat.le_of_ble_eq_true rfl) gw_802 rfl dX10_would_82 (s_i2l dX10_would_85 (s_cv (C := RX10) c_X10_tell rfl (gb_l5 gw_732 gw_733 gw_734 gw_553 gw_735) v_X10_tell ⟨rfl, rfl⟩ ⟨Nat.le_of_ble_eq_true rfl, Nat.le_of_ble_eq_true rfl⟩ dX10_would_86 (s_il dX10_would_89 (s_ri rfl dX10_would_91)))))))))))))))
noncomputable def k_X10_would_0 (κ : gb_K) : gb_C := (o_al 0 (o_ci 0 (o_pf 10 10 (o_il 1 (o_cs 1 2 f_X10_isGrade (o_zeq (k_X10_would_26 κ) (o_il 2 (o_cs 1 2 f_X10_isLoad (o_zeq (k_X10_would_26 κ) (o_il 3 (o_cs 1 2 f_X10_isBin (o_zeq (k_X10_would_26 κ) (o_al 0 (o_il 3 (o_il 1 (o_il 2 (o_al 0 (o_gf 10 0 (o_ci 174 (o_iald (o_cv 4 10 1 f_X10_whyNot (o_is 4 (o_il 4 (o_zeq (o_al 0 (o_il 1 (o_il 2 (o_il 3 (o_cv 3 10 1 f_X10_more (o_is 5 (k_X10_would_66 κ))))))) (o_il 4 (o_ci 1000000 (o_ib (fun x y => x - y) o_ri)))))))))))))))))))))))))))
theorem l_X10_would_0 : gb_Li (fun κ => k_X10_would_0 κ) := (gb_li (q_al 0) (gb_li (q_ci 0) (gb_li (q_pf 10 10) (gb_li (q_il 1) (gb_li (q_cs 1 2 f_X10_isGrade) (q_zeq (l_X10_would_26) (gb_li (q_il 2) (gb_li (q_cs 1 2 f_X10_isLoad) (q_zeq (l_X10_would_26) (gb_li (q_il 3) (gb_li (q_cs 1 2 f_X10_isBin) (q_zeq (l_X10_would_26) (gb_li (q_al 0) (gb_li (q_il 3) (gb_li (q_il 1) (gb_li (q_il 2) (gb_li (q_al 0) (gb_li (q_gf 10 0) (gb_li (q_ci 174) (gb_li q_iald (gb_li (q_cv 4 10 1 f_X10_whyNot) (gb_li (q_is 4) (gb_li (q_il 4) (q_zeq (gb_li (q_al 0) (gb_li (q_il 1) (gb_li (q_il 2) (gb_li (q_il 3) (gb_li (q_cv 3 10 1 f_X10_more) (gb_li (q_is 5) (l_X10_would_66))))))) (gb_li (q_il 4) (gb_li (q_ci 1000000) (gb_li (q_ib _) (gb_li0 _))))))))))))))))))))))))))))
theorem s_X10_would_0   {κ : gb_K} (hκ : ∀ q, gb_S RX10 cX10_would 6 (gb_rm 7 161) 1 q (κ q)) : gb_S RX10 cX10_would 6 (gb_rm 7 161) 1 0 (k_X10_would_0 κ) := (s_aln 0 rfl dX10_would_0 (s_iconst (by decide +kernel) dX10_would_1 (s_pf (T := TX10) winX10 rfl (Nat.le_of_ble_eq_true rfl) tyX10_ok nmX10 rfl (by decide +kernel) gw_546 rfl dX10_would_2 (s_iln 1 rfl dX10_would_5 (s_cs c_X10_isGrade (gb_l4 gw_698 gw_699 gw_553 gw_700) v_X10_isGrade.2 ⟨rfl, rfl⟩ ⟨Nat.le_of_ble_eq_true rfl, Nat.le_of_ble_eq_true rfl⟩ dX10_would_6 (s_zeq (tgt := 26) (by decide +kernel) dX10_would_9 (s_X10_would_26 hκ) (s_iln 2 rfl dX10_would_12 (s_cs c_X10_isLoad (gb_l4 gw_713 gw_714 gw_553 gw_715) v_X10_isLoad.2 ⟨rfl, rfl⟩ ⟨Nat.le_of_ble_eq_true rfl, Nat.le_of_ble_eq_true rfl⟩ dX10_would_13 (s_zeq (tgt := 26) (by decide +kernel) dX10_would_16 (s_X10_would_26 hκ) (s_iln 3 rfl dX10_would_19 (s_cs c_X10_isBin (gb_l4 gw_705 gw_706 gw_553 gw_707) v_X10_isBin.2 ⟨rfl, rfl⟩ ⟨Nat.le_of_ble_eq_true rfl, Nat.le_of_ble_eq_true rfl⟩ dX10_would_20 (s_zne (tgt := 28) (by decide +kernel) dX10_would_23 (s_aln 0 rfl dX10_would_28 (s_iln 3 rfl dX10_would_29 (s_iln 1 rfl dX10_would_30 (s_iln 2 rfl dX10_would_31 (s_aln 0 rfl dX10_would_32 (s_gf (T := TX10) winX10 rfl (Nat.le_of_ble_eq_true rfl) gw_545 rfl dX10_would_33 (s_sipush (by decide +kernel) dX10_would_36 (s_iald dX10_would_39 (s_cv (C := RX10) c_X10_whyNot rfl (gb_l5 gw_716 gw_717 gw_718 gw_553 gw_719) v_X10_whyNot ⟨rfl, rfl⟩ ⟨Nat.le_of_ble_eq_true rfl, Nat.le_of_ble_eq_true rfl⟩ dX10_would_40 (s_is (Nat.le_of_ble_eq_true rfl) dX10_would_43 (s_il dX10_would_45 (s_zeq (tgt := 57) (by decide +kernel) dX10_would_47 (s_aln 0 rfl dX10_would_57 (s_iln 1 rfl dX10_would_58 (s_iln 2 rfl dX10_would_59 (s_iln 3 rfl dX10_would_60 (s_cv (C := RX10) c_X10_more rfl (gb_l5 gw_803 gw_804 gw_805 gw_553 gw_806) v_X10_more ⟨rfl, rfl⟩ ⟨Nat.le_of_ble_eq_true rfl, Nat.le_of_ble_eq_true rfl⟩ dX10_would_61 (s_is (Nat.le_of_ble_eq_true rfl) dX10_would_64 (s_X10_would_66 hκ))))))) (s_il dX10_would_50 (s_ldcw gw_807 dX10_would_52 (s_isub dX10_would_55 (s_ri rfl dX10_would_56)))))))))))))))) (s_X10_would_26 hκ)))))))))))))
noncomputable def f_X10_would : gb_F := gb_hide (gb_mf 6 (k_X10_would_0 gb_n))
theorem c_X10_would : ∀ l, gb_Met l yX10_would cX10_would 6 (some .int) 1 (gb_rm 7 161) f_X10_would := gb_hide_c (gb_met (own := RX10) (rk := 1) rfl (by decide +kernel) ⟨rfl, rfl⟩ (s_X10_would_0 gb_S_n))
theorem dX10_worst_0 : decode cX10_worst 0 = .ok (.aload_n 0, 1) := by decide +kernel
theorem dX10_worst_1 : decode cX10_worst 1 = .ok (.iconst 0, 1) := by decide +kernel
theorem dX10_worst_2 : decode cX10_worst 2 = .ok (.putfield 66, 3) := by decide +kernel
theorem dX10_worst_5 : decode cX10_worst 5 = .ok (.iconst 0, 1) := by decide +kernel
theorem dX10_worst_6 : decode cX10_worst 6 = .ok (.istore_n 1, 1) := by decide +kernel
theorem dX10_worst_7 : decode cX10_worst 7 = .ok (.bipush (-2), 2) := by decide +kernel
theorem dX10_worst_9 : decode cX10_worst 9 = .ok (.istore_n 2, 1) := by decide +kernel
theorem dX10_worst_10 : decode cX10_worst 10 = .ok (.iconst 0, 1) := by decide +kernel
theorem dX10_worst_11 : decode cX10_worst 11 = .ok (.istore_n 3, 1) := by decide +kernel
theorem dX10_worst_12 : decode cX10_worst 12 = .ok (.iconst 0, 1) := by decide +kernel
theorem dX10_worst_13 : decode cX10_worst 13 = .ok (.istore 4, 2) := by decide +kernel
theorem dX10_worst_15 : decode cX10_worst 15 = .ok (.iload 4, 2) := by decide +kernel
theorem dX10_worst_17 : decode cX10_worst 17 = .ok (.bipush 6, 2) := by decide +kernel
theorem dX10_worst_19 : decode cX10_worst 19 = .ok (.if_icmp .ge 84, 3) := by decide +kernel
theorem dX10_worst_22 : decode cX10_worst 22 = .ok (.iconst 0, 1) := by decide +kernel
theorem dX10_worst_23 : decode cX10_worst 23 = .ok (.istore 5, 2) := by decide +kernel
theorem dX10_worst_25 : decode cX10_worst 25 = .ok (.iload 5, 2) := by decide +kernel
theorem dX10_worst_27 : decode cX10_worst 27 = .ok (.bipush 6, 2) := by decide +kernel
theorem dX10_worst_29 : decode cX10_worst 29 = .ok (.if_icmp .ge 68, 3) := by decide +kernel
theorem dX10_worst_32 : decode cX10_worst 32 = .ok (.iload 5, 2) := by decide +kernel
theorem dX10_worst_34 : decode cX10_worst 34 = .ok (.iconst 1, 1) := by decide +kernel
theorem dX10_worst_35 : decode cX10_worst 35 = .ok (.iadd, 1) := by decide +kernel
theorem dX10_worst_36 : decode cX10_worst 36 = .ok (.istore 6, 2) := by decide +kernel
theorem dX10_worst_38 : decode cX10_worst 38 = .ok (.iload 6, 2) := by decide +kernel
theorem dX10_worst_40 : decode cX10_worst 40 = .ok (.bipush 6, 2) := by decide +kernel
theorem dX10_worst_42 : decode cX10_worst 42 = .ok (.if_icmp .ge 49, 3) := by decide +kernel
theorem dX10_worst_45 : decode cX10_worst 45 = .ok (.aload_n 0, 1) := by decide +kernel
theorem dX10_worst_46 : decode cX10_worst 46 = .ok (.iload 4, 2) := by decide +kernel
theorem dX10_worst_48 : decode cX10_worst 48 = .ok (.iload 5, 2) := by decide +kernel
theorem dX10_worst_50 : decode cX10_worst 50 = .ok (.iload 6, 2) := by decide +kernel
theorem dX10_worst_52 : decode cX10_worst 52 = .ok (.invokevirtual 119, 3) := by decide +kernel
theorem dX10_worst_55 : decode cX10_worst 55 = .ok (.iload_n 1, 1) := by decide +kernel
theorem dX10_worst_56 : decode cX10_worst 56 = .ok (.if_icmp .gt 6, 3) := by decide +kernel
theorem dX10_worst_59 : decode cX10_worst 59 = .ok (.goto 26, 3) := by decide +kernel
theorem dX10_worst_62 : decode cX10_worst 62 = .ok (.aload_n 0, 1) := by decide +kernel
theorem dX10_worst_63 : decode cX10_worst 63 = .ok (.iload 4, 2) := by decide +kernel
theorem dX10_worst_65 : decode cX10_worst 65 = .ok (.iload 5, 2) := by decide +kernel
theorem dX10_worst_67 : decode cX10_worst 67 = .ok (.iload 6, 2) := by decide +kernel
theorem dX10_worst_69 : decode cX10_worst 69 = .ok (.invokevirtual 119, 3) := by decide +kernel
theorem dX10_worst_72 : decode cX10_worst 72 = .ok (.istore_n 1, 1) := by decide +kernel
theorem dX10_worst_73 : decode cX10_worst 73 = .ok (.bipush 10, 2) := by decide +kernel
theorem dX10_worst_75 : decode cX10_worst 75 = .ok (.iload 5, 2) := by decide +kernel
theorem dX10_worst_77 : decode cX10_worst 77 = .ok (.imul, 1) := by decide +kernel
theorem dX10_worst_78 : decode cX10_worst 78 = .ok (.iload 6, 2) := by decide +kernel
theorem dX10_worst_80 : decode cX10_worst 80 = .ok (.iadd, 1) := by decide +kernel
theorem dX10_worst_81 : decode cX10_worst 81 = .ok (.istore_n 2, 1) := by decide +kernel
theorem dX10_worst_82 : decode cX10_worst 82 = .ok (.iload 4, 2) := by decide +kernel
theorem dX10_worst_84 : decode cX10_worst 84 = .ok (.istore_n 3, 1) := by decide +kernel
theorem dX10_worst_85 : decode cX10_worst 85 = .ok (.iinc 6 1, 3) := by decide +kernel
theorem dX10_worst_88 : decode cX10_worst 88 = .ok (.goto (-50), 3) := by decide +kernel
theorem dX10_worst_91 : decode cX10_worst 91 = .ok (.iinc 5 1, 3) := by decide +kernel
theorem dX10_worst_94 : decode cX10_worst 94 = .ok (.goto (-69), 3) := by decide +kernel
theorem dX10_worst_97 : decode cX10_worst 97 = .ok (.iinc 4 1, 3) := by decide +kernel
theorem dX10_worst_100 : decode cX10_worst 100 = .ok (.goto (-85), 3) := by decide +kernel
theorem dX10_worst_103 : decode cX10_worst 103 = .ok (.iload_n 2, 1) := by decide +kernel
theorem dX10_worst_104 : decode cX10_worst 104 = .ok (.bipush (-2), 2) := by decide +kernel
theorem dX10_worst_106 : decode cX10_worst 106 = .ok (.if_icmp .ne 6, 3) := by decide +kernel
theorem dX10_worst_109 : decode cX10_worst 109 = .ok (.bipush (-2), 2) := by decide +kernel
theorem dX10_worst_111 : decode cX10_worst 111 = .ok (.ireturn, 1) := by decide +kernel
theorem dX10_worst_112 : decode cX10_worst 112 = .ok (.aload_n 0, 1) := by decide +kernel
theorem dX10_worst_113 : decode cX10_worst 113 = .ok (.iconst 0, 1) := by decide +kernel
theorem dX10_worst_114 : decode cX10_worst 114 = .ok (.putfield 70, 3) := by decide +kernel
theorem dX10_worst_117 : decode cX10_worst 117 = .ok (.aload_n 0, 1) := by decide +kernel
theorem dX10_worst_118 : decode cX10_worst 118 = .ok (.iload_n 1, 1) := by decide +kernel
theorem dX10_worst_119 : decode cX10_worst 119 = .ok (.i2l, 1) := by decide +kernel
theorem dX10_worst_120 : decode cX10_worst 120 = .ok (.invokevirtual 259, 3) := by decide +kernel
theorem dX10_worst_123 : decode cX10_worst 123 = .ok (.aload_n 0, 1) := by decide +kernel
theorem dX10_worst_124 : decode cX10_worst 124 = .ok (.iload_n 3, 1) := by decide +kernel
theorem dX10_worst_125 : decode cX10_worst 125 = .ok (.i2l, 1) := by decide +kernel
theorem dX10_worst_126 : decode cX10_worst 126 = .ok (.invokevirtual 259, 3) := by decide +kernel
theorem dX10_worst_129 : decode cX10_worst 129 = .ok (.iload_n 2, 1) := by decide +kernel
theorem dX10_worst_130 : decode cX10_worst 130 = .ok (.ireturn, 1) := by decide +kernel
theorem v_X10_worst : yX10_worst.cls = RX10 ∧ yX10_worst.cls ≠ "java/lang/invoke/MethodHandle" ∧ yX10_worst.cls ≠ "java/lang/invoke/VarHandle" ∧ (parseMethodDescriptor yX10_worst.desc).map (fun d => d.parameters.length) = some 0 := ⟨rfl, by decide +kernel, by decide +kernel, by decide +kernel⟩
noncomputable def k_X10_worst_0 (κ : gb_K) : gb_C := (o_al 0 (o_ci 0 (o_pf 10 10 (o_ci 0 (o_is 1 (o_ci (-2) (o_is 2 (o_ci 0 (o_is 3 (o_ci 0 (o_is 4 (o_j [0, 1, 2, 3, 4] (κ 15)))))))))))))
theorem l_X10_worst_0 : gb_Li (fun κ => k_X10_worst_0 κ) := (gb_li (q_al 0) (gb_li (q_ci 0) (gb_li (q_pf 10 10) (gb_li (q_ci 0) (gb_li (q_is 1) (gb_li (q_ci (-2)) (gb_li (q_is 2) (gb_li (q_ci 0) (gb_li (q_is 3) (gb_li (q_ci 0) (gb_li (q_is 4) (q_j [0, 1, 2, 3, 4] 15))))))))))))
theorem s_X10_worst_0   {κ : gb_K} (hκ : ∀ q, gb_S RX10 cX10_worst 7 (gb_rm 3 70) 1 q (κ q)) : gb_S RX10 cX10_worst 7 (gb_rm 3 70) 1 0 (k_X10_worst_0 κ) := (s_aln 0 rfl dX10_worst_0 (s_iconst (by decide +kernel) dX10_worst_1 (s_pf (T := TX10) winX10 rfl (Nat.le_of_ble_eq_true rfl) tyX10_ok nmX10 rfl (by decide +kernel) gw_546 rfl dX10_worst_2 (s_iconst (by decide +kernel) dX10_worst_5 (s_isn 1 rfl (Nat.le_of_ble_eq_true rfl) dX10_worst_6 (s_bipush (by decide +kernel) dX10_worst_7 (s_isn 2 rfl (Nat.le_of_ble_eq_true rfl) dX10_worst_9 (s_iconst (by decide +kernel) dX10_worst_10 (s_isn 3 rfl (Nat.le_of_ble_eq_true rfl) dX10_worst_11 (s_iconst (by decide +kernel) dX10_worst_12 (s_is (Nat.le_of_ble_eq_true rfl) dX10_worst_13 (s_j (hκ 15)))))))))))))
noncomputable def k_X10_worst_15 (κ : gb_K) : gb_C := (o_il 4 (o_ci 6 (o_cge (o_il 2 (o_ci (-2) (o_ceq (o_ci (-2) o_ri) (o_al 0 (o_ci 0 (o_pf 10 9 (o_al 0 (o_il 1 (o_i2l (o_cv 1 10 0 f_X10_tell (o_al 0 (o_il 3 (o_i2l (o_cv 1 10 0 f_X10_tell (o_il 2 o_ri))))))))))))))) (o_ci 0 (o_is 5 (o_j [0, 1, 2, 3, 4, 5] (κ 25)))))))
theorem l_X10_worst_15 : gb_Li (fun κ => k_X10_worst_15 κ) := (gb_li (q_il 4) (gb_li (q_ci 6) (q_cge (gb_li (q_il 2) (gb_li (q_ci (-2)) (q_ceq (gb_li (q_ci (-2)) (gb_li0 _)) (gb_li (q_al 0) (gb_li (q_ci 0) (gb_li (q_pf 10 9) (gb_li (q_al 0) (gb_li (q_il 1) (gb_li q_i2l (gb_li (q_cv 1 10 0 f_X10_tell) (gb_li (q_al 0) (gb_li (q_il 3) (gb_li q_i2l (gb_li (q_cv 1 10 0 f_X10_tell) (gb_li (q_il 2) (gb_li0 _)))))))))))))))) (gb_li (q_ci 0) (gb_li (q_is 5) (q_j [0, 1, 2, 3, 4, 5] 25))))))
theorem s_X10_worst_15   {κ : gb_K} (hκ : ∀ q, gb_S RX10 cX10_worst 7 (gb_rm 3 70) 1 q (κ q)) : gb_S RX10 cX10_worst 7 (gb_rm 3 70) 1 15 (k_X10_worst_15 κ) := (s_il dX10_worst_15 (s_bipush (by decide +kernel) dX10_worst_17 (s_cge (tgt := 103) (by decide +kernel) dX10_worst_19 (s_iln 2 rfl dX10_worst_103 (s_bipush (by decide +kernel) dX10_worst_104 (s_cne (tgt := 112) (by decide +kernel) dX10_worst_106 (s_aln 0 rfl dX10_worst_112 (s_iconst (by decide +kernel) dX10_worst_113 (s_pf (T := TX10) winX10 rfl (Nat.le_of_ble_eq_true rfl) tyX10_ok nmX10 rfl (by decide +kernel) gw_548 rfl dX10_worst_114 (s_aln 0 rfl dX10_worst_117 (s_iln 1 rfl dX10_worst_118 (s_i2l dX10_worst_119 (s_cv (C := RX10) c_X10_tell rfl (gb_l5 gw_732 gw_733 gw_734 gw_553 gw_735) v_X10_tell ⟨rfl, rfl⟩ ⟨Nat.le_of_ble_eq_true rfl, Nat.le_of_ble_eq_true rfl⟩ dX10_worst_120 (s_aln 0 rfl dX10_worst_123 (s_iln 3 rfl dX10_worst_124 (s_i2l dX10_worst_125 (s_cv (C := RX10) c_X10_tell rfl (gb_l5 gw_732 gw_733 gw_734 gw_553 gw_735) v_X10_tell ⟨rfl, rfl⟩ ⟨Nat.le_of_ble_eq_true rfl, Nat.le_of_ble_eq_true rfl⟩ dX10_worst_126 (s_iln 2 rfl dX10_worst_129 (s_ri rfl dX10_worst_130))))))))))))) (s_bipush (by decide +kernel) dX10_worst_109 (s_ri rfl dX10_worst_111))))) (s_iconst (by decide +kernel) dX10_worst_22 (s_is (Nat.le_of_ble_eq_true rfl) dX10_worst_23 (s_j (hκ 25)))))))
noncomputable def k_X10_worst_25 (κ : gb_K) : gb_C := (o_il 5 (o_ci 6 (o_cge (o_inc 4 1 (o_j [0, 1, 2, 3, 4] (κ 15))) (o_il 5 (o_ci 1 (o_ib (fun x y => x + y) (o_is 6 (o_j [0, 1, 2, 3, 4, 5, 6] (κ 38)))))))))
theorem l_X10_worst_25 : gb_Li (fun κ => k_X10_worst_25 κ) := (gb_li (q_il 5) (gb_li (q_ci 6) (q_cge (gb_li (q_inc 4 1) (q_j [0, 1, 2, 3, 4] 15)) (gb_li (q_il 5) (gb_li (q_ci 1) (gb_li (q_ib _) (gb_li (q_is 6) (q_j [0, 1, 2, 3, 4, 5, 6] 38))))))))
theorem s_X10_worst_25   {κ : gb_K} (hκ : ∀ q, gb_S RX10 cX10_worst 7 (gb_rm 3 70) 1 q (κ q)) : gb_S RX10 cX10_worst 7 (gb_rm 3 70) 1 25 (k_X10_worst_25 κ) := (s_il dX10_worst_25 (s_bipush (by decide +kernel) dX10_worst_27 (s_cge (tgt := 97) (by decide +kernel) dX10_worst_29 (s_inc (by decide +kernel) (Nat.le_of_ble_eq_true rfl) dX10_worst_97 (s_goto (tgt := 15) (by decide +kernel) dX10_worst_100 (s_j (hκ 15)))) (s_il dX10_worst_32 (s_iconst (by decide +kernel) dX10_worst_34 (s_iadd dX10_worst_35 (s_is (Nat.le_of_ble_eq_true rfl) dX10_worst_36 (s_j (hκ 38)))))))))
noncomputable def k_X10_worst_85 (κ : gb_K) : gb_C := (o_inc 6 1 (o_j [0, 1, 2, 3, 4, 5, 6] (κ 38)))
theorem l_X10_worst_85 : gb_Li (fun κ => k_X10_worst_85 κ) := (gb_li (q_inc 6 1) (q_j [0, 1, 2, 3, 4, 5, 6] 38))
theorem s_X10_worst_85   {κ : gb_K} (hκ : ∀ q, gb_S RX10 cX10_worst 7 (gb_rm 3 70) 1 q (κ q)) : gb_S RX10 cX10_worst 7 (gb_rm 3 70) 1 85 (k_X10_worst_85 κ) := (s_inc (by decide +kernel) (Nat.le_of_ble_eq_true rfl) dX10_worst_85 (s_goto (tgt := 38) (by decide +kernel) dX10_worst_88 (s_j (hκ 38))))
noncomputable def k_X10_worst_38 (κ : gb_K) : gb_C := (o_il 6 (o_ci 6 (o_cge (o_inc 5 1 (o_j [0, 1, 2, 3, 4, 5] (κ 25))) (o_al 0 (o_il 4 (o_il 5 (o_il 6 (o_cv 3 10 1 f_X10_mixedOf (o_il 1 (o_cgt (o_al 0 (o_il 4 (o_il 5 (o_il 6 (o_cv 3 10 1 f_X10_mixedOf (o_is 1 (o_ci 10 (o_il 5 (o_ib (fun x y => x * y) (o_il 6 (o_ib (fun x y => x + y) (o_is 2 (o_il 4 (o_is 3 (k_X10_worst_85 κ))))))))))))))) (k_X10_worst_85 κ)))))))))))
theorem l_X10_worst_38 : gb_Li (fun κ => k_X10_worst_38 κ) := (gb_li (q_il 6) (gb_li (q_ci 6) (q_cge (gb_li (q_inc 5 1) (q_j [0, 1, 2, 3, 4, 5] 25)) (gb_li (q_al 0) (gb_li (q_il 4) (gb_li (q_il 5) (gb_li (q_il 6) (gb_li (q_cv 3 10 1 f_X10_mixedOf) (gb_li (q_il 1) (q_cgt (gb_li (q_al 0) (gb_li (q_il 4) (gb_li (q_il 5) (gb_li (q_il 6) (gb_li (q_cv 3 10 1 f_X10_mixedOf) (gb_li (q_is 1) (gb_li (q_ci 10) (gb_li (q_il 5) (gb_li (q_ib _) (gb_li (q_il 6) (gb_li (q_ib _) (gb_li (q_is 2) (gb_li (q_il 4) (gb_li (q_is 3) (l_X10_worst_85))))))))))))))) (l_X10_worst_85)))))))))))
theorem s_X10_worst_38   {κ : gb_K} (hκ : ∀ q, gb_S RX10 cX10_worst 7 (gb_rm 3 70) 1 q (κ q)) : gb_S RX10 cX10_worst 7 (gb_rm 3 70) 1 38 (k_X10_worst_38 κ) := (s_il dX10_worst_38 (s_bipush (by decide +kernel) dX10_worst_40 (s_cge (tgt := 91) (by decide +kernel) dX10_worst_42 (s_inc (by decide +kernel) (Nat.le_of_ble_eq_true rfl) dX10_worst_91 (s_goto (tgt := 25) (by decide +kernel) dX10_worst_94 (s_j (hκ 25)))) (s_aln 0 rfl dX10_worst_45 (s_il dX10_worst_46 (s_il dX10_worst_48 (s_il dX10_worst_50 (s_cv (C := RX10) c_X10_mixedOf rfl (gb_l5 gw_590 gw_591 gw_592 gw_553 gw_593) v_X10_mixedOf ⟨rfl, rfl⟩ ⟨Nat.le_of_ble_eq_true rfl, Nat.le_of_ble_eq_true rfl⟩ dX10_worst_52 (s_iln 1 rfl dX10_worst_55 (s_cgt (tgt := 62) (by decide +kernel) dX10_worst_56 (s_aln 0 rfl dX10_worst_62 (s_il dX10_worst_63 (s_il dX10_worst_65 (s_il dX10_worst_67 (s_cv (C := RX10) c_X10_mixedOf rfl (gb_l5 gw_590 gw_591 gw_592 gw_553 gw_593) v_X10_mixedOf ⟨rfl, rfl⟩ ⟨Nat.le_of_ble_eq_true rfl, Nat.le_of_ble_eq_true rfl⟩ dX10_worst_69 (s_isn 1 rfl (Nat.le_of_ble_eq_true rfl) dX10_worst_72 (s_bipush (by decide +kernel) dX10_worst_73 (s_il dX10_worst_75 (s_imul dX10_worst_77 (s_il dX10_worst_78 (s_iadd dX10_worst_80 (s_isn 2 rfl (Nat.le_of_ble_eq_true rfl) dX10_worst_81 (s_il dX10_worst_82 (s_isn 3 rfl (Nat.le_of_ble_eq_true rfl) dX10_worst_84 (s_X10_worst_85 hκ))))))))))))))) (s_goto (tgt := 85) (by decide +kernel) dX10_worst_59 (s_X10_worst_85 hκ))))))))))))
noncomputable def B_X10_worst : List (Nat × (gb_K → gb_C)) := [(15, fun κ => k_X10_worst_15 κ), (25, fun κ => k_X10_worst_25 κ), (38, fun κ => k_X10_worst_38 κ)]
noncomputable def K_X10_worst : gb_K := gb_fx (gb_tb (B_X10_worst))
theorem L_X10_worst : ∀ q, gb_Li (fun κ => gb_tb (B_X10_worst) κ q) := gb_tb_li (List.forall_mem_cons.mpr ⟨l_X10_worst_15, List.forall_mem_cons.mpr ⟨l_X10_worst_25, List.forall_mem_cons.mpr ⟨l_X10_worst_38, (fun _ h => absurd h List.not_mem_nil)⟩⟩⟩)
theorem S_X10_worst   : ∀ q, gb_S RX10 cX10_worst 7 (gb_rm 3 70) 1 q (K_X10_worst q) := fun q => gb_fx_S (L_X10_worst) (gb_tb_S (List.forall_mem_cons.mpr ⟨fun κ hκ => s_X10_worst_15 hκ, List.forall_mem_cons.mpr ⟨fun κ hκ => s_X10_worst_25 hκ, List.forall_mem_cons.mpr ⟨fun κ hκ => s_X10_worst_38 hκ, (fun _ h => absurd h List.not_mem_nil)⟩⟩⟩)) q
noncomputable def f_X10_worst : gb_F := gb_hide (gb_mf 7 (k_X10_worst_0 (K_X10_worst)))
theorem c_X10_worst : ∀ l, gb_Met l yX10_worst cX10_worst 7 (some .int) 1 (gb_rm 3 70) f_X10_worst := gb_hide_c (gb_met (own := RX10) (rk := 1) rfl (by decide +kernel) ⟨rfl, rfl⟩ (s_X10_worst_0 (S_X10_worst)))
theorem dX10_best_0 : decode cX10_best 0 = .ok (.aload_n 0, 1) := by decide +kernel
theorem dX10_best_1 : decode cX10_best 1 = .ok (.iconst 0, 1) := by decide +kernel
theorem dX10_best_2 : decode cX10_best 2 = .ok (.putfield 66, 3) := by decide +kernel
theorem dX10_best_5 : decode cX10_best 5 = .ok (.iload_n 1, 1) := by decide +kernel
theorem dX10_best_6 : decode cX10_best 6 = .ok (.invokestatic 230, 3) := by decide +kernel
theorem dX10_best_9 : decode cX10_best 9 = .ok (.ifCond .eq 10, 3) := by decide +kernel
theorem dX10_best_12 : decode cX10_best 12 = .ok (.iload_n 2, 1) := by decide +kernel
theorem dX10_best_13 : decode cX10_best 13 = .ok (.invokestatic 241, 3) := by decide +kernel
theorem dX10_best_16 : decode cX10_best 16 = .ok (.ifCond .ne 5, 3) := by decide +kernel
theorem dX10_best_19 : decode cX10_best 19 = .ok (.iconst (-1), 1) := by decide +kernel
theorem dX10_best_20 : decode cX10_best 20 = .ok (.ireturn, 1) := by decide +kernel
theorem dX10_best_21 : decode cX10_best 21 = .ok (.bipush (-2), 2) := by decide +kernel
theorem dX10_best_23 : decode cX10_best 23 = .ok (.istore_n 3, 1) := by decide +kernel
theorem dX10_best_24 : decode cX10_best 24 = .ok (.iconst 0, 1) := by decide +kernel
theorem dX10_best_25 : decode cX10_best 25 = .ok (.istore 4, 2) := by decide +kernel
theorem dX10_best_27 : decode cX10_best 27 = .ok (.iconst 0, 1) := by decide +kernel
theorem dX10_best_28 : decode cX10_best 28 = .ok (.istore 5, 2) := by decide +kernel
theorem dX10_best_30 : decode cX10_best 30 = .ok (.iload 5, 2) := by decide +kernel
theorem dX10_best_32 : decode cX10_best 32 = .ok (.bipush 6, 2) := by decide +kernel
theorem dX10_best_34 : decode cX10_best 34 = .ok (.if_icmp .ge 64, 3) := by decide +kernel
theorem dX10_best_37 : decode cX10_best 37 = .ok (.aload_n 0, 1) := by decide +kernel
theorem dX10_best_38 : decode cX10_best 38 = .ok (.iload 5, 2) := by decide +kernel
theorem dX10_best_40 : decode cX10_best 40 = .ok (.iload_n 1, 1) := by decide +kernel
theorem dX10_best_41 : decode cX10_best 41 = .ok (.iload_n 2, 1) := by decide +kernel
theorem dX10_best_42 : decode cX10_best 42 = .ok (.aload_n 0, 1) := by decide +kernel
theorem dX10_best_43 : decode cX10_best 43 = .ok (.getfield 7, 3) := by decide +kernel
theorem dX10_best_46 : decode cX10_best 46 = .ok (.sipush 174, 3) := by decide +kernel
theorem dX10_best_49 : decode cX10_best 49 = .ok (.iaload, 1) := by decide +kernel
theorem dX10_best_50 : decode cX10_best 50 = .ok (.invokevirtual 244, 3) := by decide +kernel
theorem dX10_best_53 : decode cX10_best 53 = .ok (.ifCond .eq 6, 3) := by decide +kernel
theorem dX10_best_56 : decode cX10_best 56 = .ok (.goto 36, 3) := by decide +kernel
theorem dX10_best_59 : decode cX10_best 59 = .ok (.aload_n 0, 1) := by decide +kernel
theorem dX10_best_60 : decode cX10_best 60 = .ok (.iload_n 1, 1) := by decide +kernel
theorem dX10_best_61 : decode cX10_best 61 = .ok (.iload_n 2, 1) := by decide +kernel
theorem dX10_best_62 : decode cX10_best 62 = .ok (.iload 5, 2) := by decide +kernel
theorem dX10_best_64 : decode cX10_best 64 = .ok (.invokevirtual 325, 3) := by decide +kernel
theorem dX10_best_67 : decode cX10_best 67 = .ok (.istore 6, 2) := by decide +kernel
theorem dX10_best_69 : decode cX10_best 69 = .ok (.iload_n 3, 1) := by decide +kernel
theorem dX10_best_70 : decode cX10_best 70 = .ok (.bipush (-2), 2) := by decide +kernel
theorem dX10_best_72 : decode cX10_best 72 = .ok (.if_icmp .eq 13, 3) := by decide +kernel
theorem dX10_best_75 : decode cX10_best 75 = .ok (.iload 6, 2) := by decide +kernel
theorem dX10_best_77 : decode cX10_best 77 = .ok (.iload 4, 2) := by decide +kernel
theorem dX10_best_79 : decode cX10_best 79 = .ok (.if_icmp .gt 6, 3) := by decide +kernel
theorem dX10_best_82 : decode cX10_best 82 = .ok (.goto 10, 3) := by decide +kernel
theorem dX10_best_85 : decode cX10_best 85 = .ok (.iload 5, 2) := by decide +kernel
theorem dX10_best_87 : decode cX10_best 87 = .ok (.istore_n 3, 1) := by decide +kernel
theorem dX10_best_88 : decode cX10_best 88 = .ok (.iload 6, 2) := by decide +kernel
theorem dX10_best_90 : decode cX10_best 90 = .ok (.istore 4, 2) := by decide +kernel
theorem dX10_best_92 : decode cX10_best 92 = .ok (.iinc 5 1, 3) := by decide +kernel
theorem dX10_best_95 : decode cX10_best 95 = .ok (.goto (-65), 3) := by decide +kernel
theorem dX10_best_98 : decode cX10_best 98 = .ok (.iload_n 3, 1) := by decide +kernel
theorem dX10_best_99 : decode cX10_best 99 = .ok (.bipush (-2), 2) := by decide +kernel
theorem dX10_best_101 : decode cX10_best 101 = .ok (.if_icmp .ne 6, 3) := by decide +kernel
theorem dX10_best_104 : decode cX10_best 104 = .ok (.bipush (-2), 2) := by decide +kernel
theorem dX10_best_106 : decode cX10_best 106 = .ok (.ireturn, 1) := by decide +kernel
theorem dX10_best_107 : decode cX10_best 107 = .ok (.aload_n 0, 1) := by decide +kernel
theorem dX10_best_108 : decode cX10_best 108 = .ok (.iconst 0, 1) := by decide +kernel
theorem dX10_best_109 : decode cX10_best 109 = .ok (.putfield 70, 3) := by decide +kernel
theorem dX10_best_112 : decode cX10_best 112 = .ok (.aload_n 0, 1) := by decide +kernel
theorem dX10_best_113 : decode cX10_best 113 = .ok (.iload 4, 2) := by decide +kernel
theorem dX10_best_115 : decode cX10_best 115 = .ok (.i2l, 1) := by decide +kernel
theorem dX10_best_116 : decode cX10_best 116 = .ok (.invokevirtual 259, 3) := by decide +kernel
theorem dX10_best_119 : decode cX10_best 119 = .ok (.iload_n 3, 1) := by decide +kernel
theorem dX10_best_120 : decode cX10_best 120 = .ok (.ireturn, 1) := by decide +kernel
theorem v_X10_best : yX10_best.cls = RX10 ∧ yX10_best.cls ≠ "java/lang/invoke/MethodHandle" ∧ yX10_best.cls ≠ "java/lang/invoke/VarHandle" ∧ (parseMethodDescriptor yX10_best.desc).map (fun d => d.parameters.length) = some 2 := ⟨rfl, by decide +kernel, by decide +kernel, by decide +kernel⟩
noncomputable def k_X10_best_19 (κ : gb_K) : gb_C := (o_ci (-1) o_ri)
theorem l_X10_best_19 : gb_Li (fun κ => k_X10_best_19 κ) := (gb_li (q_ci (-1)) (gb_li0 _))
theorem s_X10_best_19   {κ : gb_K} (hκ : ∀ q, gb_S RX10 cX10_best 7 (gb_rm 7 161) 1 q (κ q)) : gb_S RX10 cX10_best 7 (gb_rm 7 161) 1 19 (k_X10_best_19 κ) := (s_iconst (by decide +kernel) dX10_best_19 (s_ri rfl dX10_best_20))
noncomputable def k_X10_best_0 (κ : gb_K) : gb_C := (o_al 0 (o_ci 0 (o_pf 10 10 (o_il 1 (o_cs 1 2 f_X10_isGrade (o_zeq (k_X10_best_19 κ) (o_il 2 (o_cs 1 2 f_X10_isLoad (o_zeq (k_X10_best_19 κ) (o_ci (-2) (o_is 3 (o_ci 0 (o_is 4 (o_ci 0 (o_is 5 (o_j [0, 1, 2, 3, 4, 5] (κ 30)))))))))))))))))
theorem l_X10_best_0 : gb_Li (fun κ => k_X10_best_0 κ) := (gb_li (q_al 0) (gb_li (q_ci 0) (gb_li (q_pf 10 10) (gb_li (q_il 1) (gb_li (q_cs 1 2 f_X10_isGrade) (q_zeq (l_X10_best_19) (gb_li (q_il 2) (gb_li (q_cs 1 2 f_X10_isLoad) (q_zeq (l_X10_best_19) (gb_li (q_ci (-2)) (gb_li (q_is 3) (gb_li (q_ci 0) (gb_li (q_is 4) (gb_li (q_ci 0) (gb_li (q_is 5) (q_j [0, 1, 2, 3, 4, 5] 30))))))))))))))))
theorem s_X10_best_0   {κ : gb_K} (hκ : ∀ q, gb_S RX10 cX10_best 7 (gb_rm 7 161) 1 q (κ q)) : gb_S RX10 cX10_best 7 (gb_rm 7 161) 1 0 (k_X10_best_0 κ) := (s_aln 0 rfl dX10_best_0 (s_iconst (by decide +kernel) dX10_best_1 (s_pf (T := TX10) winX10 rfl (Nat.le_of_ble_eq_true rfl) tyX10_ok nmX10 rfl (by decide +kernel) gw_546 rfl dX10_best_2 (s_iln 1 rfl dX10_best_5 (s_cs c_X10_isGrade (gb_l4 gw_698 gw_699 gw_553 gw_700) v_X10_isGrade.2 ⟨rfl, rfl⟩ ⟨Nat.le_of_ble_eq_true rfl, Nat.le_of_ble_eq_true rfl⟩ dX10_best_6 (s_zeq (tgt := 19) (by decide +kernel) dX10_best_9 (s_X10_best_19 hκ) (s_iln 2 rfl dX10_best_12 (s_cs c_X10_isLoad (gb_l4 gw_713 gw_714 gw_553 gw_715) v_X10_isLoad.2 ⟨rfl, rfl⟩ ⟨Nat.le_of_ble_eq_true rfl, Nat.le_of_ble_eq_true rfl⟩ dX10_best_13 (s_zne (tgt := 21) (by decide +kernel) dX10_best_16 (s_bipush (by decide +kernel) dX10_best_21 (s_isn 3 rfl (Nat.le_of_ble_eq_true rfl) dX10_best_23 (s_iconst (by decide +kernel) dX10_best_24 (s_is (Nat.le_of_ble_eq_true rfl) dX10_best_25 (s_iconst (by decide +kernel) dX10_best_27 (s_is (Nat.le_of_ble_eq_true rfl) dX10_best_28 (s_j (hκ 30)))))))) (s_X10_best_19 hκ))))))))))
noncomputable def k_X10_best_92 (κ : gb_K) : gb_C := (o_inc 5 1 (o_j [0, 1, 2, 3, 4, 5] (κ 30)))
theorem l_X10_best_92 : gb_Li (fun κ => k_X10_best_92 κ) := (gb_li (q_inc 5 1) (q_j [0, 1, 2, 3, 4, 5] 30))
theorem s_X10_best_92   {κ : gb_K} (hκ : ∀ q, gb_S RX10 cX10_best 7 (gb_rm 7 161) 1 q (κ q)) : gb_S RX10 cX10_best 7 (gb_rm 7 161) 1 92 (k_X10_best_92 κ) := (s_inc (by decide +kernel) (Nat.le_of_ble_eq_true rfl) dX10_best_92 (s_goto (tgt := 30) (by decide +kernel) dX10_best_95 (s_j (hκ 30))))
noncomputable def k_X10_best_85 (κ : gb_K) : gb_C := (o_il 5 (o_is 3 (o_il 6 (o_is 4 (k_X10_best_92 κ)))))
theorem l_X10_best_85 : gb_Li (fun κ => k_X10_best_85 κ) := (gb_li (q_il 5) (gb_li (q_is 3) (gb_li (q_il 6) (gb_li (q_is 4) (l_X10_best_92)))))
theorem s_X10_best_85   {κ : gb_K} (hκ : ∀ q, gb_S RX10 cX10_best 7 (gb_rm 7 161) 1 q (κ q)) : gb_S RX10 cX10_best 7 (gb_rm 7 161) 1 85 (k_X10_best_85 κ) := (s_il dX10_best_85 (s_isn 3 rfl (Nat.le_of_ble_eq_true rfl) dX10_best_87 (s_il dX10_best_88 (s_is (Nat.le_of_ble_eq_true rfl) dX10_best_90 (s_X10_best_92 hκ)))))
noncomputable def k_X10_best_30 (κ : gb_K) : gb_C := (o_il 5 (o_ci 6 (o_cge (o_il 3 (o_ci (-2) (o_ceq (o_ci (-2) o_ri) (o_al 0 (o_ci 0 (o_pf 10 9 (o_al 0 (o_il 4 (o_i2l (o_cv 1 10 0 f_X10_tell (o_il 3 o_ri))))))))))) (o_al 0 (o_il 5 (o_il 1 (o_il 2 (o_al 0 (o_gf 10 0 (o_ci 174 (o_iald (o_cv 4 10 1 f_X10_whyNot (o_zeq (o_al 0 (o_il 1 (o_il 2 (o_il 5 (o_cv 3 10 1 f_X10_more (o_is 6 (o_il 3 (o_ci (-2) (o_ceq (k_X10_best_85 κ) (o_il 6 (o_il 4 (o_cgt (k_X10_best_85 κ) (k_X10_best_92 κ))))))))))))) (k_X10_best_92 κ))))))))))))))
theorem l_X10_best_30 : gb_Li (fun κ => k_X10_best_30 κ) := (gb_li (q_il 5) (gb_li (q_ci 6) (q_cge (gb_li (q_il 3) (gb_li (q_ci (-2)) (q_ceq (gb_li (q_ci (-2)) (gb_li0 _)) (gb_li (q_al 0) (gb_li (q_ci 0) (gb_li (q_pf 10 9) (gb_li (q_al 0) (gb_li (q_il 4) (gb_li q_i2l (gb_li (q_cv 1 10 0 f_X10_tell) (gb_li (q_il 3) (gb_li0 _)))))))))))) (gb_li (q_al 0) (gb_li (q_il 5) (gb_li (q_il 1) (gb_li (q_il 2) (gb_li (q_al 0) (gb_li (q_gf 10 0) (gb_li (q_ci 174) (gb_li q_iald (gb_li (q_cv 4 10 1 f_X10_whyNot) (q_zeq (gb_li (q_al 0) (gb_li (q_il 1) (gb_li (q_il 2) (gb_li (q_il 5) (gb_li (q_cv 3 10 1 f_X10_more) (gb_li (q_is 6) (gb_li (q_il 3) (gb_li (q_ci (-2)) (q_ceq (l_X10_best_85) (gb_li (q_il 6) (gb_li (q_il 4) (q_cgt (l_X10_best_85) (l_X10_best_92))))))))))))) (l_X10_best_92))))))))))))))
theorem s_X10_best_30   {κ : gb_K} (hκ : ∀ q, gb_S RX10 cX10_best 7 (gb_rm 7 161) 1 q (κ q)) : gb_S RX10 cX10_best 7 (gb_rm 7 161) 1 30 (k_X10_best_30 κ) := (s_il dX10_best_30 (s_bipush (by decide +kernel) dX10_best_32 (s_cge (tgt := 98) (by decide +kernel) dX10_best_34 (s_iln 3 rfl dX10_best_98 (s_bipush (by decide +kernel) dX10_best_99 (s_cne (tgt := 107) (by decide +kernel) dX10_best_101 (s_aln 0 rfl dX10_best_107 (s_iconst (by decide +kernel) dX10_best_108 (s_pf (T := TX10) winX10 rfl (Nat.le_of_ble_eq_true rfl) tyX10_ok nmX10 rfl (by decide +kernel) gw_548 rfl dX10_best_109 (s_aln 0 rfl dX10_best_112 (s_il dX10_best_113 (s_i2l dX10_best_115 (s_cv (C := RX10) c_X10_tell rfl (gb_l5 gw_732 gw_733 gw_734 gw_553 gw_735) v_X10_tell ⟨rfl, rfl⟩ ⟨Nat.le_of_ble_eq_true rfl, Nat.le_of_ble_eq_true rfl⟩ dX10_best_116 (s_iln 3 rfl dX10_best_119 (s_ri rfl dX10_best_120))))))))) (s_bipush (by decide +kernel) dX10_best_104 (s_ri rfl dX10_best_106))))) (s_aln 0 rfl dX10_best_37 (s_il dX10_best_38 (s_iln 1 rfl dX10_best_40 (s_iln 2 rfl dX10_best_41 (s_aln 0 rfl dX10_best_42 (s_gf (T := TX10) winX10 rfl (Nat.le_of_ble_eq_true rfl) gw_545 rfl dX10_best_43 (s_sipush (by decide +kernel) dX10_best_46 (s_iald dX10_best_49 (s_cv (C := RX10) c_X10_whyNot rfl (gb_l5 gw_716 gw_717 gw_718 gw_553 gw_719) v_X10_whyNot ⟨rfl, rfl⟩ ⟨Nat.le_of_ble_eq_true rfl, Nat.le_of_ble_eq_true rfl⟩ dX10_best_50 (s_zeq (tgt := 59) (by decide +kernel) dX10_best_53 (s_aln 0 rfl dX10_best_59 (s_iln 1 rfl dX10_best_60 (s_iln 2 rfl dX10_best_61 (s_il dX10_best_62 (s_cv (C := RX10) c_X10_more rfl (gb_l5 gw_803 gw_804 gw_805 gw_553 gw_806) v_X10_more ⟨rfl, rfl⟩ ⟨Nat.le_of_ble_eq_true rfl, Nat.le_of_ble_eq_true rfl⟩ dX10_best_64 (s_is (Nat.le_of_ble_eq_true rfl) dX10_best_67 (s_iln 3 rfl dX10_best_69 (s_bipush (by decide +kernel) dX10_best_70 (s_ceq (tgt := 85) (by decide +kernel) dX10_best_72 (s_X10_best_85 hκ) (s_il dX10_best_75 (s_il dX10_best_77 (s_cgt (tgt := 85) (by decide +kernel) dX10_best_79 (s_X10_best_85 hκ) (s_goto (tgt := 92) (by decide +kernel) dX10_best_82 (s_X10_best_92 hκ)))))))))))))) (s_goto (tgt := 92) (by decide +kernel) dX10_best_56 (s_X10_best_92 hκ)))))))))))))))
noncomputable def B_X10_best : List (Nat × (gb_K → gb_C)) := [(30, fun κ => k_X10_best_30 κ)]
noncomputable def K_X10_best : gb_K := gb_fx (gb_tb (B_X10_best))
theorem L_X10_best : ∀ q, gb_Li (fun κ => gb_tb (B_X10_best) κ q) := gb_tb_li (List.forall_mem_cons.mpr ⟨l_X10_best_30, (fun _ h => absurd h List.not_mem_nil)⟩)
theorem S_X10_best   : ∀ q, gb_S RX10 cX10_best 7 (gb_rm 7 161) 1 q (K_X10_best q) := fun q => gb_fx_S (L_X10_best) (gb_tb_S (List.forall_mem_cons.mpr ⟨fun κ hκ => s_X10_best_30 hκ, (fun _ h => absurd h List.not_mem_nil)⟩)) q
noncomputable def f_X10_best : gb_F := gb_hide (gb_mf 7 (k_X10_best_0 (K_X10_best)))
theorem c_X10_best : ∀ l, gb_Met l yX10_best cX10_best 7 (some .int) 1 (gb_rm 7 161) f_X10_best := gb_hide_c (gb_met (own := RX10) (rk := 1) rfl (by decide +kernel) ⟨rfl, rfl⟩ (s_X10_best_0 (S_X10_best)))
theorem dX10_ones_0 : decode cX10_ones 0 = .ok (.iconst 0, 1) := by decide +kernel
theorem dX10_ones_1 : decode cX10_ones 1 = .ok (.istore_n 1, 1) := by decide +kernel
theorem dX10_ones_2 : decode cX10_ones 2 = .ok (.iload_n 0, 1) := by decide +kernel
theorem dX10_ones_3 : decode cX10_ones 3 = .ok (.istore_n 2, 1) := by decide +kernel
theorem dX10_ones_4 : decode cX10_ones 4 = .ok (.iload_n 2, 1) := by decide +kernel
theorem dX10_ones_5 : decode cX10_ones 5 = .ok (.ifCond .eq 15, 3) := by decide +kernel
theorem dX10_ones_8 : decode cX10_ones 8 = .ok (.iinc 1 1, 3) := by decide +kernel
theorem dX10_ones_11 : decode cX10_ones 11 = .ok (.iload_n 2, 1) := by decide +kernel
theorem dX10_ones_12 : decode cX10_ones 12 = .ok (.iload_n 2, 1) := by decide +kernel
theorem dX10_ones_13 : decode cX10_ones 13 = .ok (.iconst 1, 1) := by decide +kernel
theorem dX10_ones_14 : decode cX10_ones 14 = .ok (.isub, 1) := by decide +kernel
theorem dX10_ones_15 : decode cX10_ones 15 = .ok (.iand, 1) := by decide +kernel
theorem dX10_ones_16 : decode cX10_ones 16 = .ok (.istore_n 2, 1) := by decide +kernel
theorem dX10_ones_17 : decode cX10_ones 17 = .ok (.goto (-13), 3) := by decide +kernel
theorem dX10_ones_20 : decode cX10_ones 20 = .ok (.iload_n 1, 1) := by decide +kernel
theorem dX10_ones_21 : decode cX10_ones 21 = .ok (.ireturn, 1) := by decide +kernel
theorem v_X10_ones : yX10_ones.cls = RX10 ∧ yX10_ones.cls ≠ "java/lang/invoke/MethodHandle" ∧ yX10_ones.cls ≠ "java/lang/invoke/VarHandle" ∧ (parseMethodDescriptor yX10_ones.desc).map (fun d => d.parameters.length) = some 1 := ⟨rfl, by decide +kernel, by decide +kernel, by decide +kernel⟩
noncomputable def k_X10_ones_0 (κ : gb_K) : gb_C := (o_ci 0 (o_is 1 (o_il 0 (o_is 2 (o_j [1, 2] (κ 4))))))
theorem l_X10_ones_0 : gb_Li (fun κ => k_X10_ones_0 κ) := (gb_li (q_ci 0) (gb_li (q_is 1) (gb_li (q_il 0) (gb_li (q_is 2) (q_j [1, 2] 4)))))
theorem s_X10_ones_0   {κ : gb_K} (hκ : ∀ q, gb_S RX10 cX10_ones 3 (gb_rm 0 0) 1 q (κ q)) : gb_S RX10 cX10_ones 3 (gb_rm 0 0) 1 0 (k_X10_ones_0 κ) := (s_iconst (by decide +kernel) dX10_ones_0 (s_isn 1 rfl (Nat.le_of_ble_eq_true rfl) dX10_ones_1 (s_iln 0 rfl dX10_ones_2 (s_isn 2 rfl (Nat.le_of_ble_eq_true rfl) dX10_ones_3 (s_j (hκ 4))))))
noncomputable def k_X10_ones_4 (κ : gb_K) : gb_C := (o_il 2 (o_zeq (o_il 1 o_ri) (o_inc 1 1 (o_il 2 (o_il 2 (o_ci 1 (o_ib (fun x y => x - y) (o_ib (fun x y => x &&& y) (o_is 2 (o_j [1, 2] (κ 4)))))))))))
theorem l_X10_ones_4 : gb_Li (fun κ => k_X10_ones_4 κ) := (gb_li (q_il 2) (q_zeq (gb_li (q_il 1) (gb_li0 _)) (gb_li (q_inc 1 1) (gb_li (q_il 2) (gb_li (q_il 2) (gb_li (q_ci 1) (gb_li (q_ib _) (gb_li (q_ib _) (gb_li (q_is 2) (q_j [1, 2] 4))))))))))
theorem s_X10_ones_4   {κ : gb_K} (hκ : ∀ q, gb_S RX10 cX10_ones 3 (gb_rm 0 0) 1 q (κ q)) : gb_S RX10 cX10_ones 3 (gb_rm 0 0) 1 4 (k_X10_ones_4 κ) := (s_iln 2 rfl dX10_ones_4 (s_zeq (tgt := 20) (by decide +kernel) dX10_ones_5 (s_iln 1 rfl dX10_ones_20 (s_ri rfl dX10_ones_21)) (s_inc (by decide +kernel) (Nat.le_of_ble_eq_true rfl) dX10_ones_8 (s_iln 2 rfl dX10_ones_11 (s_iln 2 rfl dX10_ones_12 (s_iconst (by decide +kernel) dX10_ones_13 (s_isub dX10_ones_14 (s_iand dX10_ones_15 (s_isn 2 rfl (Nat.le_of_ble_eq_true rfl) dX10_ones_16 (s_goto (tgt := 4) (by decide +kernel) dX10_ones_17 (s_j (hκ 4))))))))))))
noncomputable def B_X10_ones : List (Nat × (gb_K → gb_C)) := [(4, fun κ => k_X10_ones_4 κ)]
noncomputable def K_X10_ones : gb_K := gb_fx (gb_tb (B_X10_ones))
theorem L_X10_ones : ∀ q, gb_Li (fun κ => gb_tb (B_X10_ones) κ q) := gb_tb_li (List.forall_mem_cons.mpr ⟨l_X10_ones_4, (fun _ h => absurd h List.not_mem_nil)⟩)
theorem S_X10_ones   : ∀ q, gb_S RX10 cX10_ones 3 (gb_rm 0 0) 1 q (K_X10_ones q) := fun q => gb_fx_S (L_X10_ones) (gb_tb_S (List.forall_mem_cons.mpr ⟨fun κ hκ => s_X10_ones_4 hκ, (fun _ h => absurd h List.not_mem_nil)⟩)) q
noncomputable def f_X10_ones : gb_F := gb_hide (gb_mf 3 (k_X10_ones_0 (K_X10_ones)))
theorem c_X10_ones : ∀ l, gb_Met l yX10_ones cX10_ones 3 (some .int) 1 (gb_rm 0 0) f_X10_ones := gb_hide_c (gb_met (own := RX10) (rk := 1) rfl (by decide +kernel) ⟨rfl, rfl⟩ (s_X10_ones_0 (S_X10_ones)))
theorem dX10_laysFrom_0 : decode cX10_laysFrom 0 = .ok (.iload_n 1, 1) := by decide +kernel
theorem dX10_laysFrom_1 : decode cX10_laysFrom 1 = .ok (.aload_n 0, 1) := by decide +kernel
theorem dX10_laysFrom_2 : decode cX10_laysFrom 2 = .ok (.getfield 282, 3) := by decide +kernel
theorem dX10_laysFrom_5 : decode cX10_laysFrom 5 = .ok (.if_icmp .ne 99, 3) := by decide +kernel
theorem dX10_laysFrom_8 : decode cX10_laysFrom 8 = .ok (.aload_n 0, 1) := by decide +kernel
theorem dX10_laysFrom_9 : decode cX10_laysFrom 9 = .ok (.invokevirtual 315, 3) := by decide +kernel
theorem dX10_laysFrom_12 : decode cX10_laysFrom 12 = .ok (.istore_n 3, 1) := by decide +kernel
theorem dX10_laysFrom_13 : decode cX10_laysFrom 13 = .ok (.aload_n 0, 1) := by decide +kernel
theorem dX10_laysFrom_14 : decode cX10_laysFrom 14 = .ok (.getfield 328, 3) := by decide +kernel
theorem dX10_laysFrom_17 : decode cX10_laysFrom 17 = .ok (.ifCond .eq 11, 3) := by decide +kernel
theorem dX10_laysFrom_20 : decode cX10_laysFrom 20 = .ok (.iload_n 3, 1) := by decide +kernel
theorem dX10_laysFrom_21 : decode cX10_laysFrom 21 = .ok (.aload_n 0, 1) := by decide +kernel
theorem dX10_laysFrom_22 : decode cX10_laysFrom 22 = .ok (.getfield 331, 3) := by decide +kernel
theorem dX10_laysFrom_25 : decode cX10_laysFrom 25 = .ok (.if_icmp .le 13, 3) := by decide +kernel
theorem dX10_laysFrom_28 : decode cX10_laysFrom 28 = .ok (.aload_n 0, 1) := by decide +kernel
theorem dX10_laysFrom_29 : decode cX10_laysFrom 29 = .ok (.iload_n 3, 1) := by decide +kernel
theorem dX10_laysFrom_30 : decode cX10_laysFrom 30 = .ok (.putfield 331, 3) := by decide +kernel
theorem dX10_laysFrom_33 : decode cX10_laysFrom 33 = .ok (.aload_n 0, 1) := by decide +kernel
theorem dX10_laysFrom_34 : decode cX10_laysFrom 34 = .ok (.iload_n 1, 1) := by decide +kernel
theorem dX10_laysFrom_35 : decode cX10_laysFrom 35 = .ok (.invokevirtual 291, 3) := by decide +kernel
theorem dX10_laysFrom_38 : decode cX10_laysFrom 38 = .ok (.iload_n 2, 1) := by decide +kernel
theorem dX10_laysFrom_39 : decode cX10_laysFrom 39 = .ok (.invokestatic 334, 3) := by decide +kernel
theorem dX10_laysFrom_42 : decode cX10_laysFrom 42 = .ok (.aload_n 0, 1) := by decide +kernel
theorem dX10_laysFrom_43 : decode cX10_laysFrom 43 = .ok (.getfield 337, 3) := by decide +kernel
theorem dX10_laysFrom_46 : decode cX10_laysFrom 46 = .ok (.invokestatic 334, 3) := by decide +kernel
theorem dX10_laysFrom_49 : decode cX10_laysFrom 49 = .ok (.if_icmp .lt 25, 3) := by decide +kernel
theorem dX10_laysFrom_52 : decode cX10_laysFrom 52 = .ok (.iload_n 2, 1) := by decide +kernel
theorem dX10_laysFrom_53 : decode cX10_laysFrom 53 = .ok (.invokestatic 334, 3) := by decide +kernel
theorem dX10_laysFrom_56 : decode cX10_laysFrom 56 = .ok (.aload_n 0, 1) := by decide +kernel
theorem dX10_laysFrom_57 : decode cX10_laysFrom 57 = .ok (.getfield 337, 3) := by decide +kernel
theorem dX10_laysFrom_60 : decode cX10_laysFrom 60 = .ok (.invokestatic 334, 3) := by decide +kernel
theorem dX10_laysFrom_63 : decode cX10_laysFrom 63 = .ok (.if_icmp .ne 15, 3) := by decide +kernel
theorem dX10_laysFrom_66 : decode cX10_laysFrom 66 = .ok (.iload_n 2, 1) := by decide +kernel
theorem dX10_laysFrom_67 : decode cX10_laysFrom 67 = .ok (.aload_n 0, 1) := by decide +kernel
theorem dX10_laysFrom_68 : decode cX10_laysFrom 68 = .ok (.getfield 337, 3) := by decide +kernel
theorem dX10_laysFrom_71 : decode cX10_laysFrom 71 = .ok (.if_icmp .ge 7, 3) := by decide +kernel
theorem dX10_laysFrom_74 : decode cX10_laysFrom 74 = .ok (.iconst 1, 1) := by decide +kernel
theorem dX10_laysFrom_75 : decode cX10_laysFrom 75 = .ok (.goto 4, 3) := by decide +kernel
theorem dX10_laysFrom_78 : decode cX10_laysFrom 78 = .ok (.iconst 0, 1) := by decide +kernel
theorem dX10_laysFrom_79 : decode cX10_laysFrom 79 = .ok (.istore 4, 2) := by decide +kernel
theorem dX10_laysFrom_81 : decode cX10_laysFrom 81 = .ok (.aload_n 0, 1) := by decide +kernel
theorem dX10_laysFrom_82 : decode cX10_laysFrom 82 = .ok (.getfield 328, 3) := by decide +kernel
theorem dX10_laysFrom_85 : decode cX10_laysFrom 85 = .ok (.ifCond .eq 8, 3) := by decide +kernel
theorem dX10_laysFrom_88 : decode cX10_laysFrom 88 = .ok (.iload 4, 2) := by decide +kernel
theorem dX10_laysFrom_90 : decode cX10_laysFrom 90 = .ok (.ifCond .eq 8, 3) := by decide +kernel
theorem dX10_laysFrom_93 : decode cX10_laysFrom 93 = .ok (.aload_n 0, 1) := by decide +kernel
theorem dX10_laysFrom_94 : decode cX10_laysFrom 94 = .ok (.iload_n 2, 1) := by decide +kernel
theorem dX10_laysFrom_95 : decode cX10_laysFrom 95 = .ok (.putfield 337, 3) := by decide +kernel
theorem dX10_laysFrom_98 : decode cX10_laysFrom 98 = .ok (.aload_n 0, 1) := by decide +kernel
theorem dX10_laysFrom_99 : decode cX10_laysFrom 99 = .ok (.iconst 1, 1) := by decide +kernel
theorem dX10_laysFrom_100 : decode cX10_laysFrom 100 = .ok (.putfield 328, 3) := by decide +kernel
theorem dX10_laysFrom_103 : decode cX10_laysFrom 103 = .ok (.return_, 1) := by decide +kernel
theorem dX10_laysFrom_104 : decode cX10_laysFrom 104 = .ok (.aload_n 0, 1) := by decide +kernel
theorem dX10_laysFrom_105 : decode cX10_laysFrom 105 = .ok (.iload_n 1, 1) := by decide +kernel
theorem dX10_laysFrom_106 : decode cX10_laysFrom 106 = .ok (.invokevirtual 294, 3) := by decide +kernel
theorem dX10_laysFrom_109 : decode cX10_laysFrom 109 = .ok (.iconst 0, 1) := by decide +kernel
theorem dX10_laysFrom_110 : decode cX10_laysFrom 110 = .ok (.istore_n 3, 1) := by decide +kernel
theorem dX10_laysFrom_111 : decode cX10_laysFrom 111 = .ok (.iload_n 3, 1) := by decide +kernel
theorem dX10_laysFrom_112 : decode cX10_laysFrom 112 = .ok (.bipush 6, 2) := by decide +kernel
theorem dX10_laysFrom_114 : decode cX10_laysFrom 114 = .ok (.if_icmp .ge 89, 3) := by decide +kernel
theorem dX10_laysFrom_117 : decode cX10_laysFrom 117 = .ok (.aload_n 0, 1) := by decide +kernel
theorem dX10_laysFrom_118 : decode cX10_laysFrom 118 = .ok (.iload_n 3, 1) := by decide +kernel
theorem dX10_laysFrom_119 : decode cX10_laysFrom 119 = .ok (.aload_n 0, 1) := by decide +kernel
theorem dX10_laysFrom_120 : decode cX10_laysFrom 120 = .ok (.getfield 42, 3) := by decide +kernel
theorem dX10_laysFrom_123 : decode cX10_laysFrom 123 = .ok (.iload_n 1, 1) := by decide +kernel
theorem dX10_laysFrom_124 : decode cX10_laysFrom 124 = .ok (.iaload, 1) := by decide +kernel
theorem dX10_laysFrom_125 : decode cX10_laysFrom 125 = .ok (.aload_n 0, 1) := by decide +kernel
theorem dX10_laysFrom_126 : decode cX10_laysFrom 126 = .ok (.getfield 45, 3) := by decide +kernel
theorem dX10_laysFrom_129 : decode cX10_laysFrom 129 = .ok (.iload_n 1, 1) := by decide +kernel
theorem dX10_laysFrom_130 : decode cX10_laysFrom 130 = .ok (.iaload, 1) := by decide +kernel
theorem dX10_laysFrom_131 : decode cX10_laysFrom 131 = .ok (.aload_n 0, 1) := by decide +kernel
theorem dX10_laysFrom_132 : decode cX10_laysFrom 132 = .ok (.getfield 7, 3) := by decide +kernel
theorem dX10_laysFrom_135 : decode cX10_laysFrom 135 = .ok (.sipush 174, 3) := by decide +kernel
theorem dX10_laysFrom_138 : decode cX10_laysFrom 138 = .ok (.iaload, 1) := by decide +kernel
theorem dX10_laysFrom_139 : decode cX10_laysFrom 139 = .ok (.invokevirtual 244, 3) := by decide +kernel
theorem dX10_laysFrom_142 : decode cX10_laysFrom 142 = .ok (.ifCond .eq 6, 3) := by decide +kernel
theorem dX10_laysFrom_145 : decode cX10_laysFrom 145 = .ok (.goto 52, 3) := by decide +kernel
theorem dX10_laysFrom_148 : decode cX10_laysFrom 148 = .ok (.aload_n 0, 1) := by decide +kernel
theorem dX10_laysFrom_149 : decode cX10_laysFrom 149 = .ok (.getfield 48, 3) := by decide +kernel
theorem dX10_laysFrom_152 : decode cX10_laysFrom 152 = .ok (.iload_n 1, 1) := by decide +kernel
theorem dX10_laysFrom_153 : decode cX10_laysFrom 153 = .ok (.iload_n 3, 1) := by decide +kernel
theorem dX10_laysFrom_154 : decode cX10_laysFrom 154 = .ok (.iastore, 1) := by decide +kernel
theorem dX10_laysFrom_155 : decode cX10_laysFrom 155 = .ok (.aload_n 0, 1) := by decide +kernel
theorem dX10_laysFrom_156 : decode cX10_laysFrom 156 = .ok (.iload_n 3, 1) := by decide +kernel
theorem dX10_laysFrom_157 : decode cX10_laysFrom 157 = .ok (.aload_n 0, 1) := by decide +kernel
theorem dX10_laysFrom_158 : decode cX10_laysFrom 158 = .ok (.getfield 42, 3) := by decide +kernel
theorem dX10_laysFrom_161 : decode cX10_laysFrom 161 = .ok (.iload_n 1, 1) := by decide +kernel
theorem dX10_laysFrom_162 : decode cX10_laysFrom 162 = .ok (.iaload, 1) := by decide +kernel
theorem dX10_laysFrom_163 : decode cX10_laysFrom 163 = .ok (.aload_n 0, 1) := by decide +kernel
theorem dX10_laysFrom_164 : decode cX10_laysFrom 164 = .ok (.getfield 45, 3) := by decide +kernel
theorem dX10_laysFrom_167 : decode cX10_laysFrom 167 = .ok (.iload_n 1, 1) := by decide +kernel
theorem dX10_laysFrom_168 : decode cX10_laysFrom 168 = .ok (.iaload, 1) := by decide +kernel
theorem dX10_laysFrom_169 : decode cX10_laysFrom 169 = .ok (.aload_n 0, 1) := by decide +kernel
theorem dX10_laysFrom_170 : decode cX10_laysFrom 170 = .ok (.getfield 7, 3) := by decide +kernel
theorem dX10_laysFrom_173 : decode cX10_laysFrom 173 = .ok (.sipush 174, 3) := by decide +kernel
theorem dX10_laysFrom_176 : decode cX10_laysFrom 176 = .ok (.iaload, 1) := by decide +kernel
theorem dX10_laysFrom_177 : decode cX10_laysFrom 177 = .ok (.invokevirtual 251, 3) := by decide +kernel
theorem dX10_laysFrom_180 : decode cX10_laysFrom 180 = .ok (.aload_n 0, 1) := by decide +kernel
theorem dX10_laysFrom_181 : decode cX10_laysFrom 181 = .ok (.iload_n 1, 1) := by decide +kernel
theorem dX10_laysFrom_182 : decode cX10_laysFrom 182 = .ok (.iconst 1, 1) := by decide +kernel
theorem dX10_laysFrom_183 : decode cX10_laysFrom 183 = .ok (.iadd, 1) := by decide +kernel
theorem dX10_laysFrom_184 : decode cX10_laysFrom 184 = .ok (.iload_n 2, 1) := by decide +kernel
theorem dX10_laysFrom_185 : decode cX10_laysFrom 185 = .ok (.iconst 1, 1) := by decide +kernel
theorem dX10_laysFrom_186 : decode cX10_laysFrom 186 = .ok (.iload_n 3, 1) := by decide +kernel
theorem dX10_laysFrom_187 : decode cX10_laysFrom 187 = .ok (.ishl, 1) := by decide +kernel
theorem dX10_laysFrom_188 : decode cX10_laysFrom 188 = .ok (.ior, 1) := by decide +kernel
theorem dX10_laysFrom_189 : decode cX10_laysFrom 189 = .ok (.invokevirtual 340, 3) := by decide +kernel
theorem dX10_laysFrom_192 : decode cX10_laysFrom 192 = .ok (.aload_n 0, 1) := by decide +kernel
theorem dX10_laysFrom_193 : decode cX10_laysFrom 193 = .ok (.iload_n 1, 1) := by decide +kernel
theorem dX10_laysFrom_194 : decode cX10_laysFrom 194 = .ok (.invokevirtual 303, 3) := by decide +kernel
theorem dX10_laysFrom_197 : decode cX10_laysFrom 197 = .ok (.iinc 3 1, 3) := by decide +kernel
theorem dX10_laysFrom_200 : decode cX10_laysFrom 200 = .ok (.goto (-89), 3) := by decide +kernel
theorem dX10_laysFrom_203 : decode cX10_laysFrom 203 = .ok (.return_, 1) := by decide +kernel
theorem v_X10_laysFrom : yX10_laysFrom.cls = RX10 ∧ yX10_laysFrom.cls ≠ "java/lang/invoke/MethodHandle" ∧ yX10_laysFrom.cls ≠ "java/lang/invoke/VarHandle" ∧ (parseMethodDescriptor yX10_laysFrom.desc).map (fun d => d.parameters.length) = some 2 := ⟨rfl, by decide +kernel, by decide +kernel, by decide +kernel⟩
noncomputable def k_X10_laysFrom_98 (r : gb_F) (κ : gb_K) : gb_C := (o_al 0 (o_ci 1 (o_pz 10 32 o_rv)))
theorem l_X10_laysFrom_98 (r : gb_F) : gb_Li (fun κ => k_X10_laysFrom_98 r κ) := (gb_li (q_al 0) (gb_li (q_ci 1) (gb_li (q_pz 10 32) (gb_li0 _))))
theorem s_X10_laysFrom_98 {R : Room} {r : gb_F} {fr lo : Nat} (hr : (∀ l, gb_Met l yX10_laysFrom cX10_laysFrom 5 none 0 (gb_rm fr lo) r) ∧ fr + 1 ≤ R.frames ∧ 8 + (5 + 11) + lo ≤ R.locals) (hR : 7 ≤ R.frames ∧ 159 ≤ R.locals) {κ : gb_K} (hκ : ∀ q, gb_S RX10 cX10_laysFrom 5 R 0 q (κ q)) : gb_S RX10 cX10_laysFrom 5 R 0 98 (k_X10_laysFrom_98 r κ) := (s_aln 0 rfl dX10_laysFrom_98 (s_iconst (by decide +kernel) dX10_laysFrom_99 (s_pz (T := TX10) winX10 rfl (Nat.le_of_ble_eq_true rfl) tyX10_ok nmX10 rfl (by decide +kernel) gw_808 rfl dX10_laysFrom_100 (s_rv rfl dX10_laysFrom_103))))
noncomputable def k_X10_laysFrom_93 (r : gb_F) (κ : gb_K) : gb_C := (o_al 0 (o_il 2 (o_pf 10 34 (k_X10_laysFrom_98 r κ))))
theorem l_X10_laysFrom_93 (r : gb_F) : gb_Li (fun κ => k_X10_laysFrom_93 r κ) := (gb_li (q_al 0) (gb_li (q_il 2) (gb_li (q_pf 10 34) (l_X10_laysFrom_98 r))))
theorem s_X10_laysFrom_93 {R : Room} {r : gb_F} {fr lo : Nat} (hr : (∀ l, gb_Met l yX10_laysFrom cX10_laysFrom 5 none 0 (gb_rm fr lo) r) ∧ fr + 1 ≤ R.frames ∧ 8 + (5 + 11) + lo ≤ R.locals) (hR : 7 ≤ R.frames ∧ 159 ≤ R.locals) {κ : gb_K} (hκ : ∀ q, gb_S RX10 cX10_laysFrom 5 R 0 q (κ q)) : gb_S RX10 cX10_laysFrom 5 R 0 93 (k_X10_laysFrom_93 r κ) := (s_aln 0 rfl dX10_laysFrom_93 (s_iln 2 rfl dX10_laysFrom_94 (s_pf (T := TX10) winX10 rfl (Nat.le_of_ble_eq_true rfl) tyX10_ok nmX10 rfl (by decide +kernel) gw_809 rfl dX10_laysFrom_95 (s_X10_laysFrom_98 hr hR hκ))))
noncomputable def k_X10_laysFrom_79 (r : gb_F) (κ : gb_K) : gb_C := (o_is 4 (o_al 0 (o_gf 10 32 (o_zeq (k_X10_laysFrom_93 r κ) (o_il 4 (o_zeq (k_X10_laysFrom_98 r κ) (k_X10_laysFrom_93 r κ)))))))
theorem l_X10_laysFrom_79 (r : gb_F) : gb_Li (fun κ => k_X10_laysFrom_79 r κ) := (gb_li (q_is 4) (gb_li (q_al 0) (gb_li (q_gf 10 32) (q_zeq (l_X10_laysFrom_93 r) (gb_li (q_il 4) (q_zeq (l_X10_laysFrom_98 r) (l_X10_laysFrom_93 r)))))))
theorem s_X10_laysFrom_79 {R : Room} {r : gb_F} {fr lo : Nat} (hr : (∀ l, gb_Met l yX10_laysFrom cX10_laysFrom 5 none 0 (gb_rm fr lo) r) ∧ fr + 1 ≤ R.frames ∧ 8 + (5 + 11) + lo ≤ R.locals) (hR : 7 ≤ R.frames ∧ 159 ≤ R.locals) {κ : gb_K} (hκ : ∀ q, gb_S RX10 cX10_laysFrom 5 R 0 q (κ q)) : gb_S RX10 cX10_laysFrom 5 R 0 79 (k_X10_laysFrom_79 r κ) := (s_is (Nat.le_of_ble_eq_true rfl) dX10_laysFrom_79 (s_aln 0 rfl dX10_laysFrom_81 (s_gf (T := TX10) winX10 rfl (Nat.le_of_ble_eq_true rfl) gw_808 rfl dX10_laysFrom_82 (s_zeq (tgt := 93) (by decide +kernel) dX10_laysFrom_85 (s_X10_laysFrom_93 hr hR hκ) (s_il dX10_laysFrom_88 (s_zeq (tgt := 98) (by decide +kernel) dX10_laysFrom_90 (s_X10_laysFrom_98 hr hR hκ) (s_X10_laysFrom_93 hr hR hκ)))))))
noncomputable def k_X10_laysFrom_74 (r : gb_F) (κ : gb_K) : gb_C := (o_ci 1 (k_X10_laysFrom_79 r κ))
theorem l_X10_laysFrom_74 (r : gb_F) : gb_Li (fun κ => k_X10_laysFrom_74 r κ) := (gb_li (q_ci 1) (l_X10_laysFrom_79 r))
theorem s_X10_laysFrom_74 {R : Room} {r : gb_F} {fr lo : Nat} (hr : (∀ l, gb_Met l yX10_laysFrom cX10_laysFrom 5 none 0 (gb_rm fr lo) r) ∧ fr + 1 ≤ R.frames ∧ 8 + (5 + 11) + lo ≤ R.locals) (hR : 7 ≤ R.frames ∧ 159 ≤ R.locals) {κ : gb_K} (hκ : ∀ q, gb_S RX10 cX10_laysFrom 5 R 0 q (κ q)) : gb_S RX10 cX10_laysFrom 5 R 0 74 (k_X10_laysFrom_74 r κ) := (s_iconst (by decide +kernel) dX10_laysFrom_74 (s_goto (tgt := 79) (by decide +kernel) dX10_laysFrom_75 (s_X10_laysFrom_79 hr hR hκ)))
noncomputable def k_X10_laysFrom_78 (r : gb_F) (κ : gb_K) : gb_C := (o_ci 0 (k_X10_laysFrom_79 r κ))
theorem l_X10_laysFrom_78 (r : gb_F) : gb_Li (fun κ => k_X10_laysFrom_78 r κ) := (gb_li (q_ci 0) (l_X10_laysFrom_79 r))
theorem s_X10_laysFrom_78 {R : Room} {r : gb_F} {fr lo : Nat} (hr : (∀ l, gb_Met l yX10_laysFrom cX10_laysFrom 5 none 0 (gb_rm fr lo) r) ∧ fr + 1 ≤ R.frames ∧ 8 + (5 + 11) + lo ≤ R.locals) (hR : 7 ≤ R.frames ∧ 159 ≤ R.locals) {κ : gb_K} (hκ : ∀ q, gb_S RX10 cX10_laysFrom 5 R 0 q (κ q)) : gb_S RX10 cX10_laysFrom 5 R 0 78 (k_X10_laysFrom_78 r κ) := (s_iconst (by decide +kernel) dX10_laysFrom_78 (s_X10_laysFrom_79 hr hR hκ))
noncomputable def k_X10_laysFrom_38 (r : gb_F) (κ : gb_K) : gb_C := (o_il 2 (o_cs 1 1 f_X10_ones (o_al 0 (o_gf 10 34 (o_cs 1 1 f_X10_ones (o_clt (k_X10_laysFrom_74 r κ) (o_il 2 (o_cs 1 1 f_X10_ones (o_al 0 (o_gf 10 34 (o_cs 1 1 f_X10_ones (o_ceq (o_il 2 (o_al 0 (o_gf 10 34 (o_cge (k_X10_laysFrom_78 r κ) (k_X10_laysFrom_74 r κ))))) (k_X10_laysFrom_78 r κ)))))))))))))
theorem l_X10_laysFrom_38 (r : gb_F) : gb_Li (fun κ => k_X10_laysFrom_38 r κ) := (gb_li (q_il 2) (gb_li (q_cs 1 1 f_X10_ones) (gb_li (q_al 0) (gb_li (q_gf 10 34) (gb_li (q_cs 1 1 f_X10_ones) (q_clt (l_X10_laysFrom_74 r) (gb_li (q_il 2) (gb_li (q_cs 1 1 f_X10_ones) (gb_li (q_al 0) (gb_li (q_gf 10 34) (gb_li (q_cs 1 1 f_X10_ones) (q_ceq (gb_li (q_il 2) (gb_li (q_al 0) (gb_li (q_gf 10 34) (q_cge (l_X10_laysFrom_78 r) (l_X10_laysFrom_74 r))))) (l_X10_laysFrom_78 r)))))))))))))
theorem s_X10_laysFrom_38 {R : Room} {r : gb_F} {fr lo : Nat} (hr : (∀ l, gb_Met l yX10_laysFrom cX10_laysFrom 5 none 0 (gb_rm fr lo) r) ∧ fr + 1 ≤ R.frames ∧ 8 + (5 + 11) + lo ≤ R.locals) (hR : 7 ≤ R.frames ∧ 159 ≤ R.locals) {κ : gb_K} (hκ : ∀ q, gb_S RX10 cX10_laysFrom 5 R 0 q (κ q)) : gb_S RX10 cX10_laysFrom 5 R 0 38 (k_X10_laysFrom_38 r κ) := (s_iln 2 rfl dX10_laysFrom_38 (s_cs c_X10_ones (gb_l4 gw_810 gw_811 gw_553 gw_812) v_X10_ones.2 ⟨rfl, rfl⟩ ⟨Nat.le_trans (Nat.le_of_ble_eq_true rfl) hR.1, Nat.le_trans (Nat.le_of_ble_eq_true rfl) hR.2⟩ dX10_laysFrom_39 (s_aln 0 rfl dX10_laysFrom_42 (s_gf (T := TX10) winX10 rfl (Nat.le_of_ble_eq_true rfl) gw_809 rfl dX10_laysFrom_43 (s_cs c_X10_ones (gb_l4 gw_810 gw_811 gw_553 gw_812) v_X10_ones.2 ⟨rfl, rfl⟩ ⟨Nat.le_trans (Nat.le_of_ble_eq_true rfl) hR.1, Nat.le_trans (Nat.le_of_ble_eq_true rfl) hR.2⟩ dX10_laysFrom_46 (s_clt (tgt := 74) (by decide +kernel) dX10_laysFrom_49 (s_X10_laysFrom_74 hr hR hκ) (s_iln 2 rfl dX10_laysFrom_52 (s_cs c_X10_ones (gb_l4 gw_810 gw_811 gw_553 gw_812) v_X10_ones.2 ⟨rfl, rfl⟩ ⟨Nat.le_trans (Nat.le_of_ble_eq_true rfl) hR.1, Nat.le_trans (Nat.le_of_ble_eq_true rfl) hR.2⟩ dX10_laysFrom_53 (s_aln 0 rfl dX10_laysFrom_56 (s_gf (T := TX10) winX10 rfl (Nat.le_of_ble_eq_true rfl) gw_809 rfl dX10_laysFrom_57 (s_cs c_X10_ones (gb_l4 gw_810 gw_811 gw_553 gw_812) v_X10_ones.2 ⟨rfl, rfl⟩ ⟨Nat.le_trans (Nat.le_of_ble_eq_true rfl) hR.1, Nat.le_trans (Nat.le_of_ble_eq_true rfl) hR.2⟩ dX10_laysFrom_60 (s_cne (tgt := 78) (by decide +kernel) dX10_laysFrom_63 (s_X10_laysFrom_78 hr hR hκ) (s_iln 2 rfl dX10_laysFrom_66 (s_aln 0 rfl dX10_laysFrom_67 (s_gf (T := TX10) winX10 rfl (Nat.le_of_ble_eq_true rfl) gw_809 rfl dX10_laysFrom_68 (s_cge (tgt := 78) (by decide +kernel) dX10_laysFrom_71 (s_X10_laysFrom_78 hr hR hκ) (s_X10_laysFrom_74 hr hR hκ)))))))))))))))))
noncomputable def k_X10_laysFrom_28 (r : gb_F) (κ : gb_K) : gb_C := (o_al 0 (o_il 3 (o_pf 10 33 (o_al 0 (o_il 1 (o_cv 1 10 0 f_X10_findsRow (k_X10_laysFrom_38 r κ)))))))
theorem l_X10_laysFrom_28 (r : gb_F) : gb_Li (fun κ => k_X10_laysFrom_28 r κ) := (gb_li (q_al 0) (gb_li (q_il 3) (gb_li (q_pf 10 33) (gb_li (q_al 0) (gb_li (q_il 1) (gb_li (q_cv 1 10 0 f_X10_findsRow) (l_X10_laysFrom_38 r)))))))
theorem s_X10_laysFrom_28 {R : Room} {r : gb_F} {fr lo : Nat} (hr : (∀ l, gb_Met l yX10_laysFrom cX10_laysFrom 5 none 0 (gb_rm fr lo) r) ∧ fr + 1 ≤ R.frames ∧ 8 + (5 + 11) + lo ≤ R.locals) (hR : 7 ≤ R.frames ∧ 159 ≤ R.locals) {κ : gb_K} (hκ : ∀ q, gb_S RX10 cX10_laysFrom 5 R 0 q (κ q)) : gb_S RX10 cX10_laysFrom 5 R 0 28 (k_X10_laysFrom_28 r κ) := (s_aln 0 rfl dX10_laysFrom_28 (s_iln 3 rfl dX10_laysFrom_29 (s_pf (T := TX10) winX10 rfl (Nat.le_of_ble_eq_true rfl) tyX10_ok nmX10 rfl (by decide +kernel) gw_813 rfl dX10_laysFrom_30 (s_aln 0 rfl dX10_laysFrom_33 (s_iln 1 rfl dX10_laysFrom_34 (s_cv (C := RX10) c_X10_findsRow rfl (gb_l5 gw_769 gw_770 gw_771 gw_553 gw_772) v_X10_findsRow ⟨rfl, rfl⟩ ⟨Nat.le_trans (Nat.le_of_ble_eq_true rfl) hR.1, Nat.le_trans (Nat.le_of_ble_eq_true rfl) hR.2⟩ dX10_laysFrom_35 (s_X10_laysFrom_38 hr hR hκ)))))))
noncomputable def k_X10_laysFrom_0 (r : gb_F) (κ : gb_K) : gb_C := (o_il 1 (o_al 0 (o_gf 10 25 (o_ceq (o_al 0 (o_cv 0 10 1 f_X10_allNow (o_is 3 (o_al 0 (o_gf 10 32 (o_zeq (k_X10_laysFrom_28 r κ) (o_il 3 (o_al 0 (o_gf 10 33 (o_cle (k_X10_laysFrom_38 r κ) (k_X10_laysFrom_28 r κ))))))))))) (o_al 0 (o_il 1 (o_cv 1 10 0 f_X10_laysDown (o_ci 0 (o_is 3 (o_j [0, 1, 2, 3] (κ 111)))))))))))
theorem l_X10_laysFrom_0 (r : gb_F) : gb_Li (fun κ => k_X10_laysFrom_0 r κ) := (gb_li (q_il 1) (gb_li (q_al 0) (gb_li (q_gf 10 25) (q_ceq (gb_li (q_al 0) (gb_li (q_cv 0 10 1 f_X10_allNow) (gb_li (q_is 3) (gb_li (q_al 0) (gb_li (q_gf 10 32) (q_zeq (l_X10_laysFrom_28 r) (gb_li (q_il 3) (gb_li (q_al 0) (gb_li (q_gf 10 33) (q_cle (l_X10_laysFrom_38 r) (l_X10_laysFrom_28 r))))))))))) (gb_li (q_al 0) (gb_li (q_il 1) (gb_li (q_cv 1 10 0 f_X10_laysDown) (gb_li (q_ci 0) (gb_li (q_is 3) (q_j [0, 1, 2, 3] 111))))))))))
theorem s_X10_laysFrom_0 {R : Room} {r : gb_F} {fr lo : Nat} (hr : (∀ l, gb_Met l yX10_laysFrom cX10_laysFrom 5 none 0 (gb_rm fr lo) r) ∧ fr + 1 ≤ R.frames ∧ 8 + (5 + 11) + lo ≤ R.locals) (hR : 7 ≤ R.frames ∧ 159 ≤ R.locals) {κ : gb_K} (hκ : ∀ q, gb_S RX10 cX10_laysFrom 5 R 0 q (κ q)) : gb_S RX10 cX10_laysFrom 5 R 0 0 (k_X10_laysFrom_0 r κ) := (s_iln 1 rfl dX10_laysFrom_0 (s_aln 0 rfl dX10_laysFrom_1 (s_gf (T := TX10) winX10 rfl (Nat.le_of_ble_eq_true rfl) gw_754 rfl dX10_laysFrom_2 (s_cne (tgt := 104) (by decide +kernel) dX10_laysFrom_5 (s_aln 0 rfl dX10_laysFrom_104 (s_iln 1 rfl dX10_laysFrom_105 (s_cv (C := RX10) c_X10_laysDown rfl (gb_l5 gw_764 gw_765 gw_766 gw_553 gw_767) v_X10_laysDown ⟨rfl, rfl⟩ ⟨Nat.le_trans (Nat.le_of_ble_eq_true rfl) hR.1, Nat.le_trans (Nat.le_of_ble_eq_true rfl) hR.2⟩ dX10_laysFrom_106 (s_iconst (by decide +kernel) dX10_laysFrom_109 (s_isn 3 rfl (Nat.le_of_ble_eq_true rfl) dX10_laysFrom_110 (s_j (hκ 111))))))) (s_aln 0 rfl dX10_laysFrom_8 (s_cv (C := RX10) c_X10_allNow rfl (gb_l5 gw_797 gw_798 gw_799 gw_553 gw_800) v_X10_allNow ⟨rfl, rfl⟩ ⟨Nat.le_trans (Nat.le_of_ble_eq_true rfl) hR.1, Nat.le_trans (Nat.le_of_ble_eq_true rfl) hR.2⟩ dX10_laysFrom_9 (s_isn 3 rfl (Nat.le_of_ble_eq_true rfl) dX10_laysFrom_12 (s_aln 0 rfl dX10_laysFrom_13 (s_gf (T := TX10) winX10 rfl (Nat.le_of_ble_eq_true rfl) gw_808 rfl dX10_laysFrom_14 (s_zeq (tgt := 28) (by decide +kernel) dX10_laysFrom_17 (s_X10_laysFrom_28 hr hR hκ) (s_iln 3 rfl dX10_laysFrom_20 (s_aln 0 rfl dX10_laysFrom_21 (s_gf (T := TX10) winX10 rfl (Nat.le_of_ble_eq_true rfl) gw_813 rfl dX10_laysFrom_22 (s_cle (tgt := 38) (by decide +kernel) dX10_laysFrom_25 (s_X10_laysFrom_38 hr hR hκ) (s_X10_laysFrom_28 hr hR hκ)))))))))))))))
noncomputable def k_X10_laysFrom_197 (r : gb_F) (κ : gb_K) : gb_C := (o_inc 3 1 (o_j [0, 1, 2, 3] (κ 111)))
theorem l_X10_laysFrom_197 (r : gb_F) : gb_Li (fun κ => k_X10_laysFrom_197 r κ) := (gb_li (q_inc 3 1) (q_j [0, 1, 2, 3] 111))
theorem s_X10_laysFrom_197 {R : Room} {r : gb_F} {fr lo : Nat} (hr : (∀ l, gb_Met l yX10_laysFrom cX10_laysFrom 5 none 0 (gb_rm fr lo) r) ∧ fr + 1 ≤ R.frames ∧ 8 + (5 + 11) + lo ≤ R.locals) (hR : 7 ≤ R.frames ∧ 159 ≤ R.locals) {κ : gb_K} (hκ : ∀ q, gb_S RX10 cX10_laysFrom 5 R 0 q (κ q)) : gb_S RX10 cX10_laysFrom 5 R 0 197 (k_X10_laysFrom_197 r κ) := (s_inc (by decide +kernel) (Nat.le_of_ble_eq_true rfl) dX10_laysFrom_197 (s_goto (tgt := 111) (by decide +kernel) dX10_laysFrom_200 (s_j (hκ 111))))
noncomputable def k_X10_laysFrom_163 (r : gb_F) (κ : gb_K) : gb_C := (o_al 0 (o_gf 10 24 (o_il 1 (o_iald (o_al 0 (o_gf 10 0 (o_ci 174 (o_iald (o_cv 4 10 0 f_X10_lies (o_al 0 (o_il 1 (o_ci 1 (o_ib (fun x y => x + y) (o_il 2 (o_ci 1 (o_il 3 (o_ib (fun x y => x <<< (y &&& 31)) (o_ib (fun x y => x ||| y) (o_cv 2 10 0 r (o_al 0 (o_il 1 (o_cv 1 10 0 f_X10_takesUp (k_X10_laysFrom_197 r κ)))))))))))))))))))))))
theorem l_X10_laysFrom_163 (r : gb_F) : gb_Li (fun κ => k_X10_laysFrom_163 r κ) := (gb_li (q_al 0) (gb_li (q_gf 10 24) (gb_li (q_il 1) (gb_li q_iald (gb_li (q_al 0) (gb_li (q_gf 10 0) (gb_li (q_ci 174) (gb_li q_iald (gb_li (q_cv 4 10 0 f_X10_lies) (gb_li (q_al 0) (gb_li (q_il 1) (gb_li (q_ci 1) (gb_li (q_ib _) (gb_li (q_il 2) (gb_li (q_ci 1) (gb_li (q_il 3) (gb_li (q_ib _) (gb_li (q_ib _) (gb_li (q_cv 2 10 0 r) (gb_li (q_al 0) (gb_li (q_il 1) (gb_li (q_cv 1 10 0 f_X10_takesUp) (l_X10_laysFrom_197 r)))))))))))))))))))))))
theorem s_X10_laysFrom_163 {R : Room} {r : gb_F} {fr lo : Nat} (hr : (∀ l, gb_Met l yX10_laysFrom cX10_laysFrom 5 none 0 (gb_rm fr lo) r) ∧ fr + 1 ≤ R.frames ∧ 8 + (5 + 11) + lo ≤ R.locals) (hR : 7 ≤ R.frames ∧ 159 ≤ R.locals) {κ : gb_K} (hκ : ∀ q, gb_S RX10 cX10_laysFrom 5 R 0 q (κ q)) : gb_S RX10 cX10_laysFrom 5 R 0 163 (k_X10_laysFrom_163 r κ) := (s_aln 0 rfl dX10_laysFrom_163 (s_gf (T := TX10) winX10 rfl (Nat.le_of_ble_eq_true rfl) gw_756 rfl dX10_laysFrom_164 (s_iln 1 rfl dX10_laysFrom_167 (s_iald dX10_laysFrom_168 (s_aln 0 rfl dX10_laysFrom_169 (s_gf (T := TX10) winX10 rfl (Nat.le_of_ble_eq_true rfl) gw_545 rfl dX10_laysFrom_170 (s_sipush (by decide +kernel) dX10_laysFrom_173 (s_iald dX10_laysFrom_176 (s_cv (C := RX10) c_X10_lies rfl (gb_l5 gw_709 gw_710 gw_711 gw_553 gw_712) v_X10_lies ⟨rfl, rfl⟩ ⟨Nat.le_trans (Nat.le_of_ble_eq_true rfl) hR.1, Nat.le_trans (Nat.le_of_ble_eq_true rfl) hR.2⟩ dX10_laysFrom_177 (s_aln 0 rfl dX10_laysFrom_180 (s_iln 1 rfl dX10_laysFrom_181 (s_iconst (by decide +kernel) dX10_laysFrom_182 (s_iadd dX10_laysFrom_183 (s_iln 2 rfl dX10_laysFrom_184 (s_iconst (by decide +kernel) dX10_laysFrom_185 (s_iln 3 rfl dX10_laysFrom_186 (s_ishl dX10_laysFrom_187 (s_ior dX10_laysFrom_188 (s_cv (C := RX10) hr.1 rfl (gb_l5 gw_814 gw_815 gw_816 gw_553 gw_817) v_X10_laysFrom ⟨rfl, rfl⟩ ⟨hr.2.1, hr.2.2⟩ dX10_laysFrom_189 (s_aln 0 rfl dX10_laysFrom_192 (s_iln 1 rfl dX10_laysFrom_193 (s_cv (C := RX10) c_X10_takesUp rfl (gb_l5 gw_773 gw_774 gw_775 gw_553 gw_776) v_X10_takesUp ⟨rfl, rfl⟩ ⟨Nat.le_trans (Nat.le_of_ble_eq_true rfl) hR.1, Nat.le_trans (Nat.le_of_ble_eq_true rfl) hR.2⟩ dX10_laysFrom_194 (s_X10_laysFrom_197 hr hR hκ)))))))))))))))))))))))
noncomputable def k_X10_laysFrom_111 (r : gb_F) (κ : gb_K) : gb_C := (o_il 3 (o_ci 6 (o_cge o_rv (o_al 0 (o_il 3 (o_al 0 (o_gf 10 23 (o_il 1 (o_iald (o_al 0 (o_gf 10 24 (o_il 1 (o_iald (o_al 0 (o_gf 10 0 (o_ci 174 (o_iald (o_cv 4 10 1 f_X10_whyNot (o_zeq (o_al 0 (o_gf 10 26 (o_il 1 (o_il 3 (o_iast (o_al 0 (o_il 3 (o_al 0 (o_gf 10 23 (o_il 1 (o_iald (k_X10_laysFrom_163 r κ)))))))))))) (k_X10_laysFrom_197 r κ))))))))))))))))))))
theorem l_X10_laysFrom_111 (r : gb_F) : gb_Li (fun κ => k_X10_laysFrom_111 r κ) := (gb_li (q_il 3) (gb_li (q_ci 6) (q_cge (gb_li0 _) (gb_li (q_al 0) (gb_li (q_il 3) (gb_li (q_al 0) (gb_li (q_gf 10 23) (gb_li (q_il 1) (gb_li q_iald (gb_li (q_al 0) (gb_li (q_gf 10 24) (gb_li (q_il 1) (gb_li q_iald (gb_li (q_al 0) (gb_li (q_gf 10 0) (gb_li (q_ci 174) (gb_li q_iald (gb_li (q_cv 4 10 1 f_X10_whyNot) (q_zeq (gb_li (q_al 0) (gb_li (q_gf 10 26) (gb_li (q_il 1) (gb_li (q_il 3) (gb_li q_iast (gb_li (q_al 0) (gb_li (q_il 3) (gb_li (q_al 0) (gb_li (q_gf 10 23) (gb_li (q_il 1) (gb_li q_iald (l_X10_laysFrom_163 r)))))))))))) (l_X10_laysFrom_197 r))))))))))))))))))))
theorem s_X10_laysFrom_111 {R : Room} {r : gb_F} {fr lo : Nat} (hr : (∀ l, gb_Met l yX10_laysFrom cX10_laysFrom 5 none 0 (gb_rm fr lo) r) ∧ fr + 1 ≤ R.frames ∧ 8 + (5 + 11) + lo ≤ R.locals) (hR : 7 ≤ R.frames ∧ 159 ≤ R.locals) {κ : gb_K} (hκ : ∀ q, gb_S RX10 cX10_laysFrom 5 R 0 q (κ q)) : gb_S RX10 cX10_laysFrom 5 R 0 111 (k_X10_laysFrom_111 r κ) := (s_iln 3 rfl dX10_laysFrom_111 (s_bipush (by decide +kernel) dX10_laysFrom_112 (s_cge (tgt := 203) (by decide +kernel) dX10_laysFrom_114 (s_rv rfl dX10_laysFrom_203) (s_aln 0 rfl dX10_laysFrom_117 (s_iln 3 rfl dX10_laysFrom_118 (s_aln 0 rfl dX10_laysFrom_119 (s_gf (T := TX10) winX10 rfl (Nat.le_of_ble_eq_true rfl) gw_755 rfl dX10_laysFrom_120 (s_iln 1 rfl dX10_laysFrom_123 (s_iald dX10_laysFrom_124 (s_aln 0 rfl dX10_laysFrom_125 (s_gf (T := TX10) winX10 rfl (Nat.le_of_ble_eq_true rfl) gw_756 rfl dX10_laysFrom_126 (s_iln 1 rfl dX10_laysFrom_129 (s_iald dX10_laysFrom_130 (s_aln 0 rfl dX10_laysFrom_131 (s_gf (T := TX10) winX10 rfl (Nat.le_of_ble_eq_true rfl) gw_545 rfl dX10_laysFrom_132 (s_sipush (by decide +kernel) dX10_laysFrom_135 (s_iald dX10_laysFrom_138 (s_cv (C := RX10) c_X10_whyNot rfl (gb_l5 gw_716 gw_717 gw_718 gw_553 gw_719) v_X10_whyNot ⟨rfl, rfl⟩ ⟨Nat.le_trans (Nat.le_of_ble_eq_true rfl) hR.1, Nat.le_trans (Nat.le_of_ble_eq_true rfl) hR.2⟩ dX10_laysFrom_139 (s_zeq (tgt := 148) (by decide +kernel) dX10_laysFrom_142 (s_aln 0 rfl dX10_laysFrom_148 (s_gf (T := TX10) winX10 rfl (Nat.le_of_ble_eq_true rfl) gw_759 rfl dX10_laysFrom_149 (s_iln 1 rfl dX10_laysFrom_152 (s_iln 3 rfl dX10_laysFrom_153 (s_iast dX10_laysFrom_154 (s_aln 0 rfl dX10_laysFrom_155 (s_iln 3 rfl dX10_laysFrom_156 (s_aln 0 rfl dX10_laysFrom_157 (s_gf (T := TX10) winX10 rfl (Nat.le_of_ble_eq_true rfl) gw_755 rfl dX10_laysFrom_158 (s_iln 1 rfl dX10_laysFrom_161 (s_iald dX10_laysFrom_162 (s_X10_laysFrom_163 hr hR hκ)))))))))))) (s_goto (tgt := 197) (by decide +kernel) dX10_laysFrom_145 (s_X10_laysFrom_197 hr hR hκ)))))))))))))))))))))
noncomputable def B_X10_laysFrom (r : gb_F) : List (Nat × (gb_K → gb_C)) := [(111, fun κ => k_X10_laysFrom_111 r κ)]
noncomputable def K_X10_laysFrom (r : gb_F) : gb_K := gb_fx (gb_tb (B_X10_laysFrom r))
theorem L_X10_laysFrom (r : gb_F) : ∀ q, gb_Li (fun κ => gb_tb (B_X10_laysFrom r) κ q) := gb_tb_li (List.forall_mem_cons.mpr ⟨l_X10_laysFrom_111 r, (fun _ h => absurd h List.not_mem_nil)⟩)
theorem S_X10_laysFrom {R : Room} {r : gb_F} {fr lo : Nat} (hr : (∀ l, gb_Met l yX10_laysFrom cX10_laysFrom 5 none 0 (gb_rm fr lo) r) ∧ fr + 1 ≤ R.frames ∧ 8 + (5 + 11) + lo ≤ R.locals) (hR : 7 ≤ R.frames ∧ 159 ≤ R.locals) : ∀ q, gb_S RX10 cX10_laysFrom 5 R 0 q (K_X10_laysFrom r q) := fun q => gb_fx_S (L_X10_laysFrom r) (gb_tb_S (List.forall_mem_cons.mpr ⟨fun κ hκ => s_X10_laysFrom_111 hr hR hκ, (fun _ h => absurd h List.not_mem_nil)⟩)) q
noncomputable def g_X10_laysFrom : Nat → gb_F
  | 0 => fun _ _ => none
  | n + 1 => gb_mf 5 (k_X10_laysFrom_0 (g_X10_laysFrom n) (K_X10_laysFrom (g_X10_laysFrom n)))
theorem h_X10_laysFrom : ∀ (n : Nat) l, gb_Met l yX10_laysFrom cX10_laysFrom 5 none 0 (gb_rm (7 + n) (159 + 24 * n)) (g_X10_laysFrom n)
  | 0 => gb_met0
  | n + 1 => gb_met (own := RX10) (rk := 0) rfl (by decide +kernel) ⟨rfl, rfl⟩ (s_X10_laysFrom_0 ⟨h_X10_laysFrom n, by show _ ≤ _ + (n + 1); omega, by show _ ≤ _ + 24 * (n + 1); omega⟩ ⟨by show _ ≤ _ + (n + 1); omega, by show _ ≤ _ + 24 * (n + 1); omega⟩ (S_X10_laysFrom ⟨h_X10_laysFrom n, by show _ ≤ _ + (n + 1); omega, by show _ ≤ _ + 24 * (n + 1); omega⟩ ⟨by show _ ≤ _ + (n + 1); omega, by show _ ≤ _ + 24 * (n + 1); omega⟩))
noncomputable def f_X10_laysFrom : gb_F := gb_hide (g_X10_laysFrom 8)
theorem c_X10_laysFrom : ∀ l, gb_Met l yX10_laysFrom cX10_laysFrom 5 none 0 (gb_rm 15 351) f_X10_laysFrom := gb_hide_c (h_X10_laysFrom 8)
theorem dX10_findsWays_0 : decode cX10_findsWays 0 = .ok (.aload_n 0, 1) := by decide +kernel
theorem dX10_findsWays_1 : decode cX10_findsWays 1 = .ok (.iconst 0, 1) := by decide +kernel
theorem dX10_findsWays_2 : decode cX10_findsWays 2 = .ok (.putfield 328, 3) := by decide +kernel
theorem dX10_findsWays_5 : decode cX10_findsWays 5 = .ok (.aload_n 0, 1) := by decide +kernel
theorem dX10_findsWays_6 : decode cX10_findsWays 6 = .ok (.iconst 0, 1) := by decide +kernel
theorem dX10_findsWays_7 : decode cX10_findsWays 7 = .ok (.iconst 0, 1) := by decide +kernel
theorem dX10_findsWays_8 : decode cX10_findsWays 8 = .ok (.invokevirtual 340, 3) := by decide +kernel
theorem dX10_findsWays_11 : decode cX10_findsWays 11 = .ok (.return_, 1) := by decide +kernel
theorem v_X10_findsWays : yX10_findsWays.cls = RX10 ∧ yX10_findsWays.cls ≠ "java/lang/invoke/MethodHandle" ∧ yX10_findsWays.cls ≠ "java/lang/invoke/VarHandle" ∧ (parseMethodDescriptor yX10_findsWays.desc).map (fun d => d.parameters.length) = some 0 := ⟨rfl, by decide +kernel, by decide +kernel, by decide +kernel⟩
noncomputable def k_X10_findsWays_0 (κ : gb_K) : gb_C := (o_al 0 (o_ci 0 (o_pz 10 32 (o_al 0 (o_ci 0 (o_ci 0 (o_cv 2 10 0 f_X10_laysFrom o_rv)))))))
theorem l_X10_findsWays_0 : gb_Li (fun κ => k_X10_findsWays_0 κ) := (gb_li (q_al 0) (gb_li (q_ci 0) (gb_li (q_pz 10 32) (gb_li (q_al 0) (gb_li (q_ci 0) (gb_li (q_ci 0) (gb_li (q_cv 2 10 0 f_X10_laysFrom) (gb_li0 _))))))))
theorem s_X10_findsWays_0   {κ : gb_K} (hκ : ∀ q, gb_S RX10 cX10_findsWays 1 (gb_rm 16 375) 0 q (κ q)) : gb_S RX10 cX10_findsWays 1 (gb_rm 16 375) 0 0 (k_X10_findsWays_0 κ) := (s_aln 0 rfl dX10_findsWays_0 (s_iconst (by decide +kernel) dX10_findsWays_1 (s_pz (T := TX10) winX10 rfl (Nat.le_of_ble_eq_true rfl) tyX10_ok nmX10 rfl (by decide +kernel) gw_808 rfl dX10_findsWays_2 (s_aln 0 rfl dX10_findsWays_5 (s_iconst (by decide +kernel) dX10_findsWays_6 (s_iconst (by decide +kernel) dX10_findsWays_7 (s_cv (C := RX10) c_X10_laysFrom rfl (gb_l5 gw_814 gw_815 gw_816 gw_553 gw_817) v_X10_laysFrom ⟨rfl, rfl⟩ ⟨Nat.le_of_ble_eq_true rfl, Nat.le_of_ble_eq_true rfl⟩ dX10_findsWays_8 (s_rv rfl dX10_findsWays_11))))))))
noncomputable def f_X10_findsWays : gb_F := gb_hide (gb_mf 1 (k_X10_findsWays_0 gb_n))
theorem c_X10_findsWays : ∀ l, gb_Met l yX10_findsWays cX10_findsWays 1 none 0 (gb_rm 16 375) f_X10_findsWays := gb_hide_c (gb_met (own := RX10) (rk := 0) rfl (by decide +kernel) ⟨rfl, rfl⟩ (s_X10_findsWays_0 gb_S_n))
theorem dX10_lays_0 : decode cX10_lays 0 = .ok (.aload_n 0, 1) := by decide +kernel
theorem dX10_lays_1 : decode cX10_lays 1 = .ok (.iconst 0, 1) := by decide +kernel
theorem dX10_lays_2 : decode cX10_lays 2 = .ok (.putfield 66, 3) := by decide +kernel
theorem dX10_lays_5 : decode cX10_lays 5 = .ok (.aload_n 0, 1) := by decide +kernel
theorem dX10_lays_6 : decode cX10_lays 6 = .ok (.invokevirtual 309, 3) := by decide +kernel
theorem dX10_lays_9 : decode cX10_lays 9 = .ok (.aload_n 0, 1) := by decide +kernel
theorem dX10_lays_10 : decode cX10_lays 10 = .ok (.getfield 173, 3) := by decide +kernel
theorem dX10_lays_13 : decode cX10_lays 13 = .ok (.iconst (-1), 1) := by decide +kernel
theorem dX10_lays_14 : decode cX10_lays 14 = .ok (.if_icmp .eq 11, 3) := by decide +kernel
theorem dX10_lays_17 : decode cX10_lays 17 = .ok (.bipush (-21), 2) := by decide +kernel
theorem dX10_lays_19 : decode cX10_lays 19 = .ok (.aload_n 0, 1) := by decide +kernel
theorem dX10_lays_20 : decode cX10_lays 20 = .ok (.getfield 173, 3) := by decide +kernel
theorem dX10_lays_23 : decode cX10_lays 23 = .ok (.isub, 1) := by decide +kernel
theorem dX10_lays_24 : decode cX10_lays 24 = .ok (.ireturn, 1) := by decide +kernel
theorem dX10_lays_25 : decode cX10_lays 25 = .ok (.aload_n 0, 1) := by decide +kernel
theorem dX10_lays_26 : decode cX10_lays 26 = .ok (.invokevirtual 315, 3) := by decide +kernel
theorem dX10_lays_29 : decode cX10_lays 29 = .ok (.istore_n 1, 1) := by decide +kernel
theorem dX10_lays_30 : decode cX10_lays 30 = .ok (.aload_n 0, 1) := by decide +kernel
theorem dX10_lays_31 : decode cX10_lays 31 = .ok (.invokevirtual 343, 3) := by decide +kernel
theorem dX10_lays_34 : decode cX10_lays 34 = .ok (.aload_n 0, 1) := by decide +kernel
theorem dX10_lays_35 : decode cX10_lays 35 = .ok (.getfield 328, 3) := by decide +kernel
theorem dX10_lays_38 : decode cX10_lays 38 = .ok (.ifCond .ne 6, 3) := by decide +kernel
theorem dX10_lays_41 : decode cX10_lays 41 = .ok (.bipush (-2), 2) := by decide +kernel
theorem dX10_lays_43 : decode cX10_lays 43 = .ok (.ireturn, 1) := by decide +kernel
theorem dX10_lays_44 : decode cX10_lays 44 = .ok (.aload_n 0, 1) := by decide +kernel
theorem dX10_lays_45 : decode cX10_lays 45 = .ok (.iconst 0, 1) := by decide +kernel
theorem dX10_lays_46 : decode cX10_lays 46 = .ok (.putfield 70, 3) := by decide +kernel
theorem dX10_lays_49 : decode cX10_lays 49 = .ok (.aload_n 0, 1) := by decide +kernel
theorem dX10_lays_50 : decode cX10_lays 50 = .ok (.aload_n 0, 1) := by decide +kernel
theorem dX10_lays_51 : decode cX10_lays 51 = .ok (.getfield 331, 3) := by decide +kernel
theorem dX10_lays_54 : decode cX10_lays 54 = .ok (.iload_n 1, 1) := by decide +kernel
theorem dX10_lays_55 : decode cX10_lays 55 = .ok (.isub, 1) := by decide +kernel
theorem dX10_lays_56 : decode cX10_lays 56 = .ok (.i2l, 1) := by decide +kernel
theorem dX10_lays_57 : decode cX10_lays 57 = .ok (.invokevirtual 259, 3) := by decide +kernel
theorem dX10_lays_60 : decode cX10_lays 60 = .ok (.iconst 0, 1) := by decide +kernel
theorem dX10_lays_61 : decode cX10_lays 61 = .ok (.istore_n 2, 1) := by decide +kernel
theorem dX10_lays_62 : decode cX10_lays 62 = .ok (.iload_n 2, 1) := by decide +kernel
theorem dX10_lays_63 : decode cX10_lays 63 = .ok (.aload_n 0, 1) := by decide +kernel
theorem dX10_lays_64 : decode cX10_lays 64 = .ok (.getfield 282, 3) := by decide +kernel
theorem dX10_lays_67 : decode cX10_lays 67 = .ok (.if_icmp .ge 20, 3) := by decide +kernel
theorem dX10_lays_70 : decode cX10_lays 70 = .ok (.aload_n 0, 1) := by decide +kernel
theorem dX10_lays_71 : decode cX10_lays 71 = .ok (.aload_n 0, 1) := by decide +kernel
theorem dX10_lays_72 : decode cX10_lays 72 = .ok (.getfield 51, 3) := by decide +kernel
theorem dX10_lays_75 : decode cX10_lays 75 = .ok (.iload_n 2, 1) := by decide +kernel
theorem dX10_lays_76 : decode cX10_lays 76 = .ok (.iaload, 1) := by decide +kernel
theorem dX10_lays_77 : decode cX10_lays 77 = .ok (.i2l, 1) := by decide +kernel
theorem dX10_lays_78 : decode cX10_lays 78 = .ok (.invokevirtual 259, 3) := by decide +kernel
theorem dX10_lays_81 : decode cX10_lays 81 = .ok (.iinc 2 1, 3) := by decide +kernel
theorem dX10_lays_84 : decode cX10_lays 84 = .ok (.goto (-22), 3) := by decide +kernel
theorem dX10_lays_87 : decode cX10_lays 87 = .ok (.aload_n 0, 1) := by decide +kernel
theorem dX10_lays_88 : decode cX10_lays 88 = .ok (.getfield 282, 3) := by decide +kernel
theorem dX10_lays_91 : decode cX10_lays 91 = .ok (.ireturn, 1) := by decide +kernel
theorem v_X10_lays : yX10_lays.cls = RX10 ∧ yX10_lays.cls ≠ "java/lang/invoke/MethodHandle" ∧ yX10_lays.cls ≠ "java/lang/invoke/VarHandle" ∧ (parseMethodDescriptor yX10_lays.desc).map (fun d => d.parameters.length) = some 0 := ⟨rfl, by decide +kernel, by decide +kernel, by decide +kernel⟩
noncomputable def k_X10_lays_0 (κ : gb_K) : gb_C := (o_al 0 (o_ci 0 (o_pf 10 10 (o_al 0 (o_cv 0 10 0 f_X10_readsList (o_al 0 (o_gf 10 18 (o_ci (-1) (o_ceq (o_al 0 (o_cv 0 10 1 f_X10_allNow (o_is 1 (o_al 0 (o_cv 0 10 0 f_X10_findsWays (o_al 0 (o_gf 10 32 (o_zeq (o_ci (-2) o_ri) (o_al 0 (o_ci 0 (o_pf 10 9 (o_al 0 (o_al 0 (o_gf 10 33 (o_il 1 (o_ib (fun x y => x - y) (o_i2l (o_cv 1 10 0 f_X10_tell (o_ci 0 (o_is 2 (o_j [0, 2] (κ 62)))))))))))))))))))))) (o_ci (-21) (o_al 0 (o_gf 10 18 (o_ib (fun x y => x - y) o_ri)))))))))))))
theorem l_X10_lays_0 : gb_Li (fun κ => k_X10_lays_0 κ) := (gb_li (q_al 0) (gb_li (q_ci 0) (gb_li (q_pf 10 10) (gb_li (q_al 0) (gb_li (q_cv 0 10 0 f_X10_readsList) (gb_li (q_al 0) (gb_li (q_gf 10 18) (gb_li (q_ci (-1)) (q_ceq (gb_li (q_al 0) (gb_li (q_cv 0 10 1 f_X10_allNow) (gb_li (q_is 1) (gb_li (q_al 0) (gb_li (q_cv 0 10 0 f_X10_findsWays) (gb_li (q_al 0) (gb_li (q_gf 10 32) (q_zeq (gb_li (q_ci (-2)) (gb_li0 _)) (gb_li (q_al 0) (gb_li (q_ci 0) (gb_li (q_pf 10 9) (gb_li (q_al 0) (gb_li (q_al 0) (gb_li (q_gf 10 33) (gb_li (q_il 1) (gb_li (q_ib _) (gb_li q_i2l (gb_li (q_cv 1 10 0 f_X10_tell) (gb_li (q_ci 0) (gb_li (q_is 2) (q_j [0, 2] 62))))))))))))))))))))) (gb_li (q_ci (-21)) (gb_li (q_al 0) (gb_li (q_gf 10 18) (gb_li (q_ib _) (gb_li0 _))))))))))))))
theorem s_X10_lays_0   {κ : gb_K} (hκ : ∀ q, gb_S RX10 cX10_lays 3 (gb_rm 17 395) 1 q (κ q)) : gb_S RX10 cX10_lays 3 (gb_rm 17 395) 1 0 (k_X10_lays_0 κ) := (s_aln 0 rfl dX10_lays_0 (s_iconst (by decide +kernel) dX10_lays_1 (s_pf (T := TX10) winX10 rfl (Nat.le_of_ble_eq_true rfl) tyX10_ok nmX10 rfl (by decide +kernel) gw_546 rfl dX10_lays_2 (s_aln 0 rfl dX10_lays_5 (s_cv (C := RX10) c_X10_readsList rfl (gb_l5 gw_789 gw_790 gw_791 gw_553 gw_792) v_X10_readsList ⟨rfl, rfl⟩ ⟨Nat.le_of_ble_eq_true rfl, Nat.le_of_ble_eq_true rfl⟩ dX10_lays_6 (s_aln 0 rfl dX10_lays_9 (s_gf (T := TX10) winX10 rfl (Nat.le_of_ble_eq_true rfl) gw_645 rfl dX10_lays_10 (s_iconst (by decide +kernel) dX10_lays_13 (s_ceq (tgt := 25) (by decide +kernel) dX10_lays_14 (s_aln 0 rfl dX10_lays_25 (s_cv (C := RX10) c_X10_allNow rfl (gb_l5 gw_797 gw_798 gw_799 gw_553 gw_800) v_X10_allNow ⟨rfl, rfl⟩ ⟨Nat.le_of_ble_eq_true rfl, Nat.le_of_ble_eq_true rfl⟩ dX10_lays_26 (s_isn 1 rfl (Nat.le_of_ble_eq_true rfl) dX10_lays_29 (s_aln 0 rfl dX10_lays_30 (s_cv (C := RX10) c_X10_findsWays rfl (gb_l5 gw_818 gw_819 gw_820 gw_553 gw_821) v_X10_findsWays ⟨rfl, rfl⟩ ⟨Nat.le_of_ble_eq_true rfl, Nat.le_of_ble_eq_true rfl⟩ dX10_lays_31 (s_aln 0 rfl dX10_lays_34 (s_gf (T := TX10) winX10 rfl (Nat.le_of_ble_eq_true rfl) gw_808 rfl dX10_lays_35 (s_zne (tgt := 44) (by decide +kernel) dX10_lays_38 (s_aln 0 rfl dX10_lays_44 (s_iconst (by decide +kernel) dX10_lays_45 (s_pf (T := TX10) winX10 rfl (Nat.le_of_ble_eq_true rfl) tyX10_ok nmX10 rfl (by decide +kernel) gw_548 rfl dX10_lays_46 (s_aln 0 rfl dX10_lays_49 (s_aln 0 rfl dX10_lays_50 (s_gf (T := TX10) winX10 rfl (Nat.le_of_ble_eq_true rfl) gw_813 rfl dX10_lays_51 (s_iln 1 rfl dX10_lays_54 (s_isub dX10_lays_55 (s_i2l dX10_lays_56 (s_cv (C := RX10) c_X10_tell rfl (gb_l5 gw_732 gw_733 gw_734 gw_553 gw_735) v_X10_tell ⟨rfl, rfl⟩ ⟨Nat.le_of_ble_eq_true rfl, Nat.le_of_ble_eq_true rfl⟩ dX10_lays_57 (s_iconst (by decide +kernel) dX10_lays_60 (s_isn 2 rfl (Nat.le_of_ble_eq_true rfl) dX10_lays_61 (s_j (hκ 62)))))))))))))) (s_bipush (by decide +kernel) dX10_lays_41 (s_ri rfl dX10_lays_43)))))))))) (s_bipush (by decide +kernel) dX10_lays_17 (s_aln 0 rfl dX10_lays_19 (s_gf (T := TX10) winX10 rfl (Nat.le_of_ble_eq_true rfl) gw_645 rfl dX10_lays_20 (s_isub dX10_lays_23 (s_ri rfl dX10_lays_24))))))))))))))
noncomputable def k_X10_lays_62 (κ : gb_K) : gb_C := (o_il 2 (o_al 0 (o_gf 10 25 (o_cge (o_al 0 (o_gf 10 25 o_ri)) (o_al 0 (o_al 0 (o_gf 10 27 (o_il 2 (o_iald (o_i2l (o_cv 1 10 0 f_X10_tell (o_inc 2 1 (o_j [0, 2] (κ 62))))))))))))))
theorem l_X10_lays_62 : gb_Li (fun κ => k_X10_lays_62 κ) := (gb_li (q_il 2) (gb_li (q_al 0) (gb_li (q_gf 10 25) (q_cge (gb_li (q_al 0) (gb_li (q_gf 10 25) (gb_li0 _))) (gb_li (q_al 0) (gb_li (q_al 0) (gb_li (q_gf 10 27) (gb_li (q_il 2) (gb_li q_iald (gb_li q_i2l (gb_li (q_cv 1 10 0 f_X10_tell) (gb_li (q_inc 2 1) (q_j [0, 2] 62)))))))))))))
theorem s_X10_lays_62   {κ : gb_K} (hκ : ∀ q, gb_S RX10 cX10_lays 3 (gb_rm 17 395) 1 q (κ q)) : gb_S RX10 cX10_lays 3 (gb_rm 17 395) 1 62 (k_X10_lays_62 κ) := (s_iln 2 rfl dX10_lays_62 (s_aln 0 rfl dX10_lays_63 (s_gf (T := TX10) winX10 rfl (Nat.le_of_ble_eq_true rfl) gw_754 rfl dX10_lays_64 (s_cge (tgt := 87) (by decide +kernel) dX10_lays_67 (s_aln 0 rfl dX10_lays_87 (s_gf (T := TX10) winX10 rfl (Nat.le_of_ble_eq_true rfl) gw_754 rfl dX10_lays_88 (s_ri rfl dX10_lays_91))) (s_aln 0 rfl dX10_lays_70 (s_aln 0 rfl dX10_lays_71 (s_gf (T := TX10) winX10 rfl (Nat.le_of_ble_eq_true rfl) gw_758 rfl dX10_lays_72 (s_iln 2 rfl dX10_lays_75 (s_iald dX10_lays_76 (s_i2l dX10_lays_77 (s_cv (C := RX10) c_X10_tell rfl (gb_l5 gw_732 gw_733 gw_734 gw_553 gw_735) v_X10_tell ⟨rfl, rfl⟩ ⟨Nat.le_of_ble_eq_true rfl, Nat.le_of_ble_eq_true rfl⟩ dX10_lays_78 (s_inc (by decide +kernel) (Nat.le_of_ble_eq_true rfl) dX10_lays_81 (s_goto (tgt := 62) (by decide +kernel) dX10_lays_84 (s_j (hκ 62)))))))))))))))
noncomputable def B_X10_lays : List (Nat × (gb_K → gb_C)) := [(62, fun κ => k_X10_lays_62 κ)]
noncomputable def K_X10_lays : gb_K := gb_fx (gb_tb (B_X10_lays))
theorem L_X10_lays : ∀ q, gb_Li (fun κ => gb_tb (B_X10_lays) κ q) := gb_tb_li (List.forall_mem_cons.mpr ⟨l_X10_lays_62, (fun _ h => absurd h List.not_mem_nil)⟩)
theorem S_X10_lays   : ∀ q, gb_S RX10 cX10_lays 3 (gb_rm 17 395) 1 q (K_X10_lays q) := fun q => gb_fx_S (L_X10_lays) (gb_tb_S (List.forall_mem_cons.mpr ⟨fun κ hκ => s_X10_lays_62 hκ, (fun _ h => absurd h List.not_mem_nil)⟩)) q
noncomputable def f_X10_lays : gb_F := gb_hide (gb_mf 3 (k_X10_lays_0 (K_X10_lays)))
theorem c_X10_lays : ∀ l, gb_Met l yX10_lays cX10_lays 3 (some .int) 1 (gb_rm 17 395) f_X10_lays := gb_hide_c (gb_met (own := RX10) (rk := 1) rfl (by decide +kernel) ⟨rfl, rfl⟩ (s_X10_lays_0 (S_X10_lays)))
theorem dX10_few_0 : decode cX10_few 0 = .ok (.aload_n 0, 1) := by decide +kernel
theorem dX10_few_1 : decode cX10_few 1 = .ok (.iconst 0, 1) := by decide +kernel
theorem dX10_few_2 : decode cX10_few 2 = .ok (.putfield 66, 3) := by decide +kernel
theorem dX10_few_5 : decode cX10_few 5 = .ok (.aload_n 0, 1) := by decide +kernel
theorem dX10_few_6 : decode cX10_few 6 = .ok (.invokevirtual 309, 3) := by decide +kernel
theorem dX10_few_9 : decode cX10_few 9 = .ok (.aload_n 0, 1) := by decide +kernel
theorem dX10_few_10 : decode cX10_few 10 = .ok (.getfield 173, 3) := by decide +kernel
theorem dX10_few_13 : decode cX10_few 13 = .ok (.iconst (-1), 1) := by decide +kernel
theorem dX10_few_14 : decode cX10_few 14 = .ok (.if_icmp .eq 11, 3) := by decide +kernel
theorem dX10_few_17 : decode cX10_few 17 = .ok (.bipush (-21), 2) := by decide +kernel
theorem dX10_few_19 : decode cX10_few 19 = .ok (.aload_n 0, 1) := by decide +kernel
theorem dX10_few_20 : decode cX10_few 20 = .ok (.getfield 173, 3) := by decide +kernel
theorem dX10_few_23 : decode cX10_few 23 = .ok (.isub, 1) := by decide +kernel
theorem dX10_few_24 : decode cX10_few 24 = .ok (.ireturn, 1) := by decide +kernel
theorem dX10_few_25 : decode cX10_few 25 = .ok (.aload_n 0, 1) := by decide +kernel
theorem dX10_few_26 : decode cX10_few 26 = .ok (.invokevirtual 343, 3) := by decide +kernel
theorem dX10_few_29 : decode cX10_few 29 = .ok (.aload_n 0, 1) := by decide +kernel
theorem dX10_few_30 : decode cX10_few 30 = .ok (.getfield 328, 3) := by decide +kernel
theorem dX10_few_33 : decode cX10_few 33 = .ok (.ifCond .ne 6, 3) := by decide +kernel
theorem dX10_few_36 : decode cX10_few 36 = .ok (.bipush (-2), 2) := by decide +kernel
theorem dX10_few_38 : decode cX10_few 38 = .ok (.ireturn, 1) := by decide +kernel
theorem dX10_few_39 : decode cX10_few 39 = .ok (.aload_n 0, 1) := by decide +kernel
theorem dX10_few_40 : decode cX10_few 40 = .ok (.iconst 0, 1) := by decide +kernel
theorem dX10_few_41 : decode cX10_few 41 = .ok (.putfield 70, 3) := by decide +kernel
theorem dX10_few_44 : decode cX10_few 44 = .ok (.aload_n 0, 1) := by decide +kernel
theorem dX10_few_45 : decode cX10_few 45 = .ok (.aload_n 0, 1) := by decide +kernel
theorem dX10_few_46 : decode cX10_few 46 = .ok (.getfield 337, 3) := by decide +kernel
theorem dX10_few_49 : decode cX10_few 49 = .ok (.i2l, 1) := by decide +kernel
theorem dX10_few_50 : decode cX10_few 50 = .ok (.invokevirtual 259, 3) := by decide +kernel
theorem dX10_few_53 : decode cX10_few 53 = .ok (.aload_n 0, 1) := by decide +kernel
theorem dX10_few_54 : decode cX10_few 54 = .ok (.getfield 337, 3) := by decide +kernel
theorem dX10_few_57 : decode cX10_few 57 = .ok (.invokestatic 334, 3) := by decide +kernel
theorem dX10_few_60 : decode cX10_few 60 = .ok (.ireturn, 1) := by decide +kernel
theorem v_X10_few : yX10_few.cls = RX10 ∧ yX10_few.cls ≠ "java/lang/invoke/MethodHandle" ∧ yX10_few.cls ≠ "java/lang/invoke/VarHandle" ∧ (parseMethodDescriptor yX10_few.desc).map (fun d => d.parameters.length) = some 0 := ⟨rfl, by decide +kernel, by decide +kernel, by decide +kernel⟩
noncomputable def k_X10_few_0 (κ : gb_K) : gb_C := (o_al 0 (o_ci 0 (o_pf 10 10 (o_al 0 (o_cv 0 10 0 f_X10_readsList (o_al 0 (o_gf 10 18 (o_ci (-1) (o_ceq (o_al 0 (o_cv 0 10 0 f_X10_findsWays (o_al 0 (o_gf 10 32 (o_zeq (o_ci (-2) o_ri) (o_al 0 (o_ci 0 (o_pf 10 9 (o_al 0 (o_al 0 (o_gf 10 34 (o_i2l (o_cv 1 10 0 f_X10_tell (o_al 0 (o_gf 10 34 (o_cs 1 1 f_X10_ones o_ri)))))))))))))))) (o_ci (-21) (o_al 0 (o_gf 10 18 (o_ib (fun x y => x - y) o_ri)))))))))))))
theorem l_X10_few_0 : gb_Li (fun κ => k_X10_few_0 κ) := (gb_li (q_al 0) (gb_li (q_ci 0) (gb_li (q_pf 10 10) (gb_li (q_al 0) (gb_li (q_cv 0 10 0 f_X10_readsList) (gb_li (q_al 0) (gb_li (q_gf 10 18) (gb_li (q_ci (-1)) (q_ceq (gb_li (q_al 0) (gb_li (q_cv 0 10 0 f_X10_findsWays) (gb_li (q_al 0) (gb_li (q_gf 10 32) (q_zeq (gb_li (q_ci (-2)) (gb_li0 _)) (gb_li (q_al 0) (gb_li (q_ci 0) (gb_li (q_pf 10 9) (gb_li (q_al 0) (gb_li (q_al 0) (gb_li (q_gf 10 34) (gb_li q_i2l (gb_li (q_cv 1 10 0 f_X10_tell) (gb_li (q_al 0) (gb_li (q_gf 10 34) (gb_li (q_cs 1 1 f_X10_ones) (gb_li0 _))))))))))))))))) (gb_li (q_ci (-21)) (gb_li (q_al 0) (gb_li (q_gf 10 18) (gb_li (q_ib _) (gb_li0 _))))))))))))))
theorem s_X10_few_0   {κ : gb_K} (hκ : ∀ q, gb_S RX10 cX10_few 1 (gb_rm 17 395) 1 q (κ q)) : gb_S RX10 cX10_few 1 (gb_rm 17 395) 1 0 (k_X10_few_0 κ) := (s_aln 0 rfl dX10_few_0 (s_iconst (by decide +kernel) dX10_few_1 (s_pf (T := TX10) winX10 rfl (Nat.le_of_ble_eq_true rfl) tyX10_ok nmX10 rfl (by decide +kernel) gw_546 rfl dX10_few_2 (s_aln 0 rfl dX10_few_5 (s_cv (C := RX10) c_X10_readsList rfl (gb_l5 gw_789 gw_790 gw_791 gw_553 gw_792) v_X10_readsList ⟨rfl, rfl⟩ ⟨Nat.le_of_ble_eq_true rfl, Nat.le_of_ble_eq_true rfl⟩ dX10_few_6 (s_aln 0 rfl dX10_few_9 (s_gf (T := TX10) winX10 rfl (Nat.le_of_ble_eq_true rfl) gw_645 rfl dX10_few_10 (s_iconst (by decide +kernel) dX10_few_13 (s_ceq (tgt := 25) (by decide +kernel) dX10_few_14 (s_aln 0 rfl dX10_few_25 (s_cv (C := RX10) c_X10_findsWays rfl (gb_l5 gw_818 gw_819 gw_820 gw_553 gw_821) v_X10_findsWays ⟨rfl, rfl⟩ ⟨Nat.le_of_ble_eq_true rfl, Nat.le_of_ble_eq_true rfl⟩ dX10_few_26 (s_aln 0 rfl dX10_few_29 (s_gf (T := TX10) winX10 rfl (Nat.le_of_ble_eq_true rfl) gw_808 rfl dX10_few_30 (s_zne (tgt := 39) (by decide +kernel) dX10_few_33 (s_aln 0 rfl dX10_few_39 (s_iconst (by decide +kernel) dX10_few_40 (s_pf (T := TX10) winX10 rfl (Nat.le_of_ble_eq_true rfl) tyX10_ok nmX10 rfl (by decide +kernel) gw_548 rfl dX10_few_41 (s_aln 0 rfl dX10_few_44 (s_aln 0 rfl dX10_few_45 (s_gf (T := TX10) winX10 rfl (Nat.le_of_ble_eq_true rfl) gw_809 rfl dX10_few_46 (s_i2l dX10_few_49 (s_cv (C := RX10) c_X10_tell rfl (gb_l5 gw_732 gw_733 gw_734 gw_553 gw_735) v_X10_tell ⟨rfl, rfl⟩ ⟨Nat.le_of_ble_eq_true rfl, Nat.le_of_ble_eq_true rfl⟩ dX10_few_50 (s_aln 0 rfl dX10_few_53 (s_gf (T := TX10) winX10 rfl (Nat.le_of_ble_eq_true rfl) gw_809 rfl dX10_few_54 (s_cs c_X10_ones (gb_l4 gw_810 gw_811 gw_553 gw_812) v_X10_ones.2 ⟨rfl, rfl⟩ ⟨Nat.le_of_ble_eq_true rfl, Nat.le_of_ble_eq_true rfl⟩ dX10_few_57 (s_ri rfl dX10_few_60)))))))))))) (s_bipush (by decide +kernel) dX10_few_36 (s_ri rfl dX10_few_38))))))) (s_bipush (by decide +kernel) dX10_few_17 (s_aln 0 rfl dX10_few_19 (s_gf (T := TX10) winX10 rfl (Nat.le_of_ble_eq_true rfl) gw_645 rfl dX10_few_20 (s_isub dX10_few_23 (s_ri rfl dX10_few_24))))))))))))))
noncomputable def f_X10_few : gb_F := gb_hide (gb_mf 1 (k_X10_few_0 gb_n))
theorem c_X10_few : ∀ l, gb_Met l yX10_few cX10_few 1 (some .int) 1 (gb_rm 17 395) f_X10_few := gb_hide_c (gb_met (own := RX10) (rk := 1) rfl (by decide +kernel) ⟨rfl, rfl⟩ (s_X10_few_0 gb_S_n))
theorem dX10_dear_0 : decode cX10_dear 0 = .ok (.aload_n 0, 1) := by decide +kernel
theorem dX10_dear_1 : decode cX10_dear 1 = .ok (.iconst 0, 1) := by decide +kernel
theorem dX10_dear_2 : decode cX10_dear 2 = .ok (.putfield 66, 3) := by decide +kernel
theorem dX10_dear_5 : decode cX10_dear 5 = .ok (.iconst 0, 1) := by decide +kernel
theorem dX10_dear_6 : decode cX10_dear 6 = .ok (.istore_n 1, 1) := by decide +kernel
theorem dX10_dear_7 : decode cX10_dear 7 = .ok (.iload_n 1, 1) := by decide +kernel
theorem dX10_dear_8 : decode cX10_dear 8 = .ok (.bipush 6, 2) := by decide +kernel
theorem dX10_dear_10 : decode cX10_dear 10 = .ok (.if_icmp .ge 93, 3) := by decide +kernel
theorem dX10_dear_13 : decode cX10_dear 13 = .ok (.lconst 0, 1) := by decide +kernel
theorem dX10_dear_14 : decode cX10_dear 14 = .ok (.lstore_n 2, 1) := by decide +kernel
theorem dX10_dear_15 : decode cX10_dear 15 = .ok (.iconst 0, 1) := by decide +kernel
theorem dX10_dear_16 : decode cX10_dear 16 = .ok (.istore 4, 2) := by decide +kernel
theorem dX10_dear_18 : decode cX10_dear 18 = .ok (.iload 4, 2) := by decide +kernel
theorem dX10_dear_20 : decode cX10_dear 20 = .ok (.bipush 6, 2) := by decide +kernel
theorem dX10_dear_22 : decode cX10_dear 22 = .ok (.if_icmp .ge 68, 3) := by decide +kernel
theorem dX10_dear_25 : decode cX10_dear 25 = .ok (.iconst 0, 1) := by decide +kernel
theorem dX10_dear_26 : decode cX10_dear 26 = .ok (.istore 5, 2) := by decide +kernel
theorem dX10_dear_28 : decode cX10_dear 28 = .ok (.iload 5, 2) := by decide +kernel
theorem dX10_dear_30 : decode cX10_dear 30 = .ok (.aload_n 0, 1) := by decide +kernel
theorem dX10_dear_31 : decode cX10_dear 31 = .ok (.iload 4, 2) := by decide +kernel
theorem dX10_dear_33 : decode cX10_dear 33 = .ok (.invokevirtual 84, 3) := by decide +kernel
theorem dX10_dear_36 : decode cX10_dear 36 = .ok (.if_icmp .ge 48, 3) := by decide +kernel
theorem dX10_dear_39 : decode cX10_dear 39 = .ok (.lload_n 2, 1) := by decide +kernel
theorem dX10_dear_40 : decode cX10_dear 40 = .ok (.aload_n 0, 1) := by decide +kernel
theorem dX10_dear_41 : decode cX10_dear 41 = .ok (.iload 4, 2) := by decide +kernel
theorem dX10_dear_43 : decode cX10_dear 43 = .ok (.iload 5, 2) := by decide +kernel
theorem dX10_dear_45 : decode cX10_dear 45 = .ok (.iconst 0, 1) := by decide +kernel
theorem dX10_dear_46 : decode cX10_dear 46 = .ok (.invokevirtual 88, 3) := by decide +kernel
theorem dX10_dear_49 : decode cX10_dear 49 = .ok (.iload_n 1, 1) := by decide +kernel
theorem dX10_dear_50 : decode cX10_dear 50 = .ok (.if_icmp .ne 25, 3) := by decide +kernel
theorem dX10_dear_53 : decode cX10_dear 53 = .ok (.aload_n 0, 1) := by decide +kernel
theorem dX10_dear_54 : decode cX10_dear 54 = .ok (.iload 4, 2) := by decide +kernel
theorem dX10_dear_56 : decode cX10_dear 56 = .ok (.iload 5, 2) := by decide +kernel
theorem dX10_dear_58 : decode cX10_dear 58 = .ok (.iconst 1, 1) := by decide +kernel
theorem dX10_dear_59 : decode cX10_dear 59 = .ok (.invokevirtual 88, 3) := by decide +kernel
theorem dX10_dear_62 : decode cX10_dear 62 = .ok (.aload_n 0, 1) := by decide +kernel
theorem dX10_dear_63 : decode cX10_dear 63 = .ok (.iload 4, 2) := by decide +kernel
theorem dX10_dear_65 : decode cX10_dear 65 = .ok (.iload 5, 2) := by decide +kernel
theorem dX10_dear_67 : decode cX10_dear 67 = .ok (.invokevirtual 159, 3) := by decide +kernel
theorem dX10_dear_70 : decode cX10_dear 70 = .ok (.imul, 1) := by decide +kernel
theorem dX10_dear_71 : decode cX10_dear 71 = .ok (.i2l, 1) := by decide +kernel
theorem dX10_dear_72 : decode cX10_dear 72 = .ok (.goto 4, 3) := by decide +kernel
theorem dX10_dear_75 : decode cX10_dear 75 = .ok (.lconst 0, 1) := by decide +kernel
theorem dX10_dear_76 : decode cX10_dear 76 = .ok (.ladd, 1) := by decide +kernel
theorem dX10_dear_77 : decode cX10_dear 77 = .ok (.lstore_n 2, 1) := by decide +kernel
theorem dX10_dear_78 : decode cX10_dear 78 = .ok (.iinc 5 1, 3) := by decide +kernel
theorem dX10_dear_81 : decode cX10_dear 81 = .ok (.goto (-53), 3) := by decide +kernel
theorem dX10_dear_84 : decode cX10_dear 84 = .ok (.iinc 4 1, 3) := by decide +kernel
theorem dX10_dear_87 : decode cX10_dear 87 = .ok (.goto (-69), 3) := by decide +kernel
theorem dX10_dear_90 : decode cX10_dear 90 = .ok (.aload_n 0, 1) := by decide +kernel
theorem dX10_dear_91 : decode cX10_dear 91 = .ok (.getfield 57, 3) := by decide +kernel
theorem dX10_dear_94 : decode cX10_dear 94 = .ok (.iload_n 1, 1) := by decide +kernel
theorem dX10_dear_95 : decode cX10_dear 95 = .ok (.lload_n 2, 1) := by decide +kernel
theorem dX10_dear_96 : decode cX10_dear 96 = .ok (.lastore, 1) := by decide +kernel
theorem dX10_dear_97 : decode cX10_dear 97 = .ok (.iinc 1 1, 3) := by decide +kernel
theorem dX10_dear_100 : decode cX10_dear 100 = .ok (.goto (-93), 3) := by decide +kernel
theorem dX10_dear_103 : decode cX10_dear 103 = .ok (.iconst 0, 1) := by decide +kernel
theorem dX10_dear_104 : decode cX10_dear 104 = .ok (.istore_n 1, 1) := by decide +kernel
theorem dX10_dear_105 : decode cX10_dear 105 = .ok (.iconst 1, 1) := by decide +kernel
theorem dX10_dear_106 : decode cX10_dear 106 = .ok (.istore_n 2, 1) := by decide +kernel
theorem dX10_dear_107 : decode cX10_dear 107 = .ok (.iload_n 2, 1) := by decide +kernel
theorem dX10_dear_108 : decode cX10_dear 108 = .ok (.bipush 6, 2) := by decide +kernel
theorem dX10_dear_110 : decode cX10_dear 110 = .ok (.if_icmp .ge 27, 3) := by decide +kernel
theorem dX10_dear_113 : decode cX10_dear 113 = .ok (.aload_n 0, 1) := by decide +kernel
theorem dX10_dear_114 : decode cX10_dear 114 = .ok (.getfield 57, 3) := by decide +kernel
theorem dX10_dear_117 : decode cX10_dear 117 = .ok (.iload_n 2, 1) := by decide +kernel
theorem dX10_dear_118 : decode cX10_dear 118 = .ok (.laload, 1) := by decide +kernel
theorem dX10_dear_119 : decode cX10_dear 119 = .ok (.aload_n 0, 1) := by decide +kernel
theorem dX10_dear_120 : decode cX10_dear 120 = .ok (.getfield 57, 3) := by decide +kernel
theorem dX10_dear_123 : decode cX10_dear 123 = .ok (.iload_n 1, 1) := by decide +kernel
theorem dX10_dear_124 : decode cX10_dear 124 = .ok (.laload, 1) := by decide +kernel
theorem dX10_dear_125 : decode cX10_dear 125 = .ok (.lcmp, 1) := by decide +kernel
theorem dX10_dear_126 : decode cX10_dear 126 = .ok (.ifCond .le 5, 3) := by decide +kernel
theorem dX10_dear_129 : decode cX10_dear 129 = .ok (.iload_n 2, 1) := by decide +kernel
theorem dX10_dear_130 : decode cX10_dear 130 = .ok (.istore_n 1, 1) := by decide +kernel
theorem dX10_dear_131 : decode cX10_dear 131 = .ok (.iinc 2 1, 3) := by decide +kernel
theorem dX10_dear_134 : decode cX10_dear 134 = .ok (.goto (-27), 3) := by decide +kernel
theorem dX10_dear_137 : decode cX10_dear 137 = .ok (.aload_n 0, 1) := by decide +kernel
theorem dX10_dear_138 : decode cX10_dear 138 = .ok (.getfield 57, 3) := by decide +kernel
theorem dX10_dear_141 : decode cX10_dear 141 = .ok (.iload_n 1, 1) := by decide +kernel
theorem dX10_dear_142 : decode cX10_dear 142 = .ok (.laload, 1) := by decide +kernel
theorem dX10_dear_143 : decode cX10_dear 143 = .ok (.lconst 0, 1) := by decide +kernel
theorem dX10_dear_144 : decode cX10_dear 144 = .ok (.lcmp, 1) := by decide +kernel
theorem dX10_dear_145 : decode cX10_dear 145 = .ok (.ifCond .ne 6, 3) := by decide +kernel
theorem dX10_dear_148 : decode cX10_dear 148 = .ok (.bipush (-2), 2) := by decide +kernel
theorem dX10_dear_150 : decode cX10_dear 150 = .ok (.ireturn, 1) := by decide +kernel
theorem dX10_dear_151 : decode cX10_dear 151 = .ok (.aload_n 0, 1) := by decide +kernel
theorem dX10_dear_152 : decode cX10_dear 152 = .ok (.iconst 0, 1) := by decide +kernel
theorem dX10_dear_153 : decode cX10_dear 153 = .ok (.putfield 70, 3) := by decide +kernel
theorem dX10_dear_156 : decode cX10_dear 156 = .ok (.iconst 0, 1) := by decide +kernel
theorem dX10_dear_157 : decode cX10_dear 157 = .ok (.istore_n 2, 1) := by decide +kernel
theorem dX10_dear_158 : decode cX10_dear 158 = .ok (.iload_n 2, 1) := by decide +kernel
theorem dX10_dear_159 : decode cX10_dear 159 = .ok (.bipush 6, 2) := by decide +kernel
theorem dX10_dear_161 : decode cX10_dear 161 = .ok (.if_icmp .ge 19, 3) := by decide +kernel
theorem dX10_dear_164 : decode cX10_dear 164 = .ok (.aload_n 0, 1) := by decide +kernel
theorem dX10_dear_165 : decode cX10_dear 165 = .ok (.aload_n 0, 1) := by decide +kernel
theorem dX10_dear_166 : decode cX10_dear 166 = .ok (.getfield 57, 3) := by decide +kernel
theorem dX10_dear_169 : decode cX10_dear 169 = .ok (.iload_n 2, 1) := by decide +kernel
theorem dX10_dear_170 : decode cX10_dear 170 = .ok (.laload, 1) := by decide +kernel
theorem dX10_dear_171 : decode cX10_dear 171 = .ok (.invokevirtual 259, 3) := by decide +kernel
theorem dX10_dear_174 : decode cX10_dear 174 = .ok (.iinc 2 1, 3) := by decide +kernel
theorem dX10_dear_177 : decode cX10_dear 177 = .ok (.goto (-19), 3) := by decide +kernel
theorem dX10_dear_180 : decode cX10_dear 180 = .ok (.iload_n 1, 1) := by decide +kernel
theorem dX10_dear_181 : decode cX10_dear 181 = .ok (.ireturn, 1) := by decide +kernel
theorem v_X10_dear : yX10_dear.cls = RX10 ∧ yX10_dear.cls ≠ "java/lang/invoke/MethodHandle" ∧ yX10_dear.cls ≠ "java/lang/invoke/VarHandle" ∧ (parseMethodDescriptor yX10_dear.desc).map (fun d => d.parameters.length) = some 0 := ⟨rfl, by decide +kernel, by decide +kernel, by decide +kernel⟩
noncomputable def k_X10_dear_0 (κ : gb_K) : gb_C := (o_al 0 (o_ci 0 (o_pf 10 10 (o_ci 0 (o_is 1 (o_j [0, 1] (κ 7)))))))
theorem l_X10_dear_0 : gb_Li (fun κ => k_X10_dear_0 κ) := (gb_li (q_al 0) (gb_li (q_ci 0) (gb_li (q_pf 10 10) (gb_li (q_ci 0) (gb_li (q_is 1) (q_j [0, 1] 7))))))
theorem s_X10_dear_0   {κ : gb_K} (hκ : ∀ q, gb_S RX10 cX10_dear 6 (gb_rm 3 70) 1 q (κ q)) : gb_S RX10 cX10_dear 6 (gb_rm 3 70) 1 0 (k_X10_dear_0 κ) := (s_aln 0 rfl dX10_dear_0 (s_iconst (by decide +kernel) dX10_dear_1 (s_pf (T := TX10) winX10 rfl (Nat.le_of_ble_eq_true rfl) tyX10_ok nmX10 rfl (by decide +kernel) gw_546 rfl dX10_dear_2 (s_iconst (by decide +kernel) dX10_dear_5 (s_isn 1 rfl (Nat.le_of_ble_eq_true rfl) dX10_dear_6 (s_j (hκ 7)))))))
noncomputable def k_X10_dear_7 (κ : gb_K) : gb_C := (o_il 1 (o_ci 6 (o_cge (o_ci 0 (o_is 1 (o_ci 1 (o_is 2 (o_j [0, 1, 2] (κ 107)))))) (o_cl 0 (o_ls 2 (o_ci 0 (o_is 4 (o_j [0, 1, 2, 4] (κ 18)))))))))
theorem l_X10_dear_7 : gb_Li (fun κ => k_X10_dear_7 κ) := (gb_li (q_il 1) (gb_li (q_ci 6) (q_cge (gb_li (q_ci 0) (gb_li (q_is 1) (gb_li (q_ci 1) (gb_li (q_is 2) (q_j [0, 1, 2] 107))))) (gb_li (q_cl 0) (gb_li (q_ls 2) (gb_li (q_ci 0) (gb_li (q_is 4) (q_j [0, 1, 2, 4] 18))))))))
theorem s_X10_dear_7   {κ : gb_K} (hκ : ∀ q, gb_S RX10 cX10_dear 6 (gb_rm 3 70) 1 q (κ q)) : gb_S RX10 cX10_dear 6 (gb_rm 3 70) 1 7 (k_X10_dear_7 κ) := (s_iln 1 rfl dX10_dear_7 (s_bipush (by decide +kernel) dX10_dear_8 (s_cge (tgt := 103) (by decide +kernel) dX10_dear_10 (s_iconst (by decide +kernel) dX10_dear_103 (s_isn 1 rfl (Nat.le_of_ble_eq_true rfl) dX10_dear_104 (s_iconst (by decide +kernel) dX10_dear_105 (s_isn 2 rfl (Nat.le_of_ble_eq_true rfl) dX10_dear_106 (s_j (hκ 107)))))) (s_lconst (by decide +kernel) dX10_dear_13 (s_lsn 2 rfl (Nat.le_of_ble_eq_true rfl) dX10_dear_14 (s_iconst (by decide +kernel) dX10_dear_15 (s_is (Nat.le_of_ble_eq_true rfl) dX10_dear_16 (s_j (hκ 18)))))))))
noncomputable def k_X10_dear_18 (κ : gb_K) : gb_C := (o_il 4 (o_ci 6 (o_cge (o_al 0 (o_gf 10 35 (o_il 1 (o_ll 2 (o_last (o_inc 1 1 (o_j [0, 1] (κ 7)))))))) (o_ci 0 (o_is 5 (o_j [0, 1, 2, 4, 5] (κ 28)))))))
theorem l_X10_dear_18 : gb_Li (fun κ => k_X10_dear_18 κ) := (gb_li (q_il 4) (gb_li (q_ci 6) (q_cge (gb_li (q_al 0) (gb_li (q_gf 10 35) (gb_li (q_il 1) (gb_li (q_ll 2) (gb_li q_last (gb_li (q_inc 1 1) (q_j [0, 1] 7))))))) (gb_li (q_ci 0) (gb_li (q_is 5) (q_j [0, 1, 2, 4, 5] 28))))))
theorem s_X10_dear_18   {κ : gb_K} (hκ : ∀ q, gb_S RX10 cX10_dear 6 (gb_rm 3 70) 1 q (κ q)) : gb_S RX10 cX10_dear 6 (gb_rm 3 70) 1 18 (k_X10_dear_18 κ) := (s_il dX10_dear_18 (s_bipush (by decide +kernel) dX10_dear_20 (s_cge (tgt := 90) (by decide +kernel) dX10_dear_22 (s_aln 0 rfl dX10_dear_90 (s_gf (T := TX10) winX10 rfl (Nat.le_of_ble_eq_true rfl) gw_822 rfl dX10_dear_91 (s_iln 1 rfl dX10_dear_94 (s_lln 2 rfl dX10_dear_95 (s_last dX10_dear_96 (s_inc (by decide +kernel) (Nat.le_of_ble_eq_true rfl) dX10_dear_97 (s_goto (tgt := 7) (by decide +kernel) dX10_dear_100 (s_j (hκ 7))))))))) (s_iconst (by decide +kernel) dX10_dear_25 (s_is (Nat.le_of_ble_eq_true rfl) dX10_dear_26 (s_j (hκ 28)))))))
noncomputable def k_X10_dear_76 (κ : gb_K) : gb_C := (o_lb (fun x y => x + y) (o_ls 2 (o_inc 5 1 (o_j [0, 1, 2, 4, 5] (κ 28)))))
theorem l_X10_dear_76 : gb_Li (fun κ => k_X10_dear_76 κ) := (gb_li (q_lb _) (gb_li (q_ls 2) (gb_li (q_inc 5 1) (q_j [0, 1, 2, 4, 5] 28))))
theorem s_X10_dear_76   {κ : gb_K} (hκ : ∀ q, gb_S RX10 cX10_dear 6 (gb_rm 3 70) 1 q (κ q)) : gb_S RX10 cX10_dear 6 (gb_rm 3 70) 1 76 (k_X10_dear_76 κ) := (s_ladd dX10_dear_76 (s_lsn 2 rfl (Nat.le_of_ble_eq_true rfl) dX10_dear_77 (s_inc (by decide +kernel) (Nat.le_of_ble_eq_true rfl) dX10_dear_78 (s_goto (tgt := 28) (by decide +kernel) dX10_dear_81 (s_j (hκ 28))))))
noncomputable def k_X10_dear_28 (κ : gb_K) : gb_C := (o_il 5 (o_al 0 (o_il 4 (o_cv 1 10 1 f_X10_many (o_cge (o_inc 4 1 (o_j [0, 1, 2, 4] (κ 18))) (o_ll 2 (o_al 0 (o_il 4 (o_il 5 (o_ci 0 (o_cv 3 10 1 f_X10_layerOf (o_il 1 (o_ceq (o_al 0 (o_il 4 (o_il 5 (o_ci 1 (o_cv 3 10 1 f_X10_layerOf (o_al 0 (o_il 4 (o_il 5 (o_cv 2 10 1 f_X10_unit (o_ib (fun x y => x * y) (o_i2l (k_X10_dear_76 κ)))))))))))) (o_cl 0 (k_X10_dear_76 κ)))))))))))))))
theorem l_X10_dear_28 : gb_Li (fun κ => k_X10_dear_28 κ) := (gb_li (q_il 5) (gb_li (q_al 0) (gb_li (q_il 4) (gb_li (q_cv 1 10 1 f_X10_many) (q_cge (gb_li (q_inc 4 1) (q_j [0, 1, 2, 4] 18)) (gb_li (q_ll 2) (gb_li (q_al 0) (gb_li (q_il 4) (gb_li (q_il 5) (gb_li (q_ci 0) (gb_li (q_cv 3 10 1 f_X10_layerOf) (gb_li (q_il 1) (q_ceq (gb_li (q_al 0) (gb_li (q_il 4) (gb_li (q_il 5) (gb_li (q_ci 1) (gb_li (q_cv 3 10 1 f_X10_layerOf) (gb_li (q_al 0) (gb_li (q_il 4) (gb_li (q_il 5) (gb_li (q_cv 2 10 1 f_X10_unit) (gb_li (q_ib _) (gb_li q_i2l (l_X10_dear_76)))))))))))) (gb_li (q_cl 0) (l_X10_dear_76)))))))))))))))
theorem s_X10_dear_28   {κ : gb_K} (hκ : ∀ q, gb_S RX10 cX10_dear 6 (gb_rm 3 70) 1 q (κ q)) : gb_S RX10 cX10_dear 6 (gb_rm 3 70) 1 28 (k_X10_dear_28 κ) := (s_il dX10_dear_28 (s_aln 0 rfl dX10_dear_30 (s_il dX10_dear_31 (s_cv (C := RX10) c_X10_many rfl (gb_l5 gw_557 gw_558 gw_559 gw_553 gw_560) v_X10_many ⟨rfl, rfl⟩ ⟨Nat.le_of_ble_eq_true rfl, Nat.le_of_ble_eq_true rfl⟩ dX10_dear_33 (s_cge (tgt := 84) (by decide +kernel) dX10_dear_36 (s_inc (by decide +kernel) (Nat.le_of_ble_eq_true rfl) dX10_dear_84 (s_goto (tgt := 18) (by decide +kernel) dX10_dear_87 (s_j (hκ 18)))) (s_lln 2 rfl dX10_dear_39 (s_aln 0 rfl dX10_dear_40 (s_il dX10_dear_41 (s_il dX10_dear_43 (s_iconst (by decide +kernel) dX10_dear_45 (s_cv (C := RX10) c_X10_layerOf rfl (gb_l5 gw_561 gw_562 gw_563 gw_553 gw_564) v_X10_layerOf ⟨rfl, rfl⟩ ⟨Nat.le_of_ble_eq_true rfl, Nat.le_of_ble_eq_true rfl⟩ dX10_dear_46 (s_iln 1 rfl dX10_dear_49 (s_cne (tgt := 75) (by decide +kernel) dX10_dear_50 (s_lconst (by decide +kernel) dX10_dear_75 (s_X10_dear_76 hκ)) (s_aln 0 rfl dX10_dear_53 (s_il dX10_dear_54 (s_il dX10_dear_56 (s_iconst (by decide +kernel) dX10_dear_58 (s_cv (C := RX10) c_X10_layerOf rfl (gb_l5 gw_561 gw_562 gw_563 gw_553 gw_564) v_X10_layerOf ⟨rfl, rfl⟩ ⟨Nat.le_of_ble_eq_true rfl, Nat.le_of_ble_eq_true rfl⟩ dX10_dear_59 (s_aln 0 rfl dX10_dear_62 (s_il dX10_dear_63 (s_il dX10_dear_65 (s_cv (C := RX10) c_X10_unit rfl (gb_l5 gw_635 gw_636 gw_637 gw_553 gw_638) v_X10_unit ⟨rfl, rfl⟩ ⟨Nat.le_of_ble_eq_true rfl, Nat.le_of_ble_eq_true rfl⟩ dX10_dear_67 (s_imul dX10_dear_70 (s_i2l dX10_dear_71 (s_goto (tgt := 76) (by decide +kernel) dX10_dear_72 (s_X10_dear_76 hκ))))))))))))))))))))))))))
noncomputable def k_X10_dear_131 (κ : gb_K) : gb_C := (o_inc 2 1 (o_j [0, 1, 2] (κ 107)))
theorem l_X10_dear_131 : gb_Li (fun κ => k_X10_dear_131 κ) := (gb_li (q_inc 2 1) (q_j [0, 1, 2] 107))
theorem s_X10_dear_131   {κ : gb_K} (hκ : ∀ q, gb_S RX10 cX10_dear 6 (gb_rm 3 70) 1 q (κ q)) : gb_S RX10 cX10_dear 6 (gb_rm 3 70) 1 131 (k_X10_dear_131 κ) := (s_inc (by decide +kernel) (Nat.le_of_ble_eq_true rfl) dX10_dear_131 (s_goto (tgt := 107) (by decide +kernel) dX10_dear_134 (s_j (hκ 107))))
noncomputable def k_X10_dear_107 (κ : gb_K) : gb_C := (o_il 2 (o_ci 6 (o_cge (o_al 0 (o_gf 10 35 (o_il 1 (o_lald (o_cl 0 (o_lcmp (o_zeq (o_ci (-2) o_ri) (o_al 0 (o_ci 0 (o_pf 10 9 (o_ci 0 (o_is 2 (o_j [0, 1, 2] (κ 158)))))))))))))) (o_al 0 (o_gf 10 35 (o_il 2 (o_lald (o_al 0 (o_gf 10 35 (o_il 1 (o_lald (o_lcmp (o_zle (k_X10_dear_131 κ) (o_il 2 (o_is 1 (k_X10_dear_131 κ))))))))))))))))
theorem l_X10_dear_107 : gb_Li (fun κ => k_X10_dear_107 κ) := (gb_li (q_il 2) (gb_li (q_ci 6) (q_cge (gb_li (q_al 0) (gb_li (q_gf 10 35) (gb_li (q_il 1) (gb_li q_lald (gb_li (q_cl 0) (gb_li q_lcmp (q_zeq (gb_li (q_ci (-2)) (gb_li0 _)) (gb_li (q_al 0) (gb_li (q_ci 0) (gb_li (q_pf 10 9) (gb_li (q_ci 0) (gb_li (q_is 2) (q_j [0, 1, 2] 158))))))))))))) (gb_li (q_al 0) (gb_li (q_gf 10 35) (gb_li (q_il 2) (gb_li q_lald (gb_li (q_al 0) (gb_li (q_gf 10 35) (gb_li (q_il 1) (gb_li q_lald (gb_li q_lcmp (q_zle (l_X10_dear_131) (gb_li (q_il 2) (gb_li (q_is 1) (l_X10_dear_131))))))))))))))))
theorem s_X10_dear_107   {κ : gb_K} (hκ : ∀ q, gb_S RX10 cX10_dear 6 (gb_rm 3 70) 1 q (κ q)) : gb_S RX10 cX10_dear 6 (gb_rm 3 70) 1 107 (k_X10_dear_107 κ) := (s_iln 2 rfl dX10_dear_107 (s_bipush (by decide +kernel) dX10_dear_108 (s_cge (tgt := 137) (by decide +kernel) dX10_dear_110 (s_aln 0 rfl dX10_dear_137 (s_gf (T := TX10) winX10 rfl (Nat.le_of_ble_eq_true rfl) gw_822 rfl dX10_dear_138 (s_iln 1 rfl dX10_dear_141 (s_lald dX10_dear_142 (s_lconst (by decide +kernel) dX10_dear_143 (s_lcmp dX10_dear_144 (s_zne (tgt := 151) (by decide +kernel) dX10_dear_145 (s_aln 0 rfl dX10_dear_151 (s_iconst (by decide +kernel) dX10_dear_152 (s_pf (T := TX10) winX10 rfl (Nat.le_of_ble_eq_true rfl) tyX10_ok nmX10 rfl (by decide +kernel) gw_548 rfl dX10_dear_153 (s_iconst (by decide +kernel) dX10_dear_156 (s_isn 2 rfl (Nat.le_of_ble_eq_true rfl) dX10_dear_157 (s_j (hκ 158))))))) (s_bipush (by decide +kernel) dX10_dear_148 (s_ri rfl dX10_dear_150))))))))) (s_aln 0 rfl dX10_dear_113 (s_gf (T := TX10) winX10 rfl (Nat.le_of_ble_eq_true rfl) gw_822 rfl dX10_dear_114 (s_iln 2 rfl dX10_dear_117 (s_lald dX10_dear_118 (s_aln 0 rfl dX10_dear_119 (s_gf (T := TX10) winX10 rfl (Nat.le_of_ble_eq_true rfl) gw_822 rfl dX10_dear_120 (s_iln 1 rfl dX10_dear_123 (s_lald dX10_dear_124 (s_lcmp dX10_dear_125 (s_zle (tgt := 131) (by decide +kernel) dX10_dear_126 (s_X10_dear_131 hκ) (s_iln 2 rfl dX10_dear_129 (s_isn 1 rfl (Nat.le_of_ble_eq_true rfl) dX10_dear_130 (s_X10_dear_131 hκ))))))))))))))))
noncomputable def k_X10_dear_158 (κ : gb_K) : gb_C := (o_il 2 (o_ci 6 (o_cge (o_il 1 o_ri) (o_al 0 (o_al 0 (o_gf 10 35 (o_il 2 (o_lald (o_cv 1 10 0 f_X10_tell (o_inc 2 1 (o_j [0, 1, 2] (κ 158))))))))))))
theorem l_X10_dear_158 : gb_Li (fun κ => k_X10_dear_158 κ) := (gb_li (q_il 2) (gb_li (q_ci 6) (q_cge (gb_li (q_il 1) (gb_li0 _)) (gb_li (q_al 0) (gb_li (q_al 0) (gb_li (q_gf 10 35) (gb_li (q_il 2) (gb_li q_lald (gb_li (q_cv 1 10 0 f_X10_tell) (gb_li (q_inc 2 1) (q_j [0, 1, 2] 158)))))))))))
theorem s_X10_dear_158   {κ : gb_K} (hκ : ∀ q, gb_S RX10 cX10_dear 6 (gb_rm 3 70) 1 q (κ q)) : gb_S RX10 cX10_dear 6 (gb_rm 3 70) 1 158 (k_X10_dear_158 κ) := (s_iln 2 rfl dX10_dear_158 (s_bipush (by decide +kernel) dX10_dear_159 (s_cge (tgt := 180) (by decide +kernel) dX10_dear_161 (s_iln 1 rfl dX10_dear_180 (s_ri rfl dX10_dear_181)) (s_aln 0 rfl dX10_dear_164 (s_aln 0 rfl dX10_dear_165 (s_gf (T := TX10) winX10 rfl (Nat.le_of_ble_eq_true rfl) gw_822 rfl dX10_dear_166 (s_iln 2 rfl dX10_dear_169 (s_lald dX10_dear_170 (s_cv (C := RX10) c_X10_tell rfl (gb_l5 gw_732 gw_733 gw_734 gw_553 gw_735) v_X10_tell ⟨rfl, rfl⟩ ⟨Nat.le_of_ble_eq_true rfl, Nat.le_of_ble_eq_true rfl⟩ dX10_dear_171 (s_inc (by decide +kernel) (Nat.le_of_ble_eq_true rfl) dX10_dear_174 (s_goto (tgt := 158) (by decide +kernel) dX10_dear_177 (s_j (hκ 158)))))))))))))
noncomputable def B_X10_dear : List (Nat × (gb_K → gb_C)) := [(7, fun κ => k_X10_dear_7 κ), (18, fun κ => k_X10_dear_18 κ), (28, fun κ => k_X10_dear_28 κ), (107, fun κ => k_X10_dear_107 κ), (158, fun κ => k_X10_dear_158 κ)]
noncomputable def K_X10_dear : gb_K := gb_fx (gb_tb (B_X10_dear))
theorem L_X10_dear : ∀ q, gb_Li (fun κ => gb_tb (B_X10_dear) κ q) := gb_tb_li (List.forall_mem_cons.mpr ⟨l_X10_dear_7, List.forall_mem_cons.mpr ⟨l_X10_dear_18, List.forall_mem_cons.mpr ⟨l_X10_dear_28, List.forall_mem_cons.mpr ⟨l_X10_dear_107, List.forall_mem_cons.mpr ⟨l_X10_dear_158, (fun _ h => absurd h List.not_mem_nil)⟩⟩⟩⟩⟩)
theorem S_X10_dear   : ∀ q, gb_S RX10 cX10_dear 6 (gb_rm 3 70) 1 q (K_X10_dear q) := fun q => gb_fx_S (L_X10_dear) (gb_tb_S (List.forall_mem_cons.mpr ⟨fun κ hκ => s_X10_dear_7 hκ, List.forall_mem_cons.mpr ⟨fun κ hκ => s_X10_dear_18 hκ, List.forall_mem_cons.mpr ⟨fun κ hκ => s_X10_dear_28 hκ, List.forall_mem_cons.mpr ⟨fun κ hκ => s_X10_dear_107 hκ, List.forall_mem_cons.mpr ⟨fun κ hκ => s_X10_dear_158 hκ, (fun _ h => absurd h List.not_mem_nil)⟩⟩⟩⟩⟩)) q
noncomputable def f_X10_dear : gb_F := gb_hide (gb_mf 6 (k_X10_dear_0 (K_X10_dear)))
theorem c_X10_dear : ∀ l, gb_Met l yX10_dear cX10_dear 6 (some .int) 1 (gb_rm 3 70) f_X10_dear := gb_hide_c (gb_met (own := RX10) (rk := 1) rfl (by decide +kernel) ⟨rfl, rfl⟩ (s_X10_dear_0 (S_X10_dear)))
