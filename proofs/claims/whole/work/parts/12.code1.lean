/-! CODE: printed by wip/whole/gen.py -/
theorem dX1_lay_0 : decode cX1_lay 0 = .ok (.aload_n 0, 1) := by decide +kernel
theorem dX1_lay_1 : decode cX1_lay 1 = .ok (.getfield 11, 3) := by decide +kernel
theorem dX1_lay_4 : decode cX1_lay 4 = .ok (.iload_n 2, 1) := by decide +kernel
theorem dX1_lay_5 : decode cX1_lay 5 = .ok (.iload_n 1, 1) := by decide +kernel
theorem dX1_lay_6 : decode cX1_lay 6 = .ok (.iastore, 1) := by decide +kernel
theorem dX1_lay_7 : decode cX1_lay 7 = .ok (.aload_n 0, 1) := by decide +kernel
theorem dX1_lay_8 : decode cX1_lay 8 = .ok (.getfield 25, 3) := by decide +kernel
theorem dX1_lay_11 : decode cX1_lay 11 = .ok (.iload_n 1, 1) := by decide +kernel
theorem dX1_lay_12 : decode cX1_lay 12 = .ok (.aload_n 0, 1) := by decide +kernel
theorem dX1_lay_13 : decode cX1_lay 13 = .ok (.getfield 29, 3) := by decide +kernel
theorem dX1_lay_16 : decode cX1_lay 16 = .ok (.getfield 70, 3) := by decide +kernel
theorem dX1_lay_19 : decode cX1_lay 19 = .ok (.iload_n 2, 1) := by decide +kernel
theorem dX1_lay_20 : decode cX1_lay 20 = .ok (.iaload, 1) := by decide +kernel
theorem dX1_lay_21 : decode cX1_lay 21 = .ok (.aload_n 0, 1) := by decide +kernel
theorem dX1_lay_22 : decode cX1_lay 22 = .ok (.getfield 29, 3) := by decide +kernel
theorem dX1_lay_25 : decode cX1_lay 25 = .ok (.getfield 73, 3) := by decide +kernel
theorem dX1_lay_28 : decode cX1_lay 28 = .ok (.iload_n 2, 1) := by decide +kernel
theorem dX1_lay_29 : decode cX1_lay 29 = .ok (.iaload, 1) := by decide +kernel
theorem dX1_lay_30 : decode cX1_lay 30 = .ok (.aload_n 0, 1) := by decide +kernel
theorem dX1_lay_31 : decode cX1_lay 31 = .ok (.getfield 29, 3) := by decide +kernel
theorem dX1_lay_34 : decode cX1_lay 34 = .ok (.getfield 76, 3) := by decide +kernel
theorem dX1_lay_37 : decode cX1_lay 37 = .ok (.iload_n 2, 1) := by decide +kernel
theorem dX1_lay_38 : decode cX1_lay 38 = .ok (.iaload, 1) := by decide +kernel
theorem dX1_lay_39 : decode cX1_lay 39 = .ok (.invokevirtual 83, 3) := by decide +kernel
theorem dX1_lay_42 : decode cX1_lay 42 = .ok (.return_, 1) := by decide +kernel
theorem v_X1_lay : yX1_lay.cls = RX1 ∧ yX1_lay.cls ≠ "java/lang/invoke/MethodHandle" ∧ yX1_lay.cls ≠ "java/lang/invoke/VarHandle" ∧ (parseMethodDescriptor yX1_lay.desc).map (fun d => d.parameters.length) = some 2 := ⟨rfl, by decide +kernel, by decide +kernel, by decide +kernel⟩
noncomputable def k_X1_lay_0 (κ : gb_K) : gb_C := (o_al 0 (o_gf 1 2 (o_il 2 (o_il 1 (o_iast (o_al 0 (o_gf 1 0 (o_il 1 (o_al 0 (o_gf 1 1 (o_gf 2 0 (o_il 2 (o_iald (o_al 0 (o_gf 1 1 (o_gf 2 1 (o_il 2 (o_iald (o_al 0 (o_gf 1 1 (o_gf 2 2 (o_il 2 (o_iald (o_cv 4 7 0 f_X7_lay o_rv))))))))))))))))))))))))
theorem l_X1_lay_0 : gb_Li (fun κ => k_X1_lay_0 κ) := (gb_li (q_al 0) (gb_li (q_gf 1 2) (gb_li (q_il 2) (gb_li (q_il 1) (gb_li q_iast (gb_li (q_al 0) (gb_li (q_gf 1 0) (gb_li (q_il 1) (gb_li (q_al 0) (gb_li (q_gf 1 1) (gb_li (q_gf 2 0) (gb_li (q_il 2) (gb_li q_iald (gb_li (q_al 0) (gb_li (q_gf 1 1) (gb_li (q_gf 2 1) (gb_li (q_il 2) (gb_li q_iald (gb_li (q_al 0) (gb_li (q_gf 1 1) (gb_li (q_gf 2 2) (gb_li (q_il 2) (gb_li q_iald (gb_li (q_cv 4 7 0 f_X7_lay) (gb_li0 _)))))))))))))))))))))))))
theorem s_X1_lay_0   {κ : gb_K} (hκ : ∀ q, gb_S RX1 cX1_lay 3 (gb_rm 3 70) 0 q (κ q)) : gb_S RX1 cX1_lay 3 (gb_rm 3 70) 0 0 (k_X1_lay_0 κ) := (s_aln 0 rfl dX1_lay_0 (s_gf (T := TX1) winX1 rfl (Nat.le_of_ble_eq_true rfl) gw_87 rfl dX1_lay_1 (s_iln 2 rfl dX1_lay_4 (s_iln 1 rfl dX1_lay_5 (s_iast dX1_lay_6 (s_aln 0 rfl dX1_lay_7 (s_gf (T := TX1) winX1 rfl (Nat.le_of_ble_eq_true rfl) gw_54 rfl dX1_lay_8 (s_iln 1 rfl dX1_lay_11 (s_aln 0 rfl dX1_lay_12 (s_gf (T := TX1) winX1 rfl (Nat.le_of_ble_eq_true rfl) gw_72 rfl dX1_lay_13 (s_gf (T := TX2) winX2 rfl (Nat.le_of_ble_eq_true rfl) gw_73 rfl dX1_lay_16 (s_iln 2 rfl dX1_lay_19 (s_iald dX1_lay_20 (s_aln 0 rfl dX1_lay_21 (s_gf (T := TX1) winX1 rfl (Nat.le_of_ble_eq_true rfl) gw_72 rfl dX1_lay_22 (s_gf (T := TX2) winX2 rfl (Nat.le_of_ble_eq_true rfl) gw_74 rfl dX1_lay_25 (s_iln 2 rfl dX1_lay_28 (s_iald dX1_lay_29 (s_aln 0 rfl dX1_lay_30 (s_gf (T := TX1) winX1 rfl (Nat.le_of_ble_eq_true rfl) gw_72 rfl dX1_lay_31 (s_gf (T := TX2) winX2 rfl (Nat.le_of_ble_eq_true rfl) gw_75 rfl dX1_lay_34 (s_iln 2 rfl dX1_lay_37 (s_iald dX1_lay_38 (s_cv (C := RX7) c_X7_lay rfl (gb_l5 gw_97 gw_98 gw_99 gw_11 gw_100) v_X7_lay ⟨rfl, rfl⟩ ⟨Nat.le_of_ble_eq_true rfl, Nat.le_of_ble_eq_true rfl⟩ dX1_lay_39 (s_rv rfl dX1_lay_42)))))))))))))))))))))))))
noncomputable def f_X1_lay : gb_F := gb_hide (gb_mf 3 (k_X1_lay_0 gb_n))
theorem c_X1_lay : ∀ l, gb_Met l yX1_lay cX1_lay 3 none 0 (gb_rm 3 70) f_X1_lay := gb_hide_c (gb_met (own := RX1) (rk := 0) rfl (by decide +kernel) ⟨rfl, rfl⟩ (s_X1_lay_0 gb_S_n))
theorem dX7_unlay_0 : decode cX7_unlay 0 = .ok (.aload_n 0, 1) := by decide +kernel
theorem dX7_unlay_1 : decode cX7_unlay 1 = .ok (.getfield 18, 3) := by decide +kernel
theorem dX7_unlay_4 : decode cX7_unlay 4 = .ok (.iload_n 1, 1) := by decide +kernel
theorem dX7_unlay_5 : decode cX7_unlay 5 = .ok (.iaload, 1) := by decide +kernel
theorem dX7_unlay_6 : decode cX7_unlay 6 = .ok (.ifCond .ne 4, 3) := by decide +kernel
theorem dX7_unlay_9 : decode cX7_unlay 9 = .ok (.return_, 1) := by decide +kernel
theorem dX7_unlay_10 : decode cX7_unlay 10 = .ok (.iload_n 1, 1) := by decide +kernel
theorem dX7_unlay_11 : decode cX7_unlay 11 = .ok (.aload_n 0, 1) := by decide +kernel
theorem dX7_unlay_12 : decode cX7_unlay 12 = .ok (.getfield 18, 3) := by decide +kernel
theorem dX7_unlay_15 : decode cX7_unlay 15 = .ok (.iload_n 1, 1) := by decide +kernel
theorem dX7_unlay_16 : decode cX7_unlay 16 = .ok (.iaload, 1) := by decide +kernel
theorem dX7_unlay_17 : decode cX7_unlay 17 = .ok (.iconst 1, 1) := by decide +kernel
theorem dX7_unlay_18 : decode cX7_unlay 18 = .ok (.isub, 1) := by decide +kernel
theorem dX7_unlay_19 : decode cX7_unlay 19 = .ok (.invokestatic 51, 3) := by decide +kernel
theorem dX7_unlay_22 : decode cX7_unlay 22 = .ok (.istore_n 3, 1) := by decide +kernel
theorem dX7_unlay_23 : decode cX7_unlay 23 = .ok (.aload_n 0, 1) := by decide +kernel
theorem dX7_unlay_24 : decode cX7_unlay 24 = .ok (.getfield 27, 3) := by decide +kernel
theorem dX7_unlay_27 : decode cX7_unlay 27 = .ok (.iload_n 3, 1) := by decide +kernel
theorem dX7_unlay_28 : decode cX7_unlay 28 = .ok (.dup2, 1) := by decide +kernel
theorem dX7_unlay_29 : decode cX7_unlay 29 = .ok (.iaload, 1) := by decide +kernel
theorem dX7_unlay_30 : decode cX7_unlay 30 = .ok (.iload_n 2, 1) := by decide +kernel
theorem dX7_unlay_31 : decode cX7_unlay 31 = .ok (.isub, 1) := by decide +kernel
theorem dX7_unlay_32 : decode cX7_unlay 32 = .ok (.iastore, 1) := by decide +kernel
theorem dX7_unlay_33 : decode cX7_unlay 33 = .ok (.aload_n 0, 1) := by decide +kernel
theorem dX7_unlay_34 : decode cX7_unlay 34 = .ok (.getfield 21, 3) := by decide +kernel
theorem dX7_unlay_37 : decode cX7_unlay 37 = .ok (.iload_n 1, 1) := by decide +kernel
theorem dX7_unlay_38 : decode cX7_unlay 38 = .ok (.dup2, 1) := by decide +kernel
theorem dX7_unlay_39 : decode cX7_unlay 39 = .ok (.iaload, 1) := by decide +kernel
theorem dX7_unlay_40 : decode cX7_unlay 40 = .ok (.iload_n 2, 1) := by decide +kernel
theorem dX7_unlay_41 : decode cX7_unlay 41 = .ok (.isub, 1) := by decide +kernel
theorem dX7_unlay_42 : decode cX7_unlay 42 = .ok (.iastore, 1) := by decide +kernel
theorem dX7_unlay_43 : decode cX7_unlay 43 = .ok (.aload_n 0, 1) := by decide +kernel
theorem dX7_unlay_44 : decode cX7_unlay 44 = .ok (.getfield 33, 3) := by decide +kernel
theorem dX7_unlay_47 : decode cX7_unlay 47 = .ok (.iload_n 1, 1) := by decide +kernel
theorem dX7_unlay_48 : decode cX7_unlay 48 = .ok (.bipush 6, 2) := by decide +kernel
theorem dX7_unlay_50 : decode cX7_unlay 50 = .ok (.imul, 1) := by decide +kernel
theorem dX7_unlay_51 : decode cX7_unlay 51 = .ok (.aload_n 0, 1) := by decide +kernel
theorem dX7_unlay_52 : decode cX7_unlay 52 = .ok (.getfield 24, 3) := by decide +kernel
theorem dX7_unlay_55 : decode cX7_unlay 55 = .ok (.iload_n 3, 1) := by decide +kernel
theorem dX7_unlay_56 : decode cX7_unlay 56 = .ok (.iaload, 1) := by decide +kernel
theorem dX7_unlay_57 : decode cX7_unlay 57 = .ok (.iadd, 1) := by decide +kernel
theorem dX7_unlay_58 : decode cX7_unlay 58 = .ok (.dup2, 1) := by decide +kernel
theorem dX7_unlay_59 : decode cX7_unlay 59 = .ok (.iaload, 1) := by decide +kernel
theorem dX7_unlay_60 : decode cX7_unlay 60 = .ok (.iload_n 2, 1) := by decide +kernel
theorem dX7_unlay_61 : decode cX7_unlay 61 = .ok (.isub, 1) := by decide +kernel
theorem dX7_unlay_62 : decode cX7_unlay 62 = .ok (.iastore, 1) := by decide +kernel
theorem dX7_unlay_63 : decode cX7_unlay 63 = .ok (.aload_n 0, 1) := by decide +kernel
theorem dX7_unlay_64 : decode cX7_unlay 64 = .ok (.getfield 27, 3) := by decide +kernel
theorem dX7_unlay_67 : decode cX7_unlay 67 = .ok (.iload_n 3, 1) := by decide +kernel
theorem dX7_unlay_68 : decode cX7_unlay 68 = .ok (.iaload, 1) := by decide +kernel
theorem dX7_unlay_69 : decode cX7_unlay 69 = .ok (.ifCond .ne 13, 3) := by decide +kernel
theorem dX7_unlay_72 : decode cX7_unlay 72 = .ok (.aload_n 0, 1) := by decide +kernel
theorem dX7_unlay_73 : decode cX7_unlay 73 = .ok (.getfield 18, 3) := by decide +kernel
theorem dX7_unlay_76 : decode cX7_unlay 76 = .ok (.iload_n 1, 1) := by decide +kernel
theorem dX7_unlay_77 : decode cX7_unlay 77 = .ok (.dup2, 1) := by decide +kernel
theorem dX7_unlay_78 : decode cX7_unlay 78 = .ok (.iaload, 1) := by decide +kernel
theorem dX7_unlay_79 : decode cX7_unlay 79 = .ok (.iconst 1, 1) := by decide +kernel
theorem dX7_unlay_80 : decode cX7_unlay 80 = .ok (.isub, 1) := by decide +kernel
theorem dX7_unlay_81 : decode cX7_unlay 81 = .ok (.iastore, 1) := by decide +kernel
theorem dX7_unlay_82 : decode cX7_unlay 82 = .ok (.return_, 1) := by decide +kernel
theorem v_X7_unlay : yX7_unlay.cls = RX7 ∧ yX7_unlay.cls ≠ "java/lang/invoke/MethodHandle" ∧ yX7_unlay.cls ≠ "java/lang/invoke/VarHandle" ∧ (parseMethodDescriptor yX7_unlay.desc).map (fun d => d.parameters.length) = some 2 := ⟨rfl, by decide +kernel, by decide +kernel, by decide +kernel⟩
noncomputable def k_X7_unlay_82 (κ : gb_K) : gb_C := o_rv
theorem l_X7_unlay_82 : gb_Li (fun κ => k_X7_unlay_82 κ) := (gb_li0 _)
theorem s_X7_unlay_82   {κ : gb_K} (hκ : ∀ q, gb_S RX7 cX7_unlay 4 (gb_rm 1 21) 0 q (κ q)) : gb_S RX7 cX7_unlay 4 (gb_rm 1 21) 0 82 (k_X7_unlay_82 κ) := (s_rv rfl dX7_unlay_82)
noncomputable def k_X7_unlay_43 (κ : gb_K) : gb_C := (o_al 0 (o_gf 7 8 (o_il 1 (o_ci 6 (o_ib (fun x y => x * y) (o_al 0 (o_gf 7 5 (o_il 3 (o_iald (o_ib (fun x y => x + y) (o_dup2 (o_iald (o_il 2 (o_ib (fun x y => x - y) (o_iast (o_al 0 (o_gf 7 6 (o_il 3 (o_iald (o_zeq (o_al 0 (o_gf 7 3 (o_il 1 (o_dup2 (o_iald (o_ci 1 (o_ib (fun x y => x - y) (o_iast (k_X7_unlay_82 κ))))))))) (k_X7_unlay_82 κ)))))))))))))))))))))
theorem l_X7_unlay_43 : gb_Li (fun κ => k_X7_unlay_43 κ) := (gb_li (q_al 0) (gb_li (q_gf 7 8) (gb_li (q_il 1) (gb_li (q_ci 6) (gb_li (q_ib _) (gb_li (q_al 0) (gb_li (q_gf 7 5) (gb_li (q_il 3) (gb_li q_iald (gb_li (q_ib _) (gb_li q_dup2 (gb_li q_iald (gb_li (q_il 2) (gb_li (q_ib _) (gb_li q_iast (gb_li (q_al 0) (gb_li (q_gf 7 6) (gb_li (q_il 3) (gb_li q_iald (q_zeq (gb_li (q_al 0) (gb_li (q_gf 7 3) (gb_li (q_il 1) (gb_li q_dup2 (gb_li q_iald (gb_li (q_ci 1) (gb_li (q_ib _) (gb_li q_iast (l_X7_unlay_82))))))))) (l_X7_unlay_82)))))))))))))))))))))
theorem s_X7_unlay_43   {κ : gb_K} (hκ : ∀ q, gb_S RX7 cX7_unlay 4 (gb_rm 1 21) 0 q (κ q)) : gb_S RX7 cX7_unlay 4 (gb_rm 1 21) 0 43 (k_X7_unlay_43 κ) := (s_aln 0 rfl dX7_unlay_43 (s_gf (T := TX7) winX7 rfl (Nat.le_of_ble_eq_true rfl) gw_43 rfl dX7_unlay_44 (s_iln 1 rfl dX7_unlay_47 (s_bipush (by decide +kernel) dX7_unlay_48 (s_imul dX7_unlay_50 (s_aln 0 rfl dX7_unlay_51 (s_gf (T := TX7) winX7 rfl (Nat.le_of_ble_eq_true rfl) gw_46 rfl dX7_unlay_52 (s_iln 3 rfl dX7_unlay_55 (s_iald dX7_unlay_56 (s_iadd dX7_unlay_57 (s_dup2 dX7_unlay_58 (s_iald dX7_unlay_59 (s_iln 2 rfl dX7_unlay_60 (s_isub dX7_unlay_61 (s_iast dX7_unlay_62 (s_aln 0 rfl dX7_unlay_63 (s_gf (T := TX7) winX7 rfl (Nat.le_of_ble_eq_true rfl) gw_47 rfl dX7_unlay_64 (s_iln 3 rfl dX7_unlay_67 (s_iald dX7_unlay_68 (s_zne (tgt := 82) (by decide +kernel) dX7_unlay_69 (s_X7_unlay_82 hκ) (s_aln 0 rfl dX7_unlay_72 (s_gf (T := TX7) winX7 rfl (Nat.le_of_ble_eq_true rfl) gw_41 rfl dX7_unlay_73 (s_iln 1 rfl dX7_unlay_76 (s_dup2 dX7_unlay_77 (s_iald dX7_unlay_78 (s_iconst (by decide +kernel) dX7_unlay_79 (s_isub dX7_unlay_80 (s_iast dX7_unlay_81 (s_X7_unlay_82 hκ)))))))))))))))))))))))))))))
noncomputable def k_X7_unlay_0 (κ : gb_K) : gb_C := (o_al 0 (o_gf 7 3 (o_il 1 (o_iald (o_zeq o_rv (o_il 1 (o_al 0 (o_gf 7 3 (o_il 1 (o_iald (o_ci 1 (o_ib (fun x y => x - y) (o_cs 2 1 f_X7_place (o_is 3 (o_al 0 (o_gf 7 6 (o_il 3 (o_dup2 (o_iald (o_il 2 (o_ib (fun x y => x - y) (o_iast (o_al 0 (o_gf 7 4 (o_il 1 (o_dup2 (o_iald (o_il 2 (o_ib (fun x y => x - y) (o_iast (k_X7_unlay_43 κ)))))))))))))))))))))))))))))))
theorem l_X7_unlay_0 : gb_Li (fun κ => k_X7_unlay_0 κ) := (gb_li (q_al 0) (gb_li (q_gf 7 3) (gb_li (q_il 1) (gb_li q_iald (q_zeq (gb_li0 _) (gb_li (q_il 1) (gb_li (q_al 0) (gb_li (q_gf 7 3) (gb_li (q_il 1) (gb_li q_iald (gb_li (q_ci 1) (gb_li (q_ib _) (gb_li (q_cs 2 1 f_X7_place) (gb_li (q_is 3) (gb_li (q_al 0) (gb_li (q_gf 7 6) (gb_li (q_il 3) (gb_li q_dup2 (gb_li q_iald (gb_li (q_il 2) (gb_li (q_ib _) (gb_li q_iast (gb_li (q_al 0) (gb_li (q_gf 7 4) (gb_li (q_il 1) (gb_li q_dup2 (gb_li q_iald (gb_li (q_il 2) (gb_li (q_ib _) (gb_li q_iast (l_X7_unlay_43)))))))))))))))))))))))))))))))
theorem s_X7_unlay_0   {κ : gb_K} (hκ : ∀ q, gb_S RX7 cX7_unlay 4 (gb_rm 1 21) 0 q (κ q)) : gb_S RX7 cX7_unlay 4 (gb_rm 1 21) 0 0 (k_X7_unlay_0 κ) := (s_aln 0 rfl dX7_unlay_0 (s_gf (T := TX7) winX7 rfl (Nat.le_of_ble_eq_true rfl) gw_41 rfl dX7_unlay_1 (s_iln 1 rfl dX7_unlay_4 (s_iald dX7_unlay_5 (s_zne (tgt := 10) (by decide +kernel) dX7_unlay_6 (s_iln 1 rfl dX7_unlay_10 (s_aln 0 rfl dX7_unlay_11 (s_gf (T := TX7) winX7 rfl (Nat.le_of_ble_eq_true rfl) gw_41 rfl dX7_unlay_12 (s_iln 1 rfl dX7_unlay_15 (s_iald dX7_unlay_16 (s_iconst (by decide +kernel) dX7_unlay_17 (s_isub dX7_unlay_18 (s_cs c_X7_place (gb_l4 gw_45 gw_23 gw_11 gw_24) v_X7_place.2 ⟨rfl, rfl⟩ ⟨Nat.le_of_ble_eq_true rfl, Nat.le_of_ble_eq_true rfl⟩ dX7_unlay_19 (s_isn 3 rfl (Nat.le_of_ble_eq_true rfl) dX7_unlay_22 (s_aln 0 rfl dX7_unlay_23 (s_gf (T := TX7) winX7 rfl (Nat.le_of_ble_eq_true rfl) gw_47 rfl dX7_unlay_24 (s_iln 3 rfl dX7_unlay_27 (s_dup2 dX7_unlay_28 (s_iald dX7_unlay_29 (s_iln 2 rfl dX7_unlay_30 (s_isub dX7_unlay_31 (s_iast dX7_unlay_32 (s_aln 0 rfl dX7_unlay_33 (s_gf (T := TX7) winX7 rfl (Nat.le_of_ble_eq_true rfl) gw_42 rfl dX7_unlay_34 (s_iln 1 rfl dX7_unlay_37 (s_dup2 dX7_unlay_38 (s_iald dX7_unlay_39 (s_iln 2 rfl dX7_unlay_40 (s_isub dX7_unlay_41 (s_iast dX7_unlay_42 (s_X7_unlay_43 hκ)))))))))))))))))))))))))) (s_rv rfl dX7_unlay_9))))))
noncomputable def f_X7_unlay : gb_F := gb_hide (gb_mf 4 (k_X7_unlay_0 gb_n))
theorem c_X7_unlay : ∀ l, gb_Met l yX7_unlay cX7_unlay 4 none 0 (gb_rm 1 21) f_X7_unlay := gb_hide_c (gb_met (own := RX7) (rk := 0) rfl (by decide +kernel) ⟨rfl, rfl⟩ (s_X7_unlay_0 gb_S_n))
theorem dX1_layCheapest_0 : decode cX1_layCheapest 0 = .ok (.iload_n 2, 1) := by decide +kernel
theorem dX1_layCheapest_1 : decode cX1_layCheapest 1 = .ok (.aload_n 0, 1) := by decide +kernel
theorem dX1_layCheapest_2 : decode cX1_layCheapest 2 = .ok (.getfield 38, 3) := by decide +kernel
theorem dX1_layCheapest_5 : decode cX1_layCheapest 5 = .ok (.if_icmp .ge 14, 3) := by decide +kernel
theorem dX1_layCheapest_8 : decode cX1_layCheapest 8 = .ok (.iload_n 1, 1) := by decide +kernel
theorem dX1_layCheapest_9 : decode cX1_layCheapest 9 = .ok (.aload_n 0, 1) := by decide +kernel
theorem dX1_layCheapest_10 : decode cX1_layCheapest 10 = .ok (.getfield 29, 3) := by decide +kernel
theorem dX1_layCheapest_13 : decode cX1_layCheapest 13 = .ok (.getfield 63, 3) := by decide +kernel
theorem dX1_layCheapest_16 : decode cX1_layCheapest 16 = .ok (.if_icmp .le 4, 3) := by decide +kernel
theorem dX1_layCheapest_19 : decode cX1_layCheapest 19 = .ok (.return_, 1) := by decide +kernel
theorem dX1_layCheapest_20 : decode cX1_layCheapest 20 = .ok (.iload_n 1, 1) := by decide +kernel
theorem dX1_layCheapest_21 : decode cX1_layCheapest 21 = .ok (.aload_n 0, 1) := by decide +kernel
theorem dX1_layCheapest_22 : decode cX1_layCheapest 22 = .ok (.getfield 29, 3) := by decide +kernel
theorem dX1_layCheapest_25 : decode cX1_layCheapest 25 = .ok (.getfield 63, 3) := by decide +kernel
theorem dX1_layCheapest_28 : decode cX1_layCheapest 28 = .ok (.if_icmp .ne 13, 3) := by decide +kernel
theorem dX1_layCheapest_31 : decode cX1_layCheapest 31 = .ok (.aload_n 0, 1) := by decide +kernel
theorem dX1_layCheapest_32 : decode cX1_layCheapest 32 = .ok (.iload_n 2, 1) := by decide +kernel
theorem dX1_layCheapest_33 : decode cX1_layCheapest 33 = .ok (.putfield 38, 3) := by decide +kernel
theorem dX1_layCheapest_36 : decode cX1_layCheapest 36 = .ok (.aload_n 0, 1) := by decide +kernel
theorem dX1_layCheapest_37 : decode cX1_layCheapest 37 = .ok (.invokevirtual 87, 3) := by decide +kernel
theorem dX1_layCheapest_40 : decode cX1_layCheapest 40 = .ok (.return_, 1) := by decide +kernel
theorem dX1_layCheapest_41 : decode cX1_layCheapest 41 = .ok (.iconst 0, 1) := by decide +kernel
theorem dX1_layCheapest_42 : decode cX1_layCheapest 42 = .ok (.istore_n 3, 1) := by decide +kernel
theorem dX1_layCheapest_43 : decode cX1_layCheapest 43 = .ok (.iload_n 3, 1) := by decide +kernel
theorem dX1_layCheapest_44 : decode cX1_layCheapest 44 = .ok (.bipush 6, 2) := by decide +kernel
theorem dX1_layCheapest_46 : decode cX1_layCheapest 46 = .ok (.if_icmp .ge 80, 3) := by decide +kernel
theorem dX1_layCheapest_49 : decode cX1_layCheapest 49 = .ok (.aload_n 0, 1) := by decide +kernel
theorem dX1_layCheapest_50 : decode cX1_layCheapest 50 = .ok (.iload_n 3, 1) := by decide +kernel
theorem dX1_layCheapest_51 : decode cX1_layCheapest 51 = .ok (.iload_n 1, 1) := by decide +kernel
theorem dX1_layCheapest_52 : decode cX1_layCheapest 52 = .ok (.invokevirtual 66, 3) := by decide +kernel
theorem dX1_layCheapest_55 : decode cX1_layCheapest 55 = .ok (.ifCond .eq 65, 3) := by decide +kernel
theorem dX1_layCheapest_58 : decode cX1_layCheapest 58 = .ok (.aload_n 0, 1) := by decide +kernel
theorem dX1_layCheapest_59 : decode cX1_layCheapest 59 = .ok (.getfield 25, 3) := by decide +kernel
theorem dX1_layCheapest_62 : decode cX1_layCheapest 62 = .ok (.iload_n 3, 1) := by decide +kernel
theorem dX1_layCheapest_63 : decode cX1_layCheapest 63 = .ok (.aload_n 0, 1) := by decide +kernel
theorem dX1_layCheapest_64 : decode cX1_layCheapest 64 = .ok (.getfield 29, 3) := by decide +kernel
theorem dX1_layCheapest_67 : decode cX1_layCheapest 67 = .ok (.getfield 70, 3) := by decide +kernel
theorem dX1_layCheapest_70 : decode cX1_layCheapest 70 = .ok (.iload_n 1, 1) := by decide +kernel
theorem dX1_layCheapest_71 : decode cX1_layCheapest 71 = .ok (.iaload, 1) := by decide +kernel
theorem dX1_layCheapest_72 : decode cX1_layCheapest 72 = .ok (.aload_n 0, 1) := by decide +kernel
theorem dX1_layCheapest_73 : decode cX1_layCheapest 73 = .ok (.getfield 29, 3) := by decide +kernel
theorem dX1_layCheapest_76 : decode cX1_layCheapest 76 = .ok (.getfield 73, 3) := by decide +kernel
theorem dX1_layCheapest_79 : decode cX1_layCheapest 79 = .ok (.iload_n 1, 1) := by decide +kernel
theorem dX1_layCheapest_80 : decode cX1_layCheapest 80 = .ok (.iaload, 1) := by decide +kernel
theorem dX1_layCheapest_81 : decode cX1_layCheapest 81 = .ok (.invokevirtual 90, 3) := by decide +kernel
theorem dX1_layCheapest_84 : decode cX1_layCheapest 84 = .ok (.istore 4, 2) := by decide +kernel
theorem dX1_layCheapest_86 : decode cX1_layCheapest 86 = .ok (.aload_n 0, 1) := by decide +kernel
theorem dX1_layCheapest_87 : decode cX1_layCheapest 87 = .ok (.iload_n 3, 1) := by decide +kernel
theorem dX1_layCheapest_88 : decode cX1_layCheapest 88 = .ok (.iload_n 1, 1) := by decide +kernel
theorem dX1_layCheapest_89 : decode cX1_layCheapest 89 = .ok (.invokevirtual 94, 3) := by decide +kernel
theorem dX1_layCheapest_92 : decode cX1_layCheapest 92 = .ok (.aload_n 0, 1) := by decide +kernel
theorem dX1_layCheapest_93 : decode cX1_layCheapest 93 = .ok (.iload_n 1, 1) := by decide +kernel
theorem dX1_layCheapest_94 : decode cX1_layCheapest 94 = .ok (.iconst 1, 1) := by decide +kernel
theorem dX1_layCheapest_95 : decode cX1_layCheapest 95 = .ok (.iadd, 1) := by decide +kernel
theorem dX1_layCheapest_96 : decode cX1_layCheapest 96 = .ok (.iload_n 2, 1) := by decide +kernel
theorem dX1_layCheapest_97 : decode cX1_layCheapest 97 = .ok (.iload 4, 2) := by decide +kernel
theorem dX1_layCheapest_99 : decode cX1_layCheapest 99 = .ok (.iadd, 1) := by decide +kernel
theorem dX1_layCheapest_100 : decode cX1_layCheapest 100 = .ok (.invokestatic 46, 3) := by decide +kernel
theorem dX1_layCheapest_103 : decode cX1_layCheapest 103 = .ok (.aload_n 0, 1) := by decide +kernel
theorem dX1_layCheapest_104 : decode cX1_layCheapest 104 = .ok (.getfield 25, 3) := by decide +kernel
theorem dX1_layCheapest_107 : decode cX1_layCheapest 107 = .ok (.iload_n 3, 1) := by decide +kernel
theorem dX1_layCheapest_108 : decode cX1_layCheapest 108 = .ok (.aload_n 0, 1) := by decide +kernel
theorem dX1_layCheapest_109 : decode cX1_layCheapest 109 = .ok (.getfield 29, 3) := by decide +kernel
theorem dX1_layCheapest_112 : decode cX1_layCheapest 112 = .ok (.getfield 73, 3) := by decide +kernel
theorem dX1_layCheapest_115 : decode cX1_layCheapest 115 = .ok (.iload_n 1, 1) := by decide +kernel
theorem dX1_layCheapest_116 : decode cX1_layCheapest 116 = .ok (.iaload, 1) := by decide +kernel
theorem dX1_layCheapest_117 : decode cX1_layCheapest 117 = .ok (.invokevirtual 97, 3) := by decide +kernel
theorem dX1_layCheapest_120 : decode cX1_layCheapest 120 = .ok (.iinc 3 1, 3) := by decide +kernel
theorem dX1_layCheapest_123 : decode cX1_layCheapest 123 = .ok (.goto (-80), 3) := by decide +kernel
theorem dX1_layCheapest_126 : decode cX1_layCheapest 126 = .ok (.return_, 1) := by decide +kernel
theorem v_X1_layCheapest : yX1_layCheapest.cls = RX1 ∧ yX1_layCheapest.cls ≠ "java/lang/invoke/MethodHandle" ∧ yX1_layCheapest.cls ≠ "java/lang/invoke/VarHandle" ∧ (parseMethodDescriptor yX1_layCheapest.desc).map (fun d => d.parameters.length) = some 3 := ⟨rfl, by decide +kernel, by decide +kernel, by decide +kernel⟩
noncomputable def k_X1_layCheapest_19 (r : gb_F) (κ : gb_K) : gb_C := o_rv
theorem l_X1_layCheapest_19 (r : gb_F) : gb_Li (fun κ => k_X1_layCheapest_19 r κ) := (gb_li0 _)
theorem s_X1_layCheapest_19 {R : Room} {r : gb_F} {fr lo : Nat} (hr : (∀ l, gb_Met l yX1_layCheapest cX1_layCheapest 5 none 0 (gb_rm fr lo) r) ∧ fr + 1 ≤ R.frames ∧ 8 + (5 + 11) + lo ≤ R.locals) (hR : 4 ≤ R.frames ∧ 92 ≤ R.locals) {κ : gb_K} (hκ : ∀ q, gb_S RX1 cX1_layCheapest 5 R 0 q (κ q)) : gb_S RX1 cX1_layCheapest 5 R 0 19 (k_X1_layCheapest_19 r κ) := (s_rv rfl dX1_layCheapest_19)
noncomputable def k_X1_layCheapest_0 (r : gb_F) (κ : gb_K) : gb_C := (o_il 2 (o_al 0 (o_gf 1 5 (o_cge (k_X1_layCheapest_19 r κ) (o_il 1 (o_al 0 (o_gf 1 1 (o_gf 2 3 (o_cle (o_il 1 (o_al 0 (o_gf 1 1 (o_gf 2 3 (o_ceq (o_al 0 (o_il 2 (o_pf 1 5 (o_al 0 (o_cv 0 1 0 f_X1_takeWay o_rv))))) (o_ci 0 (o_is 3 (o_j [0, 1, 2, 3] (κ 43))))))))) (k_X1_layCheapest_19 r κ))))))))))
theorem l_X1_layCheapest_0 (r : gb_F) : gb_Li (fun κ => k_X1_layCheapest_0 r κ) := (gb_li (q_il 2) (gb_li (q_al 0) (gb_li (q_gf 1 5) (q_cge (l_X1_layCheapest_19 r) (gb_li (q_il 1) (gb_li (q_al 0) (gb_li (q_gf 1 1) (gb_li (q_gf 2 3) (q_cle (gb_li (q_il 1) (gb_li (q_al 0) (gb_li (q_gf 1 1) (gb_li (q_gf 2 3) (q_ceq (gb_li (q_al 0) (gb_li (q_il 2) (gb_li (q_pf 1 5) (gb_li (q_al 0) (gb_li (q_cv 0 1 0 f_X1_takeWay) (gb_li0 _)))))) (gb_li (q_ci 0) (gb_li (q_is 3) (q_j [0, 1, 2, 3] 43)))))))) (l_X1_layCheapest_19 r))))))))))
theorem s_X1_layCheapest_0 {R : Room} {r : gb_F} {fr lo : Nat} (hr : (∀ l, gb_Met l yX1_layCheapest cX1_layCheapest 5 none 0 (gb_rm fr lo) r) ∧ fr + 1 ≤ R.frames ∧ 8 + (5 + 11) + lo ≤ R.locals) (hR : 4 ≤ R.frames ∧ 92 ≤ R.locals) {κ : gb_K} (hκ : ∀ q, gb_S RX1 cX1_layCheapest 5 R 0 q (κ q)) : gb_S RX1 cX1_layCheapest 5 R 0 0 (k_X1_layCheapest_0 r κ) := (s_iln 2 rfl dX1_layCheapest_0 (s_aln 0 rfl dX1_layCheapest_1 (s_gf (T := TX1) winX1 rfl (Nat.le_of_ble_eq_true rfl) gw_101 rfl dX1_layCheapest_2 (s_cge (tgt := 19) (by decide +kernel) dX1_layCheapest_5 (s_X1_layCheapest_19 hr hR hκ) (s_iln 1 rfl dX1_layCheapest_8 (s_aln 0 rfl dX1_layCheapest_9 (s_gf (T := TX1) winX1 rfl (Nat.le_of_ble_eq_true rfl) gw_72 rfl dX1_layCheapest_10 (s_gf (T := TX2) winX2 rfl (Nat.le_of_ble_eq_true rfl) gw_80 rfl dX1_layCheapest_13 (s_cle (tgt := 20) (by decide +kernel) dX1_layCheapest_16 (s_iln 1 rfl dX1_layCheapest_20 (s_aln 0 rfl dX1_layCheapest_21 (s_gf (T := TX1) winX1 rfl (Nat.le_of_ble_eq_true rfl) gw_72 rfl dX1_layCheapest_22 (s_gf (T := TX2) winX2 rfl (Nat.le_of_ble_eq_true rfl) gw_80 rfl dX1_layCheapest_25 (s_cne (tgt := 41) (by decide +kernel) dX1_layCheapest_28 (s_iconst (by decide +kernel) dX1_layCheapest_41 (s_isn 3 rfl (Nat.le_of_ble_eq_true rfl) dX1_layCheapest_42 (s_j (hκ 43)))) (s_aln 0 rfl dX1_layCheapest_31 (s_iln 2 rfl dX1_layCheapest_32 (s_pf (T := TX1) winX1 rfl (Nat.le_of_ble_eq_true rfl) tyX1_ok nmX1 rfl (by decide +kernel) gw_101 rfl dX1_layCheapest_33 (s_aln 0 rfl dX1_layCheapest_36 (s_cv (C := RX1) c_X1_takeWay rfl (gb_l5 gw_102 gw_103 gw_104 gw_84 gw_105) v_X1_takeWay ⟨rfl, rfl⟩ ⟨Nat.le_trans (Nat.le_of_ble_eq_true rfl) hR.1, Nat.le_trans (Nat.le_of_ble_eq_true rfl) hR.2⟩ dX1_layCheapest_37 (s_rv rfl dX1_layCheapest_40))))))))))) (s_X1_layCheapest_19 hr hR hκ))))))))))
noncomputable def k_X1_layCheapest_120 (r : gb_F) (κ : gb_K) : gb_C := (o_inc 3 1 (o_j [0, 1, 2, 3] (κ 43)))
theorem l_X1_layCheapest_120 (r : gb_F) : gb_Li (fun κ => k_X1_layCheapest_120 r κ) := (gb_li (q_inc 3 1) (q_j [0, 1, 2, 3] 43))
theorem s_X1_layCheapest_120 {R : Room} {r : gb_F} {fr lo : Nat} (hr : (∀ l, gb_Met l yX1_layCheapest cX1_layCheapest 5 none 0 (gb_rm fr lo) r) ∧ fr + 1 ≤ R.frames ∧ 8 + (5 + 11) + lo ≤ R.locals) (hR : 4 ≤ R.frames ∧ 92 ≤ R.locals) {κ : gb_K} (hκ : ∀ q, gb_S RX1 cX1_layCheapest 5 R 0 q (κ q)) : gb_S RX1 cX1_layCheapest 5 R 0 120 (k_X1_layCheapest_120 r κ) := (s_inc (by decide +kernel) (Nat.le_of_ble_eq_true rfl) dX1_layCheapest_120 (s_goto (tgt := 43) (by decide +kernel) dX1_layCheapest_123 (s_j (hκ 43))))
noncomputable def k_X1_layCheapest_95 (r : gb_F) (κ : gb_K) : gb_C := (o_ib (fun x y => x + y) (o_il 2 (o_il 4 (o_ib (fun x y => x + y) (o_cs 3 0 r (o_al 0 (o_gf 1 0 (o_il 3 (o_al 0 (o_gf 1 1 (o_gf 2 1 (o_il 1 (o_iald (o_cv 2 7 0 f_X7_unlay (k_X1_layCheapest_120 r κ)))))))))))))))
theorem l_X1_layCheapest_95 (r : gb_F) : gb_Li (fun κ => k_X1_layCheapest_95 r κ) := (gb_li (q_ib _) (gb_li (q_il 2) (gb_li (q_il 4) (gb_li (q_ib _) (gb_li (q_cs 3 0 r) (gb_li (q_al 0) (gb_li (q_gf 1 0) (gb_li (q_il 3) (gb_li (q_al 0) (gb_li (q_gf 1 1) (gb_li (q_gf 2 1) (gb_li (q_il 1) (gb_li q_iald (gb_li (q_cv 2 7 0 f_X7_unlay) (l_X1_layCheapest_120 r)))))))))))))))
theorem s_X1_layCheapest_95 {R : Room} {r : gb_F} {fr lo : Nat} (hr : (∀ l, gb_Met l yX1_layCheapest cX1_layCheapest 5 none 0 (gb_rm fr lo) r) ∧ fr + 1 ≤ R.frames ∧ 8 + (5 + 11) + lo ≤ R.locals) (hR : 4 ≤ R.frames ∧ 92 ≤ R.locals) {κ : gb_K} (hκ : ∀ q, gb_S RX1 cX1_layCheapest 5 R 0 q (κ q)) : gb_S RX1 cX1_layCheapest 5 R 0 95 (k_X1_layCheapest_95 r κ) := (s_iadd dX1_layCheapest_95 (s_iln 2 rfl dX1_layCheapest_96 (s_il dX1_layCheapest_97 (s_iadd dX1_layCheapest_99 (s_cs hr.1 (gb_l4 gw_106 gw_107 gw_84 gw_108) v_X1_layCheapest.2 ⟨rfl, rfl⟩ ⟨hr.2.1, hr.2.2⟩ dX1_layCheapest_100 (s_aln 0 rfl dX1_layCheapest_103 (s_gf (T := TX1) winX1 rfl (Nat.le_of_ble_eq_true rfl) gw_54 rfl dX1_layCheapest_104 (s_iln 3 rfl dX1_layCheapest_107 (s_aln 0 rfl dX1_layCheapest_108 (s_gf (T := TX1) winX1 rfl (Nat.le_of_ble_eq_true rfl) gw_72 rfl dX1_layCheapest_109 (s_gf (T := TX2) winX2 rfl (Nat.le_of_ble_eq_true rfl) gw_74 rfl dX1_layCheapest_112 (s_iln 1 rfl dX1_layCheapest_115 (s_iald dX1_layCheapest_116 (s_cv (C := RX7) c_X7_unlay rfl (gb_l5 gw_109 gw_110 gw_111 gw_11 gw_112) v_X7_unlay ⟨rfl, rfl⟩ ⟨Nat.le_trans (Nat.le_of_ble_eq_true rfl) hR.1, Nat.le_trans (Nat.le_of_ble_eq_true rfl) hR.2⟩ dX1_layCheapest_117 (s_X1_layCheapest_120 hr hR hκ)))))))))))))))
noncomputable def k_X1_layCheapest_43 (r : gb_F) (κ : gb_K) : gb_C := (o_il 3 (o_ci 6 (o_cge o_rv (o_al 0 (o_il 3 (o_il 1 (o_cv 2 1 2 f_X1_mayLie (o_zeq (k_X1_layCheapest_120 r κ) (o_al 0 (o_gf 1 0 (o_il 3 (o_al 0 (o_gf 1 1 (o_gf 2 0 (o_il 1 (o_iald (o_al 0 (o_gf 1 1 (o_gf 2 1 (o_il 1 (o_iald (o_cv 3 7 1 f_X7_growth (o_is 4 (o_al 0 (o_il 3 (o_il 1 (o_cv 2 1 0 f_X1_lay (o_al 0 (o_il 1 (o_ci 1 (k_X1_layCheapest_95 r κ)))))))))))))))))))))))))))))))
theorem l_X1_layCheapest_43 (r : gb_F) : gb_Li (fun κ => k_X1_layCheapest_43 r κ) := (gb_li (q_il 3) (gb_li (q_ci 6) (q_cge (gb_li0 _) (gb_li (q_al 0) (gb_li (q_il 3) (gb_li (q_il 1) (gb_li (q_cv 2 1 2 f_X1_mayLie) (q_zeq (l_X1_layCheapest_120 r) (gb_li (q_al 0) (gb_li (q_gf 1 0) (gb_li (q_il 3) (gb_li (q_al 0) (gb_li (q_gf 1 1) (gb_li (q_gf 2 0) (gb_li (q_il 1) (gb_li q_iald (gb_li (q_al 0) (gb_li (q_gf 1 1) (gb_li (q_gf 2 1) (gb_li (q_il 1) (gb_li q_iald (gb_li (q_cv 3 7 1 f_X7_growth) (gb_li (q_is 4) (gb_li (q_al 0) (gb_li (q_il 3) (gb_li (q_il 1) (gb_li (q_cv 2 1 0 f_X1_lay) (gb_li (q_al 0) (gb_li (q_il 1) (gb_li (q_ci 1) (l_X1_layCheapest_95 r)))))))))))))))))))))))))))))))
theorem s_X1_layCheapest_43 {R : Room} {r : gb_F} {fr lo : Nat} (hr : (∀ l, gb_Met l yX1_layCheapest cX1_layCheapest 5 none 0 (gb_rm fr lo) r) ∧ fr + 1 ≤ R.frames ∧ 8 + (5 + 11) + lo ≤ R.locals) (hR : 4 ≤ R.frames ∧ 92 ≤ R.locals) {κ : gb_K} (hκ : ∀ q, gb_S RX1 cX1_layCheapest 5 R 0 q (κ q)) : gb_S RX1 cX1_layCheapest 5 R 0 43 (k_X1_layCheapest_43 r κ) := (s_iln 3 rfl dX1_layCheapest_43 (s_bipush (by decide +kernel) dX1_layCheapest_44 (s_cge (tgt := 126) (by decide +kernel) dX1_layCheapest_46 (s_rv rfl dX1_layCheapest_126) (s_aln 0 rfl dX1_layCheapest_49 (s_iln 3 rfl dX1_layCheapest_50 (s_iln 1 rfl dX1_layCheapest_51 (s_cv (C := RX1) c_X1_mayLie rfl (gb_l5 gw_81 gw_82 gw_83 gw_84 gw_85) v_X1_mayLie ⟨rfl, rfl⟩ ⟨Nat.le_trans (Nat.le_of_ble_eq_true rfl) hR.1, Nat.le_trans (Nat.le_of_ble_eq_true rfl) hR.2⟩ dX1_layCheapest_52 (s_zeq (tgt := 120) (by decide +kernel) dX1_layCheapest_55 (s_X1_layCheapest_120 hr hR hκ) (s_aln 0 rfl dX1_layCheapest_58 (s_gf (T := TX1) winX1 rfl (Nat.le_of_ble_eq_true rfl) gw_54 rfl dX1_layCheapest_59 (s_iln 3 rfl dX1_layCheapest_62 (s_aln 0 rfl dX1_layCheapest_63 (s_gf (T := TX1) winX1 rfl (Nat.le_of_ble_eq_true rfl) gw_72 rfl dX1_layCheapest_64 (s_gf (T := TX2) winX2 rfl (Nat.le_of_ble_eq_true rfl) gw_73 rfl dX1_layCheapest_67 (s_iln 1 rfl dX1_layCheapest_70 (s_iald dX1_layCheapest_71 (s_aln 0 rfl dX1_layCheapest_72 (s_gf (T := TX1) winX1 rfl (Nat.le_of_ble_eq_true rfl) gw_72 rfl dX1_layCheapest_73 (s_gf (T := TX2) winX2 rfl (Nat.le_of_ble_eq_true rfl) gw_74 rfl dX1_layCheapest_76 (s_iln 1 rfl dX1_layCheapest_79 (s_iald dX1_layCheapest_80 (s_cv (C := RX7) c_X7_growth rfl (gb_l5 gw_113 gw_114 gw_115 gw_11 gw_116) v_X7_growth ⟨rfl, rfl⟩ ⟨Nat.le_trans (Nat.le_of_ble_eq_true rfl) hR.1, Nat.le_trans (Nat.le_of_ble_eq_true rfl) hR.2⟩ dX1_layCheapest_81 (s_is (Nat.le_of_ble_eq_true rfl) dX1_layCheapest_84 (s_aln 0 rfl dX1_layCheapest_86 (s_iln 3 rfl dX1_layCheapest_87 (s_iln 1 rfl dX1_layCheapest_88 (s_cv (C := RX1) c_X1_lay rfl (gb_l5 gw_117 gw_118 gw_119 gw_84 gw_120) v_X1_lay ⟨rfl, rfl⟩ ⟨Nat.le_trans (Nat.le_of_ble_eq_true rfl) hR.1, Nat.le_trans (Nat.le_of_ble_eq_true rfl) hR.2⟩ dX1_layCheapest_89 (s_aln 0 rfl dX1_layCheapest_92 (s_iln 1 rfl dX1_layCheapest_93 (s_iconst (by decide +kernel) dX1_layCheapest_94 (s_X1_layCheapest_95 hr hR hκ)))))))))))))))))))))))))))))))
noncomputable def B_X1_layCheapest (r : gb_F) : List (Nat × (gb_K → gb_C)) := [(43, fun κ => k_X1_layCheapest_43 r κ)]
noncomputable def K_X1_layCheapest (r : gb_F) : gb_K := gb_fx (gb_tb (B_X1_layCheapest r))
theorem L_X1_layCheapest (r : gb_F) : ∀ q, gb_Li (fun κ => gb_tb (B_X1_layCheapest r) κ q) := gb_tb_li (List.forall_mem_cons.mpr ⟨l_X1_layCheapest_43 r, (fun _ h => absurd h List.not_mem_nil)⟩)
theorem S_X1_layCheapest {R : Room} {r : gb_F} {fr lo : Nat} (hr : (∀ l, gb_Met l yX1_layCheapest cX1_layCheapest 5 none 0 (gb_rm fr lo) r) ∧ fr + 1 ≤ R.frames ∧ 8 + (5 + 11) + lo ≤ R.locals) (hR : 4 ≤ R.frames ∧ 92 ≤ R.locals) : ∀ q, gb_S RX1 cX1_layCheapest 5 R 0 q (K_X1_layCheapest r q) := fun q => gb_fx_S (L_X1_layCheapest r) (gb_tb_S (List.forall_mem_cons.mpr ⟨fun κ hκ => s_X1_layCheapest_43 hr hR hκ, (fun _ h => absurd h List.not_mem_nil)⟩)) q
noncomputable def g_X1_layCheapest : Nat → gb_F
  | 0 => fun _ _ => none
  | n + 1 => gb_mf 5 (k_X1_layCheapest_0 (g_X1_layCheapest n) (K_X1_layCheapest (g_X1_layCheapest n)))
theorem h_X1_layCheapest : ∀ (n : Nat) l, gb_Met l yX1_layCheapest cX1_layCheapest 5 none 0 (gb_rm (4 + n) (92 + 24 * n)) (g_X1_layCheapest n)
  | 0 => gb_met0
  | n + 1 => gb_met (own := RX1) (rk := 0) rfl (by decide +kernel) ⟨rfl, rfl⟩ (s_X1_layCheapest_0 ⟨h_X1_layCheapest n, by show _ ≤ _ + (n + 1); omega, by show _ ≤ _ + 24 * (n + 1); omega⟩ ⟨by show _ ≤ _ + (n + 1); omega, by show _ ≤ _ + 24 * (n + 1); omega⟩ (S_X1_layCheapest ⟨h_X1_layCheapest n, by show _ ≤ _ + (n + 1); omega, by show _ ≤ _ + 24 * (n + 1); omega⟩ ⟨by show _ ≤ _ + (n + 1); omega, by show _ ≤ _ + 24 * (n + 1); omega⟩))
noncomputable def f_X1_layCheapest : gb_F := gb_hide (g_X1_layCheapest 8)
theorem c_X1_layCheapest : ∀ l, gb_Met l yX1_layCheapest cX1_layCheapest 5 none 0 (gb_rm 12 284) f_X1_layCheapest := gb_hide_c (h_X1_layCheapest 8)
theorem dX1_leastGrowth_0 : decode cX1_leastGrowth 0 = .ok (.aload_n 0, 1) := by decide +kernel
theorem dX1_leastGrowth_1 : decode cX1_leastGrowth 1 = .ok (.aload_n 1, 1) := by decide +kernel
theorem dX1_leastGrowth_2 : decode cX1_leastGrowth 2 = .ok (.iload_n 2, 1) := by decide +kernel
theorem dX1_leastGrowth_3 : decode cX1_leastGrowth 3 = .ok (.invokevirtual 33, 3) := by decide +kernel
theorem dX1_leastGrowth_6 : decode cX1_leastGrowth 6 = .ok (.aload_n 0, 1) := by decide +kernel
theorem dX1_leastGrowth_7 : decode cX1_leastGrowth 7 = .ok (.ldc 37, 2) := by decide +kernel
theorem dX1_leastGrowth_9 : decode cX1_leastGrowth 9 = .ok (.putfield 38, 3) := by decide +kernel
theorem dX1_leastGrowth_12 : decode cX1_leastGrowth 12 = .ok (.aload_n 0, 1) := by decide +kernel
theorem dX1_leastGrowth_13 : decode cX1_leastGrowth 13 = .ok (.invokevirtual 42, 3) := by decide +kernel
theorem dX1_leastGrowth_16 : decode cX1_leastGrowth 16 = .ok (.ifCond .eq 9, 3) := by decide +kernel
theorem dX1_leastGrowth_19 : decode cX1_leastGrowth 19 = .ok (.aload_n 0, 1) := by decide +kernel
theorem dX1_leastGrowth_20 : decode cX1_leastGrowth 20 = .ok (.iconst 0, 1) := by decide +kernel
theorem dX1_leastGrowth_21 : decode cX1_leastGrowth 21 = .ok (.iconst 0, 1) := by decide +kernel
theorem dX1_leastGrowth_22 : decode cX1_leastGrowth 22 = .ok (.invokestatic 46, 3) := by decide +kernel
theorem dX1_leastGrowth_25 : decode cX1_leastGrowth 25 = .ok (.aload_n 0, 1) := by decide +kernel
theorem dX1_leastGrowth_26 : decode cX1_leastGrowth 26 = .ok (.getfield 38, 3) := by decide +kernel
theorem dX1_leastGrowth_29 : decode cX1_leastGrowth 29 = .ok (.ldc 37, 2) := by decide +kernel
theorem dX1_leastGrowth_31 : decode cX1_leastGrowth 31 = .ok (.if_icmp .ge 10, 3) := by decide +kernel
theorem dX1_leastGrowth_34 : decode cX1_leastGrowth 34 = .ok (.aload_n 0, 1) := by decide +kernel
theorem dX1_leastGrowth_35 : decode cX1_leastGrowth 35 = .ok (.getfield 38, 3) := by decide +kernel
theorem dX1_leastGrowth_38 : decode cX1_leastGrowth 38 = .ok (.goto 4, 3) := by decide +kernel
theorem dX1_leastGrowth_41 : decode cX1_leastGrowth 41 = .ok (.iconst (-1), 1) := by decide +kernel
theorem dX1_leastGrowth_42 : decode cX1_leastGrowth 42 = .ok (.ireturn, 1) := by decide +kernel
theorem v_X1_leastGrowth : yX1_leastGrowth.cls = RX1 ∧ yX1_leastGrowth.cls ≠ "java/lang/invoke/MethodHandle" ∧ yX1_leastGrowth.cls ≠ "java/lang/invoke/VarHandle" ∧ (parseMethodDescriptor yX1_leastGrowth.desc).map (fun d => d.parameters.length) = some 2 := ⟨rfl, by decide +kernel, by decide +kernel, by decide +kernel⟩
noncomputable def k_X1_leastGrowth_42 (κ : gb_K) : gb_C := o_ri
theorem l_X1_leastGrowth_42 : gb_Li (fun κ => k_X1_leastGrowth_42 κ) := (gb_li0 _)
theorem s_X1_leastGrowth_42   {κ : gb_K} (hκ : ∀ q, gb_S RX1 cX1_leastGrowth 3 (gb_rm 13 308) 1 q (κ q)) : gb_S RX1 cX1_leastGrowth 3 (gb_rm 13 308) 1 42 (k_X1_leastGrowth_42 κ) := (s_ri rfl dX1_leastGrowth_42)
noncomputable def k_X1_leastGrowth_25 (κ : gb_K) : gb_C := (o_al 0 (o_gf 1 5 (o_ci 1000000000 (o_cge (o_ci (-1) (k_X1_leastGrowth_42 κ)) (o_al 0 (o_gf 1 5 (k_X1_leastGrowth_42 κ)))))))
theorem l_X1_leastGrowth_25 : gb_Li (fun κ => k_X1_leastGrowth_25 κ) := (gb_li (q_al 0) (gb_li (q_gf 1 5) (gb_li (q_ci 1000000000) (q_cge (gb_li (q_ci (-1)) (l_X1_leastGrowth_42)) (gb_li (q_al 0) (gb_li (q_gf 1 5) (l_X1_leastGrowth_42)))))))
theorem s_X1_leastGrowth_25   {κ : gb_K} (hκ : ∀ q, gb_S RX1 cX1_leastGrowth 3 (gb_rm 13 308) 1 q (κ q)) : gb_S RX1 cX1_leastGrowth 3 (gb_rm 13 308) 1 25 (k_X1_leastGrowth_25 κ) := (s_aln 0 rfl dX1_leastGrowth_25 (s_gf (T := TX1) winX1 rfl (Nat.le_of_ble_eq_true rfl) gw_101 rfl dX1_leastGrowth_26 (s_ldc gw_121 dX1_leastGrowth_29 (s_cge (tgt := 41) (by decide +kernel) dX1_leastGrowth_31 (s_iconst (by decide +kernel) dX1_leastGrowth_41 (s_X1_leastGrowth_42 hκ)) (s_aln 0 rfl dX1_leastGrowth_34 (s_gf (T := TX1) winX1 rfl (Nat.le_of_ble_eq_true rfl) gw_101 rfl dX1_leastGrowth_35 (s_goto (tgt := 42) (by decide +kernel) dX1_leastGrowth_38 (s_X1_leastGrowth_42 hκ))))))))
noncomputable def k_X1_leastGrowth_0 (κ : gb_K) : gb_C := (o_al 0 (o_al 1 (o_il 2 (o_cv 2 1 0 f_X1_start (o_al 0 (o_ci 1000000000 (o_pf 1 5 (o_al 0 (o_cv 0 1 2 f_X1_mightLie (o_zeq (k_X1_leastGrowth_25 κ) (o_al 0 (o_ci 0 (o_ci 0 (o_cs 3 0 f_X1_layCheapest (k_X1_leastGrowth_25 κ)))))))))))))))
theorem l_X1_leastGrowth_0 : gb_Li (fun κ => k_X1_leastGrowth_0 κ) := (gb_li (q_al 0) (gb_li (q_al 1) (gb_li (q_il 2) (gb_li (q_cv 2 1 0 f_X1_start) (gb_li (q_al 0) (gb_li (q_ci 1000000000) (gb_li (q_pf 1 5) (gb_li (q_al 0) (gb_li (q_cv 0 1 2 f_X1_mightLie) (q_zeq (l_X1_leastGrowth_25) (gb_li (q_al 0) (gb_li (q_ci 0) (gb_li (q_ci 0) (gb_li (q_cs 3 0 f_X1_layCheapest) (l_X1_leastGrowth_25)))))))))))))))
theorem s_X1_leastGrowth_0   {κ : gb_K} (hκ : ∀ q, gb_S RX1 cX1_leastGrowth 3 (gb_rm 13 308) 1 q (κ q)) : gb_S RX1 cX1_leastGrowth 3 (gb_rm 13 308) 1 0 (k_X1_leastGrowth_0 κ) := (s_aln 0 rfl dX1_leastGrowth_0 (s_aln 1 rfl dX1_leastGrowth_1 (s_iln 2 rfl dX1_leastGrowth_2 (s_cv (C := RX1) c_X1_start rfl (gb_l5 gw_122 gw_123 gw_124 gw_84 gw_125) v_X1_start ⟨rfl, rfl⟩ ⟨Nat.le_of_ble_eq_true rfl, Nat.le_of_ble_eq_true rfl⟩ dX1_leastGrowth_3 (s_aln 0 rfl dX1_leastGrowth_6 (s_ldc gw_121 dX1_leastGrowth_7 (s_pf (T := TX1) winX1 rfl (Nat.le_of_ble_eq_true rfl) tyX1_ok nmX1 rfl (by decide +kernel) gw_101 rfl dX1_leastGrowth_9 (s_aln 0 rfl dX1_leastGrowth_12 (s_cv (C := RX1) c_X1_mightLie rfl (gb_l5 gw_126 gw_127 gw_128 gw_84 gw_129) v_X1_mightLie ⟨rfl, rfl⟩ ⟨Nat.le_of_ble_eq_true rfl, Nat.le_of_ble_eq_true rfl⟩ dX1_leastGrowth_13 (s_zeq (tgt := 25) (by decide +kernel) dX1_leastGrowth_16 (s_X1_leastGrowth_25 hκ) (s_aln 0 rfl dX1_leastGrowth_19 (s_iconst (by decide +kernel) dX1_leastGrowth_20 (s_iconst (by decide +kernel) dX1_leastGrowth_21 (s_cs c_X1_layCheapest (gb_l4 gw_106 gw_107 gw_84 gw_108) v_X1_layCheapest.2 ⟨rfl, rfl⟩ ⟨Nat.le_of_ble_eq_true rfl, Nat.le_of_ble_eq_true rfl⟩ dX1_leastGrowth_22 (s_X1_leastGrowth_25 hκ)))))))))))))))
noncomputable def f_X1_leastGrowth : gb_F := gb_hide (gb_mf 3 (k_X1_leastGrowth_0 gb_n))
theorem c_X1_leastGrowth : ∀ l, gb_Met l yX1_leastGrowth cX1_leastGrowth 3 (some .int) 1 (gb_rm 13 308) f_X1_leastGrowth := gb_hide_c (gb_met (own := RX1) (rk := 1) rfl (by decide +kernel) ⟨rfl, rfl⟩ (s_X1_leastGrowth_0 gb_S_n))
theorem dJ6_bitCount_0f7a4_0 : decode cJ6_bitCount_0f7a4 0 = .ok (.iload_n 0, 1) := by decide +kernel
theorem dJ6_bitCount_0f7a4_1 : decode cJ6_bitCount_0f7a4 1 = .ok (.iload_n 0, 1) := by decide +kernel
theorem dJ6_bitCount_0f7a4_2 : decode cJ6_bitCount_0f7a4 2 = .ok (.iconst 1, 1) := by decide +kernel
theorem dJ6_bitCount_0f7a4_3 : decode cJ6_bitCount_0f7a4 3 = .ok (.iushr, 1) := by decide +kernel
theorem dJ6_bitCount_0f7a4_4 : decode cJ6_bitCount_0f7a4 4 = .ok (.ldc_w 265, 3) := by decide +kernel
theorem dJ6_bitCount_0f7a4_7 : decode cJ6_bitCount_0f7a4 7 = .ok (.iand, 1) := by decide +kernel
theorem dJ6_bitCount_0f7a4_8 : decode cJ6_bitCount_0f7a4 8 = .ok (.isub, 1) := by decide +kernel
theorem dJ6_bitCount_0f7a4_9 : decode cJ6_bitCount_0f7a4 9 = .ok (.istore_n 0, 1) := by decide +kernel
theorem dJ6_bitCount_0f7a4_10 : decode cJ6_bitCount_0f7a4 10 = .ok (.iload_n 0, 1) := by decide +kernel
theorem dJ6_bitCount_0f7a4_11 : decode cJ6_bitCount_0f7a4 11 = .ok (.ldc_w 266, 3) := by decide +kernel
theorem dJ6_bitCount_0f7a4_14 : decode cJ6_bitCount_0f7a4 14 = .ok (.iand, 1) := by decide +kernel
theorem dJ6_bitCount_0f7a4_15 : decode cJ6_bitCount_0f7a4 15 = .ok (.iload_n 0, 1) := by decide +kernel
theorem dJ6_bitCount_0f7a4_16 : decode cJ6_bitCount_0f7a4 16 = .ok (.iconst 2, 1) := by decide +kernel
theorem dJ6_bitCount_0f7a4_17 : decode cJ6_bitCount_0f7a4 17 = .ok (.iushr, 1) := by decide +kernel
theorem dJ6_bitCount_0f7a4_18 : decode cJ6_bitCount_0f7a4 18 = .ok (.ldc_w 266, 3) := by decide +kernel
theorem dJ6_bitCount_0f7a4_21 : decode cJ6_bitCount_0f7a4 21 = .ok (.iand, 1) := by decide +kernel
theorem dJ6_bitCount_0f7a4_22 : decode cJ6_bitCount_0f7a4 22 = .ok (.iadd, 1) := by decide +kernel
theorem dJ6_bitCount_0f7a4_23 : decode cJ6_bitCount_0f7a4 23 = .ok (.istore_n 0, 1) := by decide +kernel
theorem dJ6_bitCount_0f7a4_24 : decode cJ6_bitCount_0f7a4 24 = .ok (.iload_n 0, 1) := by decide +kernel
theorem dJ6_bitCount_0f7a4_25 : decode cJ6_bitCount_0f7a4 25 = .ok (.iload_n 0, 1) := by decide +kernel
theorem dJ6_bitCount_0f7a4_26 : decode cJ6_bitCount_0f7a4 26 = .ok (.iconst 4, 1) := by decide +kernel
theorem dJ6_bitCount_0f7a4_27 : decode cJ6_bitCount_0f7a4 27 = .ok (.iushr, 1) := by decide +kernel
theorem dJ6_bitCount_0f7a4_28 : decode cJ6_bitCount_0f7a4 28 = .ok (.iadd, 1) := by decide +kernel
theorem dJ6_bitCount_0f7a4_29 : decode cJ6_bitCount_0f7a4 29 = .ok (.ldc_w 267, 3) := by decide +kernel
theorem dJ6_bitCount_0f7a4_32 : decode cJ6_bitCount_0f7a4 32 = .ok (.iand, 1) := by decide +kernel
theorem dJ6_bitCount_0f7a4_33 : decode cJ6_bitCount_0f7a4 33 = .ok (.istore_n 0, 1) := by decide +kernel
theorem dJ6_bitCount_0f7a4_34 : decode cJ6_bitCount_0f7a4 34 = .ok (.iload_n 0, 1) := by decide +kernel
theorem dJ6_bitCount_0f7a4_35 : decode cJ6_bitCount_0f7a4 35 = .ok (.iload_n 0, 1) := by decide +kernel
theorem dJ6_bitCount_0f7a4_36 : decode cJ6_bitCount_0f7a4 36 = .ok (.bipush 8, 2) := by decide +kernel
theorem dJ6_bitCount_0f7a4_38 : decode cJ6_bitCount_0f7a4 38 = .ok (.iushr, 1) := by decide +kernel
theorem dJ6_bitCount_0f7a4_39 : decode cJ6_bitCount_0f7a4 39 = .ok (.iadd, 1) := by decide +kernel
theorem dJ6_bitCount_0f7a4_40 : decode cJ6_bitCount_0f7a4 40 = .ok (.istore_n 0, 1) := by decide +kernel
theorem dJ6_bitCount_0f7a4_41 : decode cJ6_bitCount_0f7a4 41 = .ok (.iload_n 0, 1) := by decide +kernel
theorem dJ6_bitCount_0f7a4_42 : decode cJ6_bitCount_0f7a4 42 = .ok (.iload_n 0, 1) := by decide +kernel
theorem dJ6_bitCount_0f7a4_43 : decode cJ6_bitCount_0f7a4 43 = .ok (.bipush 16, 2) := by decide +kernel
theorem dJ6_bitCount_0f7a4_45 : decode cJ6_bitCount_0f7a4 45 = .ok (.iushr, 1) := by decide +kernel
theorem dJ6_bitCount_0f7a4_46 : decode cJ6_bitCount_0f7a4 46 = .ok (.iadd, 1) := by decide +kernel
theorem dJ6_bitCount_0f7a4_47 : decode cJ6_bitCount_0f7a4 47 = .ok (.istore_n 0, 1) := by decide +kernel
theorem dJ6_bitCount_0f7a4_48 : decode cJ6_bitCount_0f7a4 48 = .ok (.iload_n 0, 1) := by decide +kernel
theorem dJ6_bitCount_0f7a4_49 : decode cJ6_bitCount_0f7a4 49 = .ok (.bipush 63, 2) := by decide +kernel
theorem dJ6_bitCount_0f7a4_51 : decode cJ6_bitCount_0f7a4 51 = .ok (.iand, 1) := by decide +kernel
theorem dJ6_bitCount_0f7a4_52 : decode cJ6_bitCount_0f7a4 52 = .ok (.ireturn, 1) := by decide +kernel
theorem v_J6_bitCount_0f7a4 : yJ6_bitCount_0f7a4.cls = RJ6 ∧ yJ6_bitCount_0f7a4.cls ≠ "java/lang/invoke/MethodHandle" ∧ yJ6_bitCount_0f7a4.cls ≠ "java/lang/invoke/VarHandle" ∧ (parseMethodDescriptor yJ6_bitCount_0f7a4.desc).map (fun d => d.parameters.length) = some 1 := ⟨rfl, by decide +kernel, by decide +kernel, by decide +kernel⟩
noncomputable def k_J6_bitCount_0f7a4_39 (κ : gb_K) : gb_C := (o_ib (fun x y => x + y) (o_is 0 (o_il 0 (o_il 0 (o_ci 16 (o_ib (fun x y => (x.toUInt32 >>> (y.toUInt32 &&& Int32.toUInt32 31)).toInt32) (o_ib (fun x y => x + y) (o_is 0 (o_il 0 (o_ci 63 (o_ib (fun x y => x &&& y) o_ri)))))))))))
theorem l_J6_bitCount_0f7a4_39 : gb_Li (fun κ => k_J6_bitCount_0f7a4_39 κ) := (gb_li (q_ib _) (gb_li (q_is 0) (gb_li (q_il 0) (gb_li (q_il 0) (gb_li (q_ci 16) (gb_li (q_ib _) (gb_li (q_ib _) (gb_li (q_is 0) (gb_li (q_il 0) (gb_li (q_ci 63) (gb_li (q_ib _) (gb_li0 _))))))))))))
theorem s_J6_bitCount_0f7a4_39   {κ : gb_K} (hκ : ∀ q, gb_S RJ6 cJ6_bitCount_0f7a4 1 (gb_rm 0 0) 1 q (κ q)) : gb_S RJ6 cJ6_bitCount_0f7a4 1 (gb_rm 0 0) 1 39 (k_J6_bitCount_0f7a4_39 κ) := (s_iadd dJ6_bitCount_0f7a4_39 (s_isn 0 rfl (Nat.le_of_ble_eq_true rfl) dJ6_bitCount_0f7a4_40 (s_iln 0 rfl dJ6_bitCount_0f7a4_41 (s_iln 0 rfl dJ6_bitCount_0f7a4_42 (s_bipush (by decide +kernel) dJ6_bitCount_0f7a4_43 (s_iushr dJ6_bitCount_0f7a4_45 (s_iadd dJ6_bitCount_0f7a4_46 (s_isn 0 rfl (Nat.le_of_ble_eq_true rfl) dJ6_bitCount_0f7a4_47 (s_iln 0 rfl dJ6_bitCount_0f7a4_48 (s_bipush (by decide +kernel) dJ6_bitCount_0f7a4_49 (s_iand dJ6_bitCount_0f7a4_51 (s_ri rfl dJ6_bitCount_0f7a4_52))))))))))))
noncomputable def k_J6_bitCount_0f7a4_0 (κ : gb_K) : gb_C := (o_il 0 (o_il 0 (o_ci 1 (o_ib (fun x y => (x.toUInt32 >>> (y.toUInt32 &&& Int32.toUInt32 31)).toInt32) (o_ci 1431655765 (o_ib (fun x y => x &&& y) (o_ib (fun x y => x - y) (o_is 0 (o_il 0 (o_ci 858993459 (o_ib (fun x y => x &&& y) (o_il 0 (o_ci 2 (o_ib (fun x y => (x.toUInt32 >>> (y.toUInt32 &&& Int32.toUInt32 31)).toInt32) (o_ci 858993459 (o_ib (fun x y => x &&& y) (o_ib (fun x y => x + y) (o_is 0 (o_il 0 (o_il 0 (o_ci 4 (o_ib (fun x y => (x.toUInt32 >>> (y.toUInt32 &&& Int32.toUInt32 31)).toInt32) (o_ib (fun x y => x + y) (o_ci 252645135 (o_ib (fun x y => x &&& y) (o_is 0 (o_il 0 (o_il 0 (o_ci 8 (o_ib (fun x y => (x.toUInt32 >>> (y.toUInt32 &&& Int32.toUInt32 31)).toInt32) (k_J6_bitCount_0f7a4_39 κ)))))))))))))))))))))))))))))))
theorem l_J6_bitCount_0f7a4_0 : gb_Li (fun κ => k_J6_bitCount_0f7a4_0 κ) := (gb_li (q_il 0) (gb_li (q_il 0) (gb_li (q_ci 1) (gb_li (q_ib _) (gb_li (q_ci 1431655765) (gb_li (q_ib _) (gb_li (q_ib _) (gb_li (q_is 0) (gb_li (q_il 0) (gb_li (q_ci 858993459) (gb_li (q_ib _) (gb_li (q_il 0) (gb_li (q_ci 2) (gb_li (q_ib _) (gb_li (q_ci 858993459) (gb_li (q_ib _) (gb_li (q_ib _) (gb_li (q_is 0) (gb_li (q_il 0) (gb_li (q_il 0) (gb_li (q_ci 4) (gb_li (q_ib _) (gb_li (q_ib _) (gb_li (q_ci 252645135) (gb_li (q_ib _) (gb_li (q_is 0) (gb_li (q_il 0) (gb_li (q_il 0) (gb_li (q_ci 8) (gb_li (q_ib _) (l_J6_bitCount_0f7a4_39)))))))))))))))))))))))))))))))
theorem s_J6_bitCount_0f7a4_0   {κ : gb_K} (hκ : ∀ q, gb_S RJ6 cJ6_bitCount_0f7a4 1 (gb_rm 0 0) 1 q (κ q)) : gb_S RJ6 cJ6_bitCount_0f7a4 1 (gb_rm 0 0) 1 0 (k_J6_bitCount_0f7a4_0 κ) := (s_iln 0 rfl dJ6_bitCount_0f7a4_0 (s_iln 0 rfl dJ6_bitCount_0f7a4_1 (s_iconst (by decide +kernel) dJ6_bitCount_0f7a4_2 (s_iushr dJ6_bitCount_0f7a4_3 (s_ldcw gw_130 dJ6_bitCount_0f7a4_4 (s_iand dJ6_bitCount_0f7a4_7 (s_isub dJ6_bitCount_0f7a4_8 (s_isn 0 rfl (Nat.le_of_ble_eq_true rfl) dJ6_bitCount_0f7a4_9 (s_iln 0 rfl dJ6_bitCount_0f7a4_10 (s_ldcw gw_131 dJ6_bitCount_0f7a4_11 (s_iand dJ6_bitCount_0f7a4_14 (s_iln 0 rfl dJ6_bitCount_0f7a4_15 (s_iconst (by decide +kernel) dJ6_bitCount_0f7a4_16 (s_iushr dJ6_bitCount_0f7a4_17 (s_ldcw gw_131 dJ6_bitCount_0f7a4_18 (s_iand dJ6_bitCount_0f7a4_21 (s_iadd dJ6_bitCount_0f7a4_22 (s_isn 0 rfl (Nat.le_of_ble_eq_true rfl) dJ6_bitCount_0f7a4_23 (s_iln 0 rfl dJ6_bitCount_0f7a4_24 (s_iln 0 rfl dJ6_bitCount_0f7a4_25 (s_iconst (by decide +kernel) dJ6_bitCount_0f7a4_26 (s_iushr dJ6_bitCount_0f7a4_27 (s_iadd dJ6_bitCount_0f7a4_28 (s_ldcw gw_132 dJ6_bitCount_0f7a4_29 (s_iand dJ6_bitCount_0f7a4_32 (s_isn 0 rfl (Nat.le_of_ble_eq_true rfl) dJ6_bitCount_0f7a4_33 (s_iln 0 rfl dJ6_bitCount_0f7a4_34 (s_iln 0 rfl dJ6_bitCount_0f7a4_35 (s_bipush (by decide +kernel) dJ6_bitCount_0f7a4_36 (s_iushr dJ6_bitCount_0f7a4_38 (s_J6_bitCount_0f7a4_39 hκ)))))))))))))))))))))))))))))))
noncomputable def f_J6_bitCount_0f7a4 : gb_F := gb_hide (gb_mf 1 (k_J6_bitCount_0f7a4_0 gb_n))
theorem c_J6_bitCount_0f7a4 : ∀ l, gb_Met l yJ6_bitCount_0f7a4 cJ6_bitCount_0f7a4 1 (some .int) 1 (gb_rm 0 0) f_J6_bitCount_0f7a4 := gb_hide_c (gb_met (own := RJ6) (rk := 1) rfl (by decide +kernel) ⟨rfl, rfl⟩ (s_J6_bitCount_0f7a4_0 gb_S_n))
theorem dX1_isFewer_0 : decode cX1_isFewer 0 = .ok (.aload_n 0, 1) := by decide +kernel
theorem dX1_isFewer_1 : decode cX1_isFewer 1 = .ok (.getfield 50, 3) := by decide +kernel
theorem dX1_isFewer_4 : decode cX1_isFewer 4 = .ok (.ifCond .ge 5, 3) := by decide +kernel
theorem dX1_isFewer_7 : decode cX1_isFewer 7 = .ok (.iconst 1, 1) := by decide +kernel
theorem dX1_isFewer_8 : decode cX1_isFewer 8 = .ok (.ireturn, 1) := by decide +kernel
theorem dX1_isFewer_9 : decode cX1_isFewer 9 = .ok (.iload_n 1, 1) := by decide +kernel
theorem dX1_isFewer_10 : decode cX1_isFewer 10 = .ok (.invokestatic 104, 3) := by decide +kernel
theorem dX1_isFewer_13 : decode cX1_isFewer 13 = .ok (.aload_n 0, 1) := by decide +kernel
theorem dX1_isFewer_14 : decode cX1_isFewer 14 = .ok (.getfield 50, 3) := by decide +kernel
theorem dX1_isFewer_17 : decode cX1_isFewer 17 = .ok (.invokestatic 104, 3) := by decide +kernel
theorem dX1_isFewer_20 : decode cX1_isFewer 20 = .ok (.isub, 1) := by decide +kernel
theorem dX1_isFewer_21 : decode cX1_isFewer 21 = .ok (.istore_n 2, 1) := by decide +kernel
theorem dX1_isFewer_22 : decode cX1_isFewer 22 = .ok (.iload_n 2, 1) := by decide +kernel
theorem dX1_isFewer_23 : decode cX1_isFewer 23 = .ok (.ifCond .lt 15, 3) := by decide +kernel
theorem dX1_isFewer_26 : decode cX1_isFewer 26 = .ok (.iload_n 2, 1) := by decide +kernel
theorem dX1_isFewer_27 : decode cX1_isFewer 27 = .ok (.ifCond .ne 15, 3) := by decide +kernel
theorem dX1_isFewer_30 : decode cX1_isFewer 30 = .ok (.iload_n 1, 1) := by decide +kernel
theorem dX1_isFewer_31 : decode cX1_isFewer 31 = .ok (.aload_n 0, 1) := by decide +kernel
theorem dX1_isFewer_32 : decode cX1_isFewer 32 = .ok (.getfield 50, 3) := by decide +kernel
theorem dX1_isFewer_35 : decode cX1_isFewer 35 = .ok (.if_icmp .ge 7, 3) := by decide +kernel
theorem dX1_isFewer_38 : decode cX1_isFewer 38 = .ok (.iconst 1, 1) := by decide +kernel
theorem dX1_isFewer_39 : decode cX1_isFewer 39 = .ok (.goto 4, 3) := by decide +kernel
theorem dX1_isFewer_42 : decode cX1_isFewer 42 = .ok (.iconst 0, 1) := by decide +kernel
theorem dX1_isFewer_43 : decode cX1_isFewer 43 = .ok (.ireturn, 1) := by decide +kernel
theorem v_X1_isFewer : yX1_isFewer.cls = RX1 ∧ yX1_isFewer.cls ≠ "java/lang/invoke/MethodHandle" ∧ yX1_isFewer.cls ≠ "java/lang/invoke/VarHandle" ∧ (parseMethodDescriptor yX1_isFewer.desc).map (fun d => d.parameters.length) = some 1 := ⟨rfl, by decide +kernel, by decide +kernel, by decide +kernel⟩
noncomputable def k_X1_isFewer_43 (κ : gb_K) : gb_C := o_rz
theorem l_X1_isFewer_43 : gb_Li (fun κ => k_X1_isFewer_43 κ) := (gb_li0 _)
theorem s_X1_isFewer_43   {κ : gb_K} (hκ : ∀ q, gb_S RX1 cX1_isFewer 3 (gb_rm 1 20) 2 q (κ q)) : gb_S RX1 cX1_isFewer 3 (gb_rm 1 20) 2 43 (k_X1_isFewer_43 κ) := (s_rz rfl dX1_isFewer_43)
noncomputable def k_X1_isFewer_38 (κ : gb_K) : gb_C := (o_ci 1 (k_X1_isFewer_43 κ))
theorem l_X1_isFewer_38 : gb_Li (fun κ => k_X1_isFewer_38 κ) := (gb_li (q_ci 1) (l_X1_isFewer_43))
theorem s_X1_isFewer_38   {κ : gb_K} (hκ : ∀ q, gb_S RX1 cX1_isFewer 3 (gb_rm 1 20) 2 q (κ q)) : gb_S RX1 cX1_isFewer 3 (gb_rm 1 20) 2 38 (k_X1_isFewer_38 κ) := (s_iconst (by decide +kernel) dX1_isFewer_38 (s_goto (tgt := 43) (by decide +kernel) dX1_isFewer_39 (s_X1_isFewer_43 hκ)))
noncomputable def k_X1_isFewer_42 (κ : gb_K) : gb_C := (o_ci 0 (k_X1_isFewer_43 κ))
theorem l_X1_isFewer_42 : gb_Li (fun κ => k_X1_isFewer_42 κ) := (gb_li (q_ci 0) (l_X1_isFewer_43))
theorem s_X1_isFewer_42   {κ : gb_K} (hκ : ∀ q, gb_S RX1 cX1_isFewer 3 (gb_rm 1 20) 2 q (κ q)) : gb_S RX1 cX1_isFewer 3 (gb_rm 1 20) 2 42 (k_X1_isFewer_42 κ) := (s_iconst (by decide +kernel) dX1_isFewer_42 (s_X1_isFewer_43 hκ))
noncomputable def k_X1_isFewer_0 (κ : gb_K) : gb_C := (o_al 0 (o_gf 1 6 (o_zge (o_il 1 (o_cs 1 1 f_J6_bitCount_0f7a4 (o_al 0 (o_gf 1 6 (o_cs 1 1 f_J6_bitCount_0f7a4 (o_ib (fun x y => x - y) (o_is 2 (o_il 2 (o_zlt (k_X1_isFewer_38 κ) (o_il 2 (o_zeq (o_il 1 (o_al 0 (o_gf 1 6 (o_cge (k_X1_isFewer_42 κ) (k_X1_isFewer_38 κ))))) (k_X1_isFewer_42 κ)))))))))))) (o_ci 1 o_rz))))
theorem l_X1_isFewer_0 : gb_Li (fun κ => k_X1_isFewer_0 κ) := (gb_li (q_al 0) (gb_li (q_gf 1 6) (q_zge (gb_li (q_il 1) (gb_li (q_cs 1 1 f_J6_bitCount_0f7a4) (gb_li (q_al 0) (gb_li (q_gf 1 6) (gb_li (q_cs 1 1 f_J6_bitCount_0f7a4) (gb_li (q_ib _) (gb_li (q_is 2) (gb_li (q_il 2) (q_zlt (l_X1_isFewer_38) (gb_li (q_il 2) (q_zeq (gb_li (q_il 1) (gb_li (q_al 0) (gb_li (q_gf 1 6) (q_cge (l_X1_isFewer_42) (l_X1_isFewer_38))))) (l_X1_isFewer_42)))))))))))) (gb_li (q_ci 1) (gb_li0 _)))))
theorem s_X1_isFewer_0   {κ : gb_K} (hκ : ∀ q, gb_S RX1 cX1_isFewer 3 (gb_rm 1 20) 2 q (κ q)) : gb_S RX1 cX1_isFewer 3 (gb_rm 1 20) 2 0 (k_X1_isFewer_0 κ) := (s_aln 0 rfl dX1_isFewer_0 (s_gf (T := TX1) winX1 rfl (Nat.le_of_ble_eq_true rfl) gw_133 rfl dX1_isFewer_1 (s_zge (tgt := 9) (by decide +kernel) dX1_isFewer_4 (s_iln 1 rfl dX1_isFewer_9 (s_cs c_J6_bitCount_0f7a4 (gb_l4 gw_134 gw_135 gw_136 gw_137) v_J6_bitCount_0f7a4.2 ⟨rfl, rfl⟩ ⟨Nat.le_of_ble_eq_true rfl, Nat.le_of_ble_eq_true rfl⟩ dX1_isFewer_10 (s_aln 0 rfl dX1_isFewer_13 (s_gf (T := TX1) winX1 rfl (Nat.le_of_ble_eq_true rfl) gw_133 rfl dX1_isFewer_14 (s_cs c_J6_bitCount_0f7a4 (gb_l4 gw_134 gw_135 gw_136 gw_137) v_J6_bitCount_0f7a4.2 ⟨rfl, rfl⟩ ⟨Nat.le_of_ble_eq_true rfl, Nat.le_of_ble_eq_true rfl⟩ dX1_isFewer_17 (s_isub dX1_isFewer_20 (s_isn 2 rfl (Nat.le_of_ble_eq_true rfl) dX1_isFewer_21 (s_iln 2 rfl dX1_isFewer_22 (s_zlt (tgt := 38) (by decide +kernel) dX1_isFewer_23 (s_X1_isFewer_38 hκ) (s_iln 2 rfl dX1_isFewer_26 (s_zne (tgt := 42) (by decide +kernel) dX1_isFewer_27 (s_X1_isFewer_42 hκ) (s_iln 1 rfl dX1_isFewer_30 (s_aln 0 rfl dX1_isFewer_31 (s_gf (T := TX1) winX1 rfl (Nat.le_of_ble_eq_true rfl) gw_133 rfl dX1_isFewer_32 (s_cge (tgt := 42) (by decide +kernel) dX1_isFewer_35 (s_X1_isFewer_42 hκ) (s_X1_isFewer_38 hκ)))))))))))))))) (s_iconst (by decide +kernel) dX1_isFewer_7 (s_rz rfl dX1_isFewer_8)))))
noncomputable def f_X1_isFewer : gb_F := gb_hide (gb_mf 3 (k_X1_isFewer_0 gb_n))
theorem c_X1_isFewer : ∀ l, gb_Met l yX1_isFewer cX1_isFewer 3 (some .boolean) 2 (gb_rm 1 20) f_X1_isFewer := gb_hide_c (gb_met (own := RX1) (rk := 2) rfl (by decide +kernel) ⟨rfl, rfl⟩ (s_X1_isFewer_0 gb_S_n))
theorem dX1_layFewest_0 : decode cX1_layFewest 0 = .ok (.aload_n 0, 1) := by decide +kernel
theorem dX1_layFewest_1 : decode cX1_layFewest 1 = .ok (.iload_n 2, 1) := by decide +kernel
theorem dX1_layFewest_2 : decode cX1_layFewest 2 = .ok (.invokevirtual 100, 3) := by decide +kernel
theorem dX1_layFewest_5 : decode cX1_layFewest 5 = .ok (.ifCond .eq 14, 3) := by decide +kernel
theorem dX1_layFewest_8 : decode cX1_layFewest 8 = .ok (.iload_n 1, 1) := by decide +kernel
theorem dX1_layFewest_9 : decode cX1_layFewest 9 = .ok (.aload_n 0, 1) := by decide +kernel
theorem dX1_layFewest_10 : decode cX1_layFewest 10 = .ok (.getfield 29, 3) := by decide +kernel
theorem dX1_layFewest_13 : decode cX1_layFewest 13 = .ok (.getfield 63, 3) := by decide +kernel
theorem dX1_layFewest_16 : decode cX1_layFewest 16 = .ok (.if_icmp .le 4, 3) := by decide +kernel
theorem dX1_layFewest_19 : decode cX1_layFewest 19 = .ok (.return_, 1) := by decide +kernel
theorem dX1_layFewest_20 : decode cX1_layFewest 20 = .ok (.iload_n 1, 1) := by decide +kernel
theorem dX1_layFewest_21 : decode cX1_layFewest 21 = .ok (.aload_n 0, 1) := by decide +kernel
theorem dX1_layFewest_22 : decode cX1_layFewest 22 = .ok (.getfield 29, 3) := by decide +kernel
theorem dX1_layFewest_25 : decode cX1_layFewest 25 = .ok (.getfield 63, 3) := by decide +kernel
theorem dX1_layFewest_28 : decode cX1_layFewest 28 = .ok (.if_icmp .ne 9, 3) := by decide +kernel
theorem dX1_layFewest_31 : decode cX1_layFewest 31 = .ok (.aload_n 0, 1) := by decide +kernel
theorem dX1_layFewest_32 : decode cX1_layFewest 32 = .ok (.iload_n 2, 1) := by decide +kernel
theorem dX1_layFewest_33 : decode cX1_layFewest 33 = .ok (.putfield 50, 3) := by decide +kernel
theorem dX1_layFewest_36 : decode cX1_layFewest 36 = .ok (.return_, 1) := by decide +kernel
theorem dX1_layFewest_37 : decode cX1_layFewest 37 = .ok (.iconst 0, 1) := by decide +kernel
theorem dX1_layFewest_38 : decode cX1_layFewest 38 = .ok (.istore_n 3, 1) := by decide +kernel
theorem dX1_layFewest_39 : decode cX1_layFewest 39 = .ok (.iload_n 3, 1) := by decide +kernel
theorem dX1_layFewest_40 : decode cX1_layFewest 40 = .ok (.bipush 6, 2) := by decide +kernel
theorem dX1_layFewest_42 : decode cX1_layFewest 42 = .ok (.if_icmp .ge 53, 3) := by decide +kernel
theorem dX1_layFewest_45 : decode cX1_layFewest 45 = .ok (.aload_n 0, 1) := by decide +kernel
theorem dX1_layFewest_46 : decode cX1_layFewest 46 = .ok (.iload_n 3, 1) := by decide +kernel
theorem dX1_layFewest_47 : decode cX1_layFewest 47 = .ok (.iload_n 1, 1) := by decide +kernel
theorem dX1_layFewest_48 : decode cX1_layFewest 48 = .ok (.invokevirtual 66, 3) := by decide +kernel
theorem dX1_layFewest_51 : decode cX1_layFewest 51 = .ok (.ifCond .eq 38, 3) := by decide +kernel
theorem dX1_layFewest_54 : decode cX1_layFewest 54 = .ok (.aload_n 0, 1) := by decide +kernel
theorem dX1_layFewest_55 : decode cX1_layFewest 55 = .ok (.iload_n 3, 1) := by decide +kernel
theorem dX1_layFewest_56 : decode cX1_layFewest 56 = .ok (.iload_n 1, 1) := by decide +kernel
theorem dX1_layFewest_57 : decode cX1_layFewest 57 = .ok (.invokevirtual 94, 3) := by decide +kernel
theorem dX1_layFewest_60 : decode cX1_layFewest 60 = .ok (.aload_n 0, 1) := by decide +kernel
theorem dX1_layFewest_61 : decode cX1_layFewest 61 = .ok (.iload_n 1, 1) := by decide +kernel
theorem dX1_layFewest_62 : decode cX1_layFewest 62 = .ok (.iconst 1, 1) := by decide +kernel
theorem dX1_layFewest_63 : decode cX1_layFewest 63 = .ok (.iadd, 1) := by decide +kernel
theorem dX1_layFewest_64 : decode cX1_layFewest 64 = .ok (.iload_n 2, 1) := by decide +kernel
theorem dX1_layFewest_65 : decode cX1_layFewest 65 = .ok (.iconst 1, 1) := by decide +kernel
theorem dX1_layFewest_66 : decode cX1_layFewest 66 = .ok (.iload_n 3, 1) := by decide +kernel
theorem dX1_layFewest_67 : decode cX1_layFewest 67 = .ok (.ishl, 1) := by decide +kernel
theorem dX1_layFewest_68 : decode cX1_layFewest 68 = .ok (.ior, 1) := by decide +kernel
theorem dX1_layFewest_69 : decode cX1_layFewest 69 = .ok (.invokestatic 53, 3) := by decide +kernel
theorem dX1_layFewest_72 : decode cX1_layFewest 72 = .ok (.aload_n 0, 1) := by decide +kernel
theorem dX1_layFewest_73 : decode cX1_layFewest 73 = .ok (.getfield 25, 3) := by decide +kernel
theorem dX1_layFewest_76 : decode cX1_layFewest 76 = .ok (.iload_n 3, 1) := by decide +kernel
theorem dX1_layFewest_77 : decode cX1_layFewest 77 = .ok (.aload_n 0, 1) := by decide +kernel
theorem dX1_layFewest_78 : decode cX1_layFewest 78 = .ok (.getfield 29, 3) := by decide +kernel
theorem dX1_layFewest_81 : decode cX1_layFewest 81 = .ok (.getfield 73, 3) := by decide +kernel
theorem dX1_layFewest_84 : decode cX1_layFewest 84 = .ok (.iload_n 1, 1) := by decide +kernel
theorem dX1_layFewest_85 : decode cX1_layFewest 85 = .ok (.iaload, 1) := by decide +kernel
theorem dX1_layFewest_86 : decode cX1_layFewest 86 = .ok (.invokevirtual 97, 3) := by decide +kernel
theorem dX1_layFewest_89 : decode cX1_layFewest 89 = .ok (.iinc 3 1, 3) := by decide +kernel
theorem dX1_layFewest_92 : decode cX1_layFewest 92 = .ok (.goto (-53), 3) := by decide +kernel
theorem dX1_layFewest_95 : decode cX1_layFewest 95 = .ok (.return_, 1) := by decide +kernel
theorem v_X1_layFewest : yX1_layFewest.cls = RX1 ∧ yX1_layFewest.cls ≠ "java/lang/invoke/MethodHandle" ∧ yX1_layFewest.cls ≠ "java/lang/invoke/VarHandle" ∧ (parseMethodDescriptor yX1_layFewest.desc).map (fun d => d.parameters.length) = some 3 := ⟨rfl, by decide +kernel, by decide +kernel, by decide +kernel⟩
noncomputable def k_X1_layFewest_19 (r : gb_F) (κ : gb_K) : gb_C := o_rv
theorem l_X1_layFewest_19 (r : gb_F) : gb_Li (fun κ => k_X1_layFewest_19 r κ) := (gb_li0 _)
theorem s_X1_layFewest_19 {R : Room} {r : gb_F} {fr lo : Nat} (hr : (∀ l, gb_Met l yX1_layFewest cX1_layFewest 4 none 0 (gb_rm fr lo) r) ∧ fr + 1 ≤ R.frames ∧ 8 + (4 + 11) + lo ≤ R.locals) (hR : 4 ≤ R.frames ∧ 92 ≤ R.locals) {κ : gb_K} (hκ : ∀ q, gb_S RX1 cX1_layFewest 4 R 0 q (κ q)) : gb_S RX1 cX1_layFewest 4 R 0 19 (k_X1_layFewest_19 r κ) := (s_rv rfl dX1_layFewest_19)
noncomputable def k_X1_layFewest_0 (r : gb_F) (κ : gb_K) : gb_C := (o_al 0 (o_il 2 (o_cv 1 1 2 f_X1_isFewer (o_zeq (k_X1_layFewest_19 r κ) (o_il 1 (o_al 0 (o_gf 1 1 (o_gf 2 3 (o_cle (o_il 1 (o_al 0 (o_gf 1 1 (o_gf 2 3 (o_ceq (o_al 0 (o_il 2 (o_pf 1 6 o_rv))) (o_ci 0 (o_is 3 (o_j [0, 1, 2, 3] (κ 39))))))))) (k_X1_layFewest_19 r κ))))))))))
theorem l_X1_layFewest_0 (r : gb_F) : gb_Li (fun κ => k_X1_layFewest_0 r κ) := (gb_li (q_al 0) (gb_li (q_il 2) (gb_li (q_cv 1 1 2 f_X1_isFewer) (q_zeq (l_X1_layFewest_19 r) (gb_li (q_il 1) (gb_li (q_al 0) (gb_li (q_gf 1 1) (gb_li (q_gf 2 3) (q_cle (gb_li (q_il 1) (gb_li (q_al 0) (gb_li (q_gf 1 1) (gb_li (q_gf 2 3) (q_ceq (gb_li (q_al 0) (gb_li (q_il 2) (gb_li (q_pf 1 6) (gb_li0 _)))) (gb_li (q_ci 0) (gb_li (q_is 3) (q_j [0, 1, 2, 3] 39)))))))) (l_X1_layFewest_19 r))))))))))
theorem s_X1_layFewest_0 {R : Room} {r : gb_F} {fr lo : Nat} (hr : (∀ l, gb_Met l yX1_layFewest cX1_layFewest 4 none 0 (gb_rm fr lo) r) ∧ fr + 1 ≤ R.frames ∧ 8 + (4 + 11) + lo ≤ R.locals) (hR : 4 ≤ R.frames ∧ 92 ≤ R.locals) {κ : gb_K} (hκ : ∀ q, gb_S RX1 cX1_layFewest 4 R 0 q (κ q)) : gb_S RX1 cX1_layFewest 4 R 0 0 (k_X1_layFewest_0 r κ) := (s_aln 0 rfl dX1_layFewest_0 (s_iln 2 rfl dX1_layFewest_1 (s_cv (C := RX1) c_X1_isFewer rfl (gb_l5 gw_138 gw_139 gw_140 gw_84 gw_141) v_X1_isFewer ⟨rfl, rfl⟩ ⟨Nat.le_trans (Nat.le_of_ble_eq_true rfl) hR.1, Nat.le_trans (Nat.le_of_ble_eq_true rfl) hR.2⟩ dX1_layFewest_2 (s_zeq (tgt := 19) (by decide +kernel) dX1_layFewest_5 (s_X1_layFewest_19 hr hR hκ) (s_iln 1 rfl dX1_layFewest_8 (s_aln 0 rfl dX1_layFewest_9 (s_gf (T := TX1) winX1 rfl (Nat.le_of_ble_eq_true rfl) gw_72 rfl dX1_layFewest_10 (s_gf (T := TX2) winX2 rfl (Nat.le_of_ble_eq_true rfl) gw_80 rfl dX1_layFewest_13 (s_cle (tgt := 20) (by decide +kernel) dX1_layFewest_16 (s_iln 1 rfl dX1_layFewest_20 (s_aln 0 rfl dX1_layFewest_21 (s_gf (T := TX1) winX1 rfl (Nat.le_of_ble_eq_true rfl) gw_72 rfl dX1_layFewest_22 (s_gf (T := TX2) winX2 rfl (Nat.le_of_ble_eq_true rfl) gw_80 rfl dX1_layFewest_25 (s_cne (tgt := 37) (by decide +kernel) dX1_layFewest_28 (s_iconst (by decide +kernel) dX1_layFewest_37 (s_isn 3 rfl (Nat.le_of_ble_eq_true rfl) dX1_layFewest_38 (s_j (hκ 39)))) (s_aln 0 rfl dX1_layFewest_31 (s_iln 2 rfl dX1_layFewest_32 (s_pf (T := TX1) winX1 rfl (Nat.le_of_ble_eq_true rfl) tyX1_ok nmX1 rfl (by decide +kernel) gw_133 rfl dX1_layFewest_33 (s_rv rfl dX1_layFewest_36))))))))) (s_X1_layFewest_19 hr hR hκ))))))))))
noncomputable def k_X1_layFewest_89 (r : gb_F) (κ : gb_K) : gb_C := (o_inc 3 1 (o_j [0, 1, 2, 3] (κ 39)))
theorem l_X1_layFewest_89 (r : gb_F) : gb_Li (fun κ => k_X1_layFewest_89 r κ) := (gb_li (q_inc 3 1) (q_j [0, 1, 2, 3] 39))
theorem s_X1_layFewest_89 {R : Room} {r : gb_F} {fr lo : Nat} (hr : (∀ l, gb_Met l yX1_layFewest cX1_layFewest 4 none 0 (gb_rm fr lo) r) ∧ fr + 1 ≤ R.frames ∧ 8 + (4 + 11) + lo ≤ R.locals) (hR : 4 ≤ R.frames ∧ 92 ≤ R.locals) {κ : gb_K} (hκ : ∀ q, gb_S RX1 cX1_layFewest 4 R 0 q (κ q)) : gb_S RX1 cX1_layFewest 4 R 0 89 (k_X1_layFewest_89 r κ) := (s_inc (by decide +kernel) (Nat.le_of_ble_eq_true rfl) dX1_layFewest_89 (s_goto (tgt := 39) (by decide +kernel) dX1_layFewest_92 (s_j (hκ 39))))
noncomputable def k_X1_layFewest_86 (r : gb_F) (κ : gb_K) : gb_C := (o_cv 2 7 0 f_X7_unlay (k_X1_layFewest_89 r κ))
theorem l_X1_layFewest_86 (r : gb_F) : gb_Li (fun κ => k_X1_layFewest_86 r κ) := (gb_li (q_cv 2 7 0 f_X7_unlay) (l_X1_layFewest_89 r))
theorem s_X1_layFewest_86 {R : Room} {r : gb_F} {fr lo : Nat} (hr : (∀ l, gb_Met l yX1_layFewest cX1_layFewest 4 none 0 (gb_rm fr lo) r) ∧ fr + 1 ≤ R.frames ∧ 8 + (4 + 11) + lo ≤ R.locals) (hR : 4 ≤ R.frames ∧ 92 ≤ R.locals) {κ : gb_K} (hκ : ∀ q, gb_S RX1 cX1_layFewest 4 R 0 q (κ q)) : gb_S RX1 cX1_layFewest 4 R 0 86 (k_X1_layFewest_86 r κ) := (s_cv (C := RX7) c_X7_unlay rfl (gb_l5 gw_109 gw_110 gw_111 gw_11 gw_112) v_X7_unlay ⟨rfl, rfl⟩ ⟨Nat.le_trans (Nat.le_of_ble_eq_true rfl) hR.1, Nat.le_trans (Nat.le_of_ble_eq_true rfl) hR.2⟩ dX1_layFewest_86 (s_X1_layFewest_89 hr hR hκ))
noncomputable def k_X1_layFewest_39 (r : gb_F) (κ : gb_K) : gb_C := (o_il 3 (o_ci 6 (o_cge o_rv (o_al 0 (o_il 3 (o_il 1 (o_cv 2 1 2 f_X1_mayLie (o_zeq (k_X1_layFewest_89 r κ) (o_al 0 (o_il 3 (o_il 1 (o_cv 2 1 0 f_X1_lay (o_al 0 (o_il 1 (o_ci 1 (o_ib (fun x y => x + y) (o_il 2 (o_ci 1 (o_il 3 (o_ib (fun x y => x <<< (y &&& 31)) (o_ib (fun x y => x ||| y) (o_cs 3 0 r (o_al 0 (o_gf 1 0 (o_il 3 (o_al 0 (o_gf 1 1 (o_gf 2 1 (o_il 1 (o_iald (k_X1_layFewest_86 r κ)))))))))))))))))))))))))))))))
theorem l_X1_layFewest_39 (r : gb_F) : gb_Li (fun κ => k_X1_layFewest_39 r κ) := (gb_li (q_il 3) (gb_li (q_ci 6) (q_cge (gb_li0 _) (gb_li (q_al 0) (gb_li (q_il 3) (gb_li (q_il 1) (gb_li (q_cv 2 1 2 f_X1_mayLie) (q_zeq (l_X1_layFewest_89 r) (gb_li (q_al 0) (gb_li (q_il 3) (gb_li (q_il 1) (gb_li (q_cv 2 1 0 f_X1_lay) (gb_li (q_al 0) (gb_li (q_il 1) (gb_li (q_ci 1) (gb_li (q_ib _) (gb_li (q_il 2) (gb_li (q_ci 1) (gb_li (q_il 3) (gb_li (q_ib _) (gb_li (q_ib _) (gb_li (q_cs 3 0 r) (gb_li (q_al 0) (gb_li (q_gf 1 0) (gb_li (q_il 3) (gb_li (q_al 0) (gb_li (q_gf 1 1) (gb_li (q_gf 2 1) (gb_li (q_il 1) (gb_li q_iald (l_X1_layFewest_86 r)))))))))))))))))))))))))))))))
theorem s_X1_layFewest_39 {R : Room} {r : gb_F} {fr lo : Nat} (hr : (∀ l, gb_Met l yX1_layFewest cX1_layFewest 4 none 0 (gb_rm fr lo) r) ∧ fr + 1 ≤ R.frames ∧ 8 + (4 + 11) + lo ≤ R.locals) (hR : 4 ≤ R.frames ∧ 92 ≤ R.locals) {κ : gb_K} (hκ : ∀ q, gb_S RX1 cX1_layFewest 4 R 0 q (κ q)) : gb_S RX1 cX1_layFewest 4 R 0 39 (k_X1_layFewest_39 r κ) := (s_iln 3 rfl dX1_layFewest_39 (s_bipush (by decide +kernel) dX1_layFewest_40 (s_cge (tgt := 95) (by decide +kernel) dX1_layFewest_42 (s_rv rfl dX1_layFewest_95) (s_aln 0 rfl dX1_layFewest_45 (s_iln 3 rfl dX1_layFewest_46 (s_iln 1 rfl dX1_layFewest_47 (s_cv (C := RX1) c_X1_mayLie rfl (gb_l5 gw_81 gw_82 gw_83 gw_84 gw_85) v_X1_mayLie ⟨rfl, rfl⟩ ⟨Nat.le_trans (Nat.le_of_ble_eq_true rfl) hR.1, Nat.le_trans (Nat.le_of_ble_eq_true rfl) hR.2⟩ dX1_layFewest_48 (s_zeq (tgt := 89) (by decide +kernel) dX1_layFewest_51 (s_X1_layFewest_89 hr hR hκ) (s_aln 0 rfl dX1_layFewest_54 (s_iln 3 rfl dX1_layFewest_55 (s_iln 1 rfl dX1_layFewest_56 (s_cv (C := RX1) c_X1_lay rfl (gb_l5 gw_117 gw_118 gw_119 gw_84 gw_120) v_X1_lay ⟨rfl, rfl⟩ ⟨Nat.le_trans (Nat.le_of_ble_eq_true rfl) hR.1, Nat.le_trans (Nat.le_of_ble_eq_true rfl) hR.2⟩ dX1_layFewest_57 (s_aln 0 rfl dX1_layFewest_60 (s_iln 1 rfl dX1_layFewest_61 (s_iconst (by decide +kernel) dX1_layFewest_62 (s_iadd dX1_layFewest_63 (s_iln 2 rfl dX1_layFewest_64 (s_iconst (by decide +kernel) dX1_layFewest_65 (s_iln 3 rfl dX1_layFewest_66 (s_ishl dX1_layFewest_67 (s_ior dX1_layFewest_68 (s_cs hr.1 (gb_l4 gw_142 gw_143 gw_84 gw_144) v_X1_layFewest.2 ⟨rfl, rfl⟩ ⟨hr.2.1, hr.2.2⟩ dX1_layFewest_69 (s_aln 0 rfl dX1_layFewest_72 (s_gf (T := TX1) winX1 rfl (Nat.le_of_ble_eq_true rfl) gw_54 rfl dX1_layFewest_73 (s_iln 3 rfl dX1_layFewest_76 (s_aln 0 rfl dX1_layFewest_77 (s_gf (T := TX1) winX1 rfl (Nat.le_of_ble_eq_true rfl) gw_72 rfl dX1_layFewest_78 (s_gf (T := TX2) winX2 rfl (Nat.le_of_ble_eq_true rfl) gw_74 rfl dX1_layFewest_81 (s_iln 1 rfl dX1_layFewest_84 (s_iald dX1_layFewest_85 (s_X1_layFewest_86 hr hR hκ)))))))))))))))))))))))))))))))
noncomputable def B_X1_layFewest (r : gb_F) : List (Nat × (gb_K → gb_C)) := [(39, fun κ => k_X1_layFewest_39 r κ)]
noncomputable def K_X1_layFewest (r : gb_F) : gb_K := gb_fx (gb_tb (B_X1_layFewest r))
theorem L_X1_layFewest (r : gb_F) : ∀ q, gb_Li (fun κ => gb_tb (B_X1_layFewest r) κ q) := gb_tb_li (List.forall_mem_cons.mpr ⟨l_X1_layFewest_39 r, (fun _ h => absurd h List.not_mem_nil)⟩)
theorem S_X1_layFewest {R : Room} {r : gb_F} {fr lo : Nat} (hr : (∀ l, gb_Met l yX1_layFewest cX1_layFewest 4 none 0 (gb_rm fr lo) r) ∧ fr + 1 ≤ R.frames ∧ 8 + (4 + 11) + lo ≤ R.locals) (hR : 4 ≤ R.frames ∧ 92 ≤ R.locals) : ∀ q, gb_S RX1 cX1_layFewest 4 R 0 q (K_X1_layFewest r q) := fun q => gb_fx_S (L_X1_layFewest r) (gb_tb_S (List.forall_mem_cons.mpr ⟨fun κ hκ => s_X1_layFewest_39 hr hR hκ, (fun _ h => absurd h List.not_mem_nil)⟩)) q
noncomputable def g_X1_layFewest : Nat → gb_F
  | 0 => fun _ _ => none
  | n + 1 => gb_mf 4 (k_X1_layFewest_0 (g_X1_layFewest n) (K_X1_layFewest (g_X1_layFewest n)))
theorem h_X1_layFewest : ∀ (n : Nat) l, gb_Met l yX1_layFewest cX1_layFewest 4 none 0 (gb_rm (4 + n) (92 + 23 * n)) (g_X1_layFewest n)
  | 0 => gb_met0
  | n + 1 => gb_met (own := RX1) (rk := 0) rfl (by decide +kernel) ⟨rfl, rfl⟩ (s_X1_layFewest_0 ⟨h_X1_layFewest n, by show _ ≤ _ + (n + 1); omega, by show _ ≤ _ + 23 * (n + 1); omega⟩ ⟨by show _ ≤ _ + (n + 1); omega, by show _ ≤ _ + 23 * (n + 1); omega⟩ (S_X1_layFewest ⟨h_X1_layFewest n, by show _ ≤ _ + (n + 1); omega, by show _ ≤ _ + 23 * (n + 1); omega⟩ ⟨by show _ ≤ _ + (n + 1); omega, by show _ ≤ _ + 23 * (n + 1); omega⟩))
noncomputable def f_X1_layFewest : gb_F := gb_hide (g_X1_layFewest 8)
theorem c_X1_layFewest : ∀ l, gb_Met l yX1_layFewest cX1_layFewest 4 none 0 (gb_rm 12 276) f_X1_layFewest := gb_hide_c (h_X1_layFewest 8)
theorem dX1_fewestBins_0 : decode cX1_fewestBins 0 = .ok (.aload_n 0, 1) := by decide +kernel
theorem dX1_fewestBins_1 : decode cX1_fewestBins 1 = .ok (.aload_n 1, 1) := by decide +kernel
theorem dX1_fewestBins_2 : decode cX1_fewestBins 2 = .ok (.iconst (-1), 1) := by decide +kernel
theorem dX1_fewestBins_3 : decode cX1_fewestBins 3 = .ok (.invokevirtual 33, 3) := by decide +kernel
theorem dX1_fewestBins_6 : decode cX1_fewestBins 6 = .ok (.aload_n 0, 1) := by decide +kernel
theorem dX1_fewestBins_7 : decode cX1_fewestBins 7 = .ok (.iconst (-1), 1) := by decide +kernel
theorem dX1_fewestBins_8 : decode cX1_fewestBins 8 = .ok (.putfield 50, 3) := by decide +kernel
theorem dX1_fewestBins_11 : decode cX1_fewestBins 11 = .ok (.aload_n 0, 1) := by decide +kernel
theorem dX1_fewestBins_12 : decode cX1_fewestBins 12 = .ok (.invokevirtual 42, 3) := by decide +kernel
theorem dX1_fewestBins_15 : decode cX1_fewestBins 15 = .ok (.ifCond .eq 9, 3) := by decide +kernel
theorem dX1_fewestBins_18 : decode cX1_fewestBins 18 = .ok (.aload_n 0, 1) := by decide +kernel
theorem dX1_fewestBins_19 : decode cX1_fewestBins 19 = .ok (.iconst 0, 1) := by decide +kernel
theorem dX1_fewestBins_20 : decode cX1_fewestBins 20 = .ok (.iconst 0, 1) := by decide +kernel
theorem dX1_fewestBins_21 : decode cX1_fewestBins 21 = .ok (.invokestatic 53, 3) := by decide +kernel
theorem dX1_fewestBins_24 : decode cX1_fewestBins 24 = .ok (.aload_n 0, 1) := by decide +kernel
theorem dX1_fewestBins_25 : decode cX1_fewestBins 25 = .ok (.getfield 50, 3) := by decide +kernel
theorem dX1_fewestBins_28 : decode cX1_fewestBins 28 = .ok (.ireturn, 1) := by decide +kernel
theorem v_X1_fewestBins : yX1_fewestBins.cls = RX1 ∧ yX1_fewestBins.cls ≠ "java/lang/invoke/MethodHandle" ∧ yX1_fewestBins.cls ≠ "java/lang/invoke/VarHandle" ∧ (parseMethodDescriptor yX1_fewestBins.desc).map (fun d => d.parameters.length) = some 1 := ⟨rfl, by decide +kernel, by decide +kernel, by decide +kernel⟩
noncomputable def k_X1_fewestBins_24 (κ : gb_K) : gb_C := (o_al 0 (o_gf 1 6 o_ri))
theorem l_X1_fewestBins_24 : gb_Li (fun κ => k_X1_fewestBins_24 κ) := (gb_li (q_al 0) (gb_li (q_gf 1 6) (gb_li0 _)))
theorem s_X1_fewestBins_24   {κ : gb_K} (hκ : ∀ q, gb_S RX1 cX1_fewestBins 2 (gb_rm 13 299) 1 q (κ q)) : gb_S RX1 cX1_fewestBins 2 (gb_rm 13 299) 1 24 (k_X1_fewestBins_24 κ) := (s_aln 0 rfl dX1_fewestBins_24 (s_gf (T := TX1) winX1 rfl (Nat.le_of_ble_eq_true rfl) gw_133 rfl dX1_fewestBins_25 (s_ri rfl dX1_fewestBins_28)))
noncomputable def k_X1_fewestBins_0 (κ : gb_K) : gb_C := (o_al 0 (o_al 1 (o_ci (-1) (o_cv 2 1 0 f_X1_start (o_al 0 (o_ci (-1) (o_pf 1 6 (o_al 0 (o_cv 0 1 2 f_X1_mightLie (o_zeq (k_X1_fewestBins_24 κ) (o_al 0 (o_ci 0 (o_ci 0 (o_cs 3 0 f_X1_layFewest (k_X1_fewestBins_24 κ)))))))))))))))
theorem l_X1_fewestBins_0 : gb_Li (fun κ => k_X1_fewestBins_0 κ) := (gb_li (q_al 0) (gb_li (q_al 1) (gb_li (q_ci (-1)) (gb_li (q_cv 2 1 0 f_X1_start) (gb_li (q_al 0) (gb_li (q_ci (-1)) (gb_li (q_pf 1 6) (gb_li (q_al 0) (gb_li (q_cv 0 1 2 f_X1_mightLie) (q_zeq (l_X1_fewestBins_24) (gb_li (q_al 0) (gb_li (q_ci 0) (gb_li (q_ci 0) (gb_li (q_cs 3 0 f_X1_layFewest) (l_X1_fewestBins_24)))))))))))))))
theorem s_X1_fewestBins_0   {κ : gb_K} (hκ : ∀ q, gb_S RX1 cX1_fewestBins 2 (gb_rm 13 299) 1 q (κ q)) : gb_S RX1 cX1_fewestBins 2 (gb_rm 13 299) 1 0 (k_X1_fewestBins_0 κ) := (s_aln 0 rfl dX1_fewestBins_0 (s_aln 1 rfl dX1_fewestBins_1 (s_iconst (by decide +kernel) dX1_fewestBins_2 (s_cv (C := RX1) c_X1_start rfl (gb_l5 gw_122 gw_123 gw_124 gw_84 gw_125) v_X1_start ⟨rfl, rfl⟩ ⟨Nat.le_of_ble_eq_true rfl, Nat.le_of_ble_eq_true rfl⟩ dX1_fewestBins_3 (s_aln 0 rfl dX1_fewestBins_6 (s_iconst (by decide +kernel) dX1_fewestBins_7 (s_pf (T := TX1) winX1 rfl (Nat.le_of_ble_eq_true rfl) tyX1_ok nmX1 rfl (by decide +kernel) gw_133 rfl dX1_fewestBins_8 (s_aln 0 rfl dX1_fewestBins_11 (s_cv (C := RX1) c_X1_mightLie rfl (gb_l5 gw_126 gw_127 gw_128 gw_84 gw_129) v_X1_mightLie ⟨rfl, rfl⟩ ⟨Nat.le_of_ble_eq_true rfl, Nat.le_of_ble_eq_true rfl⟩ dX1_fewestBins_12 (s_zeq (tgt := 24) (by decide +kernel) dX1_fewestBins_15 (s_X1_fewestBins_24 hκ) (s_aln 0 rfl dX1_fewestBins_18 (s_iconst (by decide +kernel) dX1_fewestBins_19 (s_iconst (by decide +kernel) dX1_fewestBins_20 (s_cs c_X1_layFewest (gb_l4 gw_142 gw_143 gw_84 gw_144) v_X1_layFewest.2 ⟨rfl, rfl⟩ ⟨Nat.le_of_ble_eq_true rfl, Nat.le_of_ble_eq_true rfl⟩ dX1_fewestBins_21 (s_X1_fewestBins_24 hκ)))))))))))))))
noncomputable def f_X1_fewestBins : gb_F := gb_hide (gb_mf 2 (k_X1_fewestBins_0 gb_n))
theorem c_X1_fewestBins : ∀ l, gb_Met l yX1_fewestBins cX1_fewestBins 2 (some .int) 1 (gb_rm 13 299) f_X1_fewestBins := gb_hide_c (gb_met (own := RX1) (rk := 1) rfl (by decide +kernel) ⟨rfl, rfl⟩ (s_X1_fewestBins_0 gb_S_n))
theorem dX8_ended_0 : decode cX8_ended 0 = .ok (.aload_n 0, 1) := by decide +kernel
theorem dX8_ended_1 : decode cX8_ended 1 = .ok (.getfield 19, 3) := by decide +kernel
theorem dX8_ended_4 : decode cX8_ended 4 = .ok (.aload_n 0, 1) := by decide +kernel
theorem dX8_ended_5 : decode cX8_ended 5 = .ok (.getfield 15, 3) := by decide +kernel
theorem dX8_ended_8 : decode cX8_ended 8 = .ok (.if_icmp .lt 7, 3) := by decide +kernel
theorem dX8_ended_11 : decode cX8_ended 11 = .ok (.iconst 1, 1) := by decide +kernel
theorem dX8_ended_12 : decode cX8_ended 12 = .ok (.goto 4, 3) := by decide +kernel
theorem dX8_ended_15 : decode cX8_ended 15 = .ok (.iconst 0, 1) := by decide +kernel
theorem dX8_ended_16 : decode cX8_ended 16 = .ok (.ireturn, 1) := by decide +kernel
theorem v_X8_ended : yX8_ended.cls = RX8 ∧ yX8_ended.cls ≠ "java/lang/invoke/MethodHandle" ∧ yX8_ended.cls ≠ "java/lang/invoke/VarHandle" ∧ (parseMethodDescriptor yX8_ended.desc).map (fun d => d.parameters.length) = some 0 := ⟨rfl, by decide +kernel, by decide +kernel, by decide +kernel⟩
noncomputable def k_X8_ended_16 (κ : gb_K) : gb_C := o_rz
theorem l_X8_ended_16 : gb_Li (fun κ => k_X8_ended_16 κ) := (gb_li0 _)
theorem s_X8_ended_16   {κ : gb_K} (hκ : ∀ q, gb_S RX8 cX8_ended 1 (gb_rm 0 0) 2 q (κ q)) : gb_S RX8 cX8_ended 1 (gb_rm 0 0) 2 16 (k_X8_ended_16 κ) := (s_rz rfl dX8_ended_16)
noncomputable def k_X8_ended_0 (κ : gb_K) : gb_C := (o_al 0 (o_gf 8 2 (o_al 0 (o_gf 8 1 (o_clt (o_ci 0 (k_X8_ended_16 κ)) (o_ci 1 (k_X8_ended_16 κ)))))))
theorem l_X8_ended_0 : gb_Li (fun κ => k_X8_ended_0 κ) := (gb_li (q_al 0) (gb_li (q_gf 8 2) (gb_li (q_al 0) (gb_li (q_gf 8 1) (q_clt (gb_li (q_ci 0) (l_X8_ended_16)) (gb_li (q_ci 1) (l_X8_ended_16)))))))
theorem s_X8_ended_0   {κ : gb_K} (hκ : ∀ q, gb_S RX8 cX8_ended 1 (gb_rm 0 0) 2 q (κ q)) : gb_S RX8 cX8_ended 1 (gb_rm 0 0) 2 0 (k_X8_ended_0 κ) := (s_aln 0 rfl dX8_ended_0 (s_gf (T := TX8) winX8 rfl (Nat.le_of_ble_eq_true rfl) gw_145 rfl dX8_ended_1 (s_aln 0 rfl dX8_ended_4 (s_gf (T := TX8) winX8 rfl (Nat.le_of_ble_eq_true rfl) gw_146 rfl dX8_ended_5 (s_clt (tgt := 15) (by decide +kernel) dX8_ended_8 (s_iconst (by decide +kernel) dX8_ended_15 (s_X8_ended_16 hκ)) (s_iconst (by decide +kernel) dX8_ended_11 (s_goto (tgt := 16) (by decide +kernel) dX8_ended_12 (s_X8_ended_16 hκ))))))))
noncomputable def f_X8_ended : gb_F := gb_hide (gb_mf 1 (k_X8_ended_0 gb_n))
theorem c_X8_ended : ∀ l, gb_Met l yX8_ended cX8_ended 1 (some .boolean) 2 (gb_rm 0 0) f_X8_ended := gb_hide_c (gb_met (own := RX8) (rk := 2) rfl (by decide +kernel) ⟨rfl, rfl⟩ (s_X8_ended_0 gb_S_n))
theorem dX8_newNumber_0 : decode cX8_newNumber 0 = .ok (.aload_n 0, 1) := by decide +kernel
theorem dX8_newNumber_1 : decode cX8_newNumber 1 = .ok (.invokevirtual 22, 3) := by decide +kernel
theorem dX8_newNumber_4 : decode cX8_newNumber 4 = .ok (.ifCond .ne 31, 3) := by decide +kernel
theorem dX8_newNumber_7 : decode cX8_newNumber 7 = .ok (.aload_n 0, 1) := by decide +kernel
theorem dX8_newNumber_8 : decode cX8_newNumber 8 = .ok (.getfield 11, 3) := by decide +kernel
theorem dX8_newNumber_11 : decode cX8_newNumber 11 = .ok (.aload_n 0, 1) := by decide +kernel
theorem dX8_newNumber_12 : decode cX8_newNumber 12 = .ok (.getfield 19, 3) := by decide +kernel
theorem dX8_newNumber_15 : decode cX8_newNumber 15 = .ok (.iaload, 1) := by decide +kernel
theorem dX8_newNumber_16 : decode cX8_newNumber 16 = .ok (.bipush 48, 2) := by decide +kernel
theorem dX8_newNumber_18 : decode cX8_newNumber 18 = .ok (.if_icmp .lt 17, 3) := by decide +kernel
theorem dX8_newNumber_21 : decode cX8_newNumber 21 = .ok (.aload_n 0, 1) := by decide +kernel
theorem dX8_newNumber_22 : decode cX8_newNumber 22 = .ok (.getfield 11, 3) := by decide +kernel
theorem dX8_newNumber_25 : decode cX8_newNumber 25 = .ok (.aload_n 0, 1) := by decide +kernel
theorem dX8_newNumber_26 : decode cX8_newNumber 26 = .ok (.getfield 19, 3) := by decide +kernel
theorem dX8_newNumber_29 : decode cX8_newNumber 29 = .ok (.iaload, 1) := by decide +kernel
theorem dX8_newNumber_30 : decode cX8_newNumber 30 = .ok (.bipush 54, 2) := by decide +kernel
theorem dX8_newNumber_32 : decode cX8_newNumber 32 = .ok (.if_icmp .lt 5, 3) := by decide +kernel
theorem dX8_newNumber_35 : decode cX8_newNumber 35 = .ok (.iconst (-1), 1) := by decide +kernel
theorem dX8_newNumber_36 : decode cX8_newNumber 36 = .ok (.ireturn, 1) := by decide +kernel
theorem dX8_newNumber_37 : decode cX8_newNumber 37 = .ok (.aload_n 0, 1) := by decide +kernel
theorem dX8_newNumber_38 : decode cX8_newNumber 38 = .ok (.getfield 11, 3) := by decide +kernel
theorem dX8_newNumber_41 : decode cX8_newNumber 41 = .ok (.aload_n 0, 1) := by decide +kernel
theorem dX8_newNumber_42 : decode cX8_newNumber 42 = .ok (.getfield 19, 3) := by decide +kernel
theorem dX8_newNumber_45 : decode cX8_newNumber 45 = .ok (.iaload, 1) := by decide +kernel
theorem dX8_newNumber_46 : decode cX8_newNumber 46 = .ok (.bipush 48, 2) := by decide +kernel
theorem dX8_newNumber_48 : decode cX8_newNumber 48 = .ok (.isub, 1) := by decide +kernel
theorem dX8_newNumber_49 : decode cX8_newNumber 49 = .ok (.istore_n 2, 1) := by decide +kernel
theorem dX8_newNumber_50 : decode cX8_newNumber 50 = .ok (.iload_n 1, 1) := by decide +kernel
theorem dX8_newNumber_51 : decode cX8_newNumber 51 = .ok (.iconst 1, 1) := by decide +kernel
theorem dX8_newNumber_52 : decode cX8_newNumber 52 = .ok (.iload_n 2, 1) := by decide +kernel
theorem dX8_newNumber_53 : decode cX8_newNumber 53 = .ok (.ishl, 1) := by decide +kernel
theorem dX8_newNumber_54 : decode cX8_newNumber 54 = .ok (.iand, 1) := by decide +kernel
theorem dX8_newNumber_55 : decode cX8_newNumber 55 = .ok (.ifCond .eq 5, 3) := by decide +kernel
theorem dX8_newNumber_58 : decode cX8_newNumber 58 = .ok (.iconst (-1), 1) := by decide +kernel
theorem dX8_newNumber_59 : decode cX8_newNumber 59 = .ok (.ireturn, 1) := by decide +kernel
theorem dX8_newNumber_60 : decode cX8_newNumber 60 = .ok (.aload_n 0, 1) := by decide +kernel
theorem dX8_newNumber_61 : decode cX8_newNumber 61 = .ok (.dup, 1) := by decide +kernel
theorem dX8_newNumber_62 : decode cX8_newNumber 62 = .ok (.getfield 19, 3) := by decide +kernel
theorem dX8_newNumber_65 : decode cX8_newNumber 65 = .ok (.iconst 1, 1) := by decide +kernel
theorem dX8_newNumber_66 : decode cX8_newNumber 66 = .ok (.iadd, 1) := by decide +kernel
theorem dX8_newNumber_67 : decode cX8_newNumber 67 = .ok (.putfield 19, 3) := by decide +kernel
theorem dX8_newNumber_70 : decode cX8_newNumber 70 = .ok (.iload_n 2, 1) := by decide +kernel
theorem dX8_newNumber_71 : decode cX8_newNumber 71 = .ok (.ireturn, 1) := by decide +kernel
theorem v_X8_newNumber : yX8_newNumber.cls = RX8 ∧ yX8_newNumber.cls ≠ "java/lang/invoke/MethodHandle" ∧ yX8_newNumber.cls ≠ "java/lang/invoke/VarHandle" ∧ (parseMethodDescriptor yX8_newNumber.desc).map (fun d => d.parameters.length) = some 1 := ⟨rfl, by decide +kernel, by decide +kernel, by decide +kernel⟩
noncomputable def k_X8_newNumber_35 (κ : gb_K) : gb_C := (o_ci (-1) o_ri)
theorem l_X8_newNumber_35 : gb_Li (fun κ => k_X8_newNumber_35 κ) := (gb_li (q_ci (-1)) (gb_li0 _))
theorem s_X8_newNumber_35   {κ : gb_K} (hκ : ∀ q, gb_S RX8 cX8_newNumber 3 (gb_rm 1 20) 1 q (κ q)) : gb_S RX8 cX8_newNumber 3 (gb_rm 1 20) 1 35 (k_X8_newNumber_35 κ) := (s_iconst (by decide +kernel) dX8_newNumber_35 (s_ri rfl dX8_newNumber_36))
noncomputable def k_X8_newNumber_55 (κ : gb_K) : gb_C := (o_zeq (o_al 0 (o_dup (o_gf 8 2 (o_ci 1 (o_ib (fun x y => x + y) (o_pf 8 2 (o_il 2 o_ri))))))) (o_ci (-1) o_ri))
theorem l_X8_newNumber_55 : gb_Li (fun κ => k_X8_newNumber_55 κ) := (q_zeq (gb_li (q_al 0) (gb_li q_dup (gb_li (q_gf 8 2) (gb_li (q_ci 1) (gb_li (q_ib _) (gb_li (q_pf 8 2) (gb_li (q_il 2) (gb_li0 _)))))))) (gb_li (q_ci (-1)) (gb_li0 _)))
theorem s_X8_newNumber_55   {κ : gb_K} (hκ : ∀ q, gb_S RX8 cX8_newNumber 3 (gb_rm 1 20) 1 q (κ q)) : gb_S RX8 cX8_newNumber 3 (gb_rm 1 20) 1 55 (k_X8_newNumber_55 κ) := (s_zeq (tgt := 60) (by decide +kernel) dX8_newNumber_55 (s_aln 0 rfl dX8_newNumber_60 (s_dup dX8_newNumber_61 (s_gf (T := TX8) winX8 rfl (Nat.le_of_ble_eq_true rfl) gw_145 rfl dX8_newNumber_62 (s_iconst (by decide +kernel) dX8_newNumber_65 (s_iadd dX8_newNumber_66 (s_pf (T := TX8) winX8 rfl (Nat.le_of_ble_eq_true rfl) tyX8_ok nmX8 rfl (by decide +kernel) gw_145 rfl dX8_newNumber_67 (s_iln 2 rfl dX8_newNumber_70 (s_ri rfl dX8_newNumber_71)))))))) (s_iconst (by decide +kernel) dX8_newNumber_58 (s_ri rfl dX8_newNumber_59)))
noncomputable def k_X8_newNumber_0 (κ : gb_K) : gb_C := (o_al 0 (o_cv 0 8 2 f_X8_ended (o_zeq (o_al 0 (o_gf 8 0 (o_al 0 (o_gf 8 2 (o_iald (o_ci 48 (o_clt (k_X8_newNumber_35 κ) (o_al 0 (o_gf 8 0 (o_al 0 (o_gf 8 2 (o_iald (o_ci 54 (o_clt (o_al 0 (o_gf 8 0 (o_al 0 (o_gf 8 2 (o_iald (o_ci 48 (o_ib (fun x y => x - y) (o_is 2 (o_il 1 (o_ci 1 (o_il 2 (o_ib (fun x y => x <<< (y &&& 31)) (o_ib (fun x y => x &&& y) (k_X8_newNumber_55 κ)))))))))))))) (k_X8_newNumber_35 κ))))))))))))))) (k_X8_newNumber_35 κ))))
theorem l_X8_newNumber_0 : gb_Li (fun κ => k_X8_newNumber_0 κ) := (gb_li (q_al 0) (gb_li (q_cv 0 8 2 f_X8_ended) (q_zeq (gb_li (q_al 0) (gb_li (q_gf 8 0) (gb_li (q_al 0) (gb_li (q_gf 8 2) (gb_li q_iald (gb_li (q_ci 48) (q_clt (l_X8_newNumber_35) (gb_li (q_al 0) (gb_li (q_gf 8 0) (gb_li (q_al 0) (gb_li (q_gf 8 2) (gb_li q_iald (gb_li (q_ci 54) (q_clt (gb_li (q_al 0) (gb_li (q_gf 8 0) (gb_li (q_al 0) (gb_li (q_gf 8 2) (gb_li q_iald (gb_li (q_ci 48) (gb_li (q_ib _) (gb_li (q_is 2) (gb_li (q_il 1) (gb_li (q_ci 1) (gb_li (q_il 2) (gb_li (q_ib _) (gb_li (q_ib _) (l_X8_newNumber_55)))))))))))))) (l_X8_newNumber_35))))))))))))))) (l_X8_newNumber_35))))
theorem s_X8_newNumber_0   {κ : gb_K} (hκ : ∀ q, gb_S RX8 cX8_newNumber 3 (gb_rm 1 20) 1 q (κ q)) : gb_S RX8 cX8_newNumber 3 (gb_rm 1 20) 1 0 (k_X8_newNumber_0 κ) := (s_aln 0 rfl dX8_newNumber_0 (s_cv (C := RX8) c_X8_ended rfl (gb_l5 gw_147 gw_148 gw_149 gw_150 gw_151) v_X8_ended ⟨rfl, rfl⟩ ⟨Nat.le_of_ble_eq_true rfl, Nat.le_of_ble_eq_true rfl⟩ dX8_newNumber_1 (s_zne (tgt := 35) (by decide +kernel) dX8_newNumber_4 (s_X8_newNumber_35 hκ) (s_aln 0 rfl dX8_newNumber_7 (s_gf (T := TX8) winX8 rfl (Nat.le_of_ble_eq_true rfl) gw_152 rfl dX8_newNumber_8 (s_aln 0 rfl dX8_newNumber_11 (s_gf (T := TX8) winX8 rfl (Nat.le_of_ble_eq_true rfl) gw_145 rfl dX8_newNumber_12 (s_iald dX8_newNumber_15 (s_bipush (by decide +kernel) dX8_newNumber_16 (s_clt (tgt := 35) (by decide +kernel) dX8_newNumber_18 (s_X8_newNumber_35 hκ) (s_aln 0 rfl dX8_newNumber_21 (s_gf (T := TX8) winX8 rfl (Nat.le_of_ble_eq_true rfl) gw_152 rfl dX8_newNumber_22 (s_aln 0 rfl dX8_newNumber_25 (s_gf (T := TX8) winX8 rfl (Nat.le_of_ble_eq_true rfl) gw_145 rfl dX8_newNumber_26 (s_iald dX8_newNumber_29 (s_bipush (by decide +kernel) dX8_newNumber_30 (s_clt (tgt := 37) (by decide +kernel) dX8_newNumber_32 (s_aln 0 rfl dX8_newNumber_37 (s_gf (T := TX8) winX8 rfl (Nat.le_of_ble_eq_true rfl) gw_152 rfl dX8_newNumber_38 (s_aln 0 rfl dX8_newNumber_41 (s_gf (T := TX8) winX8 rfl (Nat.le_of_ble_eq_true rfl) gw_145 rfl dX8_newNumber_42 (s_iald dX8_newNumber_45 (s_bipush (by decide +kernel) dX8_newNumber_46 (s_isub dX8_newNumber_48 (s_isn 2 rfl (Nat.le_of_ble_eq_true rfl) dX8_newNumber_49 (s_iln 1 rfl dX8_newNumber_50 (s_iconst (by decide +kernel) dX8_newNumber_51 (s_iln 2 rfl dX8_newNumber_52 (s_ishl dX8_newNumber_53 (s_iand dX8_newNumber_54 (s_X8_newNumber_55 hκ)))))))))))))) (s_X8_newNumber_35 hκ))))))))))))))))))
noncomputable def f_X8_newNumber : gb_F := gb_hide (gb_mf 3 (k_X8_newNumber_0 gb_n))
theorem c_X8_newNumber : ∀ l, gb_Met l yX8_newNumber cX8_newNumber 3 (some .int) 1 (gb_rm 1 20) f_X8_newNumber := gb_hide_c (gb_met (own := RX8) (rk := 1) rfl (by decide +kernel) ⟨rfl, rfl⟩ (s_X8_newNumber_0 gb_S_n))
theorem dX8_takes_0 : decode cX8_takes 0 = .ok (.aload_n 0, 1) := by decide +kernel
theorem dX8_takes_1 : decode cX8_takes 1 = .ok (.invokevirtual 22, 3) := by decide +kernel
theorem dX8_takes_4 : decode cX8_takes 4 = .ok (.ifCond .ne 16, 3) := by decide +kernel
theorem dX8_takes_7 : decode cX8_takes 7 = .ok (.aload_n 0, 1) := by decide +kernel
theorem dX8_takes_8 : decode cX8_takes 8 = .ok (.getfield 11, 3) := by decide +kernel
theorem dX8_takes_11 : decode cX8_takes 11 = .ok (.aload_n 0, 1) := by decide +kernel
theorem dX8_takes_12 : decode cX8_takes 12 = .ok (.getfield 19, 3) := by decide +kernel
theorem dX8_takes_15 : decode cX8_takes 15 = .ok (.iaload, 1) := by decide +kernel
theorem dX8_takes_16 : decode cX8_takes 16 = .ok (.iload_n 1, 1) := by decide +kernel
theorem dX8_takes_17 : decode cX8_takes 17 = .ok (.if_icmp .eq 5, 3) := by decide +kernel
theorem dX8_takes_20 : decode cX8_takes 20 = .ok (.iconst 0, 1) := by decide +kernel
theorem dX8_takes_21 : decode cX8_takes 21 = .ok (.ireturn, 1) := by decide +kernel
theorem dX8_takes_22 : decode cX8_takes 22 = .ok (.aload_n 0, 1) := by decide +kernel
theorem dX8_takes_23 : decode cX8_takes 23 = .ok (.dup, 1) := by decide +kernel
theorem dX8_takes_24 : decode cX8_takes 24 = .ok (.getfield 19, 3) := by decide +kernel
theorem dX8_takes_27 : decode cX8_takes 27 = .ok (.iconst 1, 1) := by decide +kernel
theorem dX8_takes_28 : decode cX8_takes 28 = .ok (.iadd, 1) := by decide +kernel
theorem dX8_takes_29 : decode cX8_takes 29 = .ok (.putfield 19, 3) := by decide +kernel
theorem dX8_takes_32 : decode cX8_takes 32 = .ok (.iconst 1, 1) := by decide +kernel
theorem dX8_takes_33 : decode cX8_takes 33 = .ok (.ireturn, 1) := by decide +kernel
theorem v_X8_takes : yX8_takes.cls = RX8 ∧ yX8_takes.cls ≠ "java/lang/invoke/MethodHandle" ∧ yX8_takes.cls ≠ "java/lang/invoke/VarHandle" ∧ (parseMethodDescriptor yX8_takes.desc).map (fun d => d.parameters.length) = some 1 := ⟨rfl, by decide +kernel, by decide +kernel, by decide +kernel⟩
noncomputable def k_X8_takes_20 (κ : gb_K) : gb_C := (o_ci 0 o_rz)
theorem l_X8_takes_20 : gb_Li (fun κ => k_X8_takes_20 κ) := (gb_li (q_ci 0) (gb_li0 _))
theorem s_X8_takes_20   {κ : gb_K} (hκ : ∀ q, gb_S RX8 cX8_takes 2 (gb_rm 1 20) 2 q (κ q)) : gb_S RX8 cX8_takes 2 (gb_rm 1 20) 2 20 (k_X8_takes_20 κ) := (s_iconst (by decide +kernel) dX8_takes_20 (s_rz rfl dX8_takes_21))
noncomputable def k_X8_takes_0 (κ : gb_K) : gb_C := (o_al 0 (o_cv 0 8 2 f_X8_ended (o_zeq (o_al 0 (o_gf 8 0 (o_al 0 (o_gf 8 2 (o_iald (o_il 1 (o_ceq (o_al 0 (o_dup (o_gf 8 2 (o_ci 1 (o_ib (fun x y => x + y) (o_pf 8 2 (o_ci 1 o_rz))))))) (k_X8_takes_20 κ)))))))) (k_X8_takes_20 κ))))
theorem l_X8_takes_0 : gb_Li (fun κ => k_X8_takes_0 κ) := (gb_li (q_al 0) (gb_li (q_cv 0 8 2 f_X8_ended) (q_zeq (gb_li (q_al 0) (gb_li (q_gf 8 0) (gb_li (q_al 0) (gb_li (q_gf 8 2) (gb_li q_iald (gb_li (q_il 1) (q_ceq (gb_li (q_al 0) (gb_li q_dup (gb_li (q_gf 8 2) (gb_li (q_ci 1) (gb_li (q_ib _) (gb_li (q_pf 8 2) (gb_li (q_ci 1) (gb_li0 _)))))))) (l_X8_takes_20)))))))) (l_X8_takes_20))))
theorem s_X8_takes_0   {κ : gb_K} (hκ : ∀ q, gb_S RX8 cX8_takes 2 (gb_rm 1 20) 2 q (κ q)) : gb_S RX8 cX8_takes 2 (gb_rm 1 20) 2 0 (k_X8_takes_0 κ) := (s_aln 0 rfl dX8_takes_0 (s_cv (C := RX8) c_X8_ended rfl (gb_l5 gw_147 gw_148 gw_149 gw_150 gw_151) v_X8_ended ⟨rfl, rfl⟩ ⟨Nat.le_of_ble_eq_true rfl, Nat.le_of_ble_eq_true rfl⟩ dX8_takes_1 (s_zne (tgt := 20) (by decide +kernel) dX8_takes_4 (s_X8_takes_20 hκ) (s_aln 0 rfl dX8_takes_7 (s_gf (T := TX8) winX8 rfl (Nat.le_of_ble_eq_true rfl) gw_152 rfl dX8_takes_8 (s_aln 0 rfl dX8_takes_11 (s_gf (T := TX8) winX8 rfl (Nat.le_of_ble_eq_true rfl) gw_145 rfl dX8_takes_12 (s_iald dX8_takes_15 (s_iln 1 rfl dX8_takes_16 (s_ceq (tgt := 22) (by decide +kernel) dX8_takes_17 (s_aln 0 rfl dX8_takes_22 (s_dup dX8_takes_23 (s_gf (T := TX8) winX8 rfl (Nat.le_of_ble_eq_true rfl) gw_145 rfl dX8_takes_24 (s_iconst (by decide +kernel) dX8_takes_27 (s_iadd dX8_takes_28 (s_pf (T := TX8) winX8 rfl (Nat.le_of_ble_eq_true rfl) tyX8_ok nmX8 rfl (by decide +kernel) gw_145 rfl dX8_takes_29 (s_iconst (by decide +kernel) dX8_takes_32 (s_rz rfl dX8_takes_33)))))))) (s_X8_takes_20 hκ)))))))))))
noncomputable def f_X8_takes : gb_F := gb_hide (gb_mf 2 (k_X8_takes_0 gb_n))
theorem c_X8_takes : ∀ l, gb_Met l yX8_takes cX8_takes 2 (some .boolean) 2 (gb_rm 1 20) f_X8_takes := gb_hide_c (gb_met (own := RX8) (rk := 2) rfl (by decide +kernel) ⟨rfl, rfl⟩ (s_X8_takes_0 gb_S_n))
theorem dX8_digitFits_0 : decode cX8_digitFits 0 = .ok (.iload_n 2, 1) := by decide +kernel
theorem dX8_digitFits_1 : decode cX8_digitFits 1 = .ok (.ifCond .le 11, 3) := by decide +kernel
theorem dX8_digitFits_4 : decode cX8_digitFits 4 = .ok (.iload_n 1, 1) := by decide +kernel
theorem dX8_digitFits_5 : decode cX8_digitFits 5 = .ok (.ifCond .ne 7, 3) := by decide +kernel
theorem dX8_digitFits_8 : decode cX8_digitFits 8 = .ok (.iconst 1, 1) := by decide +kernel
theorem dX8_digitFits_9 : decode cX8_digitFits 9 = .ok (.goto 4, 3) := by decide +kernel
theorem dX8_digitFits_12 : decode cX8_digitFits 12 = .ok (.iconst 0, 1) := by decide +kernel
theorem dX8_digitFits_13 : decode cX8_digitFits 13 = .ok (.istore_n 3, 1) := by decide +kernel
theorem dX8_digitFits_14 : decode cX8_digitFits 14 = .ok (.aload_n 0, 1) := by decide +kernel
theorem dX8_digitFits_15 : decode cX8_digitFits 15 = .ok (.invokevirtual 22, 3) := by decide +kernel
theorem dX8_digitFits_18 : decode cX8_digitFits 18 = .ok (.ifCond .ne 39, 3) := by decide +kernel
theorem dX8_digitFits_21 : decode cX8_digitFits 21 = .ok (.iload_n 3, 1) := by decide +kernel
theorem dX8_digitFits_22 : decode cX8_digitFits 22 = .ok (.ifCond .ne 35, 3) := by decide +kernel
theorem dX8_digitFits_25 : decode cX8_digitFits 25 = .ok (.aload_n 0, 1) := by decide +kernel
theorem dX8_digitFits_26 : decode cX8_digitFits 26 = .ok (.getfield 11, 3) := by decide +kernel
theorem dX8_digitFits_29 : decode cX8_digitFits 29 = .ok (.aload_n 0, 1) := by decide +kernel
theorem dX8_digitFits_30 : decode cX8_digitFits 30 = .ok (.getfield 19, 3) := by decide +kernel
theorem dX8_digitFits_33 : decode cX8_digitFits 33 = .ok (.iaload, 1) := by decide +kernel
theorem dX8_digitFits_34 : decode cX8_digitFits 34 = .ok (.bipush 48, 2) := by decide +kernel
theorem dX8_digitFits_36 : decode cX8_digitFits 36 = .ok (.if_icmp .lt 21, 3) := by decide +kernel
theorem dX8_digitFits_39 : decode cX8_digitFits 39 = .ok (.aload_n 0, 1) := by decide +kernel
theorem dX8_digitFits_40 : decode cX8_digitFits 40 = .ok (.getfield 11, 3) := by decide +kernel
theorem dX8_digitFits_43 : decode cX8_digitFits 43 = .ok (.aload_n 0, 1) := by decide +kernel
theorem dX8_digitFits_44 : decode cX8_digitFits 44 = .ok (.getfield 19, 3) := by decide +kernel
theorem dX8_digitFits_47 : decode cX8_digitFits 47 = .ok (.iaload, 1) := by decide +kernel
theorem dX8_digitFits_48 : decode cX8_digitFits 48 = .ok (.bipush 57, 2) := by decide +kernel
theorem dX8_digitFits_50 : decode cX8_digitFits 50 = .ok (.if_icmp .gt 7, 3) := by decide +kernel
theorem dX8_digitFits_53 : decode cX8_digitFits 53 = .ok (.iconst 1, 1) := by decide +kernel
theorem dX8_digitFits_54 : decode cX8_digitFits 54 = .ok (.goto 4, 3) := by decide +kernel
theorem dX8_digitFits_57 : decode cX8_digitFits 57 = .ok (.iconst 0, 1) := by decide +kernel
theorem dX8_digitFits_58 : decode cX8_digitFits 58 = .ok (.ireturn, 1) := by decide +kernel
theorem v_X8_digitFits : yX8_digitFits.cls = RX8 ∧ yX8_digitFits.cls ≠ "java/lang/invoke/MethodHandle" ∧ yX8_digitFits.cls ≠ "java/lang/invoke/VarHandle" ∧ (parseMethodDescriptor yX8_digitFits.desc).map (fun d => d.parameters.length) = some 2 := ⟨rfl, by decide +kernel, by decide +kernel, by decide +kernel⟩
noncomputable def k_X8_digitFits_58 (κ : gb_K) : gb_C := o_rz
theorem l_X8_digitFits_58 : gb_Li (fun κ => k_X8_digitFits_58 κ) := (gb_li0 _)
theorem s_X8_digitFits_58   {κ : gb_K} (hκ : ∀ q, gb_S RX8 cX8_digitFits 4 (gb_rm 1 20) 2 q (κ q)) : gb_S RX8 cX8_digitFits 4 (gb_rm 1 20) 2 58 (k_X8_digitFits_58 κ) := (s_rz rfl dX8_digitFits_58)
noncomputable def k_X8_digitFits_57 (κ : gb_K) : gb_C := (o_ci 0 (k_X8_digitFits_58 κ))
theorem l_X8_digitFits_57 : gb_Li (fun κ => k_X8_digitFits_57 κ) := (gb_li (q_ci 0) (l_X8_digitFits_58))
theorem s_X8_digitFits_57   {κ : gb_K} (hκ : ∀ q, gb_S RX8 cX8_digitFits 4 (gb_rm 1 20) 2 q (κ q)) : gb_S RX8 cX8_digitFits 4 (gb_rm 1 20) 2 57 (k_X8_digitFits_57 κ) := (s_iconst (by decide +kernel) dX8_digitFits_57 (s_X8_digitFits_58 hκ))
noncomputable def k_X8_digitFits_13 (κ : gb_K) : gb_C := (o_is 3 (o_al 0 (o_cv 0 8 2 f_X8_ended (o_zeq (o_il 3 (o_zeq (o_al 0 (o_gf 8 0 (o_al 0 (o_gf 8 2 (o_iald (o_ci 48 (o_clt (k_X8_digitFits_57 κ) (o_al 0 (o_gf 8 0 (o_al 0 (o_gf 8 2 (o_iald (o_ci 57 (o_cgt (k_X8_digitFits_57 κ) (o_ci 1 (k_X8_digitFits_58 κ)))))))))))))))) (k_X8_digitFits_57 κ))) (k_X8_digitFits_57 κ)))))
theorem l_X8_digitFits_13 : gb_Li (fun κ => k_X8_digitFits_13 κ) := (gb_li (q_is 3) (gb_li (q_al 0) (gb_li (q_cv 0 8 2 f_X8_ended) (q_zeq (gb_li (q_il 3) (q_zeq (gb_li (q_al 0) (gb_li (q_gf 8 0) (gb_li (q_al 0) (gb_li (q_gf 8 2) (gb_li q_iald (gb_li (q_ci 48) (q_clt (l_X8_digitFits_57) (gb_li (q_al 0) (gb_li (q_gf 8 0) (gb_li (q_al 0) (gb_li (q_gf 8 2) (gb_li q_iald (gb_li (q_ci 57) (q_cgt (l_X8_digitFits_57) (gb_li (q_ci 1) (l_X8_digitFits_58)))))))))))))))) (l_X8_digitFits_57))) (l_X8_digitFits_57)))))
theorem s_X8_digitFits_13   {κ : gb_K} (hκ : ∀ q, gb_S RX8 cX8_digitFits 4 (gb_rm 1 20) 2 q (κ q)) : gb_S RX8 cX8_digitFits 4 (gb_rm 1 20) 2 13 (k_X8_digitFits_13 κ) := (s_isn 3 rfl (Nat.le_of_ble_eq_true rfl) dX8_digitFits_13 (s_aln 0 rfl dX8_digitFits_14 (s_cv (C := RX8) c_X8_ended rfl (gb_l5 gw_147 gw_148 gw_149 gw_150 gw_151) v_X8_ended ⟨rfl, rfl⟩ ⟨Nat.le_of_ble_eq_true rfl, Nat.le_of_ble_eq_true rfl⟩ dX8_digitFits_15 (s_zne (tgt := 57) (by decide +kernel) dX8_digitFits_18 (s_X8_digitFits_57 hκ) (s_iln 3 rfl dX8_digitFits_21 (s_zne (tgt := 57) (by decide +kernel) dX8_digitFits_22 (s_X8_digitFits_57 hκ) (s_aln 0 rfl dX8_digitFits_25 (s_gf (T := TX8) winX8 rfl (Nat.le_of_ble_eq_true rfl) gw_152 rfl dX8_digitFits_26 (s_aln 0 rfl dX8_digitFits_29 (s_gf (T := TX8) winX8 rfl (Nat.le_of_ble_eq_true rfl) gw_145 rfl dX8_digitFits_30 (s_iald dX8_digitFits_33 (s_bipush (by decide +kernel) dX8_digitFits_34 (s_clt (tgt := 57) (by decide +kernel) dX8_digitFits_36 (s_X8_digitFits_57 hκ) (s_aln 0 rfl dX8_digitFits_39 (s_gf (T := TX8) winX8 rfl (Nat.le_of_ble_eq_true rfl) gw_152 rfl dX8_digitFits_40 (s_aln 0 rfl dX8_digitFits_43 (s_gf (T := TX8) winX8 rfl (Nat.le_of_ble_eq_true rfl) gw_145 rfl dX8_digitFits_44 (s_iald dX8_digitFits_47 (s_bipush (by decide +kernel) dX8_digitFits_48 (s_cgt (tgt := 57) (by decide +kernel) dX8_digitFits_50 (s_X8_digitFits_57 hκ) (s_iconst (by decide +kernel) dX8_digitFits_53 (s_goto (tgt := 58) (by decide +kernel) dX8_digitFits_54 (s_X8_digitFits_58 hκ)))))))))))))))))))))))
noncomputable def k_X8_digitFits_12 (κ : gb_K) : gb_C := (o_ci 0 (k_X8_digitFits_13 κ))
theorem l_X8_digitFits_12 : gb_Li (fun κ => k_X8_digitFits_12 κ) := (gb_li (q_ci 0) (l_X8_digitFits_13))
theorem s_X8_digitFits_12   {κ : gb_K} (hκ : ∀ q, gb_S RX8 cX8_digitFits 4 (gb_rm 1 20) 2 q (κ q)) : gb_S RX8 cX8_digitFits 4 (gb_rm 1 20) 2 12 (k_X8_digitFits_12 κ) := (s_iconst (by decide +kernel) dX8_digitFits_12 (s_X8_digitFits_13 hκ))
noncomputable def k_X8_digitFits_0 (κ : gb_K) : gb_C := (o_il 2 (o_zle (k_X8_digitFits_12 κ) (o_il 1 (o_zeq (o_ci 1 (k_X8_digitFits_13 κ)) (k_X8_digitFits_12 κ)))))
theorem l_X8_digitFits_0 : gb_Li (fun κ => k_X8_digitFits_0 κ) := (gb_li (q_il 2) (q_zle (l_X8_digitFits_12) (gb_li (q_il 1) (q_zeq (gb_li (q_ci 1) (l_X8_digitFits_13)) (l_X8_digitFits_12)))))
theorem s_X8_digitFits_0   {κ : gb_K} (hκ : ∀ q, gb_S RX8 cX8_digitFits 4 (gb_rm 1 20) 2 q (κ q)) : gb_S RX8 cX8_digitFits 4 (gb_rm 1 20) 2 0 (k_X8_digitFits_0 κ) := (s_iln 2 rfl dX8_digitFits_0 (s_zle (tgt := 12) (by decide +kernel) dX8_digitFits_1 (s_X8_digitFits_12 hκ) (s_iln 1 rfl dX8_digitFits_4 (s_zne (tgt := 12) (by decide +kernel) dX8_digitFits_5 (s_X8_digitFits_12 hκ) (s_iconst (by decide +kernel) dX8_digitFits_8 (s_goto (tgt := 13) (by decide +kernel) dX8_digitFits_9 (s_X8_digitFits_13 hκ)))))))
noncomputable def f_X8_digitFits : gb_F := gb_hide (gb_mf 4 (k_X8_digitFits_0 gb_n))
theorem c_X8_digitFits : ∀ l, gb_Met l yX8_digitFits cX8_digitFits 4 (some .boolean) 2 (gb_rm 1 20) f_X8_digitFits := gb_hide_c (gb_met (own := RX8) (rk := 2) rfl (by decide +kernel) ⟨rfl, rfl⟩ (s_X8_digitFits_0 gb_S_n))
theorem dX8_number_0 : decode cX8_number 0 = .ok (.iconst 0, 1) := by decide +kernel
theorem dX8_number_1 : decode cX8_number 1 = .ok (.istore_n 3, 1) := by decide +kernel
theorem dX8_number_2 : decode cX8_number 2 = .ok (.iconst 0, 1) := by decide +kernel
theorem dX8_number_3 : decode cX8_number 3 = .ok (.istore 4, 2) := by decide +kernel
theorem dX8_number_5 : decode cX8_number 5 = .ok (.iload_n 2, 1) := by decide +kernel
theorem dX8_number_6 : decode cX8_number 6 = .ok (.istore 5, 2) := by decide +kernel
theorem dX8_number_8 : decode cX8_number 8 = .ok (.iload 5, 2) := by decide +kernel
theorem dX8_number_10 : decode cX8_number 10 = .ok (.ifCond .le 54, 3) := by decide +kernel
theorem dX8_number_13 : decode cX8_number 13 = .ok (.aload_n 0, 1) := by decide +kernel
theorem dX8_number_14 : decode cX8_number 14 = .ok (.iload_n 3, 1) := by decide +kernel
theorem dX8_number_15 : decode cX8_number 15 = .ok (.iload 4, 2) := by decide +kernel
theorem dX8_number_17 : decode cX8_number 17 = .ok (.invokevirtual 26, 3) := by decide +kernel
theorem dX8_number_20 : decode cX8_number 20 = .ok (.ifCond .eq 44, 3) := by decide +kernel
theorem dX8_number_23 : decode cX8_number 23 = .ok (.bipush 10, 2) := by decide +kernel
theorem dX8_number_25 : decode cX8_number 25 = .ok (.iload_n 3, 1) := by decide +kernel
theorem dX8_number_26 : decode cX8_number 26 = .ok (.imul, 1) := by decide +kernel
theorem dX8_number_27 : decode cX8_number 27 = .ok (.aload_n 0, 1) := by decide +kernel
theorem dX8_number_28 : decode cX8_number 28 = .ok (.getfield 11, 3) := by decide +kernel
theorem dX8_number_31 : decode cX8_number 31 = .ok (.aload_n 0, 1) := by decide +kernel
theorem dX8_number_32 : decode cX8_number 32 = .ok (.getfield 19, 3) := by decide +kernel
theorem dX8_number_35 : decode cX8_number 35 = .ok (.iaload, 1) := by decide +kernel
theorem dX8_number_36 : decode cX8_number 36 = .ok (.iadd, 1) := by decide +kernel
theorem dX8_number_37 : decode cX8_number 37 = .ok (.bipush 48, 2) := by decide +kernel
theorem dX8_number_39 : decode cX8_number 39 = .ok (.isub, 1) := by decide +kernel
theorem dX8_number_40 : decode cX8_number 40 = .ok (.istore_n 3, 1) := by decide +kernel
theorem dX8_number_41 : decode cX8_number 41 = .ok (.iinc 4 1, 3) := by decide +kernel
theorem dX8_number_44 : decode cX8_number 44 = .ok (.aload_n 0, 1) := by decide +kernel
theorem dX8_number_45 : decode cX8_number 45 = .ok (.dup, 1) := by decide +kernel
theorem dX8_number_46 : decode cX8_number 46 = .ok (.getfield 19, 3) := by decide +kernel
theorem dX8_number_49 : decode cX8_number 49 = .ok (.iconst 1, 1) := by decide +kernel
theorem dX8_number_50 : decode cX8_number 50 = .ok (.iadd, 1) := by decide +kernel
theorem dX8_number_51 : decode cX8_number 51 = .ok (.putfield 19, 3) := by decide +kernel
theorem dX8_number_54 : decode cX8_number 54 = .ok (.iload 5, 2) := by decide +kernel
theorem dX8_number_56 : decode cX8_number 56 = .ok (.bipush 10, 2) := by decide +kernel
theorem dX8_number_58 : decode cX8_number 58 = .ok (.idiv, 1) := by decide +kernel
theorem dX8_number_59 : decode cX8_number 59 = .ok (.istore 5, 2) := by decide +kernel
theorem dX8_number_61 : decode cX8_number 61 = .ok (.goto (-53), 3) := by decide +kernel
theorem dX8_number_64 : decode cX8_number 64 = .ok (.iload 4, 2) := by decide +kernel
theorem dX8_number_66 : decode cX8_number 66 = .ok (.ifCond .ne 5, 3) := by decide +kernel
theorem dX8_number_69 : decode cX8_number 69 = .ok (.iconst (-1), 1) := by decide +kernel
theorem dX8_number_70 : decode cX8_number 70 = .ok (.ireturn, 1) := by decide +kernel
theorem dX8_number_71 : decode cX8_number 71 = .ok (.iload_n 3, 1) := by decide +kernel
theorem dX8_number_72 : decode cX8_number 72 = .ok (.iload_n 1, 1) := by decide +kernel
theorem dX8_number_73 : decode cX8_number 73 = .ok (.if_icmp .lt 8, 3) := by decide +kernel
theorem dX8_number_76 : decode cX8_number 76 = .ok (.iload_n 3, 1) := by decide +kernel
theorem dX8_number_77 : decode cX8_number 77 = .ok (.iload_n 2, 1) := by decide +kernel
theorem dX8_number_78 : decode cX8_number 78 = .ok (.if_icmp .le 15, 3) := by decide +kernel
theorem dX8_number_81 : decode cX8_number 81 = .ok (.aload_n 0, 1) := by decide +kernel
theorem dX8_number_82 : decode cX8_number 82 = .ok (.dup, 1) := by decide +kernel
theorem dX8_number_83 : decode cX8_number 83 = .ok (.getfield 19, 3) := by decide +kernel
theorem dX8_number_86 : decode cX8_number 86 = .ok (.iconst 1, 1) := by decide +kernel
theorem dX8_number_87 : decode cX8_number 87 = .ok (.isub, 1) := by decide +kernel
theorem dX8_number_88 : decode cX8_number 88 = .ok (.putfield 19, 3) := by decide +kernel
theorem dX8_number_91 : decode cX8_number 91 = .ok (.iconst (-1), 1) := by decide +kernel
theorem dX8_number_92 : decode cX8_number 92 = .ok (.ireturn, 1) := by decide +kernel
theorem dX8_number_93 : decode cX8_number 93 = .ok (.iload_n 3, 1) := by decide +kernel
theorem dX8_number_94 : decode cX8_number 94 = .ok (.ireturn, 1) := by decide +kernel
theorem v_X8_number : yX8_number.cls = RX8 ∧ yX8_number.cls ≠ "java/lang/invoke/MethodHandle" ∧ yX8_number.cls ≠ "java/lang/invoke/VarHandle" ∧ (parseMethodDescriptor yX8_number.desc).map (fun d => d.parameters.length) = some 2 := ⟨rfl, by decide +kernel, by decide +kernel, by decide +kernel⟩
noncomputable def k_X8_number_0 (κ : gb_K) : gb_C := (o_ci 0 (o_is 3 (o_ci 0 (o_is 4 (o_il 2 (o_is 5 (o_j [0, 1, 2, 3, 4, 5] (κ 8))))))))
theorem l_X8_number_0 : gb_Li (fun κ => k_X8_number_0 κ) := (gb_li (q_ci 0) (gb_li (q_is 3) (gb_li (q_ci 0) (gb_li (q_is 4) (gb_li (q_il 2) (gb_li (q_is 5) (q_j [0, 1, 2, 3, 4, 5] 8)))))))
theorem s_X8_number_0   {κ : gb_K} (hκ : ∀ q, gb_S RX8 cX8_number 6 (gb_rm 2 43) 1 q (κ q)) : gb_S RX8 cX8_number 6 (gb_rm 2 43) 1 0 (k_X8_number_0 κ) := (s_iconst (by decide +kernel) dX8_number_0 (s_isn 3 rfl (Nat.le_of_ble_eq_true rfl) dX8_number_1 (s_iconst (by decide +kernel) dX8_number_2 (s_is (Nat.le_of_ble_eq_true rfl) dX8_number_3 (s_iln 2 rfl dX8_number_5 (s_is (Nat.le_of_ble_eq_true rfl) dX8_number_6 (s_j (hκ 8))))))))
noncomputable def k_X8_number_61 (κ : gb_K) : gb_C := (o_j [0, 1, 2, 3, 4, 5] (κ 8))
theorem l_X8_number_61 : gb_Li (fun κ => k_X8_number_61 κ) := (q_j [0, 1, 2, 3, 4, 5] 8)
theorem s_X8_number_61   {κ : gb_K} (hκ : ∀ q, gb_S RX8 cX8_number 6 (gb_rm 2 43) 1 q (κ q)) : gb_S RX8 cX8_number 6 (gb_rm 2 43) 1 61 (k_X8_number_61 κ) := (s_goto (tgt := 8) (by decide +kernel) dX8_number_61 (s_j (hκ 8)))
noncomputable def k_X8_number_81 (κ : gb_K) : gb_C := (o_al 0 (o_dup (o_gf 8 2 (o_ci 1 (o_ib (fun x y => x - y) (o_pf 8 2 (o_ci (-1) o_ri)))))))
theorem l_X8_number_81 : gb_Li (fun κ => k_X8_number_81 κ) := (gb_li (q_al 0) (gb_li q_dup (gb_li (q_gf 8 2) (gb_li (q_ci 1) (gb_li (q_ib _) (gb_li (q_pf 8 2) (gb_li (q_ci (-1)) (gb_li0 _))))))))
theorem s_X8_number_81   {κ : gb_K} (hκ : ∀ q, gb_S RX8 cX8_number 6 (gb_rm 2 43) 1 q (κ q)) : gb_S RX8 cX8_number 6 (gb_rm 2 43) 1 81 (k_X8_number_81 κ) := (s_aln 0 rfl dX8_number_81 (s_dup dX8_number_82 (s_gf (T := TX8) winX8 rfl (Nat.le_of_ble_eq_true rfl) gw_145 rfl dX8_number_83 (s_iconst (by decide +kernel) dX8_number_86 (s_isub dX8_number_87 (s_pf (T := TX8) winX8 rfl (Nat.le_of_ble_eq_true rfl) tyX8_ok nmX8 rfl (by decide +kernel) gw_145 rfl dX8_number_88 (s_iconst (by decide +kernel) dX8_number_91 (s_ri rfl dX8_number_92))))))))
noncomputable def k_X8_number_64 (κ : gb_K) : gb_C := (o_il 4 (o_zeq (o_ci (-1) o_ri) (o_il 3 (o_il 1 (o_clt (k_X8_number_81 κ) (o_il 3 (o_il 2 (o_cle (o_il 3 o_ri) (k_X8_number_81 κ)))))))))
theorem l_X8_number_64 : gb_Li (fun κ => k_X8_number_64 κ) := (gb_li (q_il 4) (q_zeq (gb_li (q_ci (-1)) (gb_li0 _)) (gb_li (q_il 3) (gb_li (q_il 1) (q_clt (l_X8_number_81) (gb_li (q_il 3) (gb_li (q_il 2) (q_cle (gb_li (q_il 3) (gb_li0 _)) (l_X8_number_81)))))))))
theorem s_X8_number_64   {κ : gb_K} (hκ : ∀ q, gb_S RX8 cX8_number 6 (gb_rm 2 43) 1 q (κ q)) : gb_S RX8 cX8_number 6 (gb_rm 2 43) 1 64 (k_X8_number_64 κ) := (s_il dX8_number_64 (s_zne (tgt := 71) (by decide +kernel) dX8_number_66 (s_iln 3 rfl dX8_number_71 (s_iln 1 rfl dX8_number_72 (s_clt (tgt := 81) (by decide +kernel) dX8_number_73 (s_X8_number_81 hκ) (s_iln 3 rfl dX8_number_76 (s_iln 2 rfl dX8_number_77 (s_cle (tgt := 93) (by decide +kernel) dX8_number_78 (s_iln 3 rfl dX8_number_93 (s_ri rfl dX8_number_94)) (s_X8_number_81 hκ))))))) (s_iconst (by decide +kernel) dX8_number_69 (s_ri rfl dX8_number_70))))
noncomputable def k_X8_number_8 (κ : gb_K) : gb_C := (o_il 5 (o_zle (k_X8_number_64 κ) (o_al 0 (o_il 3 (o_il 4 (o_cv 2 8 2 f_X8_digitFits (o_zeq (k_X8_number_64 κ) (o_ci 10 (o_il 3 (o_ib (fun x y => x * y) (o_al 0 (o_gf 8 0 (o_al 0 (o_gf 8 2 (o_iald (o_ib (fun x y => x + y) (o_ci 48 (o_ib (fun x y => x - y) (o_is 3 (o_inc 4 1 (o_al 0 (o_dup (o_gf 8 2 (o_ci 1 (o_ib (fun x y => x + y) (o_pf 8 2 (o_il 5 (o_ci 10 (o_ig (fun y => !(decide (y = 0))) (fun x y => x / y) (o_is 5 (k_X8_number_61 κ)))))))))))))))))))))))))))))))
theorem l_X8_number_8 : gb_Li (fun κ => k_X8_number_8 κ) := (gb_li (q_il 5) (q_zle (l_X8_number_64) (gb_li (q_al 0) (gb_li (q_il 3) (gb_li (q_il 4) (gb_li (q_cv 2 8 2 f_X8_digitFits) (q_zeq (l_X8_number_64) (gb_li (q_ci 10) (gb_li (q_il 3) (gb_li (q_ib _) (gb_li (q_al 0) (gb_li (q_gf 8 0) (gb_li (q_al 0) (gb_li (q_gf 8 2) (gb_li q_iald (gb_li (q_ib _) (gb_li (q_ci 48) (gb_li (q_ib _) (gb_li (q_is 3) (gb_li (q_inc 4 1) (gb_li (q_al 0) (gb_li q_dup (gb_li (q_gf 8 2) (gb_li (q_ci 1) (gb_li (q_ib _) (gb_li (q_pf 8 2) (gb_li (q_il 5) (gb_li (q_ci 10) (gb_li (q_ig _ _) (gb_li (q_is 5) (l_X8_number_61)))))))))))))))))))))))))))))))
theorem s_X8_number_8   {κ : gb_K} (hκ : ∀ q, gb_S RX8 cX8_number 6 (gb_rm 2 43) 1 q (κ q)) : gb_S RX8 cX8_number 6 (gb_rm 2 43) 1 8 (k_X8_number_8 κ) := (s_il dX8_number_8 (s_zle (tgt := 64) (by decide +kernel) dX8_number_10 (s_X8_number_64 hκ) (s_aln 0 rfl dX8_number_13 (s_iln 3 rfl dX8_number_14 (s_il dX8_number_15 (s_cv (C := RX8) c_X8_digitFits rfl (gb_l5 gw_153 gw_154 gw_155 gw_150 gw_156) v_X8_digitFits ⟨rfl, rfl⟩ ⟨Nat.le_of_ble_eq_true rfl, Nat.le_of_ble_eq_true rfl⟩ dX8_number_17 (s_zeq (tgt := 64) (by decide +kernel) dX8_number_20 (s_X8_number_64 hκ) (s_bipush (by decide +kernel) dX8_number_23 (s_iln 3 rfl dX8_number_25 (s_imul dX8_number_26 (s_aln 0 rfl dX8_number_27 (s_gf (T := TX8) winX8 rfl (Nat.le_of_ble_eq_true rfl) gw_152 rfl dX8_number_28 (s_aln 0 rfl dX8_number_31 (s_gf (T := TX8) winX8 rfl (Nat.le_of_ble_eq_true rfl) gw_145 rfl dX8_number_32 (s_iald dX8_number_35 (s_iadd dX8_number_36 (s_bipush (by decide +kernel) dX8_number_37 (s_isub dX8_number_39 (s_isn 3 rfl (Nat.le_of_ble_eq_true rfl) dX8_number_40 (s_inc (by decide +kernel) (Nat.le_of_ble_eq_true rfl) dX8_number_41 (s_aln 0 rfl dX8_number_44 (s_dup dX8_number_45 (s_gf (T := TX8) winX8 rfl (Nat.le_of_ble_eq_true rfl) gw_145 rfl dX8_number_46 (s_iconst (by decide +kernel) dX8_number_49 (s_iadd dX8_number_50 (s_pf (T := TX8) winX8 rfl (Nat.le_of_ble_eq_true rfl) tyX8_ok nmX8 rfl (by decide +kernel) gw_145 rfl dX8_number_51 (s_il dX8_number_54 (s_bipush (by decide +kernel) dX8_number_56 (s_idiv dX8_number_58 (s_is (Nat.le_of_ble_eq_true rfl) dX8_number_59 (s_X8_number_61 hκ)))))))))))))))))))))))))))))))
noncomputable def B_X8_number : List (Nat × (gb_K → gb_C)) := [(8, fun κ => k_X8_number_8 κ)]
noncomputable def K_X8_number : gb_K := gb_fx (gb_tb (B_X8_number))
theorem L_X8_number : ∀ q, gb_Li (fun κ => gb_tb (B_X8_number) κ q) := gb_tb_li (List.forall_mem_cons.mpr ⟨l_X8_number_8, (fun _ h => absurd h List.not_mem_nil)⟩)
theorem S_X8_number   : ∀ q, gb_S RX8 cX8_number 6 (gb_rm 2 43) 1 q (K_X8_number q) := fun q => gb_fx_S (L_X8_number) (gb_tb_S (List.forall_mem_cons.mpr ⟨fun κ hκ => s_X8_number_8 hκ, (fun _ h => absurd h List.not_mem_nil)⟩)) q
noncomputable def f_X8_number : gb_F := gb_hide (gb_mf 6 (k_X8_number_0 (K_X8_number)))
theorem c_X8_number : ∀ l, gb_Met l yX8_number cX8_number 6 (some .int) 1 (gb_rm 2 43) f_X8_number := gb_hide_c (gb_met (own := RX8) (rk := 1) rfl (by decide +kernel) ⟨rfl, rfl⟩ (s_X8_number_0 (S_X8_number)))
theorem dX2_readOne_0 : decode cX2_readOne 0 = .ok (.aload_n 1, 1) := by decide +kernel
theorem dX2_readOne_1 : decode cX2_readOne 1 = .ok (.iconst 0, 1) := by decide +kernel
theorem dX2_readOne_2 : decode cX2_readOne 2 = .ok (.invokevirtual 43, 3) := by decide +kernel
theorem dX2_readOne_5 : decode cX2_readOne 5 = .ok (.istore_n 3, 1) := by decide +kernel
theorem dX2_readOne_6 : decode cX2_readOne 6 = .ok (.iload_n 3, 1) := by decide +kernel
theorem dX2_readOne_7 : decode cX2_readOne 7 = .ok (.ifCond .lt 12, 3) := by decide +kernel
theorem dX2_readOne_10 : decode cX2_readOne 10 = .ok (.aload_n 1, 1) := by decide +kernel
theorem dX2_readOne_11 : decode cX2_readOne 11 = .ok (.bipush 58, 2) := by decide +kernel
theorem dX2_readOne_13 : decode cX2_readOne 13 = .ok (.invokevirtual 39, 3) := by decide +kernel
theorem dX2_readOne_16 : decode cX2_readOne 16 = .ok (.ifCond .ne 5, 3) := by decide +kernel
theorem dX2_readOne_19 : decode cX2_readOne 19 = .ok (.iconst 0, 1) := by decide +kernel
theorem dX2_readOne_20 : decode cX2_readOne 20 = .ok (.ireturn, 1) := by decide +kernel
theorem dX2_readOne_21 : decode cX2_readOne 21 = .ok (.aload_n 1, 1) := by decide +kernel
theorem dX2_readOne_22 : decode cX2_readOne 22 = .ok (.iconst 1, 1) := by decide +kernel
theorem dX2_readOne_23 : decode cX2_readOne 23 = .ok (.bipush 99, 2) := by decide +kernel
theorem dX2_readOne_25 : decode cX2_readOne 25 = .ok (.invokevirtual 47, 3) := by decide +kernel
theorem dX2_readOne_28 : decode cX2_readOne 28 = .ok (.istore 4, 2) := by decide +kernel
theorem dX2_readOne_30 : decode cX2_readOne 30 = .ok (.iload 4, 2) := by decide +kernel
theorem dX2_readOne_32 : decode cX2_readOne 32 = .ok (.ifCond .ge 5, 3) := by decide +kernel
theorem dX2_readOne_35 : decode cX2_readOne 35 = .ok (.iconst 0, 1) := by decide +kernel
theorem dX2_readOne_36 : decode cX2_readOne 36 = .ok (.ireturn, 1) := by decide +kernel
theorem dX2_readOne_37 : decode cX2_readOne 37 = .ok (.aload_n 0, 1) := by decide +kernel
theorem dX2_readOne_38 : decode cX2_readOne 38 = .ok (.getfield 11, 3) := by decide +kernel
theorem dX2_readOne_41 : decode cX2_readOne 41 = .ok (.iload_n 2, 1) := by decide +kernel
theorem dX2_readOne_42 : decode cX2_readOne 42 = .ok (.iload_n 3, 1) := by decide +kernel
theorem dX2_readOne_43 : decode cX2_readOne 43 = .ok (.iastore, 1) := by decide +kernel
theorem dX2_readOne_44 : decode cX2_readOne 44 = .ok (.aload_n 0, 1) := by decide +kernel
theorem dX2_readOne_45 : decode cX2_readOne 45 = .ok (.getfield 15, 3) := by decide +kernel
theorem dX2_readOne_48 : decode cX2_readOne 48 = .ok (.iload_n 2, 1) := by decide +kernel
theorem dX2_readOne_49 : decode cX2_readOne 49 = .ok (.iload 4, 2) := by decide +kernel
theorem dX2_readOne_51 : decode cX2_readOne 51 = .ok (.iastore, 1) := by decide +kernel
theorem dX2_readOne_52 : decode cX2_readOne 52 = .ok (.iconst 1, 1) := by decide +kernel
theorem dX2_readOne_53 : decode cX2_readOne 53 = .ok (.ireturn, 1) := by decide +kernel
theorem v_X2_readOne : yX2_readOne.cls = RX2 ∧ yX2_readOne.cls ≠ "java/lang/invoke/MethodHandle" ∧ yX2_readOne.cls ≠ "java/lang/invoke/VarHandle" ∧ (parseMethodDescriptor yX2_readOne.desc).map (fun d => d.parameters.length) = some 2 := ⟨rfl, by decide +kernel, by decide +kernel, by decide +kernel⟩
noncomputable def k_X2_readOne_19 (κ : gb_K) : gb_C := (o_ci 0 o_rz)
theorem l_X2_readOne_19 : gb_Li (fun κ => k_X2_readOne_19 κ) := (gb_li (q_ci 0) (gb_li0 _))
theorem s_X2_readOne_19   {κ : gb_K} (hκ : ∀ q, gb_S RX2 cX2_readOne 5 (gb_rm 3 68) 2 q (κ q)) : gb_S RX2 cX2_readOne 5 (gb_rm 3 68) 2 19 (k_X2_readOne_19 κ) := (s_iconst (by decide +kernel) dX2_readOne_19 (s_rz rfl dX2_readOne_20))
noncomputable def k_X2_readOne_0 (κ : gb_K) : gb_C := (o_al 1 (o_ci 0 (o_cv 1 8 1 f_X8_newNumber (o_is 3 (o_il 3 (o_zlt (k_X2_readOne_19 κ) (o_al 1 (o_ci 58 (o_cv 1 8 2 f_X8_takes (o_zeq (k_X2_readOne_19 κ) (o_al 1 (o_ci 1 (o_ci 99 (o_cv 2 8 1 f_X8_number (o_is 4 (o_il 4 (o_zge (o_al 0 (o_gf 2 0 (o_il 2 (o_il 3 (o_iast (o_al 0 (o_gf 2 1 (o_il 2 (o_il 4 (o_iast (o_ci 1 o_rz))))))))))) (o_ci 0 o_rz))))))))))))))))))
theorem l_X2_readOne_0 : gb_Li (fun κ => k_X2_readOne_0 κ) := (gb_li (q_al 1) (gb_li (q_ci 0) (gb_li (q_cv 1 8 1 f_X8_newNumber) (gb_li (q_is 3) (gb_li (q_il 3) (q_zlt (l_X2_readOne_19) (gb_li (q_al 1) (gb_li (q_ci 58) (gb_li (q_cv 1 8 2 f_X8_takes) (q_zeq (l_X2_readOne_19) (gb_li (q_al 1) (gb_li (q_ci 1) (gb_li (q_ci 99) (gb_li (q_cv 2 8 1 f_X8_number) (gb_li (q_is 4) (gb_li (q_il 4) (q_zge (gb_li (q_al 0) (gb_li (q_gf 2 0) (gb_li (q_il 2) (gb_li (q_il 3) (gb_li q_iast (gb_li (q_al 0) (gb_li (q_gf 2 1) (gb_li (q_il 2) (gb_li (q_il 4) (gb_li q_iast (gb_li (q_ci 1) (gb_li0 _)))))))))))) (gb_li (q_ci 0) (gb_li0 _)))))))))))))))))))
theorem s_X2_readOne_0   {κ : gb_K} (hκ : ∀ q, gb_S RX2 cX2_readOne 5 (gb_rm 3 68) 2 q (κ q)) : gb_S RX2 cX2_readOne 5 (gb_rm 3 68) 2 0 (k_X2_readOne_0 κ) := (s_aln 1 rfl dX2_readOne_0 (s_iconst (by decide +kernel) dX2_readOne_1 (s_cv (C := RX8) c_X8_newNumber rfl (gb_l5 gw_157 gw_158 gw_159 gw_150 gw_160) v_X8_newNumber ⟨rfl, rfl⟩ ⟨Nat.le_of_ble_eq_true rfl, Nat.le_of_ble_eq_true rfl⟩ dX2_readOne_2 (s_isn 3 rfl (Nat.le_of_ble_eq_true rfl) dX2_readOne_5 (s_iln 3 rfl dX2_readOne_6 (s_zlt (tgt := 19) (by decide +kernel) dX2_readOne_7 (s_X2_readOne_19 hκ) (s_aln 1 rfl dX2_readOne_10 (s_bipush (by decide +kernel) dX2_readOne_11 (s_cv (C := RX8) c_X8_takes rfl (gb_l5 gw_161 gw_162 gw_163 gw_150 gw_164) v_X8_takes ⟨rfl, rfl⟩ ⟨Nat.le_of_ble_eq_true rfl, Nat.le_of_ble_eq_true rfl⟩ dX2_readOne_13 (s_zne (tgt := 21) (by decide +kernel) dX2_readOne_16 (s_aln 1 rfl dX2_readOne_21 (s_iconst (by decide +kernel) dX2_readOne_22 (s_bipush (by decide +kernel) dX2_readOne_23 (s_cv (C := RX8) c_X8_number rfl (gb_l5 gw_165 gw_166 gw_167 gw_150 gw_168) v_X8_number ⟨rfl, rfl⟩ ⟨Nat.le_of_ble_eq_true rfl, Nat.le_of_ble_eq_true rfl⟩ dX2_readOne_25 (s_is (Nat.le_of_ble_eq_true rfl) dX2_readOne_28 (s_il dX2_readOne_30 (s_zge (tgt := 37) (by decide +kernel) dX2_readOne_32 (s_aln 0 rfl dX2_readOne_37 (s_gf (T := TX2) winX2 rfl (Nat.le_of_ble_eq_true rfl) gw_169 rfl dX2_readOne_38 (s_iln 2 rfl dX2_readOne_41 (s_iln 3 rfl dX2_readOne_42 (s_iast dX2_readOne_43 (s_aln 0 rfl dX2_readOne_44 (s_gf (T := TX2) winX2 rfl (Nat.le_of_ble_eq_true rfl) gw_170 rfl dX2_readOne_45 (s_iln 2 rfl dX2_readOne_48 (s_il dX2_readOne_49 (s_iast dX2_readOne_51 (s_iconst (by decide +kernel) dX2_readOne_52 (s_rz rfl dX2_readOne_53)))))))))))) (s_iconst (by decide +kernel) dX2_readOne_35 (s_rz rfl dX2_readOne_36))))))))) (s_X2_readOne_19 hκ)))))))))))
noncomputable def f_X2_readOne : gb_F := gb_hide (gb_mf 5 (k_X2_readOne_0 gb_n))
theorem c_X2_readOne : ∀ l, gb_Met l yX2_readOne cX2_readOne 5 (some .boolean) 2 (gb_rm 3 68) f_X2_readOne := gb_hide_c (gb_met (own := RX2) (rk := 2) rfl (by decide +kernel) ⟨rfl, rfl⟩ (s_X2_readOne_0 gb_S_n))
theorem dX8_fault_0 : decode cX8_fault 0 = .ok (.bipush (-21), 2) := by decide +kernel
theorem dX8_fault_2 : decode cX8_fault 2 = .ok (.aload_n 0, 1) := by decide +kernel
theorem dX8_fault_3 : decode cX8_fault 3 = .ok (.getfield 19, 3) := by decide +kernel
theorem dX8_fault_6 : decode cX8_fault 6 = .ok (.isub, 1) := by decide +kernel
theorem dX8_fault_7 : decode cX8_fault 7 = .ok (.ireturn, 1) := by decide +kernel
theorem v_X8_fault : yX8_fault.cls = RX8 ∧ yX8_fault.cls ≠ "java/lang/invoke/MethodHandle" ∧ yX8_fault.cls ≠ "java/lang/invoke/VarHandle" ∧ (parseMethodDescriptor yX8_fault.desc).map (fun d => d.parameters.length) = some 0 := ⟨rfl, by decide +kernel, by decide +kernel, by decide +kernel⟩
noncomputable def k_X8_fault_0 (κ : gb_K) : gb_C := (o_ci (-21) (o_al 0 (o_gf 8 2 (o_ib (fun x y => x - y) o_ri))))
theorem l_X8_fault_0 : gb_Li (fun κ => k_X8_fault_0 κ) := (gb_li (q_ci (-21)) (gb_li (q_al 0) (gb_li (q_gf 8 2) (gb_li (q_ib _) (gb_li0 _)))))
theorem s_X8_fault_0   {κ : gb_K} (hκ : ∀ q, gb_S RX8 cX8_fault 1 (gb_rm 0 0) 1 q (κ q)) : gb_S RX8 cX8_fault 1 (gb_rm 0 0) 1 0 (k_X8_fault_0 κ) := (s_bipush (by decide +kernel) dX8_fault_0 (s_aln 0 rfl dX8_fault_2 (s_gf (T := TX8) winX8 rfl (Nat.le_of_ble_eq_true rfl) gw_145 rfl dX8_fault_3 (s_isub dX8_fault_6 (s_ri rfl dX8_fault_7)))))
noncomputable def f_X8_fault : gb_F := gb_hide (gb_mf 1 (k_X8_fault_0 gb_n))
theorem c_X8_fault : ∀ l, gb_Met l yX8_fault cX8_fault 1 (some .int) 1 (gb_rm 0 0) f_X8_fault := gb_hide_c (gb_met (own := RX8) (rk := 1) rfl (by decide +kernel) ⟨rfl, rfl⟩ (s_X8_fault_0 gb_S_n))
theorem dX2_read_0 : decode cX2_read 0 = .ok (.aload_n 0, 1) := by decide +kernel
theorem dX2_read_1 : decode cX2_read 1 = .ok (.iconst 0, 1) := by decide +kernel
theorem dX2_read_2 : decode cX2_read 2 = .ok (.putfield 21, 3) := by decide +kernel
theorem dX2_read_5 : decode cX2_read 5 = .ok (.aload_n 1, 1) := by decide +kernel
theorem dX2_read_6 : decode cX2_read 6 = .ok (.invokevirtual 25, 3) := by decide +kernel
theorem dX2_read_9 : decode cX2_read 9 = .ok (.ifCond .eq 5, 3) := by decide +kernel
theorem dX2_read_12 : decode cX2_read 12 = .ok (.iconst 0, 1) := by decide +kernel
theorem dX2_read_13 : decode cX2_read 13 = .ok (.ireturn, 1) := by decide +kernel
theorem dX2_read_14 : decode cX2_read 14 = .ok (.iconst 0, 1) := by decide +kernel
theorem dX2_read_15 : decode cX2_read 15 = .ok (.istore_n 2, 1) := by decide +kernel
theorem dX2_read_16 : decode cX2_read 16 = .ok (.iload_n 2, 1) := by decide +kernel
theorem dX2_read_17 : decode cX2_read 17 = .ok (.bipush 6, 2) := by decide +kernel
theorem dX2_read_19 : decode cX2_read 19 = .ok (.if_icmp .ge 61, 3) := by decide +kernel
theorem dX2_read_22 : decode cX2_read 22 = .ok (.aload_n 0, 1) := by decide +kernel
theorem dX2_read_23 : decode cX2_read 23 = .ok (.aload_n 1, 1) := by decide +kernel
theorem dX2_read_24 : decode cX2_read 24 = .ok (.iload_n 2, 1) := by decide +kernel
theorem dX2_read_25 : decode cX2_read 25 = .ok (.invokevirtual 31, 3) := by decide +kernel
theorem dX2_read_28 : decode cX2_read 28 = .ok (.ifCond .ne 8, 3) := by decide +kernel
theorem dX2_read_31 : decode cX2_read 31 = .ok (.aload_n 1, 1) := by decide +kernel
theorem dX2_read_32 : decode cX2_read 32 = .ok (.invokevirtual 35, 3) := by decide +kernel
theorem dX2_read_35 : decode cX2_read 35 = .ok (.ireturn, 1) := by decide +kernel
theorem dX2_read_36 : decode cX2_read 36 = .ok (.aload_n 1, 1) := by decide +kernel
theorem dX2_read_37 : decode cX2_read 37 = .ok (.invokevirtual 25, 3) := by decide +kernel
theorem dX2_read_40 : decode cX2_read 40 = .ok (.ifCond .eq 15, 3) := by decide +kernel
theorem dX2_read_43 : decode cX2_read 43 = .ok (.aload_n 0, 1) := by decide +kernel
theorem dX2_read_44 : decode cX2_read 44 = .ok (.iload_n 2, 1) := by decide +kernel
theorem dX2_read_45 : decode cX2_read 45 = .ok (.iconst 1, 1) := by decide +kernel
theorem dX2_read_46 : decode cX2_read 46 = .ok (.iadd, 1) := by decide +kernel
theorem dX2_read_47 : decode cX2_read 47 = .ok (.putfield 21, 3) := by decide +kernel
theorem dX2_read_50 : decode cX2_read 50 = .ok (.aload_n 0, 1) := by decide +kernel
theorem dX2_read_51 : decode cX2_read 51 = .ok (.getfield 21, 3) := by decide +kernel
theorem dX2_read_54 : decode cX2_read 54 = .ok (.ireturn, 1) := by decide +kernel
theorem dX2_read_55 : decode cX2_read 55 = .ok (.iload_n 2, 1) := by decide +kernel
theorem dX2_read_56 : decode cX2_read 56 = .ok (.iconst 5, 1) := by decide +kernel
theorem dX2_read_57 : decode cX2_read 57 = .ok (.if_icmp .eq 12, 3) := by decide +kernel
theorem dX2_read_60 : decode cX2_read 60 = .ok (.aload_n 1, 1) := by decide +kernel
theorem dX2_read_61 : decode cX2_read 61 = .ok (.bipush 44, 2) := by decide +kernel
theorem dX2_read_63 : decode cX2_read 63 = .ok (.invokevirtual 39, 3) := by decide +kernel
theorem dX2_read_66 : decode cX2_read 66 = .ok (.ifCond .ne 8, 3) := by decide +kernel
theorem dX2_read_69 : decode cX2_read 69 = .ok (.aload_n 1, 1) := by decide +kernel
theorem dX2_read_70 : decode cX2_read 70 = .ok (.invokevirtual 35, 3) := by decide +kernel
theorem dX2_read_73 : decode cX2_read 73 = .ok (.ireturn, 1) := by decide +kernel
theorem dX2_read_74 : decode cX2_read 74 = .ok (.iinc 2 1, 3) := by decide +kernel
theorem dX2_read_77 : decode cX2_read 77 = .ok (.goto (-61), 3) := by decide +kernel
theorem dX2_read_80 : decode cX2_read 80 = .ok (.aload_n 1, 1) := by decide +kernel
theorem dX2_read_81 : decode cX2_read 81 = .ok (.invokevirtual 35, 3) := by decide +kernel
theorem dX2_read_84 : decode cX2_read 84 = .ok (.ireturn, 1) := by decide +kernel
theorem v_X2_read : yX2_read.cls = RX2 ∧ yX2_read.cls ≠ "java/lang/invoke/MethodHandle" ∧ yX2_read.cls ≠ "java/lang/invoke/VarHandle" ∧ (parseMethodDescriptor yX2_read.desc).map (fun d => d.parameters.length) = some 1 := ⟨rfl, by decide +kernel, by decide +kernel, by decide +kernel⟩
noncomputable def k_X2_read_0 (κ : gb_K) : gb_C := (o_al 0 (o_ci 0 (o_pf 2 3 (o_al 1 (o_cv 0 8 2 f_X8_ended (o_zeq (o_ci 0 (o_is 2 (o_j [0, 1, 2] (κ 16)))) (o_ci 0 o_ri)))))))
theorem l_X2_read_0 : gb_Li (fun κ => k_X2_read_0 κ) := (gb_li (q_al 0) (gb_li (q_ci 0) (gb_li (q_pf 2 3) (gb_li (q_al 1) (gb_li (q_cv 0 8 2 f_X8_ended) (q_zeq (gb_li (q_ci 0) (gb_li (q_is 2) (q_j [0, 1, 2] 16))) (gb_li (q_ci 0) (gb_li0 _))))))))
theorem s_X2_read_0   {κ : gb_K} (hκ : ∀ q, gb_S RX2 cX2_read 3 (gb_rm 4 92) 1 q (κ q)) : gb_S RX2 cX2_read 3 (gb_rm 4 92) 1 0 (k_X2_read_0 κ) := (s_aln 0 rfl dX2_read_0 (s_iconst (by decide +kernel) dX2_read_1 (s_pf (T := TX2) winX2 rfl (Nat.le_of_ble_eq_true rfl) tyX2_ok nmX2 rfl (by decide +kernel) gw_171 rfl dX2_read_2 (s_aln 1 rfl dX2_read_5 (s_cv (C := RX8) c_X8_ended rfl (gb_l5 gw_172 gw_148 gw_149 gw_150 gw_151) v_X8_ended ⟨rfl, rfl⟩ ⟨Nat.le_of_ble_eq_true rfl, Nat.le_of_ble_eq_true rfl⟩ dX2_read_6 (s_zeq (tgt := 14) (by decide +kernel) dX2_read_9 (s_iconst (by decide +kernel) dX2_read_14 (s_isn 2 rfl (Nat.le_of_ble_eq_true rfl) dX2_read_15 (s_j (hκ 16)))) (s_iconst (by decide +kernel) dX2_read_12 (s_ri rfl dX2_read_13))))))))
noncomputable def k_X2_read_69 (κ : gb_K) : gb_C := (o_al 1 (o_cv 0 8 1 f_X8_fault o_ri))
theorem l_X2_read_69 : gb_Li (fun κ => k_X2_read_69 κ) := (gb_li (q_al 1) (gb_li (q_cv 0 8 1 f_X8_fault) (gb_li0 _)))
theorem s_X2_read_69   {κ : gb_K} (hκ : ∀ q, gb_S RX2 cX2_read 3 (gb_rm 4 92) 1 q (κ q)) : gb_S RX2 cX2_read 3 (gb_rm 4 92) 1 69 (k_X2_read_69 κ) := (s_aln 1 rfl dX2_read_69 (s_cv (C := RX8) c_X8_fault rfl (gb_l5 gw_173 gw_174 gw_175 gw_150 gw_176) v_X8_fault ⟨rfl, rfl⟩ ⟨Nat.le_of_ble_eq_true rfl, Nat.le_of_ble_eq_true rfl⟩ dX2_read_70 (s_ri rfl dX2_read_73)))
noncomputable def k_X2_read_16 (κ : gb_K) : gb_C := (o_il 2 (o_ci 6 (o_cge (o_al 1 (o_cv 0 8 1 f_X8_fault o_ri)) (o_al 0 (o_al 1 (o_il 2 (o_cv 2 2 2 f_X2_readOne (o_zeq (o_al 1 (o_cv 0 8 1 f_X8_fault o_ri)) (o_al 1 (o_cv 0 8 2 f_X8_ended (o_zeq (o_il 2 (o_ci 5 (o_ceq (k_X2_read_69 κ) (o_al 1 (o_ci 44 (o_cv 1 8 2 f_X8_takes (o_zeq (k_X2_read_69 κ) (o_inc 2 1 (o_j [0, 1, 2] (κ 16)))))))))) (o_al 0 (o_il 2 (o_ci 1 (o_ib (fun x y => x + y) (o_pf 2 3 (o_al 0 (o_gf 2 3 o_ri))))))))))))))))))
theorem l_X2_read_16 : gb_Li (fun κ => k_X2_read_16 κ) := (gb_li (q_il 2) (gb_li (q_ci 6) (q_cge (gb_li (q_al 1) (gb_li (q_cv 0 8 1 f_X8_fault) (gb_li0 _))) (gb_li (q_al 0) (gb_li (q_al 1) (gb_li (q_il 2) (gb_li (q_cv 2 2 2 f_X2_readOne) (q_zeq (gb_li (q_al 1) (gb_li (q_cv 0 8 1 f_X8_fault) (gb_li0 _))) (gb_li (q_al 1) (gb_li (q_cv 0 8 2 f_X8_ended) (q_zeq (gb_li (q_il 2) (gb_li (q_ci 5) (q_ceq (l_X2_read_69) (gb_li (q_al 1) (gb_li (q_ci 44) (gb_li (q_cv 1 8 2 f_X8_takes) (q_zeq (l_X2_read_69) (gb_li (q_inc 2 1) (q_j [0, 1, 2] 16))))))))) (gb_li (q_al 0) (gb_li (q_il 2) (gb_li (q_ci 1) (gb_li (q_ib _) (gb_li (q_pf 2 3) (gb_li (q_al 0) (gb_li (q_gf 2 3) (gb_li0 _)))))))))))))))))))
theorem s_X2_read_16   {κ : gb_K} (hκ : ∀ q, gb_S RX2 cX2_read 3 (gb_rm 4 92) 1 q (κ q)) : gb_S RX2 cX2_read 3 (gb_rm 4 92) 1 16 (k_X2_read_16 κ) := (s_iln 2 rfl dX2_read_16 (s_bipush (by decide +kernel) dX2_read_17 (s_cge (tgt := 80) (by decide +kernel) dX2_read_19 (s_aln 1 rfl dX2_read_80 (s_cv (C := RX8) c_X8_fault rfl (gb_l5 gw_173 gw_174 gw_175 gw_150 gw_176) v_X8_fault ⟨rfl, rfl⟩ ⟨Nat.le_of_ble_eq_true rfl, Nat.le_of_ble_eq_true rfl⟩ dX2_read_81 (s_ri rfl dX2_read_84))) (s_aln 0 rfl dX2_read_22 (s_aln 1 rfl dX2_read_23 (s_iln 2 rfl dX2_read_24 (s_cv (C := RX2) c_X2_readOne rfl (gb_l5 gw_177 gw_178 gw_179 gw_180 gw_181) v_X2_readOne ⟨rfl, rfl⟩ ⟨Nat.le_of_ble_eq_true rfl, Nat.le_of_ble_eq_true rfl⟩ dX2_read_25 (s_zne (tgt := 36) (by decide +kernel) dX2_read_28 (s_aln 1 rfl dX2_read_36 (s_cv (C := RX8) c_X8_ended rfl (gb_l5 gw_172 gw_148 gw_149 gw_150 gw_151) v_X8_ended ⟨rfl, rfl⟩ ⟨Nat.le_of_ble_eq_true rfl, Nat.le_of_ble_eq_true rfl⟩ dX2_read_37 (s_zeq (tgt := 55) (by decide +kernel) dX2_read_40 (s_iln 2 rfl dX2_read_55 (s_iconst (by decide +kernel) dX2_read_56 (s_ceq (tgt := 69) (by decide +kernel) dX2_read_57 (s_X2_read_69 hκ) (s_aln 1 rfl dX2_read_60 (s_bipush (by decide +kernel) dX2_read_61 (s_cv (C := RX8) c_X8_takes rfl (gb_l5 gw_161 gw_162 gw_163 gw_150 gw_164) v_X8_takes ⟨rfl, rfl⟩ ⟨Nat.le_of_ble_eq_true rfl, Nat.le_of_ble_eq_true rfl⟩ dX2_read_63 (s_zne (tgt := 74) (by decide +kernel) dX2_read_66 (s_inc (by decide +kernel) (Nat.le_of_ble_eq_true rfl) dX2_read_74 (s_goto (tgt := 16) (by decide +kernel) dX2_read_77 (s_j (hκ 16)))) (s_X2_read_69 hκ)))))))) (s_aln 0 rfl dX2_read_43 (s_iln 2 rfl dX2_read_44 (s_iconst (by decide +kernel) dX2_read_45 (s_iadd dX2_read_46 (s_pf (T := TX2) winX2 rfl (Nat.le_of_ble_eq_true rfl) tyX2_ok nmX2 rfl (by decide +kernel) gw_171 rfl dX2_read_47 (s_aln 0 rfl dX2_read_50 (s_gf (T := TX2) winX2 rfl (Nat.le_of_ble_eq_true rfl) gw_171 rfl dX2_read_51 (s_ri rfl dX2_read_54))))))))))) (s_aln 1 rfl dX2_read_31 (s_cv (C := RX8) c_X8_fault rfl (gb_l5 gw_173 gw_174 gw_175 gw_150 gw_176) v_X8_fault ⟨rfl, rfl⟩ ⟨Nat.le_of_ble_eq_true rfl, Nat.le_of_ble_eq_true rfl⟩ dX2_read_32 (s_ri rfl dX2_read_35)))))))))))
noncomputable def B_X2_read : List (Nat × (gb_K → gb_C)) := [(16, fun κ => k_X2_read_16 κ)]
noncomputable def K_X2_read : gb_K := gb_fx (gb_tb (B_X2_read))
theorem L_X2_read : ∀ q, gb_Li (fun κ => gb_tb (B_X2_read) κ q) := gb_tb_li (List.forall_mem_cons.mpr ⟨l_X2_read_16, (fun _ h => absurd h List.not_mem_nil)⟩)
theorem S_X2_read   : ∀ q, gb_S RX2 cX2_read 3 (gb_rm 4 92) 1 q (K_X2_read q) := fun q => gb_fx_S (L_X2_read) (gb_tb_S (List.forall_mem_cons.mpr ⟨fun κ hκ => s_X2_read_16 hκ, (fun _ h => absurd h List.not_mem_nil)⟩)) q
noncomputable def f_X2_read : gb_F := gb_hide (gb_mf 3 (k_X2_read_0 (K_X2_read)))
theorem c_X2_read : ∀ l, gb_Met l yX2_read cX2_read 3 (some .int) 1 (gb_rm 4 92) f_X2_read := gb_hide_c (gb_met (own := RX2) (rk := 1) rfl (by decide +kernel) ⟨rfl, rfl⟩ (s_X2_read_0 (S_X2_read)))
theorem dX2_comeOn_0 : decode cX2_comeOn 0 = .ok (.iconst 0, 1) := by decide +kernel
theorem dX2_comeOn_1 : decode cX2_comeOn 1 = .ok (.istore_n 2, 1) := by decide +kernel
theorem dX2_comeOn_2 : decode cX2_comeOn 2 = .ok (.iload_n 2, 1) := by decide +kernel
theorem dX2_comeOn_3 : decode cX2_comeOn 3 = .ok (.aload_n 0, 1) := by decide +kernel
theorem dX2_comeOn_4 : decode cX2_comeOn 4 = .ok (.getfield 21, 3) := by decide +kernel
theorem dX2_comeOn_7 : decode cX2_comeOn 7 = .ok (.if_icmp .ge 16, 3) := by decide +kernel
theorem dX2_comeOn_10 : decode cX2_comeOn 10 = .ok (.aload_n 0, 1) := by decide +kernel
theorem dX2_comeOn_11 : decode cX2_comeOn 11 = .ok (.getfield 18, 3) := by decide +kernel
theorem dX2_comeOn_14 : decode cX2_comeOn 14 = .ok (.iload_n 2, 1) := by decide +kernel
theorem dX2_comeOn_15 : decode cX2_comeOn 15 = .ok (.iload_n 1, 1) := by decide +kernel
theorem dX2_comeOn_16 : decode cX2_comeOn 16 = .ok (.iastore, 1) := by decide +kernel
theorem dX2_comeOn_17 : decode cX2_comeOn 17 = .ok (.iinc 2 1, 3) := by decide +kernel
theorem dX2_comeOn_20 : decode cX2_comeOn 20 = .ok (.goto (-18), 3) := by decide +kernel
theorem dX2_comeOn_23 : decode cX2_comeOn 23 = .ok (.return_, 1) := by decide +kernel
theorem v_X2_comeOn : yX2_comeOn.cls = RX2 ∧ yX2_comeOn.cls ≠ "java/lang/invoke/MethodHandle" ∧ yX2_comeOn.cls ≠ "java/lang/invoke/VarHandle" ∧ (parseMethodDescriptor yX2_comeOn.desc).map (fun d => d.parameters.length) = some 1 := ⟨rfl, by decide +kernel, by decide +kernel, by decide +kernel⟩
noncomputable def k_X2_comeOn_0 (κ : gb_K) : gb_C := (o_ci 0 (o_is 2 (o_j [0, 1, 2] (κ 2))))
theorem l_X2_comeOn_0 : gb_Li (fun κ => k_X2_comeOn_0 κ) := (gb_li (q_ci 0) (gb_li (q_is 2) (q_j [0, 1, 2] 2)))
theorem s_X2_comeOn_0   {κ : gb_K} (hκ : ∀ q, gb_S RX2 cX2_comeOn 3 (gb_rm 0 0) 0 q (κ q)) : gb_S RX2 cX2_comeOn 3 (gb_rm 0 0) 0 0 (k_X2_comeOn_0 κ) := (s_iconst (by decide +kernel) dX2_comeOn_0 (s_isn 2 rfl (Nat.le_of_ble_eq_true rfl) dX2_comeOn_1 (s_j (hκ 2))))
noncomputable def k_X2_comeOn_2 (κ : gb_K) : gb_C := (o_il 2 (o_al 0 (o_gf 2 3 (o_cge o_rv (o_al 0 (o_gf 2 2 (o_il 2 (o_il 1 (o_iast (o_inc 2 1 (o_j [0, 1, 2] (κ 2))))))))))))
theorem l_X2_comeOn_2 : gb_Li (fun κ => k_X2_comeOn_2 κ) := (gb_li (q_il 2) (gb_li (q_al 0) (gb_li (q_gf 2 3) (q_cge (gb_li0 _) (gb_li (q_al 0) (gb_li (q_gf 2 2) (gb_li (q_il 2) (gb_li (q_il 1) (gb_li q_iast (gb_li (q_inc 2 1) (q_j [0, 1, 2] 2)))))))))))
theorem s_X2_comeOn_2   {κ : gb_K} (hκ : ∀ q, gb_S RX2 cX2_comeOn 3 (gb_rm 0 0) 0 q (κ q)) : gb_S RX2 cX2_comeOn 3 (gb_rm 0 0) 0 2 (k_X2_comeOn_2 κ) := (s_iln 2 rfl dX2_comeOn_2 (s_aln 0 rfl dX2_comeOn_3 (s_gf (T := TX2) winX2 rfl (Nat.le_of_ble_eq_true rfl) gw_171 rfl dX2_comeOn_4 (s_cge (tgt := 23) (by decide +kernel) dX2_comeOn_7 (s_rv rfl dX2_comeOn_23) (s_aln 0 rfl dX2_comeOn_10 (s_gf (T := TX2) winX2 rfl (Nat.le_of_ble_eq_true rfl) gw_182 rfl dX2_comeOn_11 (s_iln 2 rfl dX2_comeOn_14 (s_iln 1 rfl dX2_comeOn_15 (s_iast dX2_comeOn_16 (s_inc (by decide +kernel) (Nat.le_of_ble_eq_true rfl) dX2_comeOn_17 (s_goto (tgt := 2) (by decide +kernel) dX2_comeOn_20 (s_j (hκ 2)))))))))))))
noncomputable def B_X2_comeOn : List (Nat × (gb_K → gb_C)) := [(2, fun κ => k_X2_comeOn_2 κ)]
noncomputable def K_X2_comeOn : gb_K := gb_fx (gb_tb (B_X2_comeOn))
theorem L_X2_comeOn : ∀ q, gb_Li (fun κ => gb_tb (B_X2_comeOn) κ q) := gb_tb_li (List.forall_mem_cons.mpr ⟨l_X2_comeOn_2, (fun _ h => absurd h List.not_mem_nil)⟩)
theorem S_X2_comeOn   : ∀ q, gb_S RX2 cX2_comeOn 3 (gb_rm 0 0) 0 q (K_X2_comeOn q) := fun q => gb_fx_S (L_X2_comeOn) (gb_tb_S (List.forall_mem_cons.mpr ⟨fun κ hκ => s_X2_comeOn_2 hκ, (fun _ h => absurd h List.not_mem_nil)⟩)) q
noncomputable def f_X2_comeOn : gb_F := gb_hide (gb_mf 3 (k_X2_comeOn_0 (K_X2_comeOn)))
theorem c_X2_comeOn : ∀ l, gb_Met l yX2_comeOn cX2_comeOn 3 none 0 (gb_rm 0 0) f_X2_comeOn := gb_hide_c (gb_met (own := RX2) (rk := 0) rfl (by decide +kernel) ⟨rfl, rfl⟩ (s_X2_comeOn_0 (S_X2_comeOn)))
theorem dX2_takeLayers_0 : decode cX2_takeLayers 0 = .ok (.aload_n 0, 1) := by decide +kernel
theorem dX2_takeLayers_1 : decode cX2_takeLayers 1 = .ok (.bipush 6, 2) := by decide +kernel
theorem dX2_takeLayers_3 : decode cX2_takeLayers 3 = .ok (.aload_n 1, 1) := by decide +kernel
theorem dX2_takeLayers_4 : decode cX2_takeLayers 4 = .ok (.getfield 51, 3) := by decide +kernel
theorem dX2_takeLayers_7 : decode cX2_takeLayers 7 = .ok (.iload_n 2, 1) := by decide +kernel
theorem dX2_takeLayers_8 : decode cX2_takeLayers 8 = .ok (.iaload, 1) := by decide +kernel
theorem dX2_takeLayers_9 : decode cX2_takeLayers 9 = .ok (.invokestatic 56, 3) := by decide +kernel
theorem dX2_takeLayers_12 : decode cX2_takeLayers 12 = .ok (.putfield 21, 3) := by decide +kernel
theorem dX2_takeLayers_15 : decode cX2_takeLayers 15 = .ok (.iconst 0, 1) := by decide +kernel
theorem dX2_takeLayers_16 : decode cX2_takeLayers 16 = .ok (.istore_n 3, 1) := by decide +kernel
theorem dX2_takeLayers_17 : decode cX2_takeLayers 17 = .ok (.iload_n 3, 1) := by decide +kernel
theorem dX2_takeLayers_18 : decode cX2_takeLayers 18 = .ok (.aload_n 0, 1) := by decide +kernel
theorem dX2_takeLayers_19 : decode cX2_takeLayers 19 = .ok (.getfield 21, 3) := by decide +kernel
theorem dX2_takeLayers_22 : decode cX2_takeLayers 22 = .ok (.if_icmp .ge 55, 3) := by decide +kernel
theorem dX2_takeLayers_25 : decode cX2_takeLayers 25 = .ok (.iload_n 2, 1) := by decide +kernel
theorem dX2_takeLayers_26 : decode cX2_takeLayers 26 = .ok (.iload_n 3, 1) := by decide +kernel
theorem dX2_takeLayers_27 : decode cX2_takeLayers 27 = .ok (.invokestatic 61, 3) := by decide +kernel
theorem dX2_takeLayers_30 : decode cX2_takeLayers 30 = .ok (.istore 4, 2) := by decide +kernel
theorem dX2_takeLayers_32 : decode cX2_takeLayers 32 = .ok (.aload_n 0, 1) := by decide +kernel
theorem dX2_takeLayers_33 : decode cX2_takeLayers 33 = .ok (.getfield 11, 3) := by decide +kernel
theorem dX2_takeLayers_36 : decode cX2_takeLayers 36 = .ok (.iload_n 3, 1) := by decide +kernel
theorem dX2_takeLayers_37 : decode cX2_takeLayers 37 = .ok (.aload_n 1, 1) := by decide +kernel
theorem dX2_takeLayers_38 : decode cX2_takeLayers 38 = .ok (.getfield 64, 3) := by decide +kernel
theorem dX2_takeLayers_41 : decode cX2_takeLayers 41 = .ok (.iload 4, 2) := by decide +kernel
theorem dX2_takeLayers_43 : decode cX2_takeLayers 43 = .ok (.iaload, 1) := by decide +kernel
theorem dX2_takeLayers_44 : decode cX2_takeLayers 44 = .ok (.iastore, 1) := by decide +kernel
theorem dX2_takeLayers_45 : decode cX2_takeLayers 45 = .ok (.aload_n 0, 1) := by decide +kernel
theorem dX2_takeLayers_46 : decode cX2_takeLayers 46 = .ok (.getfield 15, 3) := by decide +kernel
theorem dX2_takeLayers_49 : decode cX2_takeLayers 49 = .ok (.iload_n 3, 1) := by decide +kernel
theorem dX2_takeLayers_50 : decode cX2_takeLayers 50 = .ok (.aload_n 1, 1) := by decide +kernel
theorem dX2_takeLayers_51 : decode cX2_takeLayers 51 = .ok (.getfield 65, 3) := by decide +kernel
theorem dX2_takeLayers_54 : decode cX2_takeLayers 54 = .ok (.iload 4, 2) := by decide +kernel
theorem dX2_takeLayers_56 : decode cX2_takeLayers 56 = .ok (.iaload, 1) := by decide +kernel
theorem dX2_takeLayers_57 : decode cX2_takeLayers 57 = .ok (.iastore, 1) := by decide +kernel
theorem dX2_takeLayers_58 : decode cX2_takeLayers 58 = .ok (.aload_n 0, 1) := by decide +kernel
theorem dX2_takeLayers_59 : decode cX2_takeLayers 59 = .ok (.getfield 18, 3) := by decide +kernel
theorem dX2_takeLayers_62 : decode cX2_takeLayers 62 = .ok (.iload_n 3, 1) := by decide +kernel
theorem dX2_takeLayers_63 : decode cX2_takeLayers 63 = .ok (.aload_n 1, 1) := by decide +kernel
theorem dX2_takeLayers_64 : decode cX2_takeLayers 64 = .ok (.getfield 66, 3) := by decide +kernel
theorem dX2_takeLayers_67 : decode cX2_takeLayers 67 = .ok (.iload 4, 2) := by decide +kernel
theorem dX2_takeLayers_69 : decode cX2_takeLayers 69 = .ok (.iaload, 1) := by decide +kernel
theorem dX2_takeLayers_70 : decode cX2_takeLayers 70 = .ok (.iastore, 1) := by decide +kernel
theorem dX2_takeLayers_71 : decode cX2_takeLayers 71 = .ok (.iinc 3 1, 3) := by decide +kernel
theorem dX2_takeLayers_74 : decode cX2_takeLayers 74 = .ok (.goto (-57), 3) := by decide +kernel
theorem dX2_takeLayers_77 : decode cX2_takeLayers 77 = .ok (.return_, 1) := by decide +kernel
theorem v_X2_takeLayers : yX2_takeLayers.cls = RX2 ∧ yX2_takeLayers.cls ≠ "java/lang/invoke/MethodHandle" ∧ yX2_takeLayers.cls ≠ "java/lang/invoke/VarHandle" ∧ (parseMethodDescriptor yX2_takeLayers.desc).map (fun d => d.parameters.length) = some 2 := ⟨rfl, by decide +kernel, by decide +kernel, by decide +kernel⟩
noncomputable def k_X2_takeLayers_0 (κ : gb_K) : gb_C := (o_al 0 (o_ci 6 (o_al 1 (o_gf 7 3 (o_il 2 (o_iald (o_mmin (o_pf 2 3 (o_ci 0 (o_is 3 (o_j [0, 1, 2, 3] (κ 17))))))))))))
theorem l_X2_takeLayers_0 : gb_Li (fun κ => k_X2_takeLayers_0 κ) := (gb_li (q_al 0) (gb_li (q_ci 6) (gb_li (q_al 1) (gb_li (q_gf 7 3) (gb_li (q_il 2) (gb_li q_iald (gb_li q_mmin (gb_li (q_pf 2 3) (gb_li (q_ci 0) (gb_li (q_is 3) (q_j [0, 1, 2, 3] 17)))))))))))
theorem s_X2_takeLayers_0   {κ : gb_K} (hκ : ∀ q, gb_S RX2 cX2_takeLayers 5 (gb_rm 1 21) 0 q (κ q)) : gb_S RX2 cX2_takeLayers 5 (gb_rm 1 21) 0 0 (k_X2_takeLayers_0 κ) := (s_aln 0 rfl dX2_takeLayers_0 (s_bipush (by decide +kernel) dX2_takeLayers_1 (s_aln 1 rfl dX2_takeLayers_3 (s_gf (T := TX7) winX7 rfl (Nat.le_of_ble_eq_true rfl) gw_183 rfl dX2_takeLayers_4 (s_iln 2 rfl dX2_takeLayers_7 (s_iald dX2_takeLayers_8 (s_mmin ⟨Nat.le_of_ble_eq_true rfl, Nat.le_of_ble_eq_true rfl⟩ (gb_l4 gw_184 gw_95 gw_17 gw_96) dX2_takeLayers_9 (s_pf (T := TX2) winX2 rfl (Nat.le_of_ble_eq_true rfl) tyX2_ok nmX2 rfl (by decide +kernel) gw_171 rfl dX2_takeLayers_12 (s_iconst (by decide +kernel) dX2_takeLayers_15 (s_isn 3 rfl (Nat.le_of_ble_eq_true rfl) dX2_takeLayers_16 (s_j (hκ 17))))))))))))
noncomputable def k_X2_takeLayers_69 (κ : gb_K) : gb_C := (o_iald (o_iast (o_inc 3 1 (o_j [0, 1, 2, 3] (κ 17)))))
theorem l_X2_takeLayers_69 : gb_Li (fun κ => k_X2_takeLayers_69 κ) := (gb_li q_iald (gb_li q_iast (gb_li (q_inc 3 1) (q_j [0, 1, 2, 3] 17))))
theorem s_X2_takeLayers_69   {κ : gb_K} (hκ : ∀ q, gb_S RX2 cX2_takeLayers 5 (gb_rm 1 21) 0 q (κ q)) : gb_S RX2 cX2_takeLayers 5 (gb_rm 1 21) 0 69 (k_X2_takeLayers_69 κ) := (s_iald dX2_takeLayers_69 (s_iast dX2_takeLayers_70 (s_inc (by decide +kernel) (Nat.le_of_ble_eq_true rfl) dX2_takeLayers_71 (s_goto (tgt := 17) (by decide +kernel) dX2_takeLayers_74 (s_j (hκ 17))))))
noncomputable def k_X2_takeLayers_17 (κ : gb_K) : gb_C := (o_il 3 (o_al 0 (o_gf 2 3 (o_cge o_rv (o_il 2 (o_il 3 (o_cs 2 1 f_X7_place (o_is 4 (o_al 0 (o_gf 2 0 (o_il 3 (o_al 1 (o_gf 7 5 (o_il 4 (o_iald (o_iast (o_al 0 (o_gf 2 1 (o_il 3 (o_al 1 (o_gf 7 6 (o_il 4 (o_iald (o_iast (o_al 0 (o_gf 2 2 (o_il 3 (o_al 1 (o_gf 7 7 (o_il 4 (k_X2_takeLayers_69 κ)))))))))))))))))))))))))))))))
theorem l_X2_takeLayers_17 : gb_Li (fun κ => k_X2_takeLayers_17 κ) := (gb_li (q_il 3) (gb_li (q_al 0) (gb_li (q_gf 2 3) (q_cge (gb_li0 _) (gb_li (q_il 2) (gb_li (q_il 3) (gb_li (q_cs 2 1 f_X7_place) (gb_li (q_is 4) (gb_li (q_al 0) (gb_li (q_gf 2 0) (gb_li (q_il 3) (gb_li (q_al 1) (gb_li (q_gf 7 5) (gb_li (q_il 4) (gb_li q_iald (gb_li q_iast (gb_li (q_al 0) (gb_li (q_gf 2 1) (gb_li (q_il 3) (gb_li (q_al 1) (gb_li (q_gf 7 6) (gb_li (q_il 4) (gb_li q_iald (gb_li q_iast (gb_li (q_al 0) (gb_li (q_gf 2 2) (gb_li (q_il 3) (gb_li (q_al 1) (gb_li (q_gf 7 7) (gb_li (q_il 4) (l_X2_takeLayers_69)))))))))))))))))))))))))))))))
theorem s_X2_takeLayers_17   {κ : gb_K} (hκ : ∀ q, gb_S RX2 cX2_takeLayers 5 (gb_rm 1 21) 0 q (κ q)) : gb_S RX2 cX2_takeLayers 5 (gb_rm 1 21) 0 17 (k_X2_takeLayers_17 κ) := (s_iln 3 rfl dX2_takeLayers_17 (s_aln 0 rfl dX2_takeLayers_18 (s_gf (T := TX2) winX2 rfl (Nat.le_of_ble_eq_true rfl) gw_171 rfl dX2_takeLayers_19 (s_cge (tgt := 77) (by decide +kernel) dX2_takeLayers_22 (s_rv rfl dX2_takeLayers_77) (s_iln 2 rfl dX2_takeLayers_25 (s_iln 3 rfl dX2_takeLayers_26 (s_cs c_X7_place (gb_l4 gw_185 gw_23 gw_11 gw_24) v_X7_place.2 ⟨rfl, rfl⟩ ⟨Nat.le_of_ble_eq_true rfl, Nat.le_of_ble_eq_true rfl⟩ dX2_takeLayers_27 (s_is (Nat.le_of_ble_eq_true rfl) dX2_takeLayers_30 (s_aln 0 rfl dX2_takeLayers_32 (s_gf (T := TX2) winX2 rfl (Nat.le_of_ble_eq_true rfl) gw_169 rfl dX2_takeLayers_33 (s_iln 3 rfl dX2_takeLayers_36 (s_aln 1 rfl dX2_takeLayers_37 (s_gf (T := TX7) winX7 rfl (Nat.le_of_ble_eq_true rfl) gw_186 rfl dX2_takeLayers_38 (s_il dX2_takeLayers_41 (s_iald dX2_takeLayers_43 (s_iast dX2_takeLayers_44 (s_aln 0 rfl dX2_takeLayers_45 (s_gf (T := TX2) winX2 rfl (Nat.le_of_ble_eq_true rfl) gw_170 rfl dX2_takeLayers_46 (s_iln 3 rfl dX2_takeLayers_49 (s_aln 1 rfl dX2_takeLayers_50 (s_gf (T := TX7) winX7 rfl (Nat.le_of_ble_eq_true rfl) gw_187 rfl dX2_takeLayers_51 (s_il dX2_takeLayers_54 (s_iald dX2_takeLayers_56 (s_iast dX2_takeLayers_57 (s_aln 0 rfl dX2_takeLayers_58 (s_gf (T := TX2) winX2 rfl (Nat.le_of_ble_eq_true rfl) gw_182 rfl dX2_takeLayers_59 (s_iln 3 rfl dX2_takeLayers_62 (s_aln 1 rfl dX2_takeLayers_63 (s_gf (T := TX7) winX7 rfl (Nat.le_of_ble_eq_true rfl) gw_188 rfl dX2_takeLayers_64 (s_il dX2_takeLayers_67 (s_X2_takeLayers_69 hκ)))))))))))))))))))))))))))))))
noncomputable def B_X2_takeLayers : List (Nat × (gb_K → gb_C)) := [(17, fun κ => k_X2_takeLayers_17 κ)]
noncomputable def K_X2_takeLayers : gb_K := gb_fx (gb_tb (B_X2_takeLayers))
theorem L_X2_takeLayers : ∀ q, gb_Li (fun κ => gb_tb (B_X2_takeLayers) κ q) := gb_tb_li (List.forall_mem_cons.mpr ⟨l_X2_takeLayers_17, (fun _ h => absurd h List.not_mem_nil)⟩)
theorem S_X2_takeLayers   : ∀ q, gb_S RX2 cX2_takeLayers 5 (gb_rm 1 21) 0 q (K_X2_takeLayers q) := fun q => gb_fx_S (L_X2_takeLayers) (gb_tb_S (List.forall_mem_cons.mpr ⟨fun κ hκ => s_X2_takeLayers_17 hκ, (fun _ h => absurd h List.not_mem_nil)⟩)) q
noncomputable def f_X2_takeLayers : gb_F := gb_hide (gb_mf 5 (k_X2_takeLayers_0 (K_X2_takeLayers)))
theorem c_X2_takeLayers : ∀ l, gb_Met l yX2_takeLayers cX2_takeLayers 5 none 0 (gb_rm 1 21) f_X2_takeLayers := gb_hide_c (gb_met (own := RX2) (rk := 0) rfl (by decide +kernel) ⟨rfl, rfl⟩ (s_X2_takeLayers_0 (S_X2_takeLayers)))
theorem dX3_clear_0 : decode cX3_clear 0 = .ok (.aload_n 0, 1) := by decide +kernel
theorem dX3_clear_1 : decode cX3_clear 1 = .ok (.iconst 0, 1) := by decide +kernel
theorem dX3_clear_2 : decode cX3_clear 2 = .ok (.putfield 18, 3) := by decide +kernel
theorem dX3_clear_5 : decode cX3_clear 5 = .ok (.return_, 1) := by decide +kernel
theorem v_X3_clear : yX3_clear.cls = RX3 ∧ yX3_clear.cls ≠ "java/lang/invoke/MethodHandle" ∧ yX3_clear.cls ≠ "java/lang/invoke/VarHandle" ∧ (parseMethodDescriptor yX3_clear.desc).map (fun d => d.parameters.length) = some 0 := ⟨rfl, by decide +kernel, by decide +kernel, by decide +kernel⟩
noncomputable def k_X3_clear_0 (κ : gb_K) : gb_C := (o_al 0 (o_ci 0 (o_pf 3 2 o_rv)))
theorem l_X3_clear_0 : gb_Li (fun κ => k_X3_clear_0 κ) := (gb_li (q_al 0) (gb_li (q_ci 0) (gb_li (q_pf 3 2) (gb_li0 _))))
theorem s_X3_clear_0   {κ : gb_K} (hκ : ∀ q, gb_S RX3 cX3_clear 1 (gb_rm 0 0) 0 q (κ q)) : gb_S RX3 cX3_clear 1 (gb_rm 0 0) 0 0 (k_X3_clear_0 κ) := (s_aln 0 rfl dX3_clear_0 (s_iconst (by decide +kernel) dX3_clear_1 (s_pf (T := TX3) winX3 rfl (Nat.le_of_ble_eq_true rfl) tyX3_ok nmX3 rfl (by decide +kernel) gw_189 rfl dX3_clear_2 (s_rv rfl dX3_clear_5))))
noncomputable def f_X3_clear : gb_F := gb_hide (gb_mf 1 (k_X3_clear_0 gb_n))
theorem c_X3_clear : ∀ l, gb_Met l yX3_clear cX3_clear 1 none 0 (gb_rm 0 0) f_X3_clear := gb_hide_c (gb_met (own := RX3) (rk := 0) rfl (by decide +kernel) ⟨rfl, rfl⟩ (s_X3_clear_0 gb_S_n))
theorem dX3_add_0 : decode cX3_add 0 = .ok (.aload_n 0, 1) := by decide +kernel
theorem dX3_add_1 : decode cX3_add 1 = .ok (.getfield 11, 3) := by decide +kernel
theorem dX3_add_4 : decode cX3_add 4 = .ok (.aload_n 0, 1) := by decide +kernel
theorem dX3_add_5 : decode cX3_add 5 = .ok (.getfield 22, 3) := by decide +kernel
theorem dX3_add_8 : decode cX3_add 8 = .ok (.aaload, 1) := by decide +kernel
theorem dX3_add_9 : decode cX3_add 9 = .ok (.aload_n 1, 1) := by decide +kernel
theorem dX3_add_10 : decode cX3_add 10 = .ok (.invokevirtual 25, 3) := by decide +kernel
theorem dX3_add_13 : decode cX3_add 13 = .ok (.aload_n 0, 1) := by decide +kernel
theorem dX3_add_14 : decode cX3_add 14 = .ok (.aload_n 0, 1) := by decide +kernel
theorem dX3_add_15 : decode cX3_add 15 = .ok (.getfield 22, 3) := by decide +kernel
theorem dX3_add_18 : decode cX3_add 18 = .ok (.iconst 1, 1) := by decide +kernel
theorem dX3_add_19 : decode cX3_add 19 = .ok (.iadd, 1) := by decide +kernel
theorem dX3_add_20 : decode cX3_add 20 = .ok (.bipush 8, 2) := by decide +kernel
theorem dX3_add_22 : decode cX3_add 22 = .ok (.irem, 1) := by decide +kernel
theorem dX3_add_23 : decode cX3_add 23 = .ok (.putfield 22, 3) := by decide +kernel
theorem dX3_add_26 : decode cX3_add 26 = .ok (.aload_n 0, 1) := by decide +kernel
theorem dX3_add_27 : decode cX3_add 27 = .ok (.bipush 8, 2) := by decide +kernel
theorem dX3_add_29 : decode cX3_add 29 = .ok (.aload_n 0, 1) := by decide +kernel
theorem dX3_add_30 : decode cX3_add 30 = .ok (.getfield 18, 3) := by decide +kernel
theorem dX3_add_33 : decode cX3_add 33 = .ok (.iconst 1, 1) := by decide +kernel
theorem dX3_add_34 : decode cX3_add 34 = .ok (.iadd, 1) := by decide +kernel
theorem dX3_add_35 : decode cX3_add 35 = .ok (.invokestatic 29, 3) := by decide +kernel
theorem dX3_add_38 : decode cX3_add 38 = .ok (.putfield 18, 3) := by decide +kernel
theorem dX3_add_41 : decode cX3_add 41 = .ok (.return_, 1) := by decide +kernel
theorem v_X3_add : yX3_add.cls = RX3 ∧ yX3_add.cls ≠ "java/lang/invoke/MethodHandle" ∧ yX3_add.cls ≠ "java/lang/invoke/VarHandle" ∧ (parseMethodDescriptor yX3_add.desc).map (fun d => d.parameters.length) = some 1 := ⟨rfl, by decide +kernel, by decide +kernel, by decide +kernel⟩
noncomputable def k_X3_add_0 (κ : gb_K) : gb_C := (o_al 0 (o_gf 3 0 (o_al 0 (o_gf 3 1 (o_aald (o_al 1 (o_cv 1 7 0 f_X7_copy (o_al 0 (o_al 0 (o_gf 3 1 (o_ci 1 (o_ib (fun x y => x + y) (o_ci 8 (o_ig (fun y => !(decide (y = 0))) (fun x y => x - x / y * y) (o_pf 3 1 (o_al 0 (o_ci 8 (o_al 0 (o_gf 3 2 (o_ci 1 (o_ib (fun x y => x + y) (o_mmin (o_pf 3 2 o_rv)))))))))))))))))))))))
theorem l_X3_add_0 : gb_Li (fun κ => k_X3_add_0 κ) := (gb_li (q_al 0) (gb_li (q_gf 3 0) (gb_li (q_al 0) (gb_li (q_gf 3 1) (gb_li q_aald (gb_li (q_al 1) (gb_li (q_cv 1 7 0 f_X7_copy) (gb_li (q_al 0) (gb_li (q_al 0) (gb_li (q_gf 3 1) (gb_li (q_ci 1) (gb_li (q_ib _) (gb_li (q_ci 8) (gb_li (q_ig _ _) (gb_li (q_pf 3 1) (gb_li (q_al 0) (gb_li (q_ci 8) (gb_li (q_al 0) (gb_li (q_gf 3 2) (gb_li (q_ci 1) (gb_li (q_ib _) (gb_li q_mmin (gb_li (q_pf 3 2) (gb_li0 _))))))))))))))))))))))))
theorem s_X3_add_0   {κ : gb_K} (hκ : ∀ q, gb_S RX3 cX3_add 2 (gb_rm 3 67) 0 q (κ q)) : gb_S RX3 cX3_add 2 (gb_rm 3 67) 0 0 (k_X3_add_0 κ) := (s_aln 0 rfl dX3_add_0 (s_gf (T := TX3) winX3 rfl (Nat.le_of_ble_eq_true rfl) gw_190 rfl dX3_add_1 (s_aln 0 rfl dX3_add_4 (s_gf (T := TX3) winX3 rfl (Nat.le_of_ble_eq_true rfl) gw_191 rfl dX3_add_5 (s_aald dX3_add_8 (s_aln 1 rfl dX3_add_9 (s_cv (C := RX7) c_X7_copy rfl (gb_l5 gw_192 gw_56 gw_57 gw_11 gw_58) v_X7_copy ⟨rfl, rfl⟩ ⟨Nat.le_of_ble_eq_true rfl, Nat.le_of_ble_eq_true rfl⟩ dX3_add_10 (s_aln 0 rfl dX3_add_13 (s_aln 0 rfl dX3_add_14 (s_gf (T := TX3) winX3 rfl (Nat.le_of_ble_eq_true rfl) gw_191 rfl dX3_add_15 (s_iconst (by decide +kernel) dX3_add_18 (s_iadd dX3_add_19 (s_bipush (by decide +kernel) dX3_add_20 (s_irem dX3_add_22 (s_pf (T := TX3) winX3 rfl (Nat.le_of_ble_eq_true rfl) tyX3_ok nmX3 rfl (by decide +kernel) gw_191 rfl dX3_add_23 (s_aln 0 rfl dX3_add_26 (s_bipush (by decide +kernel) dX3_add_27 (s_aln 0 rfl dX3_add_29 (s_gf (T := TX3) winX3 rfl (Nat.le_of_ble_eq_true rfl) gw_189 rfl dX3_add_30 (s_iconst (by decide +kernel) dX3_add_33 (s_iadd dX3_add_34 (s_mmin ⟨Nat.le_of_ble_eq_true rfl, Nat.le_of_ble_eq_true rfl⟩ (gb_l4 gw_193 gw_95 gw_17 gw_96) dX3_add_35 (s_pf (T := TX3) winX3 rfl (Nat.le_of_ble_eq_true rfl) tyX3_ok nmX3 rfl (by decide +kernel) gw_189 rfl dX3_add_38 (s_rv rfl dX3_add_41))))))))))))))))))))))))
noncomputable def f_X3_add : gb_F := gb_hide (gb_mf 2 (k_X3_add_0 gb_n))
theorem c_X3_add : ∀ l, gb_Met l yX3_add cX3_add 2 none 0 (gb_rm 3 67) f_X3_add := gb_hide_c (gb_met (own := RX3) (rk := 0) rfl (by decide +kernel) ⟨rfl, rfl⟩ (s_X3_add_0 gb_S_n))
theorem dX3_takeBack_0 : decode cX3_takeBack 0 = .ok (.aload_n 0, 1) := by decide +kernel
theorem dX3_takeBack_1 : decode cX3_takeBack 1 = .ok (.getfield 18, 3) := by decide +kernel
theorem dX3_takeBack_4 : decode cX3_takeBack 4 = .ok (.ifCond .ne 5, 3) := by decide +kernel
theorem dX3_takeBack_7 : decode cX3_takeBack 7 = .ok (.iconst 0, 1) := by decide +kernel
theorem dX3_takeBack_8 : decode cX3_takeBack 8 = .ok (.ireturn, 1) := by decide +kernel
theorem dX3_takeBack_9 : decode cX3_takeBack 9 = .ok (.aload_n 0, 1) := by decide +kernel
theorem dX3_takeBack_10 : decode cX3_takeBack 10 = .ok (.aload_n 0, 1) := by decide +kernel
theorem dX3_takeBack_11 : decode cX3_takeBack 11 = .ok (.getfield 22, 3) := by decide +kernel
theorem dX3_takeBack_14 : decode cX3_takeBack 14 = .ok (.bipush 8, 2) := by decide +kernel
theorem dX3_takeBack_16 : decode cX3_takeBack 16 = .ok (.iadd, 1) := by decide +kernel
theorem dX3_takeBack_17 : decode cX3_takeBack 17 = .ok (.iconst 1, 1) := by decide +kernel
theorem dX3_takeBack_18 : decode cX3_takeBack 18 = .ok (.isub, 1) := by decide +kernel
theorem dX3_takeBack_19 : decode cX3_takeBack 19 = .ok (.bipush 8, 2) := by decide +kernel
theorem dX3_takeBack_21 : decode cX3_takeBack 21 = .ok (.irem, 1) := by decide +kernel
theorem dX3_takeBack_22 : decode cX3_takeBack 22 = .ok (.putfield 22, 3) := by decide +kernel
theorem dX3_takeBack_25 : decode cX3_takeBack 25 = .ok (.aload_n 1, 1) := by decide +kernel
theorem dX3_takeBack_26 : decode cX3_takeBack 26 = .ok (.aload_n 0, 1) := by decide +kernel
theorem dX3_takeBack_27 : decode cX3_takeBack 27 = .ok (.getfield 11, 3) := by decide +kernel
theorem dX3_takeBack_30 : decode cX3_takeBack 30 = .ok (.aload_n 0, 1) := by decide +kernel
theorem dX3_takeBack_31 : decode cX3_takeBack 31 = .ok (.getfield 22, 3) := by decide +kernel
theorem dX3_takeBack_34 : decode cX3_takeBack 34 = .ok (.aaload, 1) := by decide +kernel
theorem dX3_takeBack_35 : decode cX3_takeBack 35 = .ok (.invokevirtual 25, 3) := by decide +kernel
theorem dX3_takeBack_38 : decode cX3_takeBack 38 = .ok (.aload_n 0, 1) := by decide +kernel
theorem dX3_takeBack_39 : decode cX3_takeBack 39 = .ok (.dup, 1) := by decide +kernel
theorem dX3_takeBack_40 : decode cX3_takeBack 40 = .ok (.getfield 18, 3) := by decide +kernel
theorem dX3_takeBack_43 : decode cX3_takeBack 43 = .ok (.iconst 1, 1) := by decide +kernel
theorem dX3_takeBack_44 : decode cX3_takeBack 44 = .ok (.isub, 1) := by decide +kernel
theorem dX3_takeBack_45 : decode cX3_takeBack 45 = .ok (.putfield 18, 3) := by decide +kernel
theorem dX3_takeBack_48 : decode cX3_takeBack 48 = .ok (.iconst 1, 1) := by decide +kernel
theorem dX3_takeBack_49 : decode cX3_takeBack 49 = .ok (.ireturn, 1) := by decide +kernel
theorem v_X3_takeBack : yX3_takeBack.cls = RX3 ∧ yX3_takeBack.cls ≠ "java/lang/invoke/MethodHandle" ∧ yX3_takeBack.cls ≠ "java/lang/invoke/VarHandle" ∧ (parseMethodDescriptor yX3_takeBack.desc).map (fun d => d.parameters.length) = some 1 := ⟨rfl, by decide +kernel, by decide +kernel, by decide +kernel⟩
noncomputable def k_X3_takeBack_0 (κ : gb_K) : gb_C := (o_al 0 (o_gf 3 2 (o_zeq (o_ci 0 o_rz) (o_al 0 (o_al 0 (o_gf 3 1 (o_ci 8 (o_ib (fun x y => x + y) (o_ci 1 (o_ib (fun x y => x - y) (o_ci 8 (o_ig (fun y => !(decide (y = 0))) (fun x y => x - x / y * y) (o_pf 3 1 (o_al 1 (o_al 0 (o_gf 3 0 (o_al 0 (o_gf 3 1 (o_aald (o_cv 1 7 0 f_X7_copy (o_al 0 (o_dup (o_gf 3 2 (o_ci 1 (o_ib (fun x y => x - y) (o_pf 3 2 (o_ci 1 o_rz)))))))))))))))))))))))))))
theorem l_X3_takeBack_0 : gb_Li (fun κ => k_X3_takeBack_0 κ) := (gb_li (q_al 0) (gb_li (q_gf 3 2) (q_zeq (gb_li (q_ci 0) (gb_li0 _)) (gb_li (q_al 0) (gb_li (q_al 0) (gb_li (q_gf 3 1) (gb_li (q_ci 8) (gb_li (q_ib _) (gb_li (q_ci 1) (gb_li (q_ib _) (gb_li (q_ci 8) (gb_li (q_ig _ _) (gb_li (q_pf 3 1) (gb_li (q_al 1) (gb_li (q_al 0) (gb_li (q_gf 3 0) (gb_li (q_al 0) (gb_li (q_gf 3 1) (gb_li q_aald (gb_li (q_cv 1 7 0 f_X7_copy) (gb_li (q_al 0) (gb_li q_dup (gb_li (q_gf 3 2) (gb_li (q_ci 1) (gb_li (q_ib _) (gb_li (q_pf 3 2) (gb_li (q_ci 1) (gb_li0 _))))))))))))))))))))))))))))
theorem s_X3_takeBack_0   {κ : gb_K} (hκ : ∀ q, gb_S RX3 cX3_takeBack 2 (gb_rm 3 67) 2 q (κ q)) : gb_S RX3 cX3_takeBack 2 (gb_rm 3 67) 2 0 (k_X3_takeBack_0 κ) := (s_aln 0 rfl dX3_takeBack_0 (s_gf (T := TX3) winX3 rfl (Nat.le_of_ble_eq_true rfl) gw_189 rfl dX3_takeBack_1 (s_zne (tgt := 9) (by decide +kernel) dX3_takeBack_4 (s_aln 0 rfl dX3_takeBack_9 (s_aln 0 rfl dX3_takeBack_10 (s_gf (T := TX3) winX3 rfl (Nat.le_of_ble_eq_true rfl) gw_191 rfl dX3_takeBack_11 (s_bipush (by decide +kernel) dX3_takeBack_14 (s_iadd dX3_takeBack_16 (s_iconst (by decide +kernel) dX3_takeBack_17 (s_isub dX3_takeBack_18 (s_bipush (by decide +kernel) dX3_takeBack_19 (s_irem dX3_takeBack_21 (s_pf (T := TX3) winX3 rfl (Nat.le_of_ble_eq_true rfl) tyX3_ok nmX3 rfl (by decide +kernel) gw_191 rfl dX3_takeBack_22 (s_aln 1 rfl dX3_takeBack_25 (s_aln 0 rfl dX3_takeBack_26 (s_gf (T := TX3) winX3 rfl (Nat.le_of_ble_eq_true rfl) gw_190 rfl dX3_takeBack_27 (s_aln 0 rfl dX3_takeBack_30 (s_gf (T := TX3) winX3 rfl (Nat.le_of_ble_eq_true rfl) gw_191 rfl dX3_takeBack_31 (s_aald dX3_takeBack_34 (s_cv (C := RX7) c_X7_copy rfl (gb_l5 gw_192 gw_56 gw_57 gw_11 gw_58) v_X7_copy ⟨rfl, rfl⟩ ⟨Nat.le_of_ble_eq_true rfl, Nat.le_of_ble_eq_true rfl⟩ dX3_takeBack_35 (s_aln 0 rfl dX3_takeBack_38 (s_dup dX3_takeBack_39 (s_gf (T := TX3) winX3 rfl (Nat.le_of_ble_eq_true rfl) gw_189 rfl dX3_takeBack_40 (s_iconst (by decide +kernel) dX3_takeBack_43 (s_isub dX3_takeBack_44 (s_pf (T := TX3) winX3 rfl (Nat.le_of_ble_eq_true rfl) tyX3_ok nmX3 rfl (by decide +kernel) gw_189 rfl dX3_takeBack_45 (s_iconst (by decide +kernel) dX3_takeBack_48 (s_rz rfl dX3_takeBack_49))))))))))))))))))))))))) (s_iconst (by decide +kernel) dX3_takeBack_7 (s_rz rfl dX3_takeBack_8)))))
noncomputable def f_X3_takeBack : gb_F := gb_hide (gb_mf 2 (k_X3_takeBack_0 gb_n))
theorem c_X3_takeBack : ∀ l, gb_Met l yX3_takeBack cX3_takeBack 2 (some .boolean) 2 (gb_rm 3 67) f_X3_takeBack := gb_hide_c (gb_met (own := RX3) (rk := 2) rfl (by decide +kernel) ⟨rfl, rfl⟩ (s_X3_takeBack_0 gb_S_n))
theorem dX4_start_0 : decode cX4_start 0 = .ok (.aload_n 0, 1) := by decide +kernel
theorem dX4_start_1 : decode cX4_start 1 = .ok (.iconst 0, 1) := by decide +kernel
theorem dX4_start_2 : decode cX4_start 2 = .ok (.putfield 13, 3) := by decide +kernel
theorem dX4_start_5 : decode cX4_start 5 = .ok (.return_, 1) := by decide +kernel
theorem v_X4_start : yX4_start.cls = RX4 ∧ yX4_start.cls ≠ "java/lang/invoke/MethodHandle" ∧ yX4_start.cls ≠ "java/lang/invoke/VarHandle" ∧ (parseMethodDescriptor yX4_start.desc).map (fun d => d.parameters.length) = some 0 := ⟨rfl, by decide +kernel, by decide +kernel, by decide +kernel⟩
noncomputable def k_X4_start_0 (κ : gb_K) : gb_C := (o_al 0 (o_ci 0 (o_pf 4 1 o_rv)))
theorem l_X4_start_0 : gb_Li (fun κ => k_X4_start_0 κ) := (gb_li (q_al 0) (gb_li (q_ci 0) (gb_li (q_pf 4 1) (gb_li0 _))))
theorem s_X4_start_0   {κ : gb_K} (hκ : ∀ q, gb_S RX4 cX4_start 1 (gb_rm 0 0) 0 q (κ q)) : gb_S RX4 cX4_start 1 (gb_rm 0 0) 0 0 (k_X4_start_0 κ) := (s_aln 0 rfl dX4_start_0 (s_iconst (by decide +kernel) dX4_start_1 (s_pf (T := TX4) winX4 rfl (Nat.le_of_ble_eq_true rfl) tyX4_ok nmX4 rfl (by decide +kernel) gw_194 rfl dX4_start_2 (s_rv rfl dX4_start_5))))
noncomputable def f_X4_start : gb_F := gb_hide (gb_mf 1 (k_X4_start_0 gb_n))
theorem c_X4_start : ∀ l, gb_Met l yX4_start cX4_start 1 none 0 (gb_rm 0 0) f_X4_start := gb_hide_c (gb_met (own := RX4) (rk := 0) rfl (by decide +kernel) ⟨rfl, rfl⟩ (s_X4_start_0 gb_S_n))
theorem dX4_add_0 : decode cX4_add 0 = .ok (.aload_n 0, 1) := by decide +kernel
theorem dX4_add_1 : decode cX4_add 1 = .ok (.getfield 13, 3) := by decide +kernel
theorem dX4_add_4 : decode cX4_add 4 = .ok (.bipush 8, 2) := by decide +kernel
theorem dX4_add_6 : decode cX4_add 6 = .ok (.if_icmp .ge 23, 3) := by decide +kernel
theorem dX4_add_9 : decode cX4_add 9 = .ok (.aload_n 0, 1) := by decide +kernel
theorem dX4_add_10 : decode cX4_add 10 = .ok (.getfield 9, 3) := by decide +kernel
theorem dX4_add_13 : decode cX4_add 13 = .ok (.aload_n 0, 1) := by decide +kernel
theorem dX4_add_14 : decode cX4_add 14 = .ok (.getfield 13, 3) := by decide +kernel
theorem dX4_add_17 : decode cX4_add 17 = .ok (.lload_n 1, 1) := by decide +kernel
theorem dX4_add_18 : decode cX4_add 18 = .ok (.lastore, 1) := by decide +kernel
theorem dX4_add_19 : decode cX4_add 19 = .ok (.aload_n 0, 1) := by decide +kernel
theorem dX4_add_20 : decode cX4_add 20 = .ok (.dup, 1) := by decide +kernel
theorem dX4_add_21 : decode cX4_add 21 = .ok (.getfield 13, 3) := by decide +kernel
theorem dX4_add_24 : decode cX4_add 24 = .ok (.iconst 1, 1) := by decide +kernel
theorem dX4_add_25 : decode cX4_add 25 = .ok (.iadd, 1) := by decide +kernel
theorem dX4_add_26 : decode cX4_add 26 = .ok (.putfield 13, 3) := by decide +kernel
theorem dX4_add_29 : decode cX4_add 29 = .ok (.return_, 1) := by decide +kernel
theorem v_X4_add : yX4_add.cls = RX4 ∧ yX4_add.cls ≠ "java/lang/invoke/MethodHandle" ∧ yX4_add.cls ≠ "java/lang/invoke/VarHandle" ∧ (parseMethodDescriptor yX4_add.desc).map (fun d => d.parameters.length) = some 1 := ⟨rfl, by decide +kernel, by decide +kernel, by decide +kernel⟩
noncomputable def k_X4_add_29 (κ : gb_K) : gb_C := o_rv
theorem l_X4_add_29 : gb_Li (fun κ => k_X4_add_29 κ) := (gb_li0 _)
theorem s_X4_add_29   {κ : gb_K} (hκ : ∀ q, gb_S RX4 cX4_add 3 (gb_rm 0 0) 0 q (κ q)) : gb_S RX4 cX4_add 3 (gb_rm 0 0) 0 29 (k_X4_add_29 κ) := (s_rv rfl dX4_add_29)
noncomputable def k_X4_add_0 (κ : gb_K) : gb_C := (o_al 0 (o_gf 4 1 (o_ci 8 (o_cge (k_X4_add_29 κ) (o_al 0 (o_gf 4 0 (o_al 0 (o_gf 4 1 (o_ll 1 (o_last (o_al 0 (o_dup (o_gf 4 1 (o_ci 1 (o_ib (fun x y => x + y) (o_pf 4 1 (k_X4_add_29 κ)))))))))))))))))
theorem l_X4_add_0 : gb_Li (fun κ => k_X4_add_0 κ) := (gb_li (q_al 0) (gb_li (q_gf 4 1) (gb_li (q_ci 8) (q_cge (l_X4_add_29) (gb_li (q_al 0) (gb_li (q_gf 4 0) (gb_li (q_al 0) (gb_li (q_gf 4 1) (gb_li (q_ll 1) (gb_li q_last (gb_li (q_al 0) (gb_li q_dup (gb_li (q_gf 4 1) (gb_li (q_ci 1) (gb_li (q_ib _) (gb_li (q_pf 4 1) (l_X4_add_29)))))))))))))))))
theorem s_X4_add_0   {κ : gb_K} (hκ : ∀ q, gb_S RX4 cX4_add 3 (gb_rm 0 0) 0 q (κ q)) : gb_S RX4 cX4_add 3 (gb_rm 0 0) 0 0 (k_X4_add_0 κ) := (s_aln 0 rfl dX4_add_0 (s_gf (T := TX4) winX4 rfl (Nat.le_of_ble_eq_true rfl) gw_194 rfl dX4_add_1 (s_bipush (by decide +kernel) dX4_add_4 (s_cge (tgt := 29) (by decide +kernel) dX4_add_6 (s_X4_add_29 hκ) (s_aln 0 rfl dX4_add_9 (s_gf (T := TX4) winX4 rfl (Nat.le_of_ble_eq_true rfl) gw_195 rfl dX4_add_10 (s_aln 0 rfl dX4_add_13 (s_gf (T := TX4) winX4 rfl (Nat.le_of_ble_eq_true rfl) gw_194 rfl dX4_add_14 (s_lln 1 rfl dX4_add_17 (s_last dX4_add_18 (s_aln 0 rfl dX4_add_19 (s_dup dX4_add_20 (s_gf (T := TX4) winX4 rfl (Nat.le_of_ble_eq_true rfl) gw_194 rfl dX4_add_21 (s_iconst (by decide +kernel) dX4_add_24 (s_iadd dX4_add_25 (s_pf (T := TX4) winX4 rfl (Nat.le_of_ble_eq_true rfl) tyX4_ok nmX4 rfl (by decide +kernel) gw_194 rfl dX4_add_26 (s_X4_add_29 hκ)))))))))))))))))
noncomputable def f_X4_add : gb_F := gb_hide (gb_mf 3 (k_X4_add_0 gb_n))
theorem c_X4_add : ∀ l, gb_Met l yX4_add cX4_add 3 none 0 (gb_rm 0 0) f_X4_add := gb_hide_c (gb_met (own := RX4) (rk := 0) rfl (by decide +kernel) ⟨rfl, rfl⟩ (s_X4_add_0 gb_S_n))
theorem dX5_copy_0 : decode cX5_copy 0 = .ok (.iconst 0, 1) := by decide +kernel
theorem dX5_copy_1 : decode cX5_copy 1 = .ok (.istore_n 2, 1) := by decide +kernel
theorem dX5_copy_2 : decode cX5_copy 2 = .ok (.iload_n 2, 1) := by decide +kernel
theorem dX5_copy_3 : decode cX5_copy 3 = .ok (.bipush 6, 2) := by decide +kernel
theorem dX5_copy_5 : decode cX5_copy 5 = .ok (.if_icmp .ge 45, 3) := by decide +kernel
theorem dX5_copy_8 : decode cX5_copy 8 = .ok (.aload_n 0, 1) := by decide +kernel
theorem dX5_copy_9 : decode cX5_copy 9 = .ok (.getfield 9, 3) := by decide +kernel
theorem dX5_copy_12 : decode cX5_copy 12 = .ok (.iload_n 2, 1) := by decide +kernel
theorem dX5_copy_13 : decode cX5_copy 13 = .ok (.aload_n 1, 1) := by decide +kernel
theorem dX5_copy_14 : decode cX5_copy 14 = .ok (.getfield 9, 3) := by decide +kernel
theorem dX5_copy_17 : decode cX5_copy 17 = .ok (.iload_n 2, 1) := by decide +kernel
theorem dX5_copy_18 : decode cX5_copy 18 = .ok (.iaload, 1) := by decide +kernel
theorem dX5_copy_19 : decode cX5_copy 19 = .ok (.iastore, 1) := by decide +kernel
theorem dX5_copy_20 : decode cX5_copy 20 = .ok (.aload_n 0, 1) := by decide +kernel
theorem dX5_copy_21 : decode cX5_copy 21 = .ok (.getfield 15, 3) := by decide +kernel
theorem dX5_copy_24 : decode cX5_copy 24 = .ok (.iload_n 2, 1) := by decide +kernel
theorem dX5_copy_25 : decode cX5_copy 25 = .ok (.aload_n 1, 1) := by decide +kernel
theorem dX5_copy_26 : decode cX5_copy 26 = .ok (.getfield 15, 3) := by decide +kernel
theorem dX5_copy_29 : decode cX5_copy 29 = .ok (.iload_n 2, 1) := by decide +kernel
theorem dX5_copy_30 : decode cX5_copy 30 = .ok (.iaload, 1) := by decide +kernel
theorem dX5_copy_31 : decode cX5_copy 31 = .ok (.iastore, 1) := by decide +kernel
theorem dX5_copy_32 : decode cX5_copy 32 = .ok (.aload_n 0, 1) := by decide +kernel
theorem dX5_copy_33 : decode cX5_copy 33 = .ok (.getfield 24, 3) := by decide +kernel
theorem dX5_copy_36 : decode cX5_copy 36 = .ok (.iload_n 2, 1) := by decide +kernel
theorem dX5_copy_37 : decode cX5_copy 37 = .ok (.aload_n 1, 1) := by decide +kernel
theorem dX5_copy_38 : decode cX5_copy 38 = .ok (.getfield 24, 3) := by decide +kernel
theorem dX5_copy_41 : decode cX5_copy 41 = .ok (.iload_n 2, 1) := by decide +kernel
theorem dX5_copy_42 : decode cX5_copy 42 = .ok (.iaload, 1) := by decide +kernel
theorem dX5_copy_43 : decode cX5_copy 43 = .ok (.iastore, 1) := by decide +kernel
theorem dX5_copy_44 : decode cX5_copy 44 = .ok (.iinc 2 1, 3) := by decide +kernel
theorem dX5_copy_47 : decode cX5_copy 47 = .ok (.goto (-45), 3) := by decide +kernel
theorem dX5_copy_50 : decode cX5_copy 50 = .ok (.iconst 0, 1) := by decide +kernel
theorem dX5_copy_51 : decode cX5_copy 51 = .ok (.istore_n 2, 1) := by decide +kernel
theorem dX5_copy_52 : decode cX5_copy 52 = .ok (.iload_n 2, 1) := by decide +kernel
theorem dX5_copy_53 : decode cX5_copy 53 = .ok (.bipush 6, 2) := by decide +kernel
theorem dX5_copy_55 : decode cX5_copy 55 = .ok (.if_icmp .ge 21, 3) := by decide +kernel
theorem dX5_copy_58 : decode cX5_copy 58 = .ok (.aload_n 0, 1) := by decide +kernel
theorem dX5_copy_59 : decode cX5_copy 59 = .ok (.getfield 18, 3) := by decide +kernel
theorem dX5_copy_62 : decode cX5_copy 62 = .ok (.iload_n 2, 1) := by decide +kernel
theorem dX5_copy_63 : decode cX5_copy 63 = .ok (.aload_n 1, 1) := by decide +kernel
theorem dX5_copy_64 : decode cX5_copy 64 = .ok (.getfield 18, 3) := by decide +kernel
theorem dX5_copy_67 : decode cX5_copy 67 = .ok (.iload_n 2, 1) := by decide +kernel
theorem dX5_copy_68 : decode cX5_copy 68 = .ok (.iaload, 1) := by decide +kernel
theorem dX5_copy_69 : decode cX5_copy 69 = .ok (.iastore, 1) := by decide +kernel
theorem dX5_copy_70 : decode cX5_copy 70 = .ok (.iinc 2 1, 3) := by decide +kernel
theorem dX5_copy_73 : decode cX5_copy 73 = .ok (.goto (-21), 3) := by decide +kernel
theorem dX5_copy_76 : decode cX5_copy 76 = .ok (.iconst 0, 1) := by decide +kernel
theorem dX5_copy_77 : decode cX5_copy 77 = .ok (.istore_n 2, 1) := by decide +kernel
theorem dX5_copy_78 : decode cX5_copy 78 = .ok (.iload_n 2, 1) := by decide +kernel
theorem dX5_copy_79 : decode cX5_copy 79 = .ok (.bipush 36, 2) := by decide +kernel
theorem dX5_copy_81 : decode cX5_copy 81 = .ok (.if_icmp .ge 21, 3) := by decide +kernel
theorem dX5_copy_84 : decode cX5_copy 84 = .ok (.aload_n 0, 1) := by decide +kernel
theorem dX5_copy_85 : decode cX5_copy 85 = .ok (.getfield 21, 3) := by decide +kernel
theorem dX5_copy_88 : decode cX5_copy 88 = .ok (.iload_n 2, 1) := by decide +kernel
theorem dX5_copy_89 : decode cX5_copy 89 = .ok (.aload_n 1, 1) := by decide +kernel
theorem dX5_copy_90 : decode cX5_copy 90 = .ok (.getfield 21, 3) := by decide +kernel
theorem dX5_copy_93 : decode cX5_copy 93 = .ok (.iload_n 2, 1) := by decide +kernel
theorem dX5_copy_94 : decode cX5_copy 94 = .ok (.iaload, 1) := by decide +kernel
theorem dX5_copy_95 : decode cX5_copy 95 = .ok (.iastore, 1) := by decide +kernel
theorem dX5_copy_96 : decode cX5_copy 96 = .ok (.iinc 2 1, 3) := by decide +kernel
theorem dX5_copy_99 : decode cX5_copy 99 = .ok (.goto (-21), 3) := by decide +kernel
theorem dX5_copy_102 : decode cX5_copy 102 = .ok (.return_, 1) := by decide +kernel
theorem v_X5_copy : yX5_copy.cls = RX5 ∧ yX5_copy.cls ≠ "java/lang/invoke/MethodHandle" ∧ yX5_copy.cls ≠ "java/lang/invoke/VarHandle" ∧ (parseMethodDescriptor yX5_copy.desc).map (fun d => d.parameters.length) = some 1 := ⟨rfl, by decide +kernel, by decide +kernel, by decide +kernel⟩
noncomputable def k_X5_copy_0 (κ : gb_K) : gb_C := (o_ci 0 (o_is 2 (o_j [0, 1, 2] (κ 2))))
theorem l_X5_copy_0 : gb_Li (fun κ => k_X5_copy_0 κ) := (gb_li (q_ci 0) (gb_li (q_is 2) (q_j [0, 1, 2] 2)))
theorem s_X5_copy_0   {κ : gb_K} (hκ : ∀ q, gb_S RX5 cX5_copy 3 (gb_rm 0 0) 0 q (κ q)) : gb_S RX5 cX5_copy 3 (gb_rm 0 0) 0 0 (k_X5_copy_0 κ) := (s_iconst (by decide +kernel) dX5_copy_0 (s_isn 2 rfl (Nat.le_of_ble_eq_true rfl) dX5_copy_1 (s_j (hκ 2))))
noncomputable def k_X5_copy_2 (κ : gb_K) : gb_C := (o_il 2 (o_ci 6 (o_cge (o_ci 0 (o_is 2 (o_j [0, 1, 2] (κ 52)))) (o_al 0 (o_gf 5 0 (o_il 2 (o_al 1 (o_gf 5 0 (o_il 2 (o_iald (o_iast (o_al 0 (o_gf 5 1 (o_il 2 (o_al 1 (o_gf 5 1 (o_il 2 (o_iald (o_iast (o_al 0 (o_gf 5 4 (o_il 2 (o_al 1 (o_gf 5 4 (o_il 2 (o_iald (o_iast (o_inc 2 1 (o_j [0, 1, 2] (κ 2))))))))))))))))))))))))))))))
theorem l_X5_copy_2 : gb_Li (fun κ => k_X5_copy_2 κ) := (gb_li (q_il 2) (gb_li (q_ci 6) (q_cge (gb_li (q_ci 0) (gb_li (q_is 2) (q_j [0, 1, 2] 52))) (gb_li (q_al 0) (gb_li (q_gf 5 0) (gb_li (q_il 2) (gb_li (q_al 1) (gb_li (q_gf 5 0) (gb_li (q_il 2) (gb_li q_iald (gb_li q_iast (gb_li (q_al 0) (gb_li (q_gf 5 1) (gb_li (q_il 2) (gb_li (q_al 1) (gb_li (q_gf 5 1) (gb_li (q_il 2) (gb_li q_iald (gb_li q_iast (gb_li (q_al 0) (gb_li (q_gf 5 4) (gb_li (q_il 2) (gb_li (q_al 1) (gb_li (q_gf 5 4) (gb_li (q_il 2) (gb_li q_iald (gb_li q_iast (gb_li (q_inc 2 1) (q_j [0, 1, 2] 2)))))))))))))))))))))))))))))
theorem s_X5_copy_2   {κ : gb_K} (hκ : ∀ q, gb_S RX5 cX5_copy 3 (gb_rm 0 0) 0 q (κ q)) : gb_S RX5 cX5_copy 3 (gb_rm 0 0) 0 2 (k_X5_copy_2 κ) := (s_iln 2 rfl dX5_copy_2 (s_bipush (by decide +kernel) dX5_copy_3 (s_cge (tgt := 50) (by decide +kernel) dX5_copy_5 (s_iconst (by decide +kernel) dX5_copy_50 (s_isn 2 rfl (Nat.le_of_ble_eq_true rfl) dX5_copy_51 (s_j (hκ 52)))) (s_aln 0 rfl dX5_copy_8 (s_gf (T := TX5) winX5 rfl (Nat.le_of_ble_eq_true rfl) gw_196 rfl dX5_copy_9 (s_iln 2 rfl dX5_copy_12 (s_aln 1 rfl dX5_copy_13 (s_gf (T := TX5) winX5 rfl (Nat.le_of_ble_eq_true rfl) gw_196 rfl dX5_copy_14 (s_iln 2 rfl dX5_copy_17 (s_iald dX5_copy_18 (s_iast dX5_copy_19 (s_aln 0 rfl dX5_copy_20 (s_gf (T := TX5) winX5 rfl (Nat.le_of_ble_eq_true rfl) gw_197 rfl dX5_copy_21 (s_iln 2 rfl dX5_copy_24 (s_aln 1 rfl dX5_copy_25 (s_gf (T := TX5) winX5 rfl (Nat.le_of_ble_eq_true rfl) gw_197 rfl dX5_copy_26 (s_iln 2 rfl dX5_copy_29 (s_iald dX5_copy_30 (s_iast dX5_copy_31 (s_aln 0 rfl dX5_copy_32 (s_gf (T := TX5) winX5 rfl (Nat.le_of_ble_eq_true rfl) gw_198 rfl dX5_copy_33 (s_iln 2 rfl dX5_copy_36 (s_aln 1 rfl dX5_copy_37 (s_gf (T := TX5) winX5 rfl (Nat.le_of_ble_eq_true rfl) gw_198 rfl dX5_copy_38 (s_iln 2 rfl dX5_copy_41 (s_iald dX5_copy_42 (s_iast dX5_copy_43 (s_inc (by decide +kernel) (Nat.le_of_ble_eq_true rfl) dX5_copy_44 (s_goto (tgt := 2) (by decide +kernel) dX5_copy_47 (s_j (hκ 2)))))))))))))))))))))))))))))))
noncomputable def k_X5_copy_52 (κ : gb_K) : gb_C := (o_il 2 (o_ci 6 (o_cge (o_ci 0 (o_is 2 (o_j [0, 1, 2] (κ 78)))) (o_al 0 (o_gf 5 2 (o_il 2 (o_al 1 (o_gf 5 2 (o_il 2 (o_iald (o_iast (o_inc 2 1 (o_j [0, 1, 2] (κ 52))))))))))))))
theorem l_X5_copy_52 : gb_Li (fun κ => k_X5_copy_52 κ) := (gb_li (q_il 2) (gb_li (q_ci 6) (q_cge (gb_li (q_ci 0) (gb_li (q_is 2) (q_j [0, 1, 2] 78))) (gb_li (q_al 0) (gb_li (q_gf 5 2) (gb_li (q_il 2) (gb_li (q_al 1) (gb_li (q_gf 5 2) (gb_li (q_il 2) (gb_li q_iald (gb_li q_iast (gb_li (q_inc 2 1) (q_j [0, 1, 2] 52)))))))))))))
theorem s_X5_copy_52   {κ : gb_K} (hκ : ∀ q, gb_S RX5 cX5_copy 3 (gb_rm 0 0) 0 q (κ q)) : gb_S RX5 cX5_copy 3 (gb_rm 0 0) 0 52 (k_X5_copy_52 κ) := (s_iln 2 rfl dX5_copy_52 (s_bipush (by decide +kernel) dX5_copy_53 (s_cge (tgt := 76) (by decide +kernel) dX5_copy_55 (s_iconst (by decide +kernel) dX5_copy_76 (s_isn 2 rfl (Nat.le_of_ble_eq_true rfl) dX5_copy_77 (s_j (hκ 78)))) (s_aln 0 rfl dX5_copy_58 (s_gf (T := TX5) winX5 rfl (Nat.le_of_ble_eq_true rfl) gw_199 rfl dX5_copy_59 (s_iln 2 rfl dX5_copy_62 (s_aln 1 rfl dX5_copy_63 (s_gf (T := TX5) winX5 rfl (Nat.le_of_ble_eq_true rfl) gw_199 rfl dX5_copy_64 (s_iln 2 rfl dX5_copy_67 (s_iald dX5_copy_68 (s_iast dX5_copy_69 (s_inc (by decide +kernel) (Nat.le_of_ble_eq_true rfl) dX5_copy_70 (s_goto (tgt := 52) (by decide +kernel) dX5_copy_73 (s_j (hκ 52)))))))))))))))
noncomputable def k_X5_copy_78 (κ : gb_K) : gb_C := (o_il 2 (o_ci 36 (o_cge o_rv (o_al 0 (o_gf 5 3 (o_il 2 (o_al 1 (o_gf 5 3 (o_il 2 (o_iald (o_iast (o_inc 2 1 (o_j [0, 1, 2] (κ 78))))))))))))))
theorem l_X5_copy_78 : gb_Li (fun κ => k_X5_copy_78 κ) := (gb_li (q_il 2) (gb_li (q_ci 36) (q_cge (gb_li0 _) (gb_li (q_al 0) (gb_li (q_gf 5 3) (gb_li (q_il 2) (gb_li (q_al 1) (gb_li (q_gf 5 3) (gb_li (q_il 2) (gb_li q_iald (gb_li q_iast (gb_li (q_inc 2 1) (q_j [0, 1, 2] 78)))))))))))))
theorem s_X5_copy_78   {κ : gb_K} (hκ : ∀ q, gb_S RX5 cX5_copy 3 (gb_rm 0 0) 0 q (κ q)) : gb_S RX5 cX5_copy 3 (gb_rm 0 0) 0 78 (k_X5_copy_78 κ) := (s_iln 2 rfl dX5_copy_78 (s_bipush (by decide +kernel) dX5_copy_79 (s_cge (tgt := 102) (by decide +kernel) dX5_copy_81 (s_rv rfl dX5_copy_102) (s_aln 0 rfl dX5_copy_84 (s_gf (T := TX5) winX5 rfl (Nat.le_of_ble_eq_true rfl) gw_88 rfl dX5_copy_85 (s_iln 2 rfl dX5_copy_88 (s_aln 1 rfl dX5_copy_89 (s_gf (T := TX5) winX5 rfl (Nat.le_of_ble_eq_true rfl) gw_88 rfl dX5_copy_90 (s_iln 2 rfl dX5_copy_93 (s_iald dX5_copy_94 (s_iast dX5_copy_95 (s_inc (by decide +kernel) (Nat.le_of_ble_eq_true rfl) dX5_copy_96 (s_goto (tgt := 78) (by decide +kernel) dX5_copy_99 (s_j (hκ 78)))))))))))))))
noncomputable def B_X5_copy : List (Nat × (gb_K → gb_C)) := [(2, fun κ => k_X5_copy_2 κ), (52, fun κ => k_X5_copy_52 κ), (78, fun κ => k_X5_copy_78 κ)]
noncomputable def K_X5_copy : gb_K := gb_fx (gb_tb (B_X5_copy))
theorem L_X5_copy : ∀ q, gb_Li (fun κ => gb_tb (B_X5_copy) κ q) := gb_tb_li (List.forall_mem_cons.mpr ⟨l_X5_copy_2, List.forall_mem_cons.mpr ⟨l_X5_copy_52, List.forall_mem_cons.mpr ⟨l_X5_copy_78, (fun _ h => absurd h List.not_mem_nil)⟩⟩⟩)
theorem S_X5_copy   : ∀ q, gb_S RX5 cX5_copy 3 (gb_rm 0 0) 0 q (K_X5_copy q) := fun q => gb_fx_S (L_X5_copy) (gb_tb_S (List.forall_mem_cons.mpr ⟨fun κ hκ => s_X5_copy_2 hκ, List.forall_mem_cons.mpr ⟨fun κ hκ => s_X5_copy_52 hκ, List.forall_mem_cons.mpr ⟨fun κ hκ => s_X5_copy_78 hκ, (fun _ h => absurd h List.not_mem_nil)⟩⟩⟩)) q
noncomputable def f_X5_copy : gb_F := gb_hide (gb_mf 3 (k_X5_copy_0 (K_X5_copy)))
theorem c_X5_copy : ∀ l, gb_Met l yX5_copy cX5_copy 3 none 0 (gb_rm 0 0) f_X5_copy := gb_hide_c (gb_met (own := RX5) (rk := 0) rfl (by decide +kernel) ⟨rfl, rfl⟩ (s_X5_copy_0 (S_X5_copy)))
