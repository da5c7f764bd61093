/-! CODE: printed by wip/whole/gen.py -/
theorem dX9_bottom_0 : decode cX9_bottom 0 = .ok (.iload_n 1, 1) := by decide +kernel
theorem dX9_bottom_1 : decode cX9_bottom 1 = .ok (.invokestatic 136, 3) := by decide +kernel
theorem dX9_bottom_4 : decode cX9_bottom 4 = .ok (.ifCond .ne 5, 3) := by decide +kernel
theorem dX9_bottom_7 : decode cX9_bottom 7 = .ok (.iconst (-1), 1) := by decide +kernel
theorem dX9_bottom_8 : decode cX9_bottom 8 = .ok (.ireturn, 1) := by decide +kernel
theorem dX9_bottom_9 : decode cX9_bottom 9 = .ok (.aload_n 0, 1) := by decide +kernel
theorem dX9_bottom_10 : decode cX9_bottom 10 = .ok (.getfield 31, 3) := by decide +kernel
theorem dX9_bottom_13 : decode cX9_bottom 13 = .ok (.getfield 145, 3) := by decide +kernel
theorem dX9_bottom_16 : decode cX9_bottom 16 = .ok (.iload_n 1, 1) := by decide +kernel
theorem dX9_bottom_17 : decode cX9_bottom 17 = .ok (.iaload, 1) := by decide +kernel
theorem dX9_bottom_18 : decode cX9_bottom 18 = .ok (.ifCond .ne 6, 3) := by decide +kernel
theorem dX9_bottom_21 : decode cX9_bottom 21 = .ok (.bipush (-2), 2) := by decide +kernel
theorem dX9_bottom_23 : decode cX9_bottom 23 = .ok (.ireturn, 1) := by decide +kernel
theorem dX9_bottom_24 : decode cX9_bottom 24 = .ok (.aload_n 0, 1) := by decide +kernel
theorem dX9_bottom_25 : decode cX9_bottom 25 = .ok (.getfield 31, 3) := by decide +kernel
theorem dX9_bottom_28 : decode cX9_bottom 28 = .ok (.getfield 165, 3) := by decide +kernel
theorem dX9_bottom_31 : decode cX9_bottom 31 = .ok (.iload_n 1, 1) := by decide +kernel
theorem dX9_bottom_32 : decode cX9_bottom 32 = .ok (.iconst 0, 1) := by decide +kernel
theorem dX9_bottom_33 : decode cX9_bottom 33 = .ok (.invokestatic 162, 3) := by decide +kernel
theorem dX9_bottom_36 : decode cX9_bottom 36 = .ok (.iaload, 1) := by decide +kernel
theorem dX9_bottom_37 : decode cX9_bottom 37 = .ok (.istore_n 2, 1) := by decide +kernel
theorem dX9_bottom_38 : decode cX9_bottom 38 = .ok (.aload_n 0, 1) := by decide +kernel
theorem dX9_bottom_39 : decode cX9_bottom 39 = .ok (.getfield 31, 3) := by decide +kernel
theorem dX9_bottom_42 : decode cX9_bottom 42 = .ok (.iload_n 1, 1) := by decide +kernel
theorem dX9_bottom_43 : decode cX9_bottom 43 = .ok (.iconst 0, 1) := by decide +kernel
theorem dX9_bottom_44 : decode cX9_bottom 44 = .ok (.invokevirtual 280, 3) := by decide +kernel
theorem dX9_bottom_47 : decode cX9_bottom 47 = .ok (.istore_n 3, 1) := by decide +kernel
theorem dX9_bottom_48 : decode cX9_bottom 48 = .ok (.aload_n 0, 1) := by decide +kernel
theorem dX9_bottom_49 : decode cX9_bottom 49 = .ok (.getfield 48, 3) := by decide +kernel
theorem dX9_bottom_52 : decode cX9_bottom 52 = .ok (.invokevirtual 194, 3) := by decide +kernel
theorem dX9_bottom_55 : decode cX9_bottom 55 = .ok (.aload_n 0, 1) := by decide +kernel
theorem dX9_bottom_56 : decode cX9_bottom 56 = .ok (.getfield 48, 3) := by decide +kernel
theorem dX9_bottom_59 : decode cX9_bottom 59 = .ok (.aload_n 0, 1) := by decide +kernel
theorem dX9_bottom_60 : decode cX9_bottom 60 = .ok (.getfield 31, 3) := by decide +kernel
theorem dX9_bottom_63 : decode cX9_bottom 63 = .ok (.iload_n 1, 1) := by decide +kernel
theorem dX9_bottom_64 : decode cX9_bottom 64 = .ok (.iload_n 3, 1) := by decide +kernel
theorem dX9_bottom_65 : decode cX9_bottom 65 = .ok (.invokevirtual 283, 3) := by decide +kernel
theorem dX9_bottom_68 : decode cX9_bottom 68 = .ok (.i2l, 1) := by decide +kernel
theorem dX9_bottom_69 : decode cX9_bottom 69 = .ok (.invokevirtual 199, 3) := by decide +kernel
theorem dX9_bottom_72 : decode cX9_bottom 72 = .ok (.aload_n 0, 1) := by decide +kernel
theorem dX9_bottom_73 : decode cX9_bottom 73 = .ok (.getfield 48, 3) := by decide +kernel
theorem dX9_bottom_76 : decode cX9_bottom 76 = .ok (.iload_n 3, 1) := by decide +kernel
theorem dX9_bottom_77 : decode cX9_bottom 77 = .ok (.i2l, 1) := by decide +kernel
theorem dX9_bottom_78 : decode cX9_bottom 78 = .ok (.invokevirtual 199, 3) := by decide +kernel
theorem dX9_bottom_81 : decode cX9_bottom 81 = .ok (.iload_n 2, 1) := by decide +kernel
theorem dX9_bottom_82 : decode cX9_bottom 82 = .ok (.ireturn, 1) := by decide +kernel
theorem v_X9_bottom : yX9_bottom.cls = RX9 ∧ yX9_bottom.cls ≠ "java/lang/invoke/MethodHandle" ∧ yX9_bottom.cls ≠ "java/lang/invoke/VarHandle" ∧ (parseMethodDescriptor yX9_bottom.desc).map (fun d => d.parameters.length) = some 1 := ⟨rfl, by decide +kernel, by decide +kernel, by decide +kernel⟩
noncomputable def k_X9_bottom_63 (κ : gb_K) : gb_C := (o_il 1 (o_il 3 (o_cv 2 7 1 f_X7_tonsUnder (o_i2l (o_cv 1 4 0 f_X4_add (o_al 0 (o_gf 9 7 (o_il 3 (o_i2l (o_cv 1 4 0 f_X4_add (o_il 2 o_ri)))))))))))
theorem l_X9_bottom_63 : gb_Li (fun κ => k_X9_bottom_63 κ) := (gb_li (q_il 1) (gb_li (q_il 3) (gb_li (q_cv 2 7 1 f_X7_tonsUnder) (gb_li q_i2l (gb_li (q_cv 1 4 0 f_X4_add) (gb_li (q_al 0) (gb_li (q_gf 9 7) (gb_li (q_il 3) (gb_li q_i2l (gb_li (q_cv 1 4 0 f_X4_add) (gb_li (q_il 2) (gb_li0 _))))))))))))
theorem s_X9_bottom_63   {κ : gb_K} (hκ : ∀ q, gb_S RX9 cX9_bottom 4 (gb_rm 2 45) 1 q (κ q)) : gb_S RX9 cX9_bottom 4 (gb_rm 2 45) 1 63 (k_X9_bottom_63 κ) := (s_iln 1 rfl dX9_bottom_63 (s_iln 3 rfl dX9_bottom_64 (s_cv (C := RX7) c_X7_tonsUnder rfl (gb_l5 gw_482 gw_249 gw_250 gw_11 gw_251) v_X7_tonsUnder ⟨rfl, rfl⟩ ⟨Nat.le_of_ble_eq_true rfl, Nat.le_of_ble_eq_true rfl⟩ dX9_bottom_65 (s_i2l dX9_bottom_68 (s_cv (C := RX4) c_X4_add rfl (gb_l5 gw_402 gw_403 gw_404 gw_392 gw_405) v_X4_add ⟨rfl, rfl⟩ ⟨Nat.le_of_ble_eq_true rfl, Nat.le_of_ble_eq_true rfl⟩ dX9_bottom_69 (s_aln 0 rfl dX9_bottom_72 (s_gf (T := TX9) winX9 rfl (Nat.le_of_ble_eq_true rfl) gw_388 rfl dX9_bottom_73 (s_iln 3 rfl dX9_bottom_76 (s_i2l dX9_bottom_77 (s_cv (C := RX4) c_X4_add rfl (gb_l5 gw_402 gw_403 gw_404 gw_392 gw_405) v_X4_add ⟨rfl, rfl⟩ ⟨Nat.le_of_ble_eq_true rfl, Nat.le_of_ble_eq_true rfl⟩ dX9_bottom_78 (s_iln 2 rfl dX9_bottom_81 (s_ri rfl dX9_bottom_82))))))))))))
noncomputable def k_X9_bottom_0 (κ : gb_K) : gb_C := (o_il 1 (o_cs 1 2 f_X9_isBin (o_zeq (o_ci (-1) o_ri) (o_al 0 (o_gf 9 3 (o_gf 7 3 (o_il 1 (o_iald (o_zeq (o_ci (-2) o_ri) (o_al 0 (o_gf 9 3 (o_gf 7 5 (o_il 1 (o_ci 0 (o_cs 2 1 f_X7_place (o_iald (o_is 2 (o_al 0 (o_gf 9 3 (o_il 1 (o_ci 0 (o_cv 2 7 1 f_X7_runEnd (o_is 3 (o_al 0 (o_gf 9 7 (o_cv 0 4 0 f_X4_start (o_al 0 (o_gf 9 7 (o_al 0 (o_gf 9 3 (k_X9_bottom_63 κ)))))))))))))))))))))))))))))))
theorem l_X9_bottom_0 : gb_Li (fun κ => k_X9_bottom_0 κ) := (gb_li (q_il 1) (gb_li (q_cs 1 2 f_X9_isBin) (q_zeq (gb_li (q_ci (-1)) (gb_li0 _)) (gb_li (q_al 0) (gb_li (q_gf 9 3) (gb_li (q_gf 7 3) (gb_li (q_il 1) (gb_li q_iald (q_zeq (gb_li (q_ci (-2)) (gb_li0 _)) (gb_li (q_al 0) (gb_li (q_gf 9 3) (gb_li (q_gf 7 5) (gb_li (q_il 1) (gb_li (q_ci 0) (gb_li (q_cs 2 1 f_X7_place) (gb_li q_iald (gb_li (q_is 2) (gb_li (q_al 0) (gb_li (q_gf 9 3) (gb_li (q_il 1) (gb_li (q_ci 0) (gb_li (q_cv 2 7 1 f_X7_runEnd) (gb_li (q_is 3) (gb_li (q_al 0) (gb_li (q_gf 9 7) (gb_li (q_cv 0 4 0 f_X4_start) (gb_li (q_al 0) (gb_li (q_gf 9 7) (gb_li (q_al 0) (gb_li (q_gf 9 3) (l_X9_bottom_63)))))))))))))))))))))))))))))))
theorem s_X9_bottom_0   {κ : gb_K} (hκ : ∀ q, gb_S RX9 cX9_bottom 4 (gb_rm 2 45) 1 q (κ q)) : gb_S RX9 cX9_bottom 4 (gb_rm 2 45) 1 0 (k_X9_bottom_0 κ) := (s_iln 1 rfl dX9_bottom_0 (s_cs c_X9_isBin (gb_l4 gw_370 gw_371 gw_356 gw_372) v_X9_isBin.2 ⟨rfl, rfl⟩ ⟨Nat.le_of_ble_eq_true rfl, Nat.le_of_ble_eq_true rfl⟩ dX9_bottom_1 (s_zne (tgt := 9) (by decide +kernel) dX9_bottom_4 (s_aln 0 rfl dX9_bottom_9 (s_gf (T := TX9) winX9 rfl (Nat.le_of_ble_eq_true rfl) gw_336 rfl dX9_bottom_10 (s_gf (T := TX7) winX7 rfl (Nat.le_of_ble_eq_true rfl) gw_367 rfl dX9_bottom_13 (s_iln 1 rfl dX9_bottom_16 (s_iald dX9_bottom_17 (s_zne (tgt := 24) (by decide +kernel) dX9_bottom_18 (s_aln 0 rfl dX9_bottom_24 (s_gf (T := TX9) winX9 rfl (Nat.le_of_ble_eq_true rfl) gw_336 rfl dX9_bottom_25 (s_gf (T := TX7) winX7 rfl (Nat.le_of_ble_eq_true rfl) gw_376 rfl dX9_bottom_28 (s_iln 1 rfl dX9_bottom_31 (s_iconst (by decide +kernel) dX9_bottom_32 (s_cs c_X7_place (gb_l4 gw_377 gw_23 gw_11 gw_24) v_X7_place.2 ⟨rfl, rfl⟩ ⟨Nat.le_of_ble_eq_true rfl, Nat.le_of_ble_eq_true rfl⟩ dX9_bottom_33 (s_iald dX9_bottom_36 (s_isn 2 rfl (Nat.le_of_ble_eq_true rfl) dX9_bottom_37 (s_aln 0 rfl dX9_bottom_38 (s_gf (T := TX9) winX9 rfl (Nat.le_of_ble_eq_true rfl) gw_336 rfl dX9_bottom_39 (s_iln 1 rfl dX9_bottom_42 (s_iconst (by decide +kernel) dX9_bottom_43 (s_cv (C := RX7) c_X7_runEnd rfl (gb_l5 gw_483 gw_301 gw_302 gw_11 gw_303) v_X7_runEnd ⟨rfl, rfl⟩ ⟨Nat.le_of_ble_eq_true rfl, Nat.le_of_ble_eq_true rfl⟩ dX9_bottom_44 (s_isn 3 rfl (Nat.le_of_ble_eq_true rfl) dX9_bottom_47 (s_aln 0 rfl dX9_bottom_48 (s_gf (T := TX9) winX9 rfl (Nat.le_of_ble_eq_true rfl) gw_388 rfl dX9_bottom_49 (s_cv (C := RX4) c_X4_start rfl (gb_l5 gw_389 gw_390 gw_391 gw_392 gw_393) v_X4_start ⟨rfl, rfl⟩ ⟨Nat.le_of_ble_eq_true rfl, Nat.le_of_ble_eq_true rfl⟩ dX9_bottom_52 (s_aln 0 rfl dX9_bottom_55 (s_gf (T := TX9) winX9 rfl (Nat.le_of_ble_eq_true rfl) gw_388 rfl dX9_bottom_56 (s_aln 0 rfl dX9_bottom_59 (s_gf (T := TX9) winX9 rfl (Nat.le_of_ble_eq_true rfl) gw_336 rfl dX9_bottom_60 (s_X9_bottom_63 hκ)))))))))))))))))))))) (s_bipush (by decide +kernel) dX9_bottom_21 (s_ri rfl dX9_bottom_23)))))))) (s_iconst (by decide +kernel) dX9_bottom_7 (s_ri rfl dX9_bottom_8)))))
noncomputable def f_X9_bottom : gb_F := gb_hide (gb_mf 4 (k_X9_bottom_0 gb_n))
theorem c_X9_bottom : ∀ l, gb_Met l yX9_bottom cX9_bottom 4 (some .int) 1 (gb_rm 2 45) f_X9_bottom := gb_hide_c (gb_met (own := RX9) (rk := 1) rfl (by decide +kernel) ⟨rfl, rfl⟩ (s_X9_bottom_0 gb_S_n))
theorem dX9_reaches_0 : decode cX9_reaches 0 = .ok (.iload_n 1, 1) := by decide +kernel
theorem dX9_reaches_1 : decode cX9_reaches 1 = .ok (.invokestatic 114, 3) := by decide +kernel
theorem dX9_reaches_4 : decode cX9_reaches 4 = .ok (.ifCond .eq 10, 3) := by decide +kernel
theorem dX9_reaches_7 : decode cX9_reaches 7 = .ok (.iload_n 2, 1) := by decide +kernel
theorem dX9_reaches_8 : decode cX9_reaches 8 = .ok (.invokestatic 177, 3) := by decide +kernel
theorem dX9_reaches_11 : decode cX9_reaches 11 = .ok (.ifCond .ne 5, 3) := by decide +kernel
theorem dX9_reaches_14 : decode cX9_reaches 14 = .ok (.iconst (-1), 1) := by decide +kernel
theorem dX9_reaches_15 : decode cX9_reaches 15 = .ok (.ireturn, 1) := by decide +kernel
theorem dX9_reaches_16 : decode cX9_reaches 16 = .ok (.bipush (-2), 2) := by decide +kernel
theorem dX9_reaches_18 : decode cX9_reaches 18 = .ok (.istore_n 3, 1) := by decide +kernel
theorem dX9_reaches_19 : decode cX9_reaches 19 = .ok (.iconst (-1), 1) := by decide +kernel
theorem dX9_reaches_20 : decode cX9_reaches 20 = .ok (.istore 4, 2) := by decide +kernel
theorem dX9_reaches_22 : decode cX9_reaches 22 = .ok (.iconst 0, 1) := by decide +kernel
theorem dX9_reaches_23 : decode cX9_reaches 23 = .ok (.istore 5, 2) := by decide +kernel
theorem dX9_reaches_25 : decode cX9_reaches 25 = .ok (.iload 5, 2) := by decide +kernel
theorem dX9_reaches_27 : decode cX9_reaches 27 = .ok (.bipush 6, 2) := by decide +kernel
theorem dX9_reaches_29 : decode cX9_reaches 29 = .ok (.if_icmp .ge 61, 3) := by decide +kernel
theorem dX9_reaches_32 : decode cX9_reaches 32 = .ok (.aload_n 0, 1) := by decide +kernel
theorem dX9_reaches_33 : decode cX9_reaches 33 = .ok (.getfield 31, 3) := by decide +kernel
theorem dX9_reaches_36 : decode cX9_reaches 36 = .ok (.iload 5, 2) := by decide +kernel
theorem dX9_reaches_38 : decode cX9_reaches 38 = .ok (.invokevirtual 191, 3) := by decide +kernel
theorem dX9_reaches_41 : decode cX9_reaches 41 = .ok (.ifCond .eq 8, 3) := by decide +kernel
theorem dX9_reaches_44 : decode cX9_reaches 44 = .ok (.bipush (-2), 2) := by decide +kernel
theorem dX9_reaches_46 : decode cX9_reaches 46 = .ok (.goto 14, 3) := by decide +kernel
theorem dX9_reaches_49 : decode cX9_reaches 49 = .ok (.aload_n 0, 1) := by decide +kernel
theorem dX9_reaches_50 : decode cX9_reaches 50 = .ok (.getfield 31, 3) := by decide +kernel
theorem dX9_reaches_53 : decode cX9_reaches 53 = .ok (.iload 5, 2) := by decide +kernel
theorem dX9_reaches_55 : decode cX9_reaches 55 = .ok (.iload_n 1, 1) := by decide +kernel
theorem dX9_reaches_56 : decode cX9_reaches 56 = .ok (.iload_n 2, 1) := by decide +kernel
theorem dX9_reaches_57 : decode cX9_reaches 57 = .ok (.invokevirtual 286, 3) := by decide +kernel
theorem dX9_reaches_60 : decode cX9_reaches 60 = .ok (.istore 6, 2) := by decide +kernel
theorem dX9_reaches_62 : decode cX9_reaches 62 = .ok (.iload 6, 2) := by decide +kernel
theorem dX9_reaches_64 : decode cX9_reaches 64 = .ok (.ifCond .lt 20, 3) := by decide +kernel
theorem dX9_reaches_67 : decode cX9_reaches 67 = .ok (.iload_n 3, 1) := by decide +kernel
theorem dX9_reaches_68 : decode cX9_reaches 68 = .ok (.ifCond .lt 9, 3) := by decide +kernel
theorem dX9_reaches_71 : decode cX9_reaches 71 = .ok (.iload 6, 2) := by decide +kernel
theorem dX9_reaches_73 : decode cX9_reaches 73 = .ok (.iload_n 3, 1) := by decide +kernel
theorem dX9_reaches_74 : decode cX9_reaches 74 = .ok (.if_icmp .ge 10, 3) := by decide +kernel
theorem dX9_reaches_77 : decode cX9_reaches 77 = .ok (.iload 6, 2) := by decide +kernel
theorem dX9_reaches_79 : decode cX9_reaches 79 = .ok (.istore_n 3, 1) := by decide +kernel
theorem dX9_reaches_80 : decode cX9_reaches 80 = .ok (.iload 5, 2) := by decide +kernel
theorem dX9_reaches_82 : decode cX9_reaches 82 = .ok (.istore 4, 2) := by decide +kernel
theorem dX9_reaches_84 : decode cX9_reaches 84 = .ok (.iinc 5 1, 3) := by decide +kernel
theorem dX9_reaches_87 : decode cX9_reaches 87 = .ok (.goto (-62), 3) := by decide +kernel
theorem dX9_reaches_90 : decode cX9_reaches 90 = .ok (.iload_n 3, 1) := by decide +kernel
theorem dX9_reaches_91 : decode cX9_reaches 91 = .ok (.ifCond .lt 20, 3) := by decide +kernel
theorem dX9_reaches_94 : decode cX9_reaches 94 = .ok (.aload_n 0, 1) := by decide +kernel
theorem dX9_reaches_95 : decode cX9_reaches 95 = .ok (.getfield 48, 3) := by decide +kernel
theorem dX9_reaches_98 : decode cX9_reaches 98 = .ok (.invokevirtual 194, 3) := by decide +kernel
theorem dX9_reaches_101 : decode cX9_reaches 101 = .ok (.aload_n 0, 1) := by decide +kernel
theorem dX9_reaches_102 : decode cX9_reaches 102 = .ok (.getfield 48, 3) := by decide +kernel
theorem dX9_reaches_105 : decode cX9_reaches 105 = .ok (.iload 4, 2) := by decide +kernel
theorem dX9_reaches_107 : decode cX9_reaches 107 = .ok (.i2l, 1) := by decide +kernel
theorem dX9_reaches_108 : decode cX9_reaches 108 = .ok (.invokevirtual 199, 3) := by decide +kernel
theorem dX9_reaches_111 : decode cX9_reaches 111 = .ok (.iload_n 3, 1) := by decide +kernel
theorem dX9_reaches_112 : decode cX9_reaches 112 = .ok (.ireturn, 1) := by decide +kernel
theorem v_X9_reaches : yX9_reaches.cls = RX9 ∧ yX9_reaches.cls ≠ "java/lang/invoke/MethodHandle" ∧ yX9_reaches.cls ≠ "java/lang/invoke/VarHandle" ∧ (parseMethodDescriptor yX9_reaches.desc).map (fun d => d.parameters.length) = some 2 := ⟨rfl, by decide +kernel, by decide +kernel, by decide +kernel⟩
noncomputable def k_X9_reaches_14 (κ : gb_K) : gb_C := (o_ci (-1) o_ri)
theorem l_X9_reaches_14 : gb_Li (fun κ => k_X9_reaches_14 κ) := (gb_li (q_ci (-1)) (gb_li0 _))
theorem s_X9_reaches_14   {κ : gb_K} (hκ : ∀ q, gb_S RX9 cX9_reaches 7 (gb_rm 3 70) 1 q (κ q)) : gb_S RX9 cX9_reaches 7 (gb_rm 3 70) 1 14 (k_X9_reaches_14 κ) := (s_iconst (by decide +kernel) dX9_reaches_14 (s_ri rfl dX9_reaches_15))
noncomputable def k_X9_reaches_0 (κ : gb_K) : gb_C := (o_il 1 (o_cs 1 2 f_X9_isGrade (o_zeq (k_X9_reaches_14 κ) (o_il 2 (o_cs 1 2 f_X9_isTons (o_zeq (k_X9_reaches_14 κ) (o_ci (-2) (o_is 3 (o_ci (-1) (o_is 4 (o_ci 0 (o_is 5 (o_j [0, 1, 2, 3, 4, 5] (κ 25))))))))))))))
theorem l_X9_reaches_0 : gb_Li (fun κ => k_X9_reaches_0 κ) := (gb_li (q_il 1) (gb_li (q_cs 1 2 f_X9_isGrade) (q_zeq (l_X9_reaches_14) (gb_li (q_il 2) (gb_li (q_cs 1 2 f_X9_isTons) (q_zeq (l_X9_reaches_14) (gb_li (q_ci (-2)) (gb_li (q_is 3) (gb_li (q_ci (-1)) (gb_li (q_is 4) (gb_li (q_ci 0) (gb_li (q_is 5) (q_j [0, 1, 2, 3, 4, 5] 25)))))))))))))
theorem s_X9_reaches_0   {κ : gb_K} (hκ : ∀ q, gb_S RX9 cX9_reaches 7 (gb_rm 3 70) 1 q (κ q)) : gb_S RX9 cX9_reaches 7 (gb_rm 3 70) 1 0 (k_X9_reaches_0 κ) := (s_iln 1 rfl dX9_reaches_0 (s_cs c_X9_isGrade (gb_l4 gw_354 gw_355 gw_356 gw_357) v_X9_isGrade.2 ⟨rfl, rfl⟩ ⟨Nat.le_of_ble_eq_true rfl, Nat.le_of_ble_eq_true rfl⟩ dX9_reaches_1 (s_zeq (tgt := 14) (by decide +kernel) dX9_reaches_4 (s_X9_reaches_14 hκ) (s_iln 2 rfl dX9_reaches_7 (s_cs c_X9_isTons (gb_l4 gw_379 gw_380 gw_356 gw_381) v_X9_isTons.2 ⟨rfl, rfl⟩ ⟨Nat.le_of_ble_eq_true rfl, Nat.le_of_ble_eq_true rfl⟩ dX9_reaches_8 (s_zne (tgt := 16) (by decide +kernel) dX9_reaches_11 (s_bipush (by decide +kernel) dX9_reaches_16 (s_isn 3 rfl (Nat.le_of_ble_eq_true rfl) dX9_reaches_18 (s_iconst (by decide +kernel) dX9_reaches_19 (s_is (Nat.le_of_ble_eq_true rfl) dX9_reaches_20 (s_iconst (by decide +kernel) dX9_reaches_22 (s_is (Nat.le_of_ble_eq_true rfl) dX9_reaches_23 (s_j (hκ 25)))))))) (s_X9_reaches_14 hκ)))))))
noncomputable def k_X9_reaches_84 (κ : gb_K) : gb_C := (o_inc 5 1 (o_j [0, 1, 2, 3, 4, 5] (κ 25)))
theorem l_X9_reaches_84 : gb_Li (fun κ => k_X9_reaches_84 κ) := (gb_li (q_inc 5 1) (q_j [0, 1, 2, 3, 4, 5] 25))
theorem s_X9_reaches_84   {κ : gb_K} (hκ : ∀ q, gb_S RX9 cX9_reaches 7 (gb_rm 3 70) 1 q (κ q)) : gb_S RX9 cX9_reaches 7 (gb_rm 3 70) 1 84 (k_X9_reaches_84 κ) := (s_inc (by decide +kernel) (Nat.le_of_ble_eq_true rfl) dX9_reaches_84 (s_goto (tgt := 25) (by decide +kernel) dX9_reaches_87 (s_j (hκ 25))))
noncomputable def k_X9_reaches_77 (κ : gb_K) : gb_C := (o_il 6 (o_is 3 (o_il 5 (o_is 4 (k_X9_reaches_84 κ)))))
theorem l_X9_reaches_77 : gb_Li (fun κ => k_X9_reaches_77 κ) := (gb_li (q_il 6) (gb_li (q_is 3) (gb_li (q_il 5) (gb_li (q_is 4) (l_X9_reaches_84)))))
theorem s_X9_reaches_77   {κ : gb_K} (hκ : ∀ q, gb_S RX9 cX9_reaches 7 (gb_rm 3 70) 1 q (κ q)) : gb_S RX9 cX9_reaches 7 (gb_rm 3 70) 1 77 (k_X9_reaches_77 κ) := (s_il dX9_reaches_77 (s_isn 3 rfl (Nat.le_of_ble_eq_true rfl) dX9_reaches_79 (s_il dX9_reaches_80 (s_is (Nat.le_of_ble_eq_true rfl) dX9_reaches_82 (s_X9_reaches_84 hκ)))))
noncomputable def k_X9_reaches_60 (κ : gb_K) : gb_C := (o_is 6 (o_il 6 (o_zlt (k_X9_reaches_84 κ) (o_il 3 (o_zlt (k_X9_reaches_77 κ) (o_il 6 (o_il 3 (o_cge (k_X9_reaches_84 κ) (k_X9_reaches_77 κ)))))))))
theorem l_X9_reaches_60 : gb_Li (fun κ => k_X9_reaches_60 κ) := (gb_li (q_is 6) (gb_li (q_il 6) (q_zlt (l_X9_reaches_84) (gb_li (q_il 3) (q_zlt (l_X9_reaches_77) (gb_li (q_il 6) (gb_li (q_il 3) (q_cge (l_X9_reaches_84) (l_X9_reaches_77)))))))))
theorem s_X9_reaches_60   {κ : gb_K} (hκ : ∀ q, gb_S RX9 cX9_reaches 7 (gb_rm 3 70) 1 q (κ q)) : gb_S RX9 cX9_reaches 7 (gb_rm 3 70) 1 60 (k_X9_reaches_60 κ) := (s_is (Nat.le_of_ble_eq_true rfl) dX9_reaches_60 (s_il dX9_reaches_62 (s_zlt (tgt := 84) (by decide +kernel) dX9_reaches_64 (s_X9_reaches_84 hκ) (s_iln 3 rfl dX9_reaches_67 (s_zlt (tgt := 77) (by decide +kernel) dX9_reaches_68 (s_X9_reaches_77 hκ) (s_il dX9_reaches_71 (s_iln 3 rfl dX9_reaches_73 (s_cge (tgt := 84) (by decide +kernel) dX9_reaches_74 (s_X9_reaches_84 hκ) (s_X9_reaches_77 hκ)))))))))
noncomputable def k_X9_reaches_111 (κ : gb_K) : gb_C := (o_il 3 o_ri)
theorem l_X9_reaches_111 : gb_Li (fun κ => k_X9_reaches_111 κ) := (gb_li (q_il 3) (gb_li0 _))
theorem s_X9_reaches_111   {κ : gb_K} (hκ : ∀ q, gb_S RX9 cX9_reaches 7 (gb_rm 3 70) 1 q (κ q)) : gb_S RX9 cX9_reaches 7 (gb_rm 3 70) 1 111 (k_X9_reaches_111 κ) := (s_iln 3 rfl dX9_reaches_111 (s_ri rfl dX9_reaches_112))
noncomputable def k_X9_reaches_25 (κ : gb_K) : gb_C := (o_il 5 (o_ci 6 (o_cge (o_il 3 (o_zlt (k_X9_reaches_111 κ) (o_al 0 (o_gf 9 7 (o_cv 0 4 0 f_X4_start (o_al 0 (o_gf 9 7 (o_il 4 (o_i2l (o_cv 1 4 0 f_X4_add (k_X9_reaches_111 κ))))))))))) (o_al 0 (o_gf 9 3 (o_il 5 (o_cv 1 7 2 f_X7_closed (o_zeq (o_al 0 (o_gf 9 3 (o_il 5 (o_il 1 (o_il 2 (o_cv 3 7 1 f_X7_aheadOf (k_X9_reaches_60 κ))))))) (o_ci (-2) (k_X9_reaches_60 κ))))))))))
theorem l_X9_reaches_25 : gb_Li (fun κ => k_X9_reaches_25 κ) := (gb_li (q_il 5) (gb_li (q_ci 6) (q_cge (gb_li (q_il 3) (q_zlt (l_X9_reaches_111) (gb_li (q_al 0) (gb_li (q_gf 9 7) (gb_li (q_cv 0 4 0 f_X4_start) (gb_li (q_al 0) (gb_li (q_gf 9 7) (gb_li (q_il 4) (gb_li q_i2l (gb_li (q_cv 1 4 0 f_X4_add) (l_X9_reaches_111))))))))))) (gb_li (q_al 0) (gb_li (q_gf 9 3) (gb_li (q_il 5) (gb_li (q_cv 1 7 2 f_X7_closed) (q_zeq (gb_li (q_al 0) (gb_li (q_gf 9 3) (gb_li (q_il 5) (gb_li (q_il 1) (gb_li (q_il 2) (gb_li (q_cv 3 7 1 f_X7_aheadOf) (l_X9_reaches_60))))))) (gb_li (q_ci (-2)) (l_X9_reaches_60))))))))))
theorem s_X9_reaches_25   {κ : gb_K} (hκ : ∀ q, gb_S RX9 cX9_reaches 7 (gb_rm 3 70) 1 q (κ q)) : gb_S RX9 cX9_reaches 7 (gb_rm 3 70) 1 25 (k_X9_reaches_25 κ) := (s_il dX9_reaches_25 (s_bipush (by decide +kernel) dX9_reaches_27 (s_cge (tgt := 90) (by decide +kernel) dX9_reaches_29 (s_iln 3 rfl dX9_reaches_90 (s_zlt (tgt := 111) (by decide +kernel) dX9_reaches_91 (s_X9_reaches_111 hκ) (s_aln 0 rfl dX9_reaches_94 (s_gf (T := TX9) winX9 rfl (Nat.le_of_ble_eq_true rfl) gw_388 rfl dX9_reaches_95 (s_cv (C := RX4) c_X4_start rfl (gb_l5 gw_389 gw_390 gw_391 gw_392 gw_393) v_X4_start ⟨rfl, rfl⟩ ⟨Nat.le_of_ble_eq_true rfl, Nat.le_of_ble_eq_true rfl⟩ dX9_reaches_98 (s_aln 0 rfl dX9_reaches_101 (s_gf (T := TX9) winX9 rfl (Nat.le_of_ble_eq_true rfl) gw_388 rfl dX9_reaches_102 (s_il dX9_reaches_105 (s_i2l dX9_reaches_107 (s_cv (C := RX4) c_X4_add rfl (gb_l5 gw_402 gw_403 gw_404 gw_392 gw_405) v_X4_add ⟨rfl, rfl⟩ ⟨Nat.le_of_ble_eq_true rfl, Nat.le_of_ble_eq_true rfl⟩ dX9_reaches_108 (s_X9_reaches_111 hκ))))))))))) (s_aln 0 rfl dX9_reaches_32 (s_gf (T := TX9) winX9 rfl (Nat.le_of_ble_eq_true rfl) gw_336 rfl dX9_reaches_33 (s_il dX9_reaches_36 (s_cv (C := RX7) c_X7_closed rfl (gb_l5 gw_387 gw_9 gw_10 gw_11 gw_12) v_X7_closed ⟨rfl, rfl⟩ ⟨Nat.le_of_ble_eq_true rfl, Nat.le_of_ble_eq_true rfl⟩ dX9_reaches_38 (s_zeq (tgt := 49) (by decide +kernel) dX9_reaches_41 (s_aln 0 rfl dX9_reaches_49 (s_gf (T := TX9) winX9 rfl (Nat.le_of_ble_eq_true rfl) gw_336 rfl dX9_reaches_50 (s_il dX9_reaches_53 (s_iln 1 rfl dX9_reaches_55 (s_iln 2 rfl dX9_reaches_56 (s_cv (C := RX7) c_X7_aheadOf rfl (gb_l5 gw_484 gw_485 gw_486 gw_11 gw_487) v_X7_aheadOf ⟨rfl, rfl⟩ ⟨Nat.le_of_ble_eq_true rfl, Nat.le_of_ble_eq_true rfl⟩ dX9_reaches_57 (s_X9_reaches_60 hκ))))))) (s_bipush (by decide +kernel) dX9_reaches_44 (s_goto (tgt := 60) (by decide +kernel) dX9_reaches_46 (s_X9_reaches_60 hκ)))))))))))
noncomputable def B_X9_reaches : List (Nat × (gb_K → gb_C)) := [(25, fun κ => k_X9_reaches_25 κ)]
noncomputable def K_X9_reaches : gb_K := gb_fx (gb_tb (B_X9_reaches))
theorem L_X9_reaches : ∀ q, gb_Li (fun κ => gb_tb (B_X9_reaches) κ q) := gb_tb_li (List.forall_mem_cons.mpr ⟨l_X9_reaches_25, (fun _ h => absurd h List.not_mem_nil)⟩)
theorem S_X9_reaches   : ∀ q, gb_S RX9 cX9_reaches 7 (gb_rm 3 70) 1 q (K_X9_reaches q) := fun q => gb_fx_S (L_X9_reaches) (gb_tb_S (List.forall_mem_cons.mpr ⟨fun κ hκ => s_X9_reaches_25 hκ, (fun _ h => absurd h List.not_mem_nil)⟩)) q
noncomputable def f_X9_reaches : gb_F := gb_hide (gb_mf 7 (k_X9_reaches_0 (K_X9_reaches)))
theorem c_X9_reaches : ∀ l, gb_Met l yX9_reaches cX9_reaches 7 (some .int) 1 (gb_rm 3 70) f_X9_reaches := gb_hide_c (gb_met (own := RX9) (rk := 1) rfl (by decide +kernel) ⟨rfl, rfl⟩ (s_X9_reaches_0 (S_X9_reaches)))
theorem dX9_serves_0 : decode cX9_serves 0 = .ok (.aload_n 0, 1) := by decide +kernel
theorem dX9_serves_1 : decode cX9_serves 1 = .ok (.invokevirtual 223, 3) := by decide +kernel
theorem dX9_serves_4 : decode cX9_serves 4 = .ok (.istore_n 1, 1) := by decide +kernel
theorem dX9_serves_5 : decode cX9_serves 5 = .ok (.iload_n 1, 1) := by decide +kernel
theorem dX9_serves_6 : decode cX9_serves 6 = .ok (.ifCond .ge 5, 3) := by decide +kernel
theorem dX9_serves_9 : decode cX9_serves 9 = .ok (.iload_n 1, 1) := by decide +kernel
theorem dX9_serves_10 : decode cX9_serves 10 = .ok (.ireturn, 1) := by decide +kernel
theorem dX9_serves_11 : decode cX9_serves 11 = .ok (.aload_n 0, 1) := by decide +kernel
theorem dX9_serves_12 : decode cX9_serves 12 = .ok (.getfield 73, 3) := by decide +kernel
theorem dX9_serves_15 : decode cX9_serves 15 = .ok (.invokevirtual 227, 3) := by decide +kernel
theorem dX9_serves_18 : decode cX9_serves 18 = .ok (.istore_n 2, 1) := by decide +kernel
theorem dX9_serves_19 : decode cX9_serves 19 = .ok (.aload_n 0, 1) := by decide +kernel
theorem dX9_serves_20 : decode cX9_serves 20 = .ok (.getfield 48, 3) := by decide +kernel
theorem dX9_serves_23 : decode cX9_serves 23 = .ok (.invokevirtual 194, 3) := by decide +kernel
theorem dX9_serves_26 : decode cX9_serves 26 = .ok (.iconst 0, 1) := by decide +kernel
theorem dX9_serves_27 : decode cX9_serves 27 = .ok (.istore_n 3, 1) := by decide +kernel
theorem dX9_serves_28 : decode cX9_serves 28 = .ok (.iload_n 3, 1) := by decide +kernel
theorem dX9_serves_29 : decode cX9_serves 29 = .ok (.iload_n 2, 1) := by decide +kernel
theorem dX9_serves_30 : decode cX9_serves 30 = .ok (.if_icmp .ge 26, 3) := by decide +kernel
theorem dX9_serves_33 : decode cX9_serves 33 = .ok (.aload_n 0, 1) := by decide +kernel
theorem dX9_serves_34 : decode cX9_serves 34 = .ok (.getfield 48, 3) := by decide +kernel
theorem dX9_serves_37 : decode cX9_serves 37 = .ok (.aload_n 0, 1) := by decide +kernel
theorem dX9_serves_38 : decode cX9_serves 38 = .ok (.getfield 73, 3) := by decide +kernel
theorem dX9_serves_41 : decode cX9_serves 41 = .ok (.getfield 233, 3) := by decide +kernel
theorem dX9_serves_44 : decode cX9_serves 44 = .ok (.iload_n 3, 1) := by decide +kernel
theorem dX9_serves_45 : decode cX9_serves 45 = .ok (.iaload, 1) := by decide +kernel
theorem dX9_serves_46 : decode cX9_serves 46 = .ok (.i2l, 1) := by decide +kernel
theorem dX9_serves_47 : decode cX9_serves 47 = .ok (.invokevirtual 199, 3) := by decide +kernel
theorem dX9_serves_50 : decode cX9_serves 50 = .ok (.iinc 3 1, 3) := by decide +kernel
theorem dX9_serves_53 : decode cX9_serves 53 = .ok (.goto (-25), 3) := by decide +kernel
theorem dX9_serves_56 : decode cX9_serves 56 = .ok (.iload_n 2, 1) := by decide +kernel
theorem dX9_serves_57 : decode cX9_serves 57 = .ok (.ireturn, 1) := by decide +kernel
theorem v_X9_serves : yX9_serves.cls = RX9 ∧ yX9_serves.cls ≠ "java/lang/invoke/MethodHandle" ∧ yX9_serves.cls ≠ "java/lang/invoke/VarHandle" ∧ (parseMethodDescriptor yX9_serves.desc).map (fun d => d.parameters.length) = some 0 := ⟨rfl, by decide +kernel, by decide +kernel, by decide +kernel⟩
noncomputable def k_X9_serves_0 (κ : gb_K) : gb_C := (o_al 0 (o_cv 0 9 1 f_X9_readOrders (o_is 1 (o_il 1 (o_zge (o_al 0 (o_gf 9 10 (o_cv 0 0 1 f_X0_serve (o_is 2 (o_al 0 (o_gf 9 7 (o_cv 0 4 0 f_X4_start (o_ci 0 (o_is 3 (o_j [0, 2, 3] (κ 28))))))))))) (o_il 1 o_ri))))))
theorem l_X9_serves_0 : gb_Li (fun κ => k_X9_serves_0 κ) := (gb_li (q_al 0) (gb_li (q_cv 0 9 1 f_X9_readOrders) (gb_li (q_is 1) (gb_li (q_il 1) (q_zge (gb_li (q_al 0) (gb_li (q_gf 9 10) (gb_li (q_cv 0 0 1 f_X0_serve) (gb_li (q_is 2) (gb_li (q_al 0) (gb_li (q_gf 9 7) (gb_li (q_cv 0 4 0 f_X4_start) (gb_li (q_ci 0) (gb_li (q_is 3) (q_j [0, 2, 3] 28)))))))))) (gb_li (q_il 1) (gb_li0 _)))))))
theorem s_X9_serves_0   {κ : gb_K} (hκ : ∀ q, gb_S RX9 cX9_serves 4 (gb_rm 12 266) 1 q (κ q)) : gb_S RX9 cX9_serves 4 (gb_rm 12 266) 1 0 (k_X9_serves_0 κ) := (s_aln 0 rfl dX9_serves_0 (s_cv (C := RX9) c_X9_readOrders rfl (gb_l5 gw_431 gw_432 gw_433 gw_356 gw_434) v_X9_readOrders ⟨rfl, rfl⟩ ⟨Nat.le_of_ble_eq_true rfl, Nat.le_of_ble_eq_true rfl⟩ dX9_serves_1 (s_isn 1 rfl (Nat.le_of_ble_eq_true rfl) dX9_serves_4 (s_iln 1 rfl dX9_serves_5 (s_zge (tgt := 11) (by decide +kernel) dX9_serves_6 (s_aln 0 rfl dX9_serves_11 (s_gf (T := TX9) winX9 rfl (Nat.le_of_ble_eq_true rfl) gw_435 rfl dX9_serves_12 (s_cv (C := RX0) c_X0_serve rfl (gb_l5 gw_436 gw_437 gw_438 gw_29 gw_439) v_X0_serve ⟨rfl, rfl⟩ ⟨Nat.le_of_ble_eq_true rfl, Nat.le_of_ble_eq_true rfl⟩ dX9_serves_15 (s_isn 2 rfl (Nat.le_of_ble_eq_true rfl) dX9_serves_18 (s_aln 0 rfl dX9_serves_19 (s_gf (T := TX9) winX9 rfl (Nat.le_of_ble_eq_true rfl) gw_388 rfl dX9_serves_20 (s_cv (C := RX4) c_X4_start rfl (gb_l5 gw_389 gw_390 gw_391 gw_392 gw_393) v_X4_start ⟨rfl, rfl⟩ ⟨Nat.le_of_ble_eq_true rfl, Nat.le_of_ble_eq_true rfl⟩ dX9_serves_23 (s_iconst (by decide +kernel) dX9_serves_26 (s_isn 3 rfl (Nat.le_of_ble_eq_true rfl) dX9_serves_27 (s_j (hκ 28))))))))))) (s_iln 1 rfl dX9_serves_9 (s_ri rfl dX9_serves_10)))))))
noncomputable def k_X9_serves_28 (κ : gb_K) : gb_C := (o_il 3 (o_il 2 (o_cge (o_il 2 o_ri) (o_al 0 (o_gf 9 7 (o_al 0 (o_gf 9 10 (o_gf 0 4 (o_il 3 (o_iald (o_i2l (o_cv 1 4 0 f_X4_add (o_inc 3 1 (o_j [0, 2, 3] (κ 28)))))))))))))))
theorem l_X9_serves_28 : gb_Li (fun κ => k_X9_serves_28 κ) := (gb_li (q_il 3) (gb_li (q_il 2) (q_cge (gb_li (q_il 2) (gb_li0 _)) (gb_li (q_al 0) (gb_li (q_gf 9 7) (gb_li (q_al 0) (gb_li (q_gf 9 10) (gb_li (q_gf 0 4) (gb_li (q_il 3) (gb_li q_iald (gb_li q_i2l (gb_li (q_cv 1 4 0 f_X4_add) (gb_li (q_inc 3 1) (q_j [0, 2, 3] 28))))))))))))))
theorem s_X9_serves_28   {κ : gb_K} (hκ : ∀ q, gb_S RX9 cX9_serves 4 (gb_rm 12 266) 1 q (κ q)) : gb_S RX9 cX9_serves 4 (gb_rm 12 266) 1 28 (k_X9_serves_28 κ) := (s_iln 3 rfl dX9_serves_28 (s_iln 2 rfl dX9_serves_29 (s_cge (tgt := 56) (by decide +kernel) dX9_serves_30 (s_iln 2 rfl dX9_serves_56 (s_ri rfl dX9_serves_57)) (s_aln 0 rfl dX9_serves_33 (s_gf (T := TX9) winX9 rfl (Nat.le_of_ble_eq_true rfl) gw_388 rfl dX9_serves_34 (s_aln 0 rfl dX9_serves_37 (s_gf (T := TX9) winX9 rfl (Nat.le_of_ble_eq_true rfl) gw_435 rfl dX9_serves_38 (s_gf (T := TX0) winX0 rfl (Nat.le_of_ble_eq_true rfl) gw_444 rfl dX9_serves_41 (s_iln 3 rfl dX9_serves_44 (s_iald dX9_serves_45 (s_i2l dX9_serves_46 (s_cv (C := RX4) c_X4_add rfl (gb_l5 gw_402 gw_403 gw_404 gw_392 gw_405) v_X4_add ⟨rfl, rfl⟩ ⟨Nat.le_of_ble_eq_true rfl, Nat.le_of_ble_eq_true rfl⟩ dX9_serves_47 (s_inc (by decide +kernel) (Nat.le_of_ble_eq_true rfl) dX9_serves_50 (s_goto (tgt := 28) (by decide +kernel) dX9_serves_53 (s_j (hκ 28))))))))))))))))
noncomputable def B_X9_serves : List (Nat × (gb_K → gb_C)) := [(28, fun κ => k_X9_serves_28 κ)]
noncomputable def K_X9_serves : gb_K := gb_fx (gb_tb (B_X9_serves))
theorem L_X9_serves : ∀ q, gb_Li (fun κ => gb_tb (B_X9_serves) κ q) := gb_tb_li (List.forall_mem_cons.mpr ⟨l_X9_serves_28, (fun _ h => absurd h List.not_mem_nil)⟩)
theorem S_X9_serves   : ∀ q, gb_S RX9 cX9_serves 4 (gb_rm 12 266) 1 q (K_X9_serves q) := fun q => gb_fx_S (L_X9_serves) (gb_tb_S (List.forall_mem_cons.mpr ⟨fun κ hκ => s_X9_serves_28 hκ, (fun _ h => absurd h List.not_mem_nil)⟩)) q
noncomputable def f_X9_serves : gb_F := gb_hide (gb_mf 4 (k_X9_serves_0 (K_X9_serves)))
theorem c_X9_serves : ∀ l, gb_Met l yX9_serves cX9_serves 4 (some .int) 1 (gb_rm 12 266) f_X9_serves := gb_hide_c (gb_met (own := RX9) (rk := 1) rfl (by decide +kernel) ⟨rfl, rfl⟩ (s_X9_serves_0 (S_X9_serves)))
theorem dX9_picks_0 : decode cX9_picks 0 = .ok (.aload_n 0, 1) := by decide +kernel
theorem dX9_picks_1 : decode cX9_picks 1 = .ok (.invokevirtual 223, 3) := by decide +kernel
theorem dX9_picks_4 : decode cX9_picks 4 = .ok (.istore_n 1, 1) := by decide +kernel
theorem dX9_picks_5 : decode cX9_picks 5 = .ok (.iload_n 1, 1) := by decide +kernel
theorem dX9_picks_6 : decode cX9_picks 6 = .ok (.ifCond .ge 5, 3) := by decide +kernel
theorem dX9_picks_9 : decode cX9_picks 9 = .ok (.iload_n 1, 1) := by decide +kernel
theorem dX9_picks_10 : decode cX9_picks 10 = .ok (.ireturn, 1) := by decide +kernel
theorem dX9_picks_11 : decode cX9_picks 11 = .ok (.aload_n 0, 1) := by decide +kernel
theorem dX9_picks_12 : decode cX9_picks 12 = .ok (.getfield 73, 3) := by decide +kernel
theorem dX9_picks_15 : decode cX9_picks 15 = .ok (.invokevirtual 289, 3) := by decide +kernel
theorem dX9_picks_18 : decode cX9_picks 18 = .ok (.istore_n 2, 1) := by decide +kernel
theorem dX9_picks_19 : decode cX9_picks 19 = .ok (.aload_n 0, 1) := by decide +kernel
theorem dX9_picks_20 : decode cX9_picks 20 = .ok (.getfield 48, 3) := by decide +kernel
theorem dX9_picks_23 : decode cX9_picks 23 = .ok (.invokevirtual 194, 3) := by decide +kernel
theorem dX9_picks_26 : decode cX9_picks 26 = .ok (.iconst 0, 1) := by decide +kernel
theorem dX9_picks_27 : decode cX9_picks 27 = .ok (.istore_n 3, 1) := by decide +kernel
theorem dX9_picks_28 : decode cX9_picks 28 = .ok (.iload_n 3, 1) := by decide +kernel
theorem dX9_picks_29 : decode cX9_picks 29 = .ok (.iload_n 1, 1) := by decide +kernel
theorem dX9_picks_30 : decode cX9_picks 30 = .ok (.if_icmp .ge 26, 3) := by decide +kernel
theorem dX9_picks_33 : decode cX9_picks 33 = .ok (.aload_n 0, 1) := by decide +kernel
theorem dX9_picks_34 : decode cX9_picks 34 = .ok (.getfield 48, 3) := by decide +kernel
theorem dX9_picks_37 : decode cX9_picks 37 = .ok (.aload_n 0, 1) := by decide +kernel
theorem dX9_picks_38 : decode cX9_picks 38 = .ok (.getfield 73, 3) := by decide +kernel
theorem dX9_picks_41 : decode cX9_picks 41 = .ok (.getfield 233, 3) := by decide +kernel
theorem dX9_picks_44 : decode cX9_picks 44 = .ok (.iload_n 3, 1) := by decide +kernel
theorem dX9_picks_45 : decode cX9_picks 45 = .ok (.iaload, 1) := by decide +kernel
theorem dX9_picks_46 : decode cX9_picks 46 = .ok (.i2l, 1) := by decide +kernel
theorem dX9_picks_47 : decode cX9_picks 47 = .ok (.invokevirtual 199, 3) := by decide +kernel
theorem dX9_picks_50 : decode cX9_picks 50 = .ok (.iinc 3 1, 3) := by decide +kernel
theorem dX9_picks_53 : decode cX9_picks 53 = .ok (.goto (-25), 3) := by decide +kernel
theorem dX9_picks_56 : decode cX9_picks 56 = .ok (.iload_n 2, 1) := by decide +kernel
theorem dX9_picks_57 : decode cX9_picks 57 = .ok (.ireturn, 1) := by decide +kernel
theorem v_X9_picks : yX9_picks.cls = RX9 ∧ yX9_picks.cls ≠ "java/lang/invoke/MethodHandle" ∧ yX9_picks.cls ≠ "java/lang/invoke/VarHandle" ∧ (parseMethodDescriptor yX9_picks.desc).map (fun d => d.parameters.length) = some 0 := ⟨rfl, by decide +kernel, by decide +kernel, by decide +kernel⟩
noncomputable def k_X9_picks_0 (κ : gb_K) : gb_C := (o_al 0 (o_cv 0 9 1 f_X9_readOrders (o_is 1 (o_il 1 (o_zge (o_al 0 (o_gf 9 10 (o_cv 0 0 1 f_X0_pick (o_is 2 (o_al 0 (o_gf 9 7 (o_cv 0 4 0 f_X4_start (o_ci 0 (o_is 3 (o_j [0, 1, 2, 3] (κ 28))))))))))) (o_il 1 o_ri))))))
theorem l_X9_picks_0 : gb_Li (fun κ => k_X9_picks_0 κ) := (gb_li (q_al 0) (gb_li (q_cv 0 9 1 f_X9_readOrders) (gb_li (q_is 1) (gb_li (q_il 1) (q_zge (gb_li (q_al 0) (gb_li (q_gf 9 10) (gb_li (q_cv 0 0 1 f_X0_pick) (gb_li (q_is 2) (gb_li (q_al 0) (gb_li (q_gf 9 7) (gb_li (q_cv 0 4 0 f_X4_start) (gb_li (q_ci 0) (gb_li (q_is 3) (q_j [0, 1, 2, 3] 28)))))))))) (gb_li (q_il 1) (gb_li0 _)))))))
theorem s_X9_picks_0   {κ : gb_K} (hκ : ∀ q, gb_S RX9 cX9_picks 4 (gb_rm 12 275) 1 q (κ q)) : gb_S RX9 cX9_picks 4 (gb_rm 12 275) 1 0 (k_X9_picks_0 κ) := (s_aln 0 rfl dX9_picks_0 (s_cv (C := RX9) c_X9_readOrders rfl (gb_l5 gw_431 gw_432 gw_433 gw_356 gw_434) v_X9_readOrders ⟨rfl, rfl⟩ ⟨Nat.le_of_ble_eq_true rfl, Nat.le_of_ble_eq_true rfl⟩ dX9_picks_1 (s_isn 1 rfl (Nat.le_of_ble_eq_true rfl) dX9_picks_4 (s_iln 1 rfl dX9_picks_5 (s_zge (tgt := 11) (by decide +kernel) dX9_picks_6 (s_aln 0 rfl dX9_picks_11 (s_gf (T := TX9) winX9 rfl (Nat.le_of_ble_eq_true rfl) gw_435 rfl dX9_picks_12 (s_cv (C := RX0) c_X0_pick rfl (gb_l5 gw_488 gw_489 gw_490 gw_29 gw_491) v_X0_pick ⟨rfl, rfl⟩ ⟨Nat.le_of_ble_eq_true rfl, Nat.le_of_ble_eq_true rfl⟩ dX9_picks_15 (s_isn 2 rfl (Nat.le_of_ble_eq_true rfl) dX9_picks_18 (s_aln 0 rfl dX9_picks_19 (s_gf (T := TX9) winX9 rfl (Nat.le_of_ble_eq_true rfl) gw_388 rfl dX9_picks_20 (s_cv (C := RX4) c_X4_start rfl (gb_l5 gw_389 gw_390 gw_391 gw_392 gw_393) v_X4_start ⟨rfl, rfl⟩ ⟨Nat.le_of_ble_eq_true rfl, Nat.le_of_ble_eq_true rfl⟩ dX9_picks_23 (s_iconst (by decide +kernel) dX9_picks_26 (s_isn 3 rfl (Nat.le_of_ble_eq_true rfl) dX9_picks_27 (s_j (hκ 28))))))))))) (s_iln 1 rfl dX9_picks_9 (s_ri rfl dX9_picks_10)))))))
noncomputable def k_X9_picks_28 (κ : gb_K) : gb_C := (o_il 3 (o_il 1 (o_cge (o_il 2 o_ri) (o_al 0 (o_gf 9 7 (o_al 0 (o_gf 9 10 (o_gf 0 4 (o_il 3 (o_iald (o_i2l (o_cv 1 4 0 f_X4_add (o_inc 3 1 (o_j [0, 1, 2, 3] (κ 28)))))))))))))))
theorem l_X9_picks_28 : gb_Li (fun κ => k_X9_picks_28 κ) := (gb_li (q_il 3) (gb_li (q_il 1) (q_cge (gb_li (q_il 2) (gb_li0 _)) (gb_li (q_al 0) (gb_li (q_gf 9 7) (gb_li (q_al 0) (gb_li (q_gf 9 10) (gb_li (q_gf 0 4) (gb_li (q_il 3) (gb_li q_iald (gb_li q_i2l (gb_li (q_cv 1 4 0 f_X4_add) (gb_li (q_inc 3 1) (q_j [0, 1, 2, 3] 28))))))))))))))
theorem s_X9_picks_28   {κ : gb_K} (hκ : ∀ q, gb_S RX9 cX9_picks 4 (gb_rm 12 275) 1 q (κ q)) : gb_S RX9 cX9_picks 4 (gb_rm 12 275) 1 28 (k_X9_picks_28 κ) := (s_iln 3 rfl dX9_picks_28 (s_iln 1 rfl dX9_picks_29 (s_cge (tgt := 56) (by decide +kernel) dX9_picks_30 (s_iln 2 rfl dX9_picks_56 (s_ri rfl dX9_picks_57)) (s_aln 0 rfl dX9_picks_33 (s_gf (T := TX9) winX9 rfl (Nat.le_of_ble_eq_true rfl) gw_388 rfl dX9_picks_34 (s_aln 0 rfl dX9_picks_37 (s_gf (T := TX9) winX9 rfl (Nat.le_of_ble_eq_true rfl) gw_435 rfl dX9_picks_38 (s_gf (T := TX0) winX0 rfl (Nat.le_of_ble_eq_true rfl) gw_444 rfl dX9_picks_41 (s_iln 3 rfl dX9_picks_44 (s_iald dX9_picks_45 (s_i2l dX9_picks_46 (s_cv (C := RX4) c_X4_add rfl (gb_l5 gw_402 gw_403 gw_404 gw_392 gw_405) v_X4_add ⟨rfl, rfl⟩ ⟨Nat.le_of_ble_eq_true rfl, Nat.le_of_ble_eq_true rfl⟩ dX9_picks_47 (s_inc (by decide +kernel) (Nat.le_of_ble_eq_true rfl) dX9_picks_50 (s_goto (tgt := 28) (by decide +kernel) dX9_picks_53 (s_j (hκ 28))))))))))))))))
noncomputable def B_X9_picks : List (Nat × (gb_K → gb_C)) := [(28, fun κ => k_X9_picks_28 κ)]
noncomputable def K_X9_picks : gb_K := gb_fx (gb_tb (B_X9_picks))
theorem L_X9_picks : ∀ q, gb_Li (fun κ => gb_tb (B_X9_picks) κ q) := gb_tb_li (List.forall_mem_cons.mpr ⟨l_X9_picks_28, (fun _ h => absurd h List.not_mem_nil)⟩)
theorem S_X9_picks   : ∀ q, gb_S RX9 cX9_picks 4 (gb_rm 12 275) 1 q (K_X9_picks q) := fun q => gb_fx_S (L_X9_picks) (gb_tb_S (List.forall_mem_cons.mpr ⟨fun κ hκ => s_X9_picks_28 hκ, (fun _ h => absurd h List.not_mem_nil)⟩)) q
noncomputable def f_X9_picks : gb_F := gb_hide (gb_mf 4 (k_X9_picks_0 (K_X9_picks)))
theorem c_X9_picks : ∀ l, gb_Met l yX9_picks cX9_picks 4 (some .int) 1 (gb_rm 12 275) f_X9_picks := gb_hide_c (gb_met (own := RX9) (rk := 1) rfl (by decide +kernel) ⟨rfl, rfl⟩ (s_X9_picks_0 (S_X9_picks)))
theorem dX9_empties_0 : decode cX9_empties 0 = .ok (.iload_n 1, 1) := by decide +kernel
theorem dX9_empties_1 : decode cX9_empties 1 = .ok (.invokestatic 136, 3) := by decide +kernel
theorem dX9_empties_4 : decode cX9_empties 4 = .ok (.ifCond .ne 5, 3) := by decide +kernel
theorem dX9_empties_7 : decode cX9_empties 7 = .ok (.iconst (-1), 1) := by decide +kernel
theorem dX9_empties_8 : decode cX9_empties 8 = .ok (.ireturn, 1) := by decide +kernel
theorem dX9_empties_9 : decode cX9_empties 9 = .ok (.aload_n 0, 1) := by decide +kernel
theorem dX9_empties_10 : decode cX9_empties 10 = .ok (.getfield 31, 3) := by decide +kernel
theorem dX9_empties_13 : decode cX9_empties 13 = .ok (.iload_n 1, 1) := by decide +kernel
theorem dX9_empties_14 : decode cX9_empties 14 = .ok (.invokevirtual 191, 3) := by decide +kernel
theorem dX9_empties_17 : decode cX9_empties 17 = .ok (.ifCond .eq 6, 3) := by decide +kernel
theorem dX9_empties_20 : decode cX9_empties 20 = .ok (.bipush (-2), 2) := by decide +kernel
theorem dX9_empties_22 : decode cX9_empties 22 = .ok (.ireturn, 1) := by decide +kernel
theorem dX9_empties_23 : decode cX9_empties 23 = .ok (.aload_n 0, 1) := by decide +kernel
theorem dX9_empties_24 : decode cX9_empties 24 = .ok (.getfield 55, 3) := by decide +kernel
theorem dX9_empties_27 : decode cX9_empties 27 = .ok (.aload_n 0, 1) := by decide +kernel
theorem dX9_empties_28 : decode cX9_empties 28 = .ok (.getfield 31, 3) := by decide +kernel
theorem dX9_empties_31 : decode cX9_empties 31 = .ok (.iload_n 1, 1) := by decide +kernel
theorem dX9_empties_32 : decode cX9_empties 32 = .ok (.invokevirtual 292, 3) := by decide +kernel
theorem dX9_empties_35 : decode cX9_empties 35 = .ok (.aload_n 0, 1) := by decide +kernel
theorem dX9_empties_36 : decode cX9_empties 36 = .ok (.getfield 64, 3) := by decide +kernel
theorem dX9_empties_39 : decode cX9_empties 39 = .ok (.aload_n 0, 1) := by decide +kernel
theorem dX9_empties_40 : decode cX9_empties 40 = .ok (.getfield 31, 3) := by decide +kernel
theorem dX9_empties_43 : decode cX9_empties 43 = .ok (.iload_n 1, 1) := by decide +kernel
theorem dX9_empties_44 : decode cX9_empties 44 = .ok (.invokevirtual 262, 3) := by decide +kernel
theorem dX9_empties_47 : decode cX9_empties 47 = .ok (.istore_n 2, 1) := by decide +kernel
theorem dX9_empties_48 : decode cX9_empties 48 = .ok (.iload_n 2, 1) := by decide +kernel
theorem dX9_empties_49 : decode cX9_empties 49 = .ok (.ifCond .ge 6, 3) := by decide +kernel
theorem dX9_empties_52 : decode cX9_empties 52 = .ok (.bipush (-3), 2) := by decide +kernel
theorem dX9_empties_54 : decode cX9_empties 54 = .ok (.ireturn, 1) := by decide +kernel
theorem dX9_empties_55 : decode cX9_empties 55 = .ok (.aload_n 0, 1) := by decide +kernel
theorem dX9_empties_56 : decode cX9_empties 56 = .ok (.getfield 48, 3) := by decide +kernel
theorem dX9_empties_59 : decode cX9_empties 59 = .ok (.invokevirtual 194, 3) := by decide +kernel
theorem dX9_empties_62 : decode cX9_empties 62 = .ok (.iconst 0, 1) := by decide +kernel
theorem dX9_empties_63 : decode cX9_empties 63 = .ok (.istore_n 3, 1) := by decide +kernel
theorem dX9_empties_64 : decode cX9_empties 64 = .ok (.iload_n 3, 1) := by decide +kernel
theorem dX9_empties_65 : decode cX9_empties 65 = .ok (.aload_n 0, 1) := by decide +kernel
theorem dX9_empties_66 : decode cX9_empties 66 = .ok (.getfield 55, 3) := by decide +kernel
theorem dX9_empties_69 : decode cX9_empties 69 = .ok (.getfield 296, 3) := by decide +kernel
theorem dX9_empties_72 : decode cX9_empties 72 = .ok (.if_icmp .ge 26, 3) := by decide +kernel
theorem dX9_empties_75 : decode cX9_empties 75 = .ok (.aload_n 0, 1) := by decide +kernel
theorem dX9_empties_76 : decode cX9_empties 76 = .ok (.getfield 48, 3) := by decide +kernel
theorem dX9_empties_79 : decode cX9_empties 79 = .ok (.aload_n 0, 1) := by decide +kernel
theorem dX9_empties_80 : decode cX9_empties 80 = .ok (.getfield 64, 3) := by decide +kernel
theorem dX9_empties_83 : decode cX9_empties 83 = .ok (.getfield 270, 3) := by decide +kernel
theorem dX9_empties_86 : decode cX9_empties 86 = .ok (.iload_n 3, 1) := by decide +kernel
theorem dX9_empties_87 : decode cX9_empties 87 = .ok (.iaload, 1) := by decide +kernel
theorem dX9_empties_88 : decode cX9_empties 88 = .ok (.i2l, 1) := by decide +kernel
theorem dX9_empties_89 : decode cX9_empties 89 = .ok (.invokevirtual 199, 3) := by decide +kernel
theorem dX9_empties_92 : decode cX9_empties 92 = .ok (.iinc 3 1, 3) := by decide +kernel
theorem dX9_empties_95 : decode cX9_empties 95 = .ok (.goto (-31), 3) := by decide +kernel
theorem dX9_empties_98 : decode cX9_empties 98 = .ok (.iload_n 2, 1) := by decide +kernel
theorem dX9_empties_99 : decode cX9_empties 99 = .ok (.ireturn, 1) := by decide +kernel
theorem v_X9_empties : yX9_empties.cls = RX9 ∧ yX9_empties.cls ≠ "java/lang/invoke/MethodHandle" ∧ yX9_empties.cls ≠ "java/lang/invoke/VarHandle" ∧ (parseMethodDescriptor yX9_empties.desc).map (fun d => d.parameters.length) = some 1 := ⟨rfl, by decide +kernel, by decide +kernel, by decide +kernel⟩
noncomputable def k_X9_empties_0 (κ : gb_K) : gb_C := (o_il 1 (o_cs 1 2 f_X9_isBin (o_zeq (o_ci (-1) o_ri) (o_al 0 (o_gf 9 3 (o_il 1 (o_cv 1 7 2 f_X7_closed (o_zeq (o_al 0 (o_gf 9 8 (o_al 0 (o_gf 9 3 (o_il 1 (o_cv 2 2 0 f_X2_takeLayers (o_al 0 (o_gf 9 9 (o_al 0 (o_gf 9 3 (o_il 1 (o_cv 2 1 1 f_X1_leastGrowth (o_is 2 (o_il 2 (o_zge (o_al 0 (o_gf 9 7 (o_cv 0 4 0 f_X4_start (o_ci 0 (o_is 3 (o_j [0, 2, 3] (κ 64))))))) (o_ci (-3) o_ri)))))))))))))))) (o_ci (-2) o_ri)))))))))
theorem l_X9_empties_0 : gb_Li (fun κ => k_X9_empties_0 κ) := (gb_li (q_il 1) (gb_li (q_cs 1 2 f_X9_isBin) (q_zeq (gb_li (q_ci (-1)) (gb_li0 _)) (gb_li (q_al 0) (gb_li (q_gf 9 3) (gb_li (q_il 1) (gb_li (q_cv 1 7 2 f_X7_closed) (q_zeq (gb_li (q_al 0) (gb_li (q_gf 9 8) (gb_li (q_al 0) (gb_li (q_gf 9 3) (gb_li (q_il 1) (gb_li (q_cv 2 2 0 f_X2_takeLayers) (gb_li (q_al 0) (gb_li (q_gf 9 9) (gb_li (q_al 0) (gb_li (q_gf 9 3) (gb_li (q_il 1) (gb_li (q_cv 2 1 1 f_X1_leastGrowth) (gb_li (q_is 2) (gb_li (q_il 2) (q_zge (gb_li (q_al 0) (gb_li (q_gf 9 7) (gb_li (q_cv 0 4 0 f_X4_start) (gb_li (q_ci 0) (gb_li (q_is 3) (q_j [0, 2, 3] 64)))))) (gb_li (q_ci (-3)) (gb_li0 _))))))))))))))))) (gb_li (q_ci (-2)) (gb_li0 _))))))))))
theorem s_X9_empties_0   {κ : gb_K} (hκ : ∀ q, gb_S RX9 cX9_empties 4 (gb_rm 14 330) 1 q (κ q)) : gb_S RX9 cX9_empties 4 (gb_rm 14 330) 1 0 (k_X9_empties_0 κ) := (s_iln 1 rfl dX9_empties_0 (s_cs c_X9_isBin (gb_l4 gw_370 gw_371 gw_356 gw_372) v_X9_isBin.2 ⟨rfl, rfl⟩ ⟨Nat.le_of_ble_eq_true rfl, Nat.le_of_ble_eq_true rfl⟩ dX9_empties_1 (s_zne (tgt := 9) (by decide +kernel) dX9_empties_4 (s_aln 0 rfl dX9_empties_9 (s_gf (T := TX9) winX9 rfl (Nat.le_of_ble_eq_true rfl) gw_336 rfl dX9_empties_10 (s_iln 1 rfl dX9_empties_13 (s_cv (C := RX7) c_X7_closed rfl (gb_l5 gw_387 gw_9 gw_10 gw_11 gw_12) v_X7_closed ⟨rfl, rfl⟩ ⟨Nat.le_of_ble_eq_true rfl, Nat.le_of_ble_eq_true rfl⟩ dX9_empties_14 (s_zeq (tgt := 23) (by decide +kernel) dX9_empties_17 (s_aln 0 rfl dX9_empties_23 (s_gf (T := TX9) winX9 rfl (Nat.le_of_ble_eq_true rfl) gw_426 rfl dX9_empties_24 (s_aln 0 rfl dX9_empties_27 (s_gf (T := TX9) winX9 rfl (Nat.le_of_ble_eq_true rfl) gw_336 rfl dX9_empties_28 (s_iln 1 rfl dX9_empties_31 (s_cv (C := RX2) c_X2_takeLayers rfl (gb_l5 gw_492 gw_493 gw_494 gw_180 gw_495) v_X2_takeLayers ⟨rfl, rfl⟩ ⟨Nat.le_of_ble_eq_true rfl, Nat.le_of_ble_eq_true rfl⟩ dX9_empties_32 (s_aln 0 rfl dX9_empties_35 (s_gf (T := TX9) winX9 rfl (Nat.le_of_ble_eq_true rfl) gw_467 rfl dX9_empties_36 (s_aln 0 rfl dX9_empties_39 (s_gf (T := TX9) winX9 rfl (Nat.le_of_ble_eq_true rfl) gw_336 rfl dX9_empties_40 (s_iln 1 rfl dX9_empties_43 (s_cv (C := RX1) c_X1_leastGrowth rfl (gb_l5 gw_468 gw_469 gw_470 gw_84 gw_471) v_X1_leastGrowth ⟨rfl, rfl⟩ ⟨Nat.le_of_ble_eq_true rfl, Nat.le_of_ble_eq_true rfl⟩ dX9_empties_44 (s_isn 2 rfl (Nat.le_of_ble_eq_true rfl) dX9_empties_47 (s_iln 2 rfl dX9_empties_48 (s_zge (tgt := 55) (by decide +kernel) dX9_empties_49 (s_aln 0 rfl dX9_empties_55 (s_gf (T := TX9) winX9 rfl (Nat.le_of_ble_eq_true rfl) gw_388 rfl dX9_empties_56 (s_cv (C := RX4) c_X4_start rfl (gb_l5 gw_389 gw_390 gw_391 gw_392 gw_393) v_X4_start ⟨rfl, rfl⟩ ⟨Nat.le_of_ble_eq_true rfl, Nat.le_of_ble_eq_true rfl⟩ dX9_empties_59 (s_iconst (by decide +kernel) dX9_empties_62 (s_isn 3 rfl (Nat.le_of_ble_eq_true rfl) dX9_empties_63 (s_j (hκ 64))))))) (s_bipush (by decide +kernel) dX9_empties_52 (s_ri rfl dX9_empties_54))))))))))))))))) (s_bipush (by decide +kernel) dX9_empties_20 (s_ri rfl dX9_empties_22))))))) (s_iconst (by decide +kernel) dX9_empties_7 (s_ri rfl dX9_empties_8)))))
noncomputable def k_X9_empties_64 (κ : gb_K) : gb_C := (o_il 3 (o_al 0 (o_gf 9 8 (o_gf 2 3 (o_cge (o_il 2 o_ri) (o_al 0 (o_gf 9 7 (o_al 0 (o_gf 9 9 (o_gf 1 3 (o_il 3 (o_iald (o_i2l (o_cv 1 4 0 f_X4_add (o_inc 3 1 (o_j [0, 2, 3] (κ 64)))))))))))))))))
theorem l_X9_empties_64 : gb_Li (fun κ => k_X9_empties_64 κ) := (gb_li (q_il 3) (gb_li (q_al 0) (gb_li (q_gf 9 8) (gb_li (q_gf 2 3) (q_cge (gb_li (q_il 2) (gb_li0 _)) (gb_li (q_al 0) (gb_li (q_gf 9 7) (gb_li (q_al 0) (gb_li (q_gf 9 9) (gb_li (q_gf 1 3) (gb_li (q_il 3) (gb_li q_iald (gb_li q_i2l (gb_li (q_cv 1 4 0 f_X4_add) (gb_li (q_inc 3 1) (q_j [0, 2, 3] 64))))))))))))))))
theorem s_X9_empties_64   {κ : gb_K} (hκ : ∀ q, gb_S RX9 cX9_empties 4 (gb_rm 14 330) 1 q (κ q)) : gb_S RX9 cX9_empties 4 (gb_rm 14 330) 1 64 (k_X9_empties_64 κ) := (s_iln 3 rfl dX9_empties_64 (s_aln 0 rfl dX9_empties_65 (s_gf (T := TX9) winX9 rfl (Nat.le_of_ble_eq_true rfl) gw_426 rfl dX9_empties_66 (s_gf (T := TX2) winX2 rfl (Nat.le_of_ble_eq_true rfl) gw_496 rfl dX9_empties_69 (s_cge (tgt := 98) (by decide +kernel) dX9_empties_72 (s_iln 2 rfl dX9_empties_98 (s_ri rfl dX9_empties_99)) (s_aln 0 rfl dX9_empties_75 (s_gf (T := TX9) winX9 rfl (Nat.le_of_ble_eq_true rfl) gw_388 rfl dX9_empties_76 (s_aln 0 rfl dX9_empties_79 (s_gf (T := TX9) winX9 rfl (Nat.le_of_ble_eq_true rfl) gw_467 rfl dX9_empties_80 (s_gf (T := TX1) winX1 rfl (Nat.le_of_ble_eq_true rfl) gw_476 rfl dX9_empties_83 (s_iln 3 rfl dX9_empties_86 (s_iald dX9_empties_87 (s_i2l dX9_empties_88 (s_cv (C := RX4) c_X4_add rfl (gb_l5 gw_402 gw_403 gw_404 gw_392 gw_405) v_X4_add ⟨rfl, rfl⟩ ⟨Nat.le_of_ble_eq_true rfl, Nat.le_of_ble_eq_true rfl⟩ dX9_empties_89 (s_inc (by decide +kernel) (Nat.le_of_ble_eq_true rfl) dX9_empties_92 (s_goto (tgt := 64) (by decide +kernel) dX9_empties_95 (s_j (hκ 64))))))))))))))))))
noncomputable def B_X9_empties : List (Nat × (gb_K → gb_C)) := [(64, fun κ => k_X9_empties_64 κ)]
noncomputable def K_X9_empties : gb_K := gb_fx (gb_tb (B_X9_empties))
theorem L_X9_empties : ∀ q, gb_Li (fun κ => gb_tb (B_X9_empties) κ q) := gb_tb_li (List.forall_mem_cons.mpr ⟨l_X9_empties_64, (fun _ h => absurd h List.not_mem_nil)⟩)
theorem S_X9_empties   : ∀ q, gb_S RX9 cX9_empties 4 (gb_rm 14 330) 1 q (K_X9_empties q) := fun q => gb_fx_S (L_X9_empties) (gb_tb_S (List.forall_mem_cons.mpr ⟨fun κ hκ => s_X9_empties_64 hκ, (fun _ h => absurd h List.not_mem_nil)⟩)) q
noncomputable def f_X9_empties : gb_F := gb_hide (gb_mf 4 (k_X9_empties_0 (K_X9_empties)))
theorem c_X9_empties : ∀ l, gb_Met l yX9_empties cX9_empties 4 (some .int) 1 (gb_rm 14 330) f_X9_empties := gb_hide_c (gb_met (own := RX9) (rk := 1) rfl (by decide +kernel) ⟨rfl, rfl⟩ (s_X9_empties_0 (S_X9_empties)))
theorem dX9_then_0 : decode cX9_then 0 = .ok (.iload_n 1, 1) := by decide +kernel
theorem dX9_then_1 : decode cX9_then 1 = .ok (.ifCond .lt 10, 3) := by decide +kernel
theorem dX9_then_4 : decode cX9_then 4 = .ok (.iload_n 1, 1) := by decide +kernel
theorem dX9_then_5 : decode cX9_then 5 = .ok (.sipush 999, 3) := by decide +kernel
theorem dX9_then_8 : decode cX9_then 8 = .ok (.if_icmp .le 5, 3) := by decide +kernel
theorem dX9_then_11 : decode cX9_then 11 = .ok (.iconst (-1), 1) := by decide +kernel
theorem dX9_then_12 : decode cX9_then 12 = .ok (.ireturn, 1) := by decide +kernel
theorem dX9_then_13 : decode cX9_then 13 = .ok (.aload_n 0, 1) := by decide +kernel
theorem dX9_then_14 : decode cX9_then 14 = .ok (.getfield 31, 3) := by decide +kernel
theorem dX9_then_17 : decode cX9_then 17 = .ok (.aload_n 0, 1) := by decide +kernel
theorem dX9_then_18 : decode cX9_then 18 = .ok (.getfield 31, 3) := by decide +kernel
theorem dX9_then_21 : decode cX9_then 21 = .ok (.getfield 151, 3) := by decide +kernel
theorem dX9_then_24 : decode cX9_then 24 = .ok (.iload_n 1, 1) := by decide +kernel
theorem dX9_then_25 : decode cX9_then 25 = .ok (.iadd, 1) := by decide +kernel
theorem dX9_then_26 : decode cX9_then 26 = .ok (.invokevirtual 230, 3) := by decide +kernel
theorem dX9_then_29 : decode cX9_then 29 = .ok (.istore_n 2, 1) := by decide +kernel
theorem dX9_then_30 : decode cX9_then 30 = .ok (.aload_n 0, 1) := by decide +kernel
theorem dX9_then_31 : decode cX9_then 31 = .ok (.getfield 48, 3) := by decide +kernel
theorem dX9_then_34 : decode cX9_then 34 = .ok (.invokevirtual 194, 3) := by decide +kernel
theorem dX9_then_37 : decode cX9_then 37 = .ok (.aload_n 0, 1) := by decide +kernel
theorem dX9_then_38 : decode cX9_then 38 = .ok (.getfield 48, 3) := by decide +kernel
theorem dX9_then_41 : decode cX9_then 41 = .ok (.aload_n 0, 1) := by decide +kernel
theorem dX9_then_42 : decode cX9_then 42 = .ok (.getfield 31, 3) := by decide +kernel
theorem dX9_then_45 : decode cX9_then 45 = .ok (.aload_n 0, 1) := by decide +kernel
theorem dX9_then_46 : decode cX9_then 46 = .ok (.getfield 31, 3) := by decide +kernel
theorem dX9_then_49 : decode cX9_then 49 = .ok (.getfield 151, 3) := by decide +kernel
theorem dX9_then_52 : decode cX9_then 52 = .ok (.invokevirtual 230, 3) := by decide +kernel
theorem dX9_then_55 : decode cX9_then 55 = .ok (.iload_n 2, 1) := by decide +kernel
theorem dX9_then_56 : decode cX9_then 56 = .ok (.isub, 1) := by decide +kernel
theorem dX9_then_57 : decode cX9_then 57 = .ok (.i2l, 1) := by decide +kernel
theorem dX9_then_58 : decode cX9_then 58 = .ok (.invokevirtual 199, 3) := by decide +kernel
theorem dX9_then_61 : decode cX9_then 61 = .ok (.aload_n 0, 1) := by decide +kernel
theorem dX9_then_62 : decode cX9_then 62 = .ok (.getfield 48, 3) := by decide +kernel
theorem dX9_then_65 : decode cX9_then 65 = .ok (.aload_n 0, 1) := by decide +kernel
theorem dX9_then_66 : decode cX9_then 66 = .ok (.getfield 31, 3) := by decide +kernel
theorem dX9_then_69 : decode cX9_then 69 = .ok (.aload_n 0, 1) := by decide +kernel
theorem dX9_then_70 : decode cX9_then 70 = .ok (.getfield 31, 3) := by decide +kernel
theorem dX9_then_73 : decode cX9_then 73 = .ok (.getfield 151, 3) := by decide +kernel
theorem dX9_then_76 : decode cX9_then 76 = .ok (.iload_n 1, 1) := by decide +kernel
theorem dX9_then_77 : decode cX9_then 77 = .ok (.iadd, 1) := by decide +kernel
theorem dX9_then_78 : decode cX9_then 78 = .ok (.invokevirtual 299, 3) := by decide +kernel
theorem dX9_then_81 : decode cX9_then 81 = .ok (.i2l, 1) := by decide +kernel
theorem dX9_then_82 : decode cX9_then 82 = .ok (.invokevirtual 199, 3) := by decide +kernel
theorem dX9_then_85 : decode cX9_then 85 = .ok (.iload_n 2, 1) := by decide +kernel
theorem dX9_then_86 : decode cX9_then 86 = .ok (.ireturn, 1) := by decide +kernel
theorem v_X9_then : yX9_then.cls = RX9 ∧ yX9_then.cls ≠ "java/lang/invoke/MethodHandle" ∧ yX9_then.cls ≠ "java/lang/invoke/VarHandle" ∧ (parseMethodDescriptor yX9_then.desc).map (fun d => d.parameters.length) = some 1 := ⟨rfl, by decide +kernel, by decide +kernel, by decide +kernel⟩
noncomputable def k_X9_then_11 (κ : gb_K) : gb_C := (o_ci (-1) o_ri)
theorem l_X9_then_11 : gb_Li (fun κ => k_X9_then_11 κ) := (gb_li (q_ci (-1)) (gb_li0 _))
theorem s_X9_then_11   {κ : gb_K} (hκ : ∀ q, gb_S RX9 cX9_then 3 (gb_rm 5 115) 1 q (κ q)) : gb_S RX9 cX9_then 3 (gb_rm 5 115) 1 11 (k_X9_then_11 κ) := (s_iconst (by decide +kernel) dX9_then_11 (s_ri rfl dX9_then_12))
noncomputable def k_X9_then_62 (κ : gb_K) : gb_C := (o_gf 9 7 (o_al 0 (o_gf 9 3 (o_al 0 (o_gf 9 3 (o_gf 7 9 (o_il 1 (o_ib (fun x y => x + y) (o_cv 1 7 1 f_X7_spoiltGrades (o_i2l (o_cv 1 4 0 f_X4_add (o_il 2 o_ri))))))))))))
theorem l_X9_then_62 : gb_Li (fun κ => k_X9_then_62 κ) := (gb_li (q_gf 9 7) (gb_li (q_al 0) (gb_li (q_gf 9 3) (gb_li (q_al 0) (gb_li (q_gf 9 3) (gb_li (q_gf 7 9) (gb_li (q_il 1) (gb_li (q_ib _) (gb_li (q_cv 1 7 1 f_X7_spoiltGrades) (gb_li q_i2l (gb_li (q_cv 1 4 0 f_X4_add) (gb_li (q_il 2) (gb_li0 _)))))))))))))
theorem s_X9_then_62   {κ : gb_K} (hκ : ∀ q, gb_S RX9 cX9_then 3 (gb_rm 5 115) 1 q (κ q)) : gb_S RX9 cX9_then 3 (gb_rm 5 115) 1 62 (k_X9_then_62 κ) := (s_gf (T := TX9) winX9 rfl (Nat.le_of_ble_eq_true rfl) gw_388 rfl dX9_then_62 (s_aln 0 rfl dX9_then_65 (s_gf (T := TX9) winX9 rfl (Nat.le_of_ble_eq_true rfl) gw_336 rfl dX9_then_66 (s_aln 0 rfl dX9_then_69 (s_gf (T := TX9) winX9 rfl (Nat.le_of_ble_eq_true rfl) gw_336 rfl dX9_then_70 (s_gf (T := TX7) winX7 rfl (Nat.le_of_ble_eq_true rfl) gw_365 rfl dX9_then_73 (s_iln 1 rfl dX9_then_76 (s_iadd dX9_then_77 (s_cv (C := RX7) c_X7_spoiltGrades rfl (gb_l5 gw_497 gw_498 gw_499 gw_11 gw_500) v_X7_spoiltGrades ⟨rfl, rfl⟩ ⟨Nat.le_of_ble_eq_true rfl, Nat.le_of_ble_eq_true rfl⟩ dX9_then_78 (s_i2l dX9_then_81 (s_cv (C := RX4) c_X4_add rfl (gb_l5 gw_402 gw_403 gw_404 gw_392 gw_405) v_X4_add ⟨rfl, rfl⟩ ⟨Nat.le_of_ble_eq_true rfl, Nat.le_of_ble_eq_true rfl⟩ dX9_then_82 (s_iln 2 rfl dX9_then_85 (s_ri rfl dX9_then_86)))))))))))))
noncomputable def k_X9_then_0 (κ : gb_K) : gb_C := (o_il 1 (o_zlt (k_X9_then_11 κ) (o_il 1 (o_ci 999 (o_cle (o_al 0 (o_gf 9 3 (o_al 0 (o_gf 9 3 (o_gf 7 9 (o_il 1 (o_ib (fun x y => x + y) (o_cv 1 7 1 f_X7_valueOfAll (o_is 2 (o_al 0 (o_gf 9 7 (o_cv 0 4 0 f_X4_start (o_al 0 (o_gf 9 7 (o_al 0 (o_gf 9 3 (o_al 0 (o_gf 9 3 (o_gf 7 9 (o_cv 1 7 1 f_X7_valueOfAll (o_il 2 (o_ib (fun x y => x - y) (o_i2l (o_cv 1 4 0 f_X4_add (o_al 0 (k_X9_then_62 κ)))))))))))))))))))))))))) (k_X9_then_11 κ))))))
theorem l_X9_then_0 : gb_Li (fun κ => k_X9_then_0 κ) := (gb_li (q_il 1) (q_zlt (l_X9_then_11) (gb_li (q_il 1) (gb_li (q_ci 999) (q_cle (gb_li (q_al 0) (gb_li (q_gf 9 3) (gb_li (q_al 0) (gb_li (q_gf 9 3) (gb_li (q_gf 7 9) (gb_li (q_il 1) (gb_li (q_ib _) (gb_li (q_cv 1 7 1 f_X7_valueOfAll) (gb_li (q_is 2) (gb_li (q_al 0) (gb_li (q_gf 9 7) (gb_li (q_cv 0 4 0 f_X4_start) (gb_li (q_al 0) (gb_li (q_gf 9 7) (gb_li (q_al 0) (gb_li (q_gf 9 3) (gb_li (q_al 0) (gb_li (q_gf 9 3) (gb_li (q_gf 7 9) (gb_li (q_cv 1 7 1 f_X7_valueOfAll) (gb_li (q_il 2) (gb_li (q_ib _) (gb_li q_i2l (gb_li (q_cv 1 4 0 f_X4_add) (gb_li (q_al 0) (l_X9_then_62)))))))))))))))))))))))))) (l_X9_then_11))))))
theorem s_X9_then_0   {κ : gb_K} (hκ : ∀ q, gb_S RX9 cX9_then 3 (gb_rm 5 115) 1 q (κ q)) : gb_S RX9 cX9_then 3 (gb_rm 5 115) 1 0 (k_X9_then_0 κ) := (s_iln 1 rfl dX9_then_0 (s_zlt (tgt := 11) (by decide +kernel) dX9_then_1 (s_X9_then_11 hκ) (s_iln 1 rfl dX9_then_4 (s_sipush (by decide +kernel) dX9_then_5 (s_cle (tgt := 13) (by decide +kernel) dX9_then_8 (s_aln 0 rfl dX9_then_13 (s_gf (T := TX9) winX9 rfl (Nat.le_of_ble_eq_true rfl) gw_336 rfl dX9_then_14 (s_aln 0 rfl dX9_then_17 (s_gf (T := TX9) winX9 rfl (Nat.le_of_ble_eq_true rfl) gw_336 rfl dX9_then_18 (s_gf (T := TX7) winX7 rfl (Nat.le_of_ble_eq_true rfl) gw_365 rfl dX9_then_21 (s_iln 1 rfl dX9_then_24 (s_iadd dX9_then_25 (s_cv (C := RX7) c_X7_valueOfAll rfl (gb_l5 gw_440 gw_441 gw_442 gw_11 gw_443) v_X7_valueOfAll ⟨rfl, rfl⟩ ⟨Nat.le_of_ble_eq_true rfl, Nat.le_of_ble_eq_true rfl⟩ dX9_then_26 (s_isn 2 rfl (Nat.le_of_ble_eq_true rfl) dX9_then_29 (s_aln 0 rfl dX9_then_30 (s_gf (T := TX9) winX9 rfl (Nat.le_of_ble_eq_true rfl) gw_388 rfl dX9_then_31 (s_cv (C := RX4) c_X4_start rfl (gb_l5 gw_389 gw_390 gw_391 gw_392 gw_393) v_X4_start ⟨rfl, rfl⟩ ⟨Nat.le_of_ble_eq_true rfl, Nat.le_of_ble_eq_true rfl⟩ dX9_then_34 (s_aln 0 rfl dX9_then_37 (s_gf (T := TX9) winX9 rfl (Nat.le_of_ble_eq_true rfl) gw_388 rfl dX9_then_38 (s_aln 0 rfl dX9_then_41 (s_gf (T := TX9) winX9 rfl (Nat.le_of_ble_eq_true rfl) gw_336 rfl dX9_then_42 (s_aln 0 rfl dX9_then_45 (s_gf (T := TX9) winX9 rfl (Nat.le_of_ble_eq_true rfl) gw_336 rfl dX9_then_46 (s_gf (T := TX7) winX7 rfl (Nat.le_of_ble_eq_true rfl) gw_365 rfl dX9_then_49 (s_cv (C := RX7) c_X7_valueOfAll rfl (gb_l5 gw_440 gw_441 gw_442 gw_11 gw_443) v_X7_valueOfAll ⟨rfl, rfl⟩ ⟨Nat.le_of_ble_eq_true rfl, Nat.le_of_ble_eq_true rfl⟩ dX9_then_52 (s_iln 2 rfl dX9_then_55 (s_isub dX9_then_56 (s_i2l dX9_then_57 (s_cv (C := RX4) c_X4_add rfl (gb_l5 gw_402 gw_403 gw_404 gw_392 gw_405) v_X4_add ⟨rfl, rfl⟩ ⟨Nat.le_of_ble_eq_true rfl, Nat.le_of_ble_eq_true rfl⟩ dX9_then_58 (s_aln 0 rfl dX9_then_61 (s_X9_then_62 hκ)))))))))))))))))))))))))) (s_X9_then_11 hκ))))))
noncomputable def f_X9_then : gb_F := gb_hide (gb_mf 3 (k_X9_then_0 gb_n))
theorem c_X9_then : ∀ l, gb_Met l yX9_then cX9_then 3 (some .int) 1 (gb_rm 5 115) f_X9_then := gb_hide_c (gb_met (own := RX9) (rk := 1) rfl (by decide +kernel) ⟨rfl, rfl⟩ (s_X9_then_0 gb_S_n))
theorem dX9_falls_0 : decode cX9_falls 0 = .ok (.iload_n 1, 1) := by decide +kernel
theorem dX9_falls_1 : decode cX9_falls 1 = .ok (.invokestatic 136, 3) := by decide +kernel
theorem dX9_falls_4 : decode cX9_falls 4 = .ok (.ifCond .ne 5, 3) := by decide +kernel
theorem dX9_falls_7 : decode cX9_falls 7 = .ok (.iconst (-1), 1) := by decide +kernel
theorem dX9_falls_8 : decode cX9_falls 8 = .ok (.ireturn, 1) := by decide +kernel
theorem dX9_falls_9 : decode cX9_falls 9 = .ok (.iconst 0, 1) := by decide +kernel
theorem dX9_falls_10 : decode cX9_falls 10 = .ok (.istore_n 3, 1) := by decide +kernel
theorem dX9_falls_11 : decode cX9_falls 11 = .ok (.sipush 512, 3) := by decide +kernel
theorem dX9_falls_14 : decode cX9_falls 14 = .ok (.istore 4, 2) := by decide +kernel
theorem dX9_falls_16 : decode cX9_falls 16 = .ok (.iload 4, 2) := by decide +kernel
theorem dX9_falls_18 : decode cX9_falls 18 = .ok (.ifCond .le 55, 3) := by decide +kernel
theorem dX9_falls_21 : decode cX9_falls 21 = .ok (.iload_n 3, 1) := by decide +kernel
theorem dX9_falls_22 : decode cX9_falls 22 = .ok (.iload 4, 2) := by decide +kernel
theorem dX9_falls_24 : decode cX9_falls 24 = .ok (.iadd, 1) := by decide +kernel
theorem dX9_falls_25 : decode cX9_falls 25 = .ok (.iconst 1, 1) := by decide +kernel
theorem dX9_falls_26 : decode cX9_falls 26 = .ok (.isub, 1) := by decide +kernel
theorem dX9_falls_27 : decode cX9_falls 27 = .ok (.istore 5, 2) := by decide +kernel
theorem dX9_falls_29 : decode cX9_falls 29 = .ok (.iload 5, 2) := by decide +kernel
theorem dX9_falls_31 : decode cX9_falls 31 = .ok (.sipush 999, 3) := by decide +kernel
theorem dX9_falls_34 : decode cX9_falls 34 = .ok (.if_icmp .gt 30, 3) := by decide +kernel
theorem dX9_falls_37 : decode cX9_falls 37 = .ok (.aload_n 0, 1) := by decide +kernel
theorem dX9_falls_38 : decode cX9_falls 38 = .ok (.getfield 31, 3) := by decide +kernel
theorem dX9_falls_41 : decode cX9_falls 41 = .ok (.iload_n 1, 1) := by decide +kernel
theorem dX9_falls_42 : decode cX9_falls 42 = .ok (.aload_n 0, 1) := by decide +kernel
theorem dX9_falls_43 : decode cX9_falls 43 = .ok (.getfield 31, 3) := by decide +kernel
theorem dX9_falls_46 : decode cX9_falls 46 = .ok (.getfield 151, 3) := by decide +kernel
theorem dX9_falls_49 : decode cX9_falls 49 = .ok (.iload 5, 2) := by decide +kernel
theorem dX9_falls_51 : decode cX9_falls 51 = .ok (.iadd, 1) := by decide +kernel
theorem dX9_falls_52 : decode cX9_falls 52 = .ok (.invokevirtual 302, 3) := by decide +kernel
theorem dX9_falls_55 : decode cX9_falls 55 = .ok (.iload_n 2, 1) := by decide +kernel
theorem dX9_falls_56 : decode cX9_falls 56 = .ok (.if_icmp .lt 8, 3) := by decide +kernel
theorem dX9_falls_59 : decode cX9_falls 59 = .ok (.iload_n 3, 1) := by decide +kernel
theorem dX9_falls_60 : decode cX9_falls 60 = .ok (.iload 4, 2) := by decide +kernel
theorem dX9_falls_62 : decode cX9_falls 62 = .ok (.iadd, 1) := by decide +kernel
theorem dX9_falls_63 : decode cX9_falls 63 = .ok (.istore_n 3, 1) := by decide +kernel
theorem dX9_falls_64 : decode cX9_falls 64 = .ok (.iload 4, 2) := by decide +kernel
theorem dX9_falls_66 : decode cX9_falls 66 = .ok (.iconst 2, 1) := by decide +kernel
theorem dX9_falls_67 : decode cX9_falls 67 = .ok (.idiv, 1) := by decide +kernel
theorem dX9_falls_68 : decode cX9_falls 68 = .ok (.istore 4, 2) := by decide +kernel
theorem dX9_falls_70 : decode cX9_falls 70 = .ok (.goto (-54), 3) := by decide +kernel
theorem dX9_falls_73 : decode cX9_falls 73 = .ok (.iload_n 3, 1) := by decide +kernel
theorem dX9_falls_74 : decode cX9_falls 74 = .ok (.sipush 999, 3) := by decide +kernel
theorem dX9_falls_77 : decode cX9_falls 77 = .ok (.if_icmp .gt 7, 3) := by decide +kernel
theorem dX9_falls_80 : decode cX9_falls 80 = .ok (.iload_n 3, 1) := by decide +kernel
theorem dX9_falls_81 : decode cX9_falls 81 = .ok (.goto 5, 3) := by decide +kernel
theorem dX9_falls_84 : decode cX9_falls 84 = .ok (.bipush (-2), 2) := by decide +kernel
theorem dX9_falls_86 : decode cX9_falls 86 = .ok (.ireturn, 1) := by decide +kernel
theorem v_X9_falls : yX9_falls.cls = RX9 ∧ yX9_falls.cls ≠ "java/lang/invoke/MethodHandle" ∧ yX9_falls.cls ≠ "java/lang/invoke/VarHandle" ∧ (parseMethodDescriptor yX9_falls.desc).map (fun d => d.parameters.length) = some 2 := ⟨rfl, by decide +kernel, by decide +kernel, by decide +kernel⟩
noncomputable def k_X9_falls_0 (κ : gb_K) : gb_C := (o_il 1 (o_cs 1 2 f_X9_isBin (o_zeq (o_ci (-1) o_ri) (o_ci 0 (o_is 3 (o_ci 512 (o_is 4 (o_j [0, 1, 2, 3, 4] (κ 16)))))))))
theorem l_X9_falls_0 : gb_Li (fun κ => k_X9_falls_0 κ) := (gb_li (q_il 1) (gb_li (q_cs 1 2 f_X9_isBin) (q_zeq (gb_li (q_ci (-1)) (gb_li0 _)) (gb_li (q_ci 0) (gb_li (q_is 3) (gb_li (q_ci 512) (gb_li (q_is 4) (q_j [0, 1, 2, 3, 4] 16))))))))
theorem s_X9_falls_0   {κ : gb_K} (hκ : ∀ q, gb_S RX9 cX9_falls 6 (gb_rm 4 92) 1 q (κ q)) : gb_S RX9 cX9_falls 6 (gb_rm 4 92) 1 0 (k_X9_falls_0 κ) := (s_iln 1 rfl dX9_falls_0 (s_cs c_X9_isBin (gb_l4 gw_370 gw_371 gw_356 gw_372) v_X9_isBin.2 ⟨rfl, rfl⟩ ⟨Nat.le_of_ble_eq_true rfl, Nat.le_of_ble_eq_true rfl⟩ dX9_falls_1 (s_zne (tgt := 9) (by decide +kernel) dX9_falls_4 (s_iconst (by decide +kernel) dX9_falls_9 (s_isn 3 rfl (Nat.le_of_ble_eq_true rfl) dX9_falls_10 (s_sipush (by decide +kernel) dX9_falls_11 (s_is (Nat.le_of_ble_eq_true rfl) dX9_falls_14 (s_j (hκ 16)))))) (s_iconst (by decide +kernel) dX9_falls_7 (s_ri rfl dX9_falls_8)))))
noncomputable def k_X9_falls_64 (κ : gb_K) : gb_C := (o_il 4 (o_ci 2 (o_ig (fun y => !(decide (y = 0))) (fun x y => x / y) (o_is 4 (o_j [0, 1, 2, 3, 4] (κ 16))))))
theorem l_X9_falls_64 : gb_Li (fun κ => k_X9_falls_64 κ) := (gb_li (q_il 4) (gb_li (q_ci 2) (gb_li (q_ig _ _) (gb_li (q_is 4) (q_j [0, 1, 2, 3, 4] 16)))))
theorem s_X9_falls_64   {κ : gb_K} (hκ : ∀ q, gb_S RX9 cX9_falls 6 (gb_rm 4 92) 1 q (κ q)) : gb_S RX9 cX9_falls 6 (gb_rm 4 92) 1 64 (k_X9_falls_64 κ) := (s_il dX9_falls_64 (s_iconst (by decide +kernel) dX9_falls_66 (s_idiv dX9_falls_67 (s_is (Nat.le_of_ble_eq_true rfl) dX9_falls_68 (s_goto (tgt := 16) (by decide +kernel) dX9_falls_70 (s_j (hκ 16)))))))
noncomputable def k_X9_falls_86 (κ : gb_K) : gb_C := o_ri
theorem l_X9_falls_86 : gb_Li (fun κ => k_X9_falls_86 κ) := (gb_li0 _)
theorem s_X9_falls_86   {κ : gb_K} (hκ : ∀ q, gb_S RX9 cX9_falls 6 (gb_rm 4 92) 1 q (κ q)) : gb_S RX9 cX9_falls 6 (gb_rm 4 92) 1 86 (k_X9_falls_86 κ) := (s_ri rfl dX9_falls_86)
noncomputable def k_X9_falls_16 (κ : gb_K) : gb_C := (o_il 4 (o_zle (o_il 3 (o_ci 999 (o_cgt (o_ci (-2) (k_X9_falls_86 κ)) (o_il 3 (k_X9_falls_86 κ))))) (o_il 3 (o_il 4 (o_ib (fun x y => x + y) (o_ci 1 (o_ib (fun x y => x - y) (o_is 5 (o_il 5 (o_ci 999 (o_cgt (k_X9_falls_64 κ) (o_al 0 (o_gf 9 3 (o_il 1 (o_al 0 (o_gf 9 3 (o_gf 7 9 (o_il 5 (o_ib (fun x y => x + y) (o_cv 2 7 1 f_X7_valueThen (o_il 2 (o_clt (k_X9_falls_64 κ) (o_il 3 (o_il 4 (o_ib (fun x y => x + y) (o_is 3 (k_X9_falls_64 κ)))))))))))))))))))))))))))
theorem l_X9_falls_16 : gb_Li (fun κ => k_X9_falls_16 κ) := (gb_li (q_il 4) (q_zle (gb_li (q_il 3) (gb_li (q_ci 999) (q_cgt (gb_li (q_ci (-2)) (l_X9_falls_86)) (gb_li (q_il 3) (l_X9_falls_86))))) (gb_li (q_il 3) (gb_li (q_il 4) (gb_li (q_ib _) (gb_li (q_ci 1) (gb_li (q_ib _) (gb_li (q_is 5) (gb_li (q_il 5) (gb_li (q_ci 999) (q_cgt (l_X9_falls_64) (gb_li (q_al 0) (gb_li (q_gf 9 3) (gb_li (q_il 1) (gb_li (q_al 0) (gb_li (q_gf 9 3) (gb_li (q_gf 7 9) (gb_li (q_il 5) (gb_li (q_ib _) (gb_li (q_cv 2 7 1 f_X7_valueThen) (gb_li (q_il 2) (q_clt (l_X9_falls_64) (gb_li (q_il 3) (gb_li (q_il 4) (gb_li (q_ib _) (gb_li (q_is 3) (l_X9_falls_64)))))))))))))))))))))))))))
theorem s_X9_falls_16   {κ : gb_K} (hκ : ∀ q, gb_S RX9 cX9_falls 6 (gb_rm 4 92) 1 q (κ q)) : gb_S RX9 cX9_falls 6 (gb_rm 4 92) 1 16 (k_X9_falls_16 κ) := (s_il dX9_falls_16 (s_zle (tgt := 73) (by decide +kernel) dX9_falls_18 (s_iln 3 rfl dX9_falls_73 (s_sipush (by decide +kernel) dX9_falls_74 (s_cgt (tgt := 84) (by decide +kernel) dX9_falls_77 (s_bipush (by decide +kernel) dX9_falls_84 (s_X9_falls_86 hκ)) (s_iln 3 rfl dX9_falls_80 (s_goto (tgt := 86) (by decide +kernel) dX9_falls_81 (s_X9_falls_86 hκ)))))) (s_iln 3 rfl dX9_falls_21 (s_il dX9_falls_22 (s_iadd dX9_falls_24 (s_iconst (by decide +kernel) dX9_falls_25 (s_isub dX9_falls_26 (s_is (Nat.le_of_ble_eq_true rfl) dX9_falls_27 (s_il dX9_falls_29 (s_sipush (by decide +kernel) dX9_falls_31 (s_cgt (tgt := 64) (by decide +kernel) dX9_falls_34 (s_X9_falls_64 hκ) (s_aln 0 rfl dX9_falls_37 (s_gf (T := TX9) winX9 rfl (Nat.le_of_ble_eq_true rfl) gw_336 rfl dX9_falls_38 (s_iln 1 rfl dX9_falls_41 (s_aln 0 rfl dX9_falls_42 (s_gf (T := TX9) winX9 rfl (Nat.le_of_ble_eq_true rfl) gw_336 rfl dX9_falls_43 (s_gf (T := TX7) winX7 rfl (Nat.le_of_ble_eq_true rfl) gw_365 rfl dX9_falls_46 (s_il dX9_falls_49 (s_iadd dX9_falls_51 (s_cv (C := RX7) c_X7_valueThen rfl (gb_l5 gw_501 gw_293 gw_294 gw_11 gw_295) v_X7_valueThen ⟨rfl, rfl⟩ ⟨Nat.le_of_ble_eq_true rfl, Nat.le_of_ble_eq_true rfl⟩ dX9_falls_52 (s_iln 2 rfl dX9_falls_55 (s_clt (tgt := 64) (by decide +kernel) dX9_falls_56 (s_X9_falls_64 hκ) (s_iln 3 rfl dX9_falls_59 (s_il dX9_falls_60 (s_iadd dX9_falls_62 (s_isn 3 rfl (Nat.le_of_ble_eq_true rfl) dX9_falls_63 (s_X9_falls_64 hκ)))))))))))))))))))))))))))
noncomputable def B_X9_falls : List (Nat × (gb_K → gb_C)) := [(16, fun κ => k_X9_falls_16 κ)]
noncomputable def K_X9_falls : gb_K := gb_fx (gb_tb (B_X9_falls))
theorem L_X9_falls : ∀ q, gb_Li (fun κ => gb_tb (B_X9_falls) κ q) := gb_tb_li (List.forall_mem_cons.mpr ⟨l_X9_falls_16, (fun _ h => absurd h List.not_mem_nil)⟩)
theorem S_X9_falls   : ∀ q, gb_S RX9 cX9_falls 6 (gb_rm 4 92) 1 q (K_X9_falls q) := fun q => gb_fx_S (L_X9_falls) (gb_tb_S (List.forall_mem_cons.mpr ⟨fun κ hκ => s_X9_falls_16 hκ, (fun _ h => absurd h List.not_mem_nil)⟩)) q
noncomputable def f_X9_falls : gb_F := gb_hide (gb_mf 6 (k_X9_falls_0 (K_X9_falls)))
theorem c_X9_falls : ∀ l, gb_Met l yX9_falls cX9_falls 6 (some .int) 1 (gb_rm 4 92) f_X9_falls := gb_hide_c (gb_met (own := RX9) (rk := 1) rfl (by decide +kernel) ⟨rfl, rfl⟩ (s_X9_falls_0 (S_X9_falls)))
theorem dX9_old_0 : decode cX9_old 0 = .ok (.iconst 0, 1) := by decide +kernel
theorem dX9_old_1 : decode cX9_old 1 = .ok (.istore_n 1, 1) := by decide +kernel
theorem dX9_old_2 : decode cX9_old 2 = .ok (.iconst 0, 1) := by decide +kernel
theorem dX9_old_3 : decode cX9_old 3 = .ok (.istore_n 2, 1) := by decide +kernel
theorem dX9_old_4 : decode cX9_old 4 = .ok (.aload_n 0, 1) := by decide +kernel
theorem dX9_old_5 : decode cX9_old 5 = .ok (.getfield 48, 3) := by decide +kernel
theorem dX9_old_8 : decode cX9_old 8 = .ok (.invokevirtual 194, 3) := by decide +kernel
theorem dX9_old_11 : decode cX9_old 11 = .ok (.iconst 0, 1) := by decide +kernel
theorem dX9_old_12 : decode cX9_old 12 = .ok (.istore_n 3, 1) := by decide +kernel
theorem dX9_old_13 : decode cX9_old 13 = .ok (.iload_n 3, 1) := by decide +kernel
theorem dX9_old_14 : decode cX9_old 14 = .ok (.bipush 6, 2) := by decide +kernel
theorem dX9_old_16 : decode cX9_old 16 = .ok (.if_icmp .ge 45, 3) := by decide +kernel
theorem dX9_old_19 : decode cX9_old 19 = .ok (.aload_n 0, 1) := by decide +kernel
theorem dX9_old_20 : decode cX9_old 20 = .ok (.getfield 31, 3) := by decide +kernel
theorem dX9_old_23 : decode cX9_old 23 = .ok (.iload_n 3, 1) := by decide +kernel
theorem dX9_old_24 : decode cX9_old 24 = .ok (.invokevirtual 305, 3) := by decide +kernel
theorem dX9_old_27 : decode cX9_old 27 = .ok (.istore 4, 2) := by decide +kernel
theorem dX9_old_29 : decode cX9_old 29 = .ok (.aload_n 0, 1) := by decide +kernel
theorem dX9_old_30 : decode cX9_old 30 = .ok (.getfield 48, 3) := by decide +kernel
theorem dX9_old_33 : decode cX9_old 33 = .ok (.iload 4, 2) := by decide +kernel
theorem dX9_old_35 : decode cX9_old 35 = .ok (.i2l, 1) := by decide +kernel
theorem dX9_old_36 : decode cX9_old 36 = .ok (.invokevirtual 199, 3) := by decide +kernel
theorem dX9_old_39 : decode cX9_old 39 = .ok (.iload_n 1, 1) := by decide +kernel
theorem dX9_old_40 : decode cX9_old 40 = .ok (.iload 4, 2) := by decide +kernel
theorem dX9_old_42 : decode cX9_old 42 = .ok (.iadd, 1) := by decide +kernel
theorem dX9_old_43 : decode cX9_old 43 = .ok (.istore_n 1, 1) := by decide +kernel
theorem dX9_old_44 : decode cX9_old 44 = .ok (.iload 4, 2) := by decide +kernel
theorem dX9_old_46 : decode cX9_old 46 = .ok (.ifCond .le 9, 3) := by decide +kernel
theorem dX9_old_49 : decode cX9_old 49 = .ok (.iload_n 2, 1) := by decide +kernel
theorem dX9_old_50 : decode cX9_old 50 = .ok (.iconst 1, 1) := by decide +kernel
theorem dX9_old_51 : decode cX9_old 51 = .ok (.iload_n 3, 1) := by decide +kernel
theorem dX9_old_52 : decode cX9_old 52 = .ok (.ishl, 1) := by decide +kernel
theorem dX9_old_53 : decode cX9_old 53 = .ok (.ior, 1) := by decide +kernel
theorem dX9_old_54 : decode cX9_old 54 = .ok (.istore_n 2, 1) := by decide +kernel
theorem dX9_old_55 : decode cX9_old 55 = .ok (.iinc 3 1, 3) := by decide +kernel
theorem dX9_old_58 : decode cX9_old 58 = .ok (.goto (-45), 3) := by decide +kernel
theorem dX9_old_61 : decode cX9_old 61 = .ok (.aload_n 0, 1) := by decide +kernel
theorem dX9_old_62 : decode cX9_old 62 = .ok (.getfield 48, 3) := by decide +kernel
theorem dX9_old_65 : decode cX9_old 65 = .ok (.iload_n 2, 1) := by decide +kernel
theorem dX9_old_66 : decode cX9_old 66 = .ok (.i2l, 1) := by decide +kernel
theorem dX9_old_67 : decode cX9_old 67 = .ok (.invokevirtual 199, 3) := by decide +kernel
theorem dX9_old_70 : decode cX9_old 70 = .ok (.iload_n 1, 1) := by decide +kernel
theorem dX9_old_71 : decode cX9_old 71 = .ok (.ireturn, 1) := by decide +kernel
theorem v_X9_old : yX9_old.cls = RX9 ∧ yX9_old.cls ≠ "java/lang/invoke/MethodHandle" ∧ yX9_old.cls ≠ "java/lang/invoke/VarHandle" ∧ (parseMethodDescriptor yX9_old.desc).map (fun d => d.parameters.length) = some 0 := ⟨rfl, by decide +kernel, by decide +kernel, by decide +kernel⟩
noncomputable def k_X9_old_0 (κ : gb_K) : gb_C := (o_ci 0 (o_is 1 (o_ci 0 (o_is 2 (o_al 0 (o_gf 9 7 (o_cv 0 4 0 f_X4_start (o_ci 0 (o_is 3 (o_j [0, 1, 2, 3] (κ 13)))))))))))
theorem l_X9_old_0 : gb_Li (fun κ => k_X9_old_0 κ) := (gb_li (q_ci 0) (gb_li (q_is 1) (gb_li (q_ci 0) (gb_li (q_is 2) (gb_li (q_al 0) (gb_li (q_gf 9 7) (gb_li (q_cv 0 4 0 f_X4_start) (gb_li (q_ci 0) (gb_li (q_is 3) (q_j [0, 1, 2, 3] 13))))))))))
theorem s_X9_old_0   {κ : gb_K} (hκ : ∀ q, gb_S RX9 cX9_old 5 (gb_rm 4 91) 1 q (κ q)) : gb_S RX9 cX9_old 5 (gb_rm 4 91) 1 0 (k_X9_old_0 κ) := (s_iconst (by decide +kernel) dX9_old_0 (s_isn 1 rfl (Nat.le_of_ble_eq_true rfl) dX9_old_1 (s_iconst (by decide +kernel) dX9_old_2 (s_isn 2 rfl (Nat.le_of_ble_eq_true rfl) dX9_old_3 (s_aln 0 rfl dX9_old_4 (s_gf (T := TX9) winX9 rfl (Nat.le_of_ble_eq_true rfl) gw_388 rfl dX9_old_5 (s_cv (C := RX4) c_X4_start rfl (gb_l5 gw_389 gw_390 gw_391 gw_392 gw_393) v_X4_start ⟨rfl, rfl⟩ ⟨Nat.le_of_ble_eq_true rfl, Nat.le_of_ble_eq_true rfl⟩ dX9_old_8 (s_iconst (by decide +kernel) dX9_old_11 (s_isn 3 rfl (Nat.le_of_ble_eq_true rfl) dX9_old_12 (s_j (hκ 13)))))))))))
noncomputable def k_X9_old_55 (κ : gb_K) : gb_C := (o_inc 3 1 (o_j [0, 1, 2, 3] (κ 13)))
theorem l_X9_old_55 : gb_Li (fun κ => k_X9_old_55 κ) := (gb_li (q_inc 3 1) (q_j [0, 1, 2, 3] 13))
theorem s_X9_old_55   {κ : gb_K} (hκ : ∀ q, gb_S RX9 cX9_old 5 (gb_rm 4 91) 1 q (κ q)) : gb_S RX9 cX9_old 5 (gb_rm 4 91) 1 55 (k_X9_old_55 κ) := (s_inc (by decide +kernel) (Nat.le_of_ble_eq_true rfl) dX9_old_55 (s_goto (tgt := 13) (by decide +kernel) dX9_old_58 (s_j (hκ 13))))
noncomputable def k_X9_old_13 (κ : gb_K) : gb_C := (o_il 3 (o_ci 6 (o_cge (o_al 0 (o_gf 9 7 (o_il 2 (o_i2l (o_cv 1 4 0 f_X4_add (o_il 1 o_ri)))))) (o_al 0 (o_gf 9 3 (o_il 3 (o_cv 1 7 1 f_X7_spoiltTons (o_is 4 (o_al 0 (o_gf 9 7 (o_il 4 (o_i2l (o_cv 1 4 0 f_X4_add (o_il 1 (o_il 4 (o_ib (fun x y => x + y) (o_is 1 (o_il 4 (o_zle (k_X9_old_55 κ) (o_il 2 (o_ci 1 (o_il 3 (o_ib (fun x y => x <<< (y &&& 31)) (o_ib (fun x y => x ||| y) (o_is 2 (k_X9_old_55 κ))))))))))))))))))))))))))
theorem l_X9_old_13 : gb_Li (fun κ => k_X9_old_13 κ) := (gb_li (q_il 3) (gb_li (q_ci 6) (q_cge (gb_li (q_al 0) (gb_li (q_gf 9 7) (gb_li (q_il 2) (gb_li q_i2l (gb_li (q_cv 1 4 0 f_X4_add) (gb_li (q_il 1) (gb_li0 _))))))) (gb_li (q_al 0) (gb_li (q_gf 9 3) (gb_li (q_il 3) (gb_li (q_cv 1 7 1 f_X7_spoiltTons) (gb_li (q_is 4) (gb_li (q_al 0) (gb_li (q_gf 9 7) (gb_li (q_il 4) (gb_li q_i2l (gb_li (q_cv 1 4 0 f_X4_add) (gb_li (q_il 1) (gb_li (q_il 4) (gb_li (q_ib _) (gb_li (q_is 1) (gb_li (q_il 4) (q_zle (l_X9_old_55) (gb_li (q_il 2) (gb_li (q_ci 1) (gb_li (q_il 3) (gb_li (q_ib _) (gb_li (q_ib _) (gb_li (q_is 2) (l_X9_old_55))))))))))))))))))))))))))
theorem s_X9_old_13   {κ : gb_K} (hκ : ∀ q, gb_S RX9 cX9_old 5 (gb_rm 4 91) 1 q (κ q)) : gb_S RX9 cX9_old 5 (gb_rm 4 91) 1 13 (k_X9_old_13 κ) := (s_iln 3 rfl dX9_old_13 (s_bipush (by decide +kernel) dX9_old_14 (s_cge (tgt := 61) (by decide +kernel) dX9_old_16 (s_aln 0 rfl dX9_old_61 (s_gf (T := TX9) winX9 rfl (Nat.le_of_ble_eq_true rfl) gw_388 rfl dX9_old_62 (s_iln 2 rfl dX9_old_65 (s_i2l dX9_old_66 (s_cv (C := RX4) c_X4_add rfl (gb_l5 gw_402 gw_403 gw_404 gw_392 gw_405) v_X4_add ⟨rfl, rfl⟩ ⟨Nat.le_of_ble_eq_true rfl, Nat.le_of_ble_eq_true rfl⟩ dX9_old_67 (s_iln 1 rfl dX9_old_70 (s_ri rfl dX9_old_71))))))) (s_aln 0 rfl dX9_old_19 (s_gf (T := TX9) winX9 rfl (Nat.le_of_ble_eq_true rfl) gw_336 rfl dX9_old_20 (s_iln 3 rfl dX9_old_23 (s_cv (C := RX7) c_X7_spoiltTons rfl (gb_l5 gw_502 gw_503 gw_504 gw_11 gw_505) v_X7_spoiltTons ⟨rfl, rfl⟩ ⟨Nat.le_of_ble_eq_true rfl, Nat.le_of_ble_eq_true rfl⟩ dX9_old_24 (s_is (Nat.le_of_ble_eq_true rfl) dX9_old_27 (s_aln 0 rfl dX9_old_29 (s_gf (T := TX9) winX9 rfl (Nat.le_of_ble_eq_true rfl) gw_388 rfl dX9_old_30 (s_il dX9_old_33 (s_i2l dX9_old_35 (s_cv (C := RX4) c_X4_add rfl (gb_l5 gw_402 gw_403 gw_404 gw_392 gw_405) v_X4_add ⟨rfl, rfl⟩ ⟨Nat.le_of_ble_eq_true rfl, Nat.le_of_ble_eq_true rfl⟩ dX9_old_36 (s_iln 1 rfl dX9_old_39 (s_il dX9_old_40 (s_iadd dX9_old_42 (s_isn 1 rfl (Nat.le_of_ble_eq_true rfl) dX9_old_43 (s_il dX9_old_44 (s_zle (tgt := 55) (by decide +kernel) dX9_old_46 (s_X9_old_55 hκ) (s_iln 2 rfl dX9_old_49 (s_iconst (by decide +kernel) dX9_old_50 (s_iln 3 rfl dX9_old_51 (s_ishl dX9_old_52 (s_ior dX9_old_53 (s_isn 2 rfl (Nat.le_of_ble_eq_true rfl) dX9_old_54 (s_X9_old_55 hκ))))))))))))))))))))))))))
noncomputable def B_X9_old : List (Nat × (gb_K → gb_C)) := [(13, fun κ => k_X9_old_13 κ)]
noncomputable def K_X9_old : gb_K := gb_fx (gb_tb (B_X9_old))
theorem L_X9_old : ∀ q, gb_Li (fun κ => gb_tb (B_X9_old) κ q) := gb_tb_li (List.forall_mem_cons.mpr ⟨l_X9_old_13, (fun _ h => absurd h List.not_mem_nil)⟩)
theorem S_X9_old   : ∀ q, gb_S RX9 cX9_old 5 (gb_rm 4 91) 1 q (K_X9_old q) := fun q => gb_fx_S (L_X9_old) (gb_tb_S (List.forall_mem_cons.mpr ⟨fun κ hκ => s_X9_old_13 hκ, (fun _ h => absurd h List.not_mem_nil)⟩)) q
noncomputable def f_X9_old : gb_F := gb_hide (gb_mf 5 (k_X9_old_0 (K_X9_old)))
theorem c_X9_old : ∀ l, gb_Met l yX9_old cX9_old 5 (some .int) 1 (gb_rm 4 91) f_X9_old := gb_hide_c (gb_met (own := RX9) (rk := 1) rfl (by decide +kernel) ⟨rfl, rfl⟩ (s_X9_old_0 (S_X9_old)))
theorem dX9_cures_0 : decode cX9_cures 0 = .ok (.iload_n 1, 1) := by decide +kernel
theorem dX9_cures_1 : decode cX9_cures 1 = .ok (.iconst 1, 1) := by decide +kernel
theorem dX9_cures_2 : decode cX9_cures 2 = .ok (.if_icmp .lt 20, 3) := by decide +kernel
theorem dX9_cures_5 : decode cX9_cures 5 = .ok (.iload_n 1, 1) := by decide +kernel
theorem dX9_cures_6 : decode cX9_cures 6 = .ok (.bipush 20, 2) := by decide +kernel
theorem dX9_cures_8 : decode cX9_cures 8 = .ok (.if_icmp .gt 14, 3) := by decide +kernel
theorem dX9_cures_11 : decode cX9_cures 11 = .ok (.iload_n 2, 1) := by decide +kernel
theorem dX9_cures_12 : decode cX9_cures 12 = .ok (.ifCond .lt 10, 3) := by decide +kernel
theorem dX9_cures_15 : decode cX9_cures 15 = .ok (.iload_n 2, 1) := by decide +kernel
theorem dX9_cures_16 : decode cX9_cures 16 = .ok (.sipush 999, 3) := by decide +kernel
theorem dX9_cures_19 : decode cX9_cures 19 = .ok (.if_icmp .le 5, 3) := by decide +kernel
theorem dX9_cures_22 : decode cX9_cures 22 = .ok (.iconst (-1), 1) := by decide +kernel
theorem dX9_cures_23 : decode cX9_cures 23 = .ok (.ireturn, 1) := by decide +kernel
theorem dX9_cures_24 : decode cX9_cures 24 = .ok (.bipush (-2), 2) := by decide +kernel
theorem dX9_cures_26 : decode cX9_cures 26 = .ok (.istore_n 3, 1) := by decide +kernel
theorem dX9_cures_27 : decode cX9_cures 27 = .ok (.iconst 0, 1) := by decide +kernel
theorem dX9_cures_28 : decode cX9_cures 28 = .ok (.istore 4, 2) := by decide +kernel
theorem dX9_cures_30 : decode cX9_cures 30 = .ok (.iconst 0, 1) := by decide +kernel
theorem dX9_cures_31 : decode cX9_cures 31 = .ok (.istore 5, 2) := by decide +kernel
theorem dX9_cures_33 : decode cX9_cures 33 = .ok (.iload 5, 2) := by decide +kernel
theorem dX9_cures_35 : decode cX9_cures 35 = .ok (.bipush 6, 2) := by decide +kernel
theorem dX9_cures_37 : decode cX9_cures 37 = .ok (.if_icmp .ge 52, 3) := by decide +kernel
theorem dX9_cures_40 : decode cX9_cures 40 = .ok (.aload_n 0, 1) := by decide +kernel
theorem dX9_cures_41 : decode cX9_cures 41 = .ok (.getfield 31, 3) := by decide +kernel
theorem dX9_cures_44 : decode cX9_cures 44 = .ok (.iload 5, 2) := by decide +kernel
theorem dX9_cures_46 : decode cX9_cures 46 = .ok (.invokevirtual 191, 3) := by decide +kernel
theorem dX9_cures_49 : decode cX9_cures 49 = .ok (.ifCond .eq 7, 3) := by decide +kernel
theorem dX9_cures_52 : decode cX9_cures 52 = .ok (.iconst 0, 1) := by decide +kernel
theorem dX9_cures_53 : decode cX9_cures 53 = .ok (.goto 14, 3) := by decide +kernel
theorem dX9_cures_56 : decode cX9_cures 56 = .ok (.aload_n 0, 1) := by decide +kernel
theorem dX9_cures_57 : decode cX9_cures 57 = .ok (.getfield 31, 3) := by decide +kernel
theorem dX9_cures_60 : decode cX9_cures 60 = .ok (.iload 5, 2) := by decide +kernel
theorem dX9_cures_62 : decode cX9_cures 62 = .ok (.iload_n 1, 1) := by decide +kernel
theorem dX9_cures_63 : decode cX9_cures 63 = .ok (.iload_n 2, 1) := by decide +kernel
theorem dX9_cures_64 : decode cX9_cures 64 = .ok (.invokevirtual 308, 3) := by decide +kernel
theorem dX9_cures_67 : decode cX9_cures 67 = .ok (.istore 6, 2) := by decide +kernel
theorem dX9_cures_69 : decode cX9_cures 69 = .ok (.iload 6, 2) := by decide +kernel
theorem dX9_cures_71 : decode cX9_cures 71 = .ok (.iload 4, 2) := by decide +kernel
theorem dX9_cures_73 : decode cX9_cures 73 = .ok (.if_icmp .le 10, 3) := by decide +kernel
theorem dX9_cures_76 : decode cX9_cures 76 = .ok (.iload 5, 2) := by decide +kernel
theorem dX9_cures_78 : decode cX9_cures 78 = .ok (.istore_n 3, 1) := by decide +kernel
theorem dX9_cures_79 : decode cX9_cures 79 = .ok (.iload 6, 2) := by decide +kernel
theorem dX9_cures_81 : decode cX9_cures 81 = .ok (.istore 4, 2) := by decide +kernel
theorem dX9_cures_83 : decode cX9_cures 83 = .ok (.iinc 5 1, 3) := by decide +kernel
theorem dX9_cures_86 : decode cX9_cures 86 = .ok (.goto (-53), 3) := by decide +kernel
theorem dX9_cures_89 : decode cX9_cures 89 = .ok (.iload_n 3, 1) := by decide +kernel
theorem dX9_cures_90 : decode cX9_cures 90 = .ok (.ifCond .lt 20, 3) := by decide +kernel
theorem dX9_cures_93 : decode cX9_cures 93 = .ok (.aload_n 0, 1) := by decide +kernel
theorem dX9_cures_94 : decode cX9_cures 94 = .ok (.getfield 48, 3) := by decide +kernel
theorem dX9_cures_97 : decode cX9_cures 97 = .ok (.invokevirtual 194, 3) := by decide +kernel
theorem dX9_cures_100 : decode cX9_cures 100 = .ok (.aload_n 0, 1) := by decide +kernel
theorem dX9_cures_101 : decode cX9_cures 101 = .ok (.getfield 48, 3) := by decide +kernel
theorem dX9_cures_104 : decode cX9_cures 104 = .ok (.iload 4, 2) := by decide +kernel
theorem dX9_cures_106 : decode cX9_cures 106 = .ok (.i2l, 1) := by decide +kernel
theorem dX9_cures_107 : decode cX9_cures 107 = .ok (.invokevirtual 199, 3) := by decide +kernel
theorem dX9_cures_110 : decode cX9_cures 110 = .ok (.iload_n 3, 1) := by decide +kernel
theorem dX9_cures_111 : decode cX9_cures 111 = .ok (.ireturn, 1) := by decide +kernel
theorem v_X9_cures : yX9_cures.cls = RX9 ∧ yX9_cures.cls ≠ "java/lang/invoke/MethodHandle" ∧ yX9_cures.cls ≠ "java/lang/invoke/VarHandle" ∧ (parseMethodDescriptor yX9_cures.desc).map (fun d => d.parameters.length) = some 2 := ⟨rfl, by decide +kernel, by decide +kernel, by decide +kernel⟩
noncomputable def k_X9_cures_22 (κ : gb_K) : gb_C := (o_ci (-1) o_ri)
theorem l_X9_cures_22 : gb_Li (fun κ => k_X9_cures_22 κ) := (gb_li (q_ci (-1)) (gb_li0 _))
theorem s_X9_cures_22   {κ : gb_K} (hκ : ∀ q, gb_S RX9 cX9_cures 7 (gb_rm 3 73) 1 q (κ q)) : gb_S RX9 cX9_cures 7 (gb_rm 3 73) 1 22 (k_X9_cures_22 κ) := (s_iconst (by decide +kernel) dX9_cures_22 (s_ri rfl dX9_cures_23))
noncomputable def k_X9_cures_0 (κ : gb_K) : gb_C := (o_il 1 (o_ci 1 (o_clt (k_X9_cures_22 κ) (o_il 1 (o_ci 20 (o_cgt (k_X9_cures_22 κ) (o_il 2 (o_zlt (k_X9_cures_22 κ) (o_il 2 (o_ci 999 (o_cle (o_ci (-2) (o_is 3 (o_ci 0 (o_is 4 (o_ci 0 (o_is 5 (o_j [0, 1, 2, 3, 4, 5] (κ 33)))))))) (k_X9_cures_22 κ))))))))))))
theorem l_X9_cures_0 : gb_Li (fun κ => k_X9_cures_0 κ) := (gb_li (q_il 1) (gb_li (q_ci 1) (q_clt (l_X9_cures_22) (gb_li (q_il 1) (gb_li (q_ci 20) (q_cgt (l_X9_cures_22) (gb_li (q_il 2) (q_zlt (l_X9_cures_22) (gb_li (q_il 2) (gb_li (q_ci 999) (q_cle (gb_li (q_ci (-2)) (gb_li (q_is 3) (gb_li (q_ci 0) (gb_li (q_is 4) (gb_li (q_ci 0) (gb_li (q_is 5) (q_j [0, 1, 2, 3, 4, 5] 33))))))) (l_X9_cures_22))))))))))))
theorem s_X9_cures_0   {κ : gb_K} (hκ : ∀ q, gb_S RX9 cX9_cures 7 (gb_rm 3 73) 1 q (κ q)) : gb_S RX9 cX9_cures 7 (gb_rm 3 73) 1 0 (k_X9_cures_0 κ) := (s_iln 1 rfl dX9_cures_0 (s_iconst (by decide +kernel) dX9_cures_1 (s_clt (tgt := 22) (by decide +kernel) dX9_cures_2 (s_X9_cures_22 hκ) (s_iln 1 rfl dX9_cures_5 (s_bipush (by decide +kernel) dX9_cures_6 (s_cgt (tgt := 22) (by decide +kernel) dX9_cures_8 (s_X9_cures_22 hκ) (s_iln 2 rfl dX9_cures_11 (s_zlt (tgt := 22) (by decide +kernel) dX9_cures_12 (s_X9_cures_22 hκ) (s_iln 2 rfl dX9_cures_15 (s_sipush (by decide +kernel) dX9_cures_16 (s_cle (tgt := 24) (by decide +kernel) dX9_cures_19 (s_bipush (by decide +kernel) dX9_cures_24 (s_isn 3 rfl (Nat.le_of_ble_eq_true rfl) dX9_cures_26 (s_iconst (by decide +kernel) dX9_cures_27 (s_is (Nat.le_of_ble_eq_true rfl) dX9_cures_28 (s_iconst (by decide +kernel) dX9_cures_30 (s_is (Nat.le_of_ble_eq_true rfl) dX9_cures_31 (s_j (hκ 33)))))))) (s_X9_cures_22 hκ))))))))))))
noncomputable def k_X9_cures_83 (κ : gb_K) : gb_C := (o_inc 5 1 (o_j [0, 1, 2, 3, 4, 5] (κ 33)))
theorem l_X9_cures_83 : gb_Li (fun κ => k_X9_cures_83 κ) := (gb_li (q_inc 5 1) (q_j [0, 1, 2, 3, 4, 5] 33))
theorem s_X9_cures_83   {κ : gb_K} (hκ : ∀ q, gb_S RX9 cX9_cures 7 (gb_rm 3 73) 1 q (κ q)) : gb_S RX9 cX9_cures 7 (gb_rm 3 73) 1 83 (k_X9_cures_83 κ) := (s_inc (by decide +kernel) (Nat.le_of_ble_eq_true rfl) dX9_cures_83 (s_goto (tgt := 33) (by decide +kernel) dX9_cures_86 (s_j (hκ 33))))
noncomputable def k_X9_cures_67 (κ : gb_K) : gb_C := (o_is 6 (o_il 6 (o_il 4 (o_cle (k_X9_cures_83 κ) (o_il 5 (o_is 3 (o_il 6 (o_is 4 (k_X9_cures_83 κ)))))))))
theorem l_X9_cures_67 : gb_Li (fun κ => k_X9_cures_67 κ) := (gb_li (q_is 6) (gb_li (q_il 6) (gb_li (q_il 4) (q_cle (l_X9_cures_83) (gb_li (q_il 5) (gb_li (q_is 3) (gb_li (q_il 6) (gb_li (q_is 4) (l_X9_cures_83)))))))))
theorem s_X9_cures_67   {κ : gb_K} (hκ : ∀ q, gb_S RX9 cX9_cures 7 (gb_rm 3 73) 1 q (κ q)) : gb_S RX9 cX9_cures 7 (gb_rm 3 73) 1 67 (k_X9_cures_67 κ) := (s_is (Nat.le_of_ble_eq_true rfl) dX9_cures_67 (s_il dX9_cures_69 (s_il dX9_cures_71 (s_cle (tgt := 83) (by decide +kernel) dX9_cures_73 (s_X9_cures_83 hκ) (s_il dX9_cures_76 (s_isn 3 rfl (Nat.le_of_ble_eq_true rfl) dX9_cures_78 (s_il dX9_cures_79 (s_is (Nat.le_of_ble_eq_true rfl) dX9_cures_81 (s_X9_cures_83 hκ)))))))))
noncomputable def k_X9_cures_110 (κ : gb_K) : gb_C := (o_il 3 o_ri)
theorem l_X9_cures_110 : gb_Li (fun κ => k_X9_cures_110 κ) := (gb_li (q_il 3) (gb_li0 _))
theorem s_X9_cures_110   {κ : gb_K} (hκ : ∀ q, gb_S RX9 cX9_cures 7 (gb_rm 3 73) 1 q (κ q)) : gb_S RX9 cX9_cures 7 (gb_rm 3 73) 1 110 (k_X9_cures_110 κ) := (s_iln 3 rfl dX9_cures_110 (s_ri rfl dX9_cures_111))
noncomputable def k_X9_cures_33 (κ : gb_K) : gb_C := (o_il 5 (o_ci 6 (o_cge (o_il 3 (o_zlt (k_X9_cures_110 κ) (o_al 0 (o_gf 9 7 (o_cv 0 4 0 f_X4_start (o_al 0 (o_gf 9 7 (o_il 4 (o_i2l (o_cv 1 4 0 f_X4_add (k_X9_cures_110 κ))))))))))) (o_al 0 (o_gf 9 3 (o_il 5 (o_cv 1 7 2 f_X7_closed (o_zeq (o_al 0 (o_gf 9 3 (o_il 5 (o_il 1 (o_il 2 (o_cv 3 7 1 f_X7_cureOf (k_X9_cures_67 κ))))))) (o_ci 0 (k_X9_cures_67 κ))))))))))
theorem l_X9_cures_33 : gb_Li (fun κ => k_X9_cures_33 κ) := (gb_li (q_il 5) (gb_li (q_ci 6) (q_cge (gb_li (q_il 3) (q_zlt (l_X9_cures_110) (gb_li (q_al 0) (gb_li (q_gf 9 7) (gb_li (q_cv 0 4 0 f_X4_start) (gb_li (q_al 0) (gb_li (q_gf 9 7) (gb_li (q_il 4) (gb_li q_i2l (gb_li (q_cv 1 4 0 f_X4_add) (l_X9_cures_110))))))))))) (gb_li (q_al 0) (gb_li (q_gf 9 3) (gb_li (q_il 5) (gb_li (q_cv 1 7 2 f_X7_closed) (q_zeq (gb_li (q_al 0) (gb_li (q_gf 9 3) (gb_li (q_il 5) (gb_li (q_il 1) (gb_li (q_il 2) (gb_li (q_cv 3 7 1 f_X7_cureOf) (l_X9_cures_67))))))) (gb_li (q_ci 0) (l_X9_cures_67))))))))))
theorem s_X9_cures_33   {κ : gb_K} (hκ : ∀ q, gb_S RX9 cX9_cures 7 (gb_rm 3 73) 1 q (κ q)) : gb_S RX9 cX9_cures 7 (gb_rm 3 73) 1 33 (k_X9_cures_33 κ) := (s_il dX9_cures_33 (s_bipush (by decide +kernel) dX9_cures_35 (s_cge (tgt := 89) (by decide +kernel) dX9_cures_37 (s_iln 3 rfl dX9_cures_89 (s_zlt (tgt := 110) (by decide +kernel) dX9_cures_90 (s_X9_cures_110 hκ) (s_aln 0 rfl dX9_cures_93 (s_gf (T := TX9) winX9 rfl (Nat.le_of_ble_eq_true rfl) gw_388 rfl dX9_cures_94 (s_cv (C := RX4) c_X4_start rfl (gb_l5 gw_389 gw_390 gw_391 gw_392 gw_393) v_X4_start ⟨rfl, rfl⟩ ⟨Nat.le_of_ble_eq_true rfl, Nat.le_of_ble_eq_true rfl⟩ dX9_cures_97 (s_aln 0 rfl dX9_cures_100 (s_gf (T := TX9) winX9 rfl (Nat.le_of_ble_eq_true rfl) gw_388 rfl dX9_cures_101 (s_il dX9_cures_104 (s_i2l dX9_cures_106 (s_cv (C := RX4) c_X4_add rfl (gb_l5 gw_402 gw_403 gw_404 gw_392 gw_405) v_X4_add ⟨rfl, rfl⟩ ⟨Nat.le_of_ble_eq_true rfl, Nat.le_of_ble_eq_true rfl⟩ dX9_cures_107 (s_X9_cures_110 hκ))))))))))) (s_aln 0 rfl dX9_cures_40 (s_gf (T := TX9) winX9 rfl (Nat.le_of_ble_eq_true rfl) gw_336 rfl dX9_cures_41 (s_il dX9_cures_44 (s_cv (C := RX7) c_X7_closed rfl (gb_l5 gw_387 gw_9 gw_10 gw_11 gw_12) v_X7_closed ⟨rfl, rfl⟩ ⟨Nat.le_of_ble_eq_true rfl, Nat.le_of_ble_eq_true rfl⟩ dX9_cures_46 (s_zeq (tgt := 56) (by decide +kernel) dX9_cures_49 (s_aln 0 rfl dX9_cures_56 (s_gf (T := TX9) winX9 rfl (Nat.le_of_ble_eq_true rfl) gw_336 rfl dX9_cures_57 (s_il dX9_cures_60 (s_iln 1 rfl dX9_cures_62 (s_iln 2 rfl dX9_cures_63 (s_cv (C := RX7) c_X7_cureOf rfl (gb_l5 gw_506 gw_507 gw_508 gw_11 gw_509) v_X7_cureOf ⟨rfl, rfl⟩ ⟨Nat.le_of_ble_eq_true rfl, Nat.le_of_ble_eq_true rfl⟩ dX9_cures_64 (s_X9_cures_67 hκ))))))) (s_iconst (by decide +kernel) dX9_cures_52 (s_goto (tgt := 67) (by decide +kernel) dX9_cures_53 (s_X9_cures_67 hκ)))))))))))
noncomputable def B_X9_cures : List (Nat × (gb_K → gb_C)) := [(33, fun κ => k_X9_cures_33 κ)]
noncomputable def K_X9_cures : gb_K := gb_fx (gb_tb (B_X9_cures))
theorem L_X9_cures : ∀ q, gb_Li (fun κ => gb_tb (B_X9_cures) κ q) := gb_tb_li (List.forall_mem_cons.mpr ⟨l_X9_cures_33, (fun _ h => absurd h List.not_mem_nil)⟩)
theorem S_X9_cures   : ∀ q, gb_S RX9 cX9_cures 7 (gb_rm 3 73) 1 q (K_X9_cures q) := fun q => gb_fx_S (L_X9_cures) (gb_tb_S (List.forall_mem_cons.mpr ⟨fun κ hκ => s_X9_cures_33 hκ, (fun _ h => absurd h List.not_mem_nil)⟩)) q
noncomputable def f_X9_cures : gb_F := gb_hide (gb_mf 7 (k_X9_cures_0 (K_X9_cures)))
theorem c_X9_cures : ∀ l, gb_Met l yX9_cures cX9_cures 7 (some .int) 1 (gb_rm 3 73) f_X9_cures := gb_hide_c (gb_met (own := RX9) (rk := 1) rfl (by decide +kernel) ⟨rfl, rfl⟩ (s_X9_cures_0 (S_X9_cures)))
theorem dX9_undo_0 : decode cX9_undo 0 = .ok (.aload_n 0, 1) := by decide +kernel
theorem dX9_undo_1 : decode cX9_undo 1 = .ok (.getfield 41, 3) := by decide +kernel
theorem dX9_undo_4 : decode cX9_undo 4 = .ok (.aload_n 0, 1) := by decide +kernel
theorem dX9_undo_5 : decode cX9_undo 5 = .ok (.getfield 31, 3) := by decide +kernel
theorem dX9_undo_8 : decode cX9_undo 8 = .ok (.invokevirtual 311, 3) := by decide +kernel
theorem dX9_undo_11 : decode cX9_undo 11 = .ok (.ifCond .eq 13, 3) := by decide +kernel
theorem dX9_undo_14 : decode cX9_undo 14 = .ok (.aload_n 0, 1) := by decide +kernel
theorem dX9_undo_15 : decode cX9_undo 15 = .ok (.getfield 41, 3) := by decide +kernel
theorem dX9_undo_18 : decode cX9_undo 18 = .ok (.getfield 315, 3) := by decide +kernel
theorem dX9_undo_21 : decode cX9_undo 21 = .ok (.goto 5, 3) := by decide +kernel
theorem dX9_undo_24 : decode cX9_undo 24 = .ok (.bipush (-2), 2) := by decide +kernel
theorem dX9_undo_26 : decode cX9_undo 26 = .ok (.ireturn, 1) := by decide +kernel
theorem v_X9_undo : yX9_undo.cls = RX9 ∧ yX9_undo.cls ≠ "java/lang/invoke/MethodHandle" ∧ yX9_undo.cls ≠ "java/lang/invoke/VarHandle" ∧ (parseMethodDescriptor yX9_undo.desc).map (fun d => d.parameters.length) = some 0 := ⟨rfl, by decide +kernel, by decide +kernel, by decide +kernel⟩
noncomputable def k_X9_undo_26 (κ : gb_K) : gb_C := o_ri
theorem l_X9_undo_26 : gb_Li (fun κ => k_X9_undo_26 κ) := (gb_li0 _)
theorem s_X9_undo_26   {κ : gb_K} (hκ : ∀ q, gb_S RX9 cX9_undo 1 (gb_rm 4 88) 1 q (κ q)) : gb_S RX9 cX9_undo 1 (gb_rm 4 88) 1 26 (k_X9_undo_26 κ) := (s_ri rfl dX9_undo_26)
noncomputable def k_X9_undo_0 (κ : gb_K) : gb_C := (o_al 0 (o_gf 9 6 (o_al 0 (o_gf 9 3 (o_cv 1 3 2 f_X3_takeBack (o_zeq (o_ci (-2) (k_X9_undo_26 κ)) (o_al 0 (o_gf 9 6 (o_gf 3 2 (k_X9_undo_26 κ))))))))))
theorem l_X9_undo_0 : gb_Li (fun κ => k_X9_undo_0 κ) := (gb_li (q_al 0) (gb_li (q_gf 9 6) (gb_li (q_al 0) (gb_li (q_gf 9 3) (gb_li (q_cv 1 3 2 f_X3_takeBack) (q_zeq (gb_li (q_ci (-2)) (l_X9_undo_26)) (gb_li (q_al 0) (gb_li (q_gf 9 6) (gb_li (q_gf 3 2) (l_X9_undo_26))))))))))
theorem s_X9_undo_0   {κ : gb_K} (hκ : ∀ q, gb_S RX9 cX9_undo 1 (gb_rm 4 88) 1 q (κ q)) : gb_S RX9 cX9_undo 1 (gb_rm 4 88) 1 0 (k_X9_undo_0 κ) := (s_aln 0 rfl dX9_undo_0 (s_gf (T := TX9) winX9 rfl (Nat.le_of_ble_eq_true rfl) gw_341 rfl dX9_undo_1 (s_aln 0 rfl dX9_undo_4 (s_gf (T := TX9) winX9 rfl (Nat.le_of_ble_eq_true rfl) gw_336 rfl dX9_undo_5 (s_cv (C := RX3) c_X3_takeBack rfl (gb_l5 gw_510 gw_511 gw_512 gw_345 gw_513) v_X3_takeBack ⟨rfl, rfl⟩ ⟨Nat.le_of_ble_eq_true rfl, Nat.le_of_ble_eq_true rfl⟩ dX9_undo_8 (s_zeq (tgt := 24) (by decide +kernel) dX9_undo_11 (s_bipush (by decide +kernel) dX9_undo_24 (s_X9_undo_26 hκ)) (s_aln 0 rfl dX9_undo_14 (s_gf (T := TX9) winX9 rfl (Nat.le_of_ble_eq_true rfl) gw_341 rfl dX9_undo_15 (s_gf (T := TX3) winX3 rfl (Nat.le_of_ble_eq_true rfl) gw_514 rfl dX9_undo_18 (s_goto (tgt := 26) (by decide +kernel) dX9_undo_21 (s_X9_undo_26 hκ)))))))))))
noncomputable def f_X9_undo : gb_F := gb_hide (gb_mf 1 (k_X9_undo_0 gb_n))
theorem c_X9_undo : ∀ l, gb_Met l yX9_undo cX9_undo 1 (some .int) 1 (gb_rm 4 88) f_X9_undo := gb_hide_c (gb_met (own := RX9) (rk := 1) rfl (by decide +kernel) ⟨rfl, rfl⟩ (s_X9_undo_0 gb_S_n))
theorem dX9_keeps_0 : decode cX9_keeps 0 = .ok (.aload_n 0, 1) := by decide +kernel
theorem dX9_keeps_1 : decode cX9_keeps 1 = .ok (.getfield 35, 3) := by decide +kernel
theorem dX9_keeps_4 : decode cX9_keeps 4 = .ok (.aload_n 0, 1) := by decide +kernel
theorem dX9_keeps_5 : decode cX9_keeps 5 = .ok (.getfield 31, 3) := by decide +kernel
theorem dX9_keeps_8 : decode cX9_keeps 8 = .ok (.invokevirtual 316, 3) := by decide +kernel
theorem dX9_keeps_11 : decode cX9_keeps 11 = .ok (.aload_n 0, 1) := by decide +kernel
theorem dX9_keeps_12 : decode cX9_keeps 12 = .ok (.iconst 1, 1) := by decide +kernel
theorem dX9_keeps_13 : decode cX9_keeps 13 = .ok (.putfield 110, 3) := by decide +kernel
theorem dX9_keeps_16 : decode cX9_keeps 16 = .ok (.aload_n 0, 1) := by decide +kernel
theorem dX9_keeps_17 : decode cX9_keeps 17 = .ok (.getfield 31, 3) := by decide +kernel
theorem dX9_keeps_20 : decode cX9_keeps 20 = .ok (.getfield 151, 3) := by decide +kernel
theorem dX9_keeps_23 : decode cX9_keeps 23 = .ok (.ireturn, 1) := by decide +kernel
theorem v_X9_keeps : yX9_keeps.cls = RX9 ∧ yX9_keeps.cls ≠ "java/lang/invoke/MethodHandle" ∧ yX9_keeps.cls ≠ "java/lang/invoke/VarHandle" ∧ (parseMethodDescriptor yX9_keeps.desc).map (fun d => d.parameters.length) = some 0 := ⟨rfl, by decide +kernel, by decide +kernel, by decide +kernel⟩
noncomputable def k_X9_keeps_0 (κ : gb_K) : gb_C := (o_al 0 (o_gf 9 4 (o_al 0 (o_gf 9 3 (o_cv 1 7 0 f_X7_copy (o_al 0 (o_ci 1 (o_pz 9 5 (o_al 0 (o_gf 9 3 (o_gf 7 9 o_ri)))))))))))
theorem l_X9_keeps_0 : gb_Li (fun κ => k_X9_keeps_0 κ) := (gb_li (q_al 0) (gb_li (q_gf 9 4) (gb_li (q_al 0) (gb_li (q_gf 9 3) (gb_li (q_cv 1 7 0 f_X7_copy) (gb_li (q_al 0) (gb_li (q_ci 1) (gb_li (q_pz 9 5) (gb_li (q_al 0) (gb_li (q_gf 9 3) (gb_li (q_gf 7 9) (gb_li0 _))))))))))))
theorem s_X9_keeps_0   {κ : gb_K} (hκ : ∀ q, gb_S RX9 cX9_keeps 1 (gb_rm 3 67) 1 q (κ q)) : gb_S RX9 cX9_keeps 1 (gb_rm 3 67) 1 0 (k_X9_keeps_0 κ) := (s_aln 0 rfl dX9_keeps_0 (s_gf (T := TX9) winX9 rfl (Nat.le_of_ble_eq_true rfl) gw_515 rfl dX9_keeps_1 (s_aln 0 rfl dX9_keeps_4 (s_gf (T := TX9) winX9 rfl (Nat.le_of_ble_eq_true rfl) gw_336 rfl dX9_keeps_5 (s_cv (C := RX7) c_X7_copy rfl (gb_l5 gw_516 gw_56 gw_57 gw_11 gw_58) v_X7_copy ⟨rfl, rfl⟩ ⟨Nat.le_of_ble_eq_true rfl, Nat.le_of_ble_eq_true rfl⟩ dX9_keeps_8 (s_aln 0 rfl dX9_keeps_11 (s_iconst (by decide +kernel) dX9_keeps_12 (s_pz (T := TX9) winX9 rfl (Nat.le_of_ble_eq_true rfl) tyX9_ok nmX9 rfl (by decide +kernel) gw_347 rfl dX9_keeps_13 (s_aln 0 rfl dX9_keeps_16 (s_gf (T := TX9) winX9 rfl (Nat.le_of_ble_eq_true rfl) gw_336 rfl dX9_keeps_17 (s_gf (T := TX7) winX7 rfl (Nat.le_of_ble_eq_true rfl) gw_365 rfl dX9_keeps_20 (s_ri rfl dX9_keeps_23))))))))))))
noncomputable def f_X9_keeps : gb_F := gb_hide (gb_mf 1 (k_X9_keeps_0 gb_n))
theorem c_X9_keeps : ∀ l, gb_Met l yX9_keeps cX9_keeps 1 (some .int) 1 (gb_rm 3 67) f_X9_keeps := gb_hide_c (gb_met (own := RX9) (rk := 1) rfl (by decide +kernel) ⟨rfl, rfl⟩ (s_X9_keeps_0 gb_S_n))
theorem dX9_back_0 : decode cX9_back 0 = .ok (.aload_n 0, 1) := by decide +kernel
theorem dX9_back_1 : decode cX9_back 1 = .ok (.getfield 110, 3) := by decide +kernel
theorem dX9_back_4 : decode cX9_back 4 = .ok (.ifCond .ne 6, 3) := by decide +kernel
theorem dX9_back_7 : decode cX9_back 7 = .ok (.bipush (-2), 2) := by decide +kernel
theorem dX9_back_9 : decode cX9_back 9 = .ok (.ireturn, 1) := by decide +kernel
theorem dX9_back_10 : decode cX9_back 10 = .ok (.aload_n 0, 1) := by decide +kernel
theorem dX9_back_11 : decode cX9_back 11 = .ok (.getfield 41, 3) := by decide +kernel
theorem dX9_back_14 : decode cX9_back 14 = .ok (.aload_n 0, 1) := by decide +kernel
theorem dX9_back_15 : decode cX9_back 15 = .ok (.getfield 31, 3) := by decide +kernel
theorem dX9_back_18 : decode cX9_back 18 = .ok (.invokevirtual 184, 3) := by decide +kernel
theorem dX9_back_21 : decode cX9_back 21 = .ok (.aload_n 0, 1) := by decide +kernel
theorem dX9_back_22 : decode cX9_back 22 = .ok (.getfield 31, 3) := by decide +kernel
theorem dX9_back_25 : decode cX9_back 25 = .ok (.aload_n 0, 1) := by decide +kernel
theorem dX9_back_26 : decode cX9_back 26 = .ok (.getfield 35, 3) := by decide +kernel
theorem dX9_back_29 : decode cX9_back 29 = .ok (.invokevirtual 316, 3) := by decide +kernel
theorem dX9_back_32 : decode cX9_back 32 = .ok (.aload_n 0, 1) := by decide +kernel
theorem dX9_back_33 : decode cX9_back 33 = .ok (.getfield 31, 3) := by decide +kernel
theorem dX9_back_36 : decode cX9_back 36 = .ok (.getfield 151, 3) := by decide +kernel
theorem dX9_back_39 : decode cX9_back 39 = .ok (.ireturn, 1) := by decide +kernel
theorem v_X9_back : yX9_back.cls = RX9 ∧ yX9_back.cls ≠ "java/lang/invoke/MethodHandle" ∧ yX9_back.cls ≠ "java/lang/invoke/VarHandle" ∧ (parseMethodDescriptor yX9_back.desc).map (fun d => d.parameters.length) = some 0 := ⟨rfl, by decide +kernel, by decide +kernel, by decide +kernel⟩
noncomputable def k_X9_back_0 (κ : gb_K) : gb_C := (o_al 0 (o_gf 9 5 (o_zeq (o_ci (-2) o_ri) (o_al 0 (o_gf 9 6 (o_al 0 (o_gf 9 3 (o_cv 1 3 0 f_X3_add (o_al 0 (o_gf 9 3 (o_al 0 (o_gf 9 4 (o_cv 1 7 0 f_X7_copy (o_al 0 (o_gf 9 3 (o_gf 7 9 o_ri))))))))))))))))
theorem l_X9_back_0 : gb_Li (fun κ => k_X9_back_0 κ) := (gb_li (q_al 0) (gb_li (q_gf 9 5) (q_zeq (gb_li (q_ci (-2)) (gb_li0 _)) (gb_li (q_al 0) (gb_li (q_gf 9 6) (gb_li (q_al 0) (gb_li (q_gf 9 3) (gb_li (q_cv 1 3 0 f_X3_add) (gb_li (q_al 0) (gb_li (q_gf 9 3) (gb_li (q_al 0) (gb_li (q_gf 9 4) (gb_li (q_cv 1 7 0 f_X7_copy) (gb_li (q_al 0) (gb_li (q_gf 9 3) (gb_li (q_gf 7 9) (gb_li0 _)))))))))))))))))
theorem s_X9_back_0   {κ : gb_K} (hκ : ∀ q, gb_S RX9 cX9_back 1 (gb_rm 4 88) 1 q (κ q)) : gb_S RX9 cX9_back 1 (gb_rm 4 88) 1 0 (k_X9_back_0 κ) := (s_aln 0 rfl dX9_back_0 (s_gf (T := TX9) winX9 rfl (Nat.le_of_ble_eq_true rfl) gw_347 rfl dX9_back_1 (s_zne (tgt := 10) (by decide +kernel) dX9_back_4 (s_aln 0 rfl dX9_back_10 (s_gf (T := TX9) winX9 rfl (Nat.le_of_ble_eq_true rfl) gw_341 rfl dX9_back_11 (s_aln 0 rfl dX9_back_14 (s_gf (T := TX9) winX9 rfl (Nat.le_of_ble_eq_true rfl) gw_336 rfl dX9_back_15 (s_cv (C := RX3) c_X3_add rfl (gb_l5 gw_383 gw_384 gw_385 gw_345 gw_386) v_X3_add ⟨rfl, rfl⟩ ⟨Nat.le_of_ble_eq_true rfl, Nat.le_of_ble_eq_true rfl⟩ dX9_back_18 (s_aln 0 rfl dX9_back_21 (s_gf (T := TX9) winX9 rfl (Nat.le_of_ble_eq_true rfl) gw_336 rfl dX9_back_22 (s_aln 0 rfl dX9_back_25 (s_gf (T := TX9) winX9 rfl (Nat.le_of_ble_eq_true rfl) gw_515 rfl dX9_back_26 (s_cv (C := RX7) c_X7_copy rfl (gb_l5 gw_516 gw_56 gw_57 gw_11 gw_58) v_X7_copy ⟨rfl, rfl⟩ ⟨Nat.le_of_ble_eq_true rfl, Nat.le_of_ble_eq_true rfl⟩ dX9_back_29 (s_aln 0 rfl dX9_back_32 (s_gf (T := TX9) winX9 rfl (Nat.le_of_ble_eq_true rfl) gw_336 rfl dX9_back_33 (s_gf (T := TX7) winX7 rfl (Nat.le_of_ble_eq_true rfl) gw_365 rfl dX9_back_36 (s_ri rfl dX9_back_39)))))))))))))) (s_bipush (by decide +kernel) dX9_back_7 (s_ri rfl dX9_back_9)))))
noncomputable def f_X9_back : gb_F := gb_hide (gb_mf 1 (k_X9_back_0 gb_n))
theorem c_X9_back : ∀ l, gb_Met l yX9_back cX9_back 1 (some .int) 1 (gb_rm 4 88) f_X9_back := gb_hide_c (gb_met (own := RX9) (rk := 1) rfl (by decide +kernel) ⟨rfl, rfl⟩ (s_X9_back_0 gb_S_n))
theorem dX9_written_0 : decode cX9_written 0 = .ok (.aload_n 0, 1) := by decide +kernel
theorem dX9_written_1 : decode cX9_written 1 = .ok (.getfield 80, 3) := by decide +kernel
theorem dX9_written_4 : decode cX9_written 4 = .ok (.aload_n 0, 1) := by decide +kernel
theorem dX9_written_5 : decode cX9_written 5 = .ok (.getfield 31, 3) := by decide +kernel
theorem dX9_written_8 : decode cX9_written 8 = .ok (.invokevirtual 318, 3) := by decide +kernel
theorem dX9_written_11 : decode cX9_written 11 = .ok (.iload_n 1, 1) := by decide +kernel
theorem dX9_written_12 : decode cX9_written 12 = .ok (.iconst (-1), 1) := by decide +kernel
theorem dX9_written_13 : decode cX9_written 13 = .ok (.if_icmp .ne 11, 3) := by decide +kernel
theorem dX9_written_16 : decode cX9_written 16 = .ok (.aload_n 0, 1) := by decide +kernel
theorem dX9_written_17 : decode cX9_written 17 = .ok (.getfield 80, 3) := by decide +kernel
theorem dX9_written_20 : decode cX9_written 20 = .ok (.getfield 321, 3) := by decide +kernel
theorem dX9_written_23 : decode cX9_written 23 = .ok (.ireturn, 1) := by decide +kernel
theorem dX9_written_24 : decode cX9_written 24 = .ok (.aload_n 0, 1) := by decide +kernel
theorem dX9_written_25 : decode cX9_written 25 = .ok (.getfield 80, 3) := by decide +kernel
theorem dX9_written_28 : decode cX9_written 28 = .ok (.iload_n 1, 1) := by decide +kernel
theorem dX9_written_29 : decode cX9_written 29 = .ok (.invokevirtual 322, 3) := by decide +kernel
theorem dX9_written_32 : decode cX9_written 32 = .ok (.ireturn, 1) := by decide +kernel
theorem v_X9_written : yX9_written.cls = RX9 ∧ yX9_written.cls ≠ "java/lang/invoke/MethodHandle" ∧ yX9_written.cls ≠ "java/lang/invoke/VarHandle" ∧ (parseMethodDescriptor yX9_written.desc).map (fun d => d.parameters.length) = some 1 := ⟨rfl, by decide +kernel, by decide +kernel, by decide +kernel⟩
noncomputable def k_X9_written_0 (κ : gb_K) : gb_C := (o_al 0 (o_gf 9 11 (o_al 0 (o_gf 9 3 (o_cv 1 6 0 f_X6_write (o_il 1 (o_ci (-1) (o_ceq (o_al 0 (o_gf 9 11 (o_gf 6 1 o_ri))) (o_al 0 (o_gf 9 11 (o_il 1 (o_cv 1 6 1 f_X6_signAt o_ri))))))))))))
theorem l_X9_written_0 : gb_Li (fun κ => k_X9_written_0 κ) := (gb_li (q_al 0) (gb_li (q_gf 9 11) (gb_li (q_al 0) (gb_li (q_gf 9 3) (gb_li (q_cv 1 6 0 f_X6_write) (gb_li (q_il 1) (gb_li (q_ci (-1)) (q_ceq (gb_li (q_al 0) (gb_li (q_gf 9 11) (gb_li (q_gf 6 1) (gb_li0 _)))) (gb_li (q_al 0) (gb_li (q_gf 9 11) (gb_li (q_il 1) (gb_li (q_cv 1 6 1 f_X6_signAt) (gb_li0 _)))))))))))))
theorem s_X9_written_0   {κ : gb_K} (hκ : ∀ q, gb_S RX9 cX9_written 2 (gb_rm 4 88) 1 q (κ q)) : gb_S RX9 cX9_written 2 (gb_rm 4 88) 1 0 (k_X9_written_0 κ) := (s_aln 0 rfl dX9_written_0 (s_gf (T := TX9) winX9 rfl (Nat.le_of_ble_eq_true rfl) gw_517 rfl dX9_written_1 (s_aln 0 rfl dX9_written_4 (s_gf (T := TX9) winX9 rfl (Nat.le_of_ble_eq_true rfl) gw_336 rfl dX9_written_5 (s_cv (C := RX6) c_X6_write rfl (gb_l5 gw_518 gw_519 gw_520 gw_233 gw_521) v_X6_write ⟨rfl, rfl⟩ ⟨Nat.le_of_ble_eq_true rfl, Nat.le_of_ble_eq_true rfl⟩ dX9_written_8 (s_iln 1 rfl dX9_written_11 (s_iconst (by decide +kernel) dX9_written_12 (s_cne (tgt := 24) (by decide +kernel) dX9_written_13 (s_aln 0 rfl dX9_written_24 (s_gf (T := TX9) winX9 rfl (Nat.le_of_ble_eq_true rfl) gw_517 rfl dX9_written_25 (s_iln 1 rfl dX9_written_28 (s_cv (C := RX6) c_X6_signAt rfl (gb_l5 gw_522 gw_523 gw_524 gw_233 gw_525) v_X6_signAt ⟨rfl, rfl⟩ ⟨Nat.le_of_ble_eq_true rfl, Nat.le_of_ble_eq_true rfl⟩ dX9_written_29 (s_ri rfl dX9_written_32))))) (s_aln 0 rfl dX9_written_16 (s_gf (T := TX9) winX9 rfl (Nat.le_of_ble_eq_true rfl) gw_517 rfl dX9_written_17 (s_gf (T := TX6) winX6 rfl (Nat.le_of_ble_eq_true rfl) gw_526 rfl dX9_written_20 (s_ri rfl dX9_written_23))))))))))))
noncomputable def f_X9_written : gb_F := gb_hide (gb_mf 2 (k_X9_written_0 gb_n))
theorem c_X9_written : ∀ l, gb_Met l yX9_written cX9_written 2 (some .int) 1 (gb_rm 4 88) f_X9_written := gb_hide_c (gb_met (own := RX9) (rk := 1) rfl (by decide +kernel) ⟨rfl, rfl⟩ (s_X9_written_0 gb_S_n))
theorem dX9_count_0 : decode cX9_count 0 = .ok (.iload_n 1, 1) := by decide +kernel
theorem dX9_count_1 : decode cX9_count 1 = .ok (.tableswitch 123 0 8 #[51, 59, 67, 75, 83, 91, 99, 107, 115], 51) := by decide +kernel
theorem dX9_count_52 : decode cX9_count 52 = .ok (.aload_n 0, 1) := by decide +kernel
theorem dX9_count_53 : decode cX9_count 53 = .ok (.getfield 31, 3) := by decide +kernel
theorem dX9_count_56 : decode cX9_count 56 = .ok (.getfield 151, 3) := by decide +kernel
theorem dX9_count_59 : decode cX9_count 59 = .ok (.ireturn, 1) := by decide +kernel
theorem dX9_count_60 : decode cX9_count 60 = .ok (.aload_n 0, 1) := by decide +kernel
theorem dX9_count_61 : decode cX9_count 61 = .ok (.getfield 31, 3) := by decide +kernel
theorem dX9_count_64 : decode cX9_count 64 = .ok (.invokevirtual 325, 3) := by decide +kernel
theorem dX9_count_67 : decode cX9_count 67 = .ok (.ireturn, 1) := by decide +kernel
theorem dX9_count_68 : decode cX9_count 68 = .ok (.aload_n 0, 1) := by decide +kernel
theorem dX9_count_69 : decode cX9_count 69 = .ok (.getfield 31, 3) := by decide +kernel
theorem dX9_count_72 : decode cX9_count 72 = .ok (.invokevirtual 328, 3) := by decide +kernel
theorem dX9_count_75 : decode cX9_count 75 = .ok (.ireturn, 1) := by decide +kernel
theorem dX9_count_76 : decode cX9_count 76 = .ok (.aload_n 0, 1) := by decide +kernel
theorem dX9_count_77 : decode cX9_count 77 = .ok (.getfield 31, 3) := by decide +kernel
theorem dX9_count_80 : decode cX9_count 80 = .ok (.invokevirtual 331, 3) := by decide +kernel
theorem dX9_count_83 : decode cX9_count 83 = .ok (.ireturn, 1) := by decide +kernel
theorem dX9_count_84 : decode cX9_count 84 = .ok (.aload_n 0, 1) := by decide +kernel
theorem dX9_count_85 : decode cX9_count 85 = .ok (.getfield 31, 3) := by decide +kernel
theorem dX9_count_88 : decode cX9_count 88 = .ok (.invokevirtual 334, 3) := by decide +kernel
theorem dX9_count_91 : decode cX9_count 91 = .ok (.ireturn, 1) := by decide +kernel
theorem dX9_count_92 : decode cX9_count 92 = .ok (.aload_n 0, 1) := by decide +kernel
theorem dX9_count_93 : decode cX9_count 93 = .ok (.getfield 41, 3) := by decide +kernel
theorem dX9_count_96 : decode cX9_count 96 = .ok (.getfield 315, 3) := by decide +kernel
theorem dX9_count_99 : decode cX9_count 99 = .ok (.ireturn, 1) := by decide +kernel
theorem dX9_count_100 : decode cX9_count 100 = .ok (.aload_n 0, 1) := by decide +kernel
theorem dX9_count_101 : decode cX9_count 101 = .ok (.getfield 31, 3) := by decide +kernel
theorem dX9_count_104 : decode cX9_count 104 = .ok (.getfield 337, 3) := by decide +kernel
theorem dX9_count_107 : decode cX9_count 107 = .ok (.ireturn, 1) := by decide +kernel
theorem dX9_count_108 : decode cX9_count 108 = .ok (.aload_n 0, 1) := by decide +kernel
theorem dX9_count_109 : decode cX9_count 109 = .ok (.getfield 48, 3) := by decide +kernel
theorem dX9_count_112 : decode cX9_count 112 = .ok (.getfield 340, 3) := by decide +kernel
theorem dX9_count_115 : decode cX9_count 115 = .ok (.ireturn, 1) := by decide +kernel
theorem dX9_count_116 : decode cX9_count 116 = .ok (.aload_n 0, 1) := by decide +kernel
theorem dX9_count_117 : decode cX9_count 117 = .ok (.getfield 10, 3) := by decide +kernel
theorem dX9_count_120 : decode cX9_count 120 = .ok (.getfield 88, 3) := by decide +kernel
theorem dX9_count_123 : decode cX9_count 123 = .ok (.ireturn, 1) := by decide +kernel
theorem dX9_count_124 : decode cX9_count 124 = .ok (.iconst (-1), 1) := by decide +kernel
theorem dX9_count_125 : decode cX9_count 125 = .ok (.ireturn, 1) := by decide +kernel
theorem v_X9_count : yX9_count.cls = RX9 ∧ yX9_count.cls ≠ "java/lang/invoke/MethodHandle" ∧ yX9_count.cls ≠ "java/lang/invoke/VarHandle" ∧ (parseMethodDescriptor yX9_count.desc).map (fun d => d.parameters.length) = some 1 := ⟨rfl, by decide +kernel, by decide +kernel, by decide +kernel⟩
noncomputable def k_X9_count_124 (κ : gb_K) : gb_C := (o_ci (-1) o_ri)
theorem l_X9_count_124 : gb_Li (fun κ => k_X9_count_124 κ) := (gb_li (q_ci (-1)) (gb_li0 _))
theorem s_X9_count_124   {κ : gb_K} (hκ : ∀ q, gb_S RX9 cX9_count 2 (gb_rm 2 43) 1 q (κ q)) : gb_S RX9 cX9_count 2 (gb_rm 2 43) 1 124 (k_X9_count_124 κ) := (s_iconst (by decide +kernel) dX9_count_124 (s_ri rfl dX9_count_125))
noncomputable def k_X9_count_116 (κ : gb_K) : gb_C := (o_al 0 (o_gf 9 0 (o_gf 8 1 o_ri)))
theorem l_X9_count_116 : gb_Li (fun κ => k_X9_count_116 κ) := (gb_li (q_al 0) (gb_li (q_gf 9 0) (gb_li (q_gf 8 1) (gb_li0 _))))
theorem s_X9_count_116   {κ : gb_K} (hκ : ∀ q, gb_S RX9 cX9_count 2 (gb_rm 2 43) 1 q (κ q)) : gb_S RX9 cX9_count 2 (gb_rm 2 43) 1 116 (k_X9_count_116 κ) := (s_aln 0 rfl dX9_count_116 (s_gf (T := TX9) winX9 rfl (Nat.le_of_ble_eq_true rfl) gw_308 rfl dX9_count_117 (s_gf (T := TX8) winX8 rfl (Nat.le_of_ble_eq_true rfl) gw_313 rfl dX9_count_120 (s_ri rfl dX9_count_123))))
noncomputable def k_X9_count_108 (κ : gb_K) : gb_C := (o_al 0 (o_gf 9 7 (o_gf 4 1 o_ri)))
theorem l_X9_count_108 : gb_Li (fun κ => k_X9_count_108 κ) := (gb_li (q_al 0) (gb_li (q_gf 9 7) (gb_li (q_gf 4 1) (gb_li0 _))))
theorem s_X9_count_108   {κ : gb_K} (hκ : ∀ q, gb_S RX9 cX9_count 2 (gb_rm 2 43) 1 q (κ q)) : gb_S RX9 cX9_count 2 (gb_rm 2 43) 1 108 (k_X9_count_108 κ) := (s_aln 0 rfl dX9_count_108 (s_gf (T := TX9) winX9 rfl (Nat.le_of_ble_eq_true rfl) gw_388 rfl dX9_count_109 (s_gf (T := TX4) winX4 rfl (Nat.le_of_ble_eq_true rfl) gw_527 rfl dX9_count_112 (s_ri rfl dX9_count_115))))
noncomputable def k_X9_count_100 (κ : gb_K) : gb_C := (o_al 0 (o_gf 9 3 (o_gf 7 10 o_ri)))
theorem l_X9_count_100 : gb_Li (fun κ => k_X9_count_100 κ) := (gb_li (q_al 0) (gb_li (q_gf 9 3) (gb_li (q_gf 7 10) (gb_li0 _))))
theorem s_X9_count_100   {κ : gb_K} (hκ : ∀ q, gb_S RX9 cX9_count 2 (gb_rm 2 43) 1 q (κ q)) : gb_S RX9 cX9_count 2 (gb_rm 2 43) 1 100 (k_X9_count_100 κ) := (s_aln 0 rfl dX9_count_100 (s_gf (T := TX9) winX9 rfl (Nat.le_of_ble_eq_true rfl) gw_336 rfl dX9_count_101 (s_gf (T := TX7) winX7 rfl (Nat.le_of_ble_eq_true rfl) gw_528 rfl dX9_count_104 (s_ri rfl dX9_count_107))))
noncomputable def k_X9_count_92 (κ : gb_K) : gb_C := (o_al 0 (o_gf 9 6 (o_gf 3 2 o_ri)))
theorem l_X9_count_92 : gb_Li (fun κ => k_X9_count_92 κ) := (gb_li (q_al 0) (gb_li (q_gf 9 6) (gb_li (q_gf 3 2) (gb_li0 _))))
theorem s_X9_count_92   {κ : gb_K} (hκ : ∀ q, gb_S RX9 cX9_count 2 (gb_rm 2 43) 1 q (κ q)) : gb_S RX9 cX9_count 2 (gb_rm 2 43) 1 92 (k_X9_count_92 κ) := (s_aln 0 rfl dX9_count_92 (s_gf (T := TX9) winX9 rfl (Nat.le_of_ble_eq_true rfl) gw_341 rfl dX9_count_93 (s_gf (T := TX3) winX3 rfl (Nat.le_of_ble_eq_true rfl) gw_514 rfl dX9_count_96 (s_ri rfl dX9_count_99))))
noncomputable def k_X9_count_84 (κ : gb_K) : gb_C := (o_al 0 (o_gf 9 3 (o_cv 0 7 1 f_X7_emptyBins o_ri)))
theorem l_X9_count_84 : gb_Li (fun κ => k_X9_count_84 κ) := (gb_li (q_al 0) (gb_li (q_gf 9 3) (gb_li (q_cv 0 7 1 f_X7_emptyBins) (gb_li0 _))))
theorem s_X9_count_84   {κ : gb_K} (hκ : ∀ q, gb_S RX9 cX9_count 2 (gb_rm 2 43) 1 q (κ q)) : gb_S RX9 cX9_count 2 (gb_rm 2 43) 1 84 (k_X9_count_84 κ) := (s_aln 0 rfl dX9_count_84 (s_gf (T := TX9) winX9 rfl (Nat.le_of_ble_eq_true rfl) gw_336 rfl dX9_count_85 (s_cv (C := RX7) c_X7_emptyBins rfl (gb_l5 gw_529 gw_530 gw_531 gw_11 gw_532) v_X7_emptyBins ⟨rfl, rfl⟩ ⟨Nat.le_of_ble_eq_true rfl, Nat.le_of_ble_eq_true rfl⟩ dX9_count_88 (s_ri rfl dX9_count_91))))
noncomputable def k_X9_count_76 (κ : gb_K) : gb_C := (o_al 0 (o_gf 9 3 (o_cv 0 7 1 f_X7_closedBins o_ri)))
theorem l_X9_count_76 : gb_Li (fun κ => k_X9_count_76 κ) := (gb_li (q_al 0) (gb_li (q_gf 9 3) (gb_li (q_cv 0 7 1 f_X7_closedBins) (gb_li0 _))))
theorem s_X9_count_76   {κ : gb_K} (hκ : ∀ q, gb_S RX9 cX9_count 2 (gb_rm 2 43) 1 q (κ q)) : gb_S RX9 cX9_count 2 (gb_rm 2 43) 1 76 (k_X9_count_76 κ) := (s_aln 0 rfl dX9_count_76 (s_gf (T := TX9) winX9 rfl (Nat.le_of_ble_eq_true rfl) gw_336 rfl dX9_count_77 (s_cv (C := RX7) c_X7_closedBins rfl (gb_l5 gw_533 gw_534 gw_535 gw_11 gw_536) v_X7_closedBins ⟨rfl, rfl⟩ ⟨Nat.le_of_ble_eq_true rfl, Nat.le_of_ble_eq_true rfl⟩ dX9_count_80 (s_ri rfl dX9_count_83))))
noncomputable def k_X9_count_68 (κ : gb_K) : gb_C := (o_al 0 (o_gf 9 3 (o_cv 0 7 1 f_X7_layersInAll o_ri)))
theorem l_X9_count_68 : gb_Li (fun κ => k_X9_count_68 κ) := (gb_li (q_al 0) (gb_li (q_gf 9 3) (gb_li (q_cv 0 7 1 f_X7_layersInAll) (gb_li0 _))))
theorem s_X9_count_68   {κ : gb_K} (hκ : ∀ q, gb_S RX9 cX9_count 2 (gb_rm 2 43) 1 q (κ q)) : gb_S RX9 cX9_count 2 (gb_rm 2 43) 1 68 (k_X9_count_68 κ) := (s_aln 0 rfl dX9_count_68 (s_gf (T := TX9) winX9 rfl (Nat.le_of_ble_eq_true rfl) gw_336 rfl dX9_count_69 (s_cv (C := RX7) c_X7_layersInAll rfl (gb_l5 gw_537 gw_538 gw_539 gw_11 gw_540) v_X7_layersInAll ⟨rfl, rfl⟩ ⟨Nat.le_of_ble_eq_true rfl, Nat.le_of_ble_eq_true rfl⟩ dX9_count_72 (s_ri rfl dX9_count_75))))
noncomputable def k_X9_count_60 (κ : gb_K) : gb_C := (o_al 0 (o_gf 9 3 (o_cv 0 7 1 f_X7_tonsInAll o_ri)))
theorem l_X9_count_60 : gb_Li (fun κ => k_X9_count_60 κ) := (gb_li (q_al 0) (gb_li (q_gf 9 3) (gb_li (q_cv 0 7 1 f_X7_tonsInAll) (gb_li0 _))))
theorem s_X9_count_60   {κ : gb_K} (hκ : ∀ q, gb_S RX9 cX9_count 2 (gb_rm 2 43) 1 q (κ q)) : gb_S RX9 cX9_count 2 (gb_rm 2 43) 1 60 (k_X9_count_60 κ) := (s_aln 0 rfl dX9_count_60 (s_gf (T := TX9) winX9 rfl (Nat.le_of_ble_eq_true rfl) gw_336 rfl dX9_count_61 (s_cv (C := RX7) c_X7_tonsInAll rfl (gb_l5 gw_541 gw_542 gw_543 gw_11 gw_544) v_X7_tonsInAll ⟨rfl, rfl⟩ ⟨Nat.le_of_ble_eq_true rfl, Nat.le_of_ble_eq_true rfl⟩ dX9_count_64 (s_ri rfl dX9_count_67))))
noncomputable def k_X9_count_52 (κ : gb_K) : gb_C := (o_al 0 (o_gf 9 3 (o_gf 7 9 o_ri)))
theorem l_X9_count_52 : gb_Li (fun κ => k_X9_count_52 κ) := (gb_li (q_al 0) (gb_li (q_gf 9 3) (gb_li (q_gf 7 9) (gb_li0 _))))
theorem s_X9_count_52   {κ : gb_K} (hκ : ∀ q, gb_S RX9 cX9_count 2 (gb_rm 2 43) 1 q (κ q)) : gb_S RX9 cX9_count 2 (gb_rm 2 43) 1 52 (k_X9_count_52 κ) := (s_aln 0 rfl dX9_count_52 (s_gf (T := TX9) winX9 rfl (Nat.le_of_ble_eq_true rfl) gw_336 rfl dX9_count_53 (s_gf (T := TX7) winX7 rfl (Nat.le_of_ble_eq_true rfl) gw_365 rfl dX9_count_56 (s_ri rfl dX9_count_59))))
noncomputable def k_X9_count_0 (κ : gb_K) : gb_C := (o_il 1 (o_ts 0 8 [(k_X9_count_52 κ), (k_X9_count_60 κ), (k_X9_count_68 κ), (k_X9_count_76 κ), (k_X9_count_84 κ), (k_X9_count_92 κ), (k_X9_count_100 κ), (k_X9_count_108 κ), (k_X9_count_116 κ)] (k_X9_count_124 κ)))
theorem l_X9_count_0 : gb_Li (fun κ => k_X9_count_0 κ) := (gb_li (q_il 1) (q_ts (ts := [(fun κ => (k_X9_count_52 κ)), (fun κ => (k_X9_count_60 κ)), (fun κ => (k_X9_count_68 κ)), (fun κ => (k_X9_count_76 κ)), (fun κ => (k_X9_count_84 κ)), (fun κ => (k_X9_count_92 κ)), (fun κ => (k_X9_count_100 κ)), (fun κ => (k_X9_count_108 κ)), (fun κ => (k_X9_count_116 κ))]) (List.forall_mem_cons.mpr ⟨(l_X9_count_52), List.forall_mem_cons.mpr ⟨(l_X9_count_60), List.forall_mem_cons.mpr ⟨(l_X9_count_68), List.forall_mem_cons.mpr ⟨(l_X9_count_76), List.forall_mem_cons.mpr ⟨(l_X9_count_84), List.forall_mem_cons.mpr ⟨(l_X9_count_92), List.forall_mem_cons.mpr ⟨(l_X9_count_100), List.forall_mem_cons.mpr ⟨(l_X9_count_108), List.forall_mem_cons.mpr ⟨(l_X9_count_116), (fun _ h => absurd h List.not_mem_nil)⟩⟩⟩⟩⟩⟩⟩⟩⟩) (l_X9_count_124)))
theorem s_X9_count_0   {κ : gb_K} (hκ : ∀ q, gb_S RX9 cX9_count 2 (gb_rm 2 43) 1 q (κ q)) : gb_S RX9 cX9_count 2 (gb_rm 2 43) 1 0 (k_X9_count_0 κ) := (s_iln 1 rfl dX9_count_0 (s_ts (dt := 124) dX9_count_1 (by decide +kernel) (s_X9_count_124 hκ) (gb_tsl (gb_tslc (off := 51) (tgt := 52) (by decide +kernel) (s_X9_count_52 hκ) (gb_tslc (off := 59) (tgt := 60) (by decide +kernel) (s_X9_count_60 hκ) (gb_tslc (off := 67) (tgt := 68) (by decide +kernel) (s_X9_count_68 hκ) (gb_tslc (off := 75) (tgt := 76) (by decide +kernel) (s_X9_count_76 hκ) (gb_tslc (off := 83) (tgt := 84) (by decide +kernel) (s_X9_count_84 hκ) (gb_tslc (off := 91) (tgt := 92) (by decide +kernel) (s_X9_count_92 hκ) (gb_tslc (off := 99) (tgt := 100) (by decide +kernel) (s_X9_count_100 hκ) (gb_tslc (off := 107) (tgt := 108) (by decide +kernel) (s_X9_count_108 hκ) (gb_tslc (off := 115) (tgt := 116) (by decide +kernel) (s_X9_count_116 hκ) gb_tsl0))))))))))))
noncomputable def f_X9_count : gb_F := gb_hide (gb_mf 2 (k_X9_count_0 gb_n))
theorem c_X9_count : ∀ l, gb_Met l yX9_count cX9_count 2 (some .int) 1 (gb_rm 2 43) f_X9_count := gb_hide_c (gb_met (own := RX9) (rk := 1) rfl (by decide +kernel) ⟨rfl, rfl⟩ (s_X9_count_0 gb_S_n))
theorem dX10_begins_0 : decode cX10_begins 0 = .ok (.iconst 0, 1) := by decide +kernel
theorem dX10_begins_1 : decode cX10_begins 1 = .ok (.istore_n 1, 1) := by decide +kernel
theorem dX10_begins_2 : decode cX10_begins 2 = .ok (.iload_n 1, 1) := by decide +kernel
theorem dX10_begins_3 : decode cX10_begins 3 = .ok (.sipush 176, 3) := by decide +kernel
theorem dX10_begins_6 : decode cX10_begins 6 = .ok (.if_icmp .ge 16, 3) := by decide +kernel
theorem dX10_begins_9 : decode cX10_begins 9 = .ok (.aload_n 0, 1) := by decide +kernel
theorem dX10_begins_10 : decode cX10_begins 10 = .ok (.getfield 7, 3) := by decide +kernel
theorem dX10_begins_13 : decode cX10_begins 13 = .ok (.iload_n 1, 1) := by decide +kernel
theorem dX10_begins_14 : decode cX10_begins 14 = .ok (.iconst 0, 1) := by decide +kernel
theorem dX10_begins_15 : decode cX10_begins 15 = .ok (.iastore, 1) := by decide +kernel
theorem dX10_begins_16 : decode cX10_begins 16 = .ok (.iinc 1 1, 3) := by decide +kernel
theorem dX10_begins_19 : decode cX10_begins 19 = .ok (.goto (-17), 3) := by decide +kernel
theorem dX10_begins_22 : decode cX10_begins 22 = .ok (.iconst 0, 1) := by decide +kernel
theorem dX10_begins_23 : decode cX10_begins 23 = .ok (.istore_n 1, 1) := by decide +kernel
theorem dX10_begins_24 : decode cX10_begins 24 = .ok (.iload_n 1, 1) := by decide +kernel
theorem dX10_begins_25 : decode cX10_begins 25 = .ok (.bipush 6, 2) := by decide +kernel
theorem dX10_begins_27 : decode cX10_begins 27 = .ok (.if_icmp .ge 20, 3) := by decide +kernel
theorem dX10_begins_30 : decode cX10_begins 30 = .ok (.aload_n 0, 1) := by decide +kernel
theorem dX10_begins_31 : decode cX10_begins 31 = .ok (.getfield 7, 3) := by decide +kernel
theorem dX10_begins_34 : decode cX10_begins 34 = .ok (.bipush 6, 2) := by decide +kernel
theorem dX10_begins_36 : decode cX10_begins 36 = .ok (.iload_n 1, 1) := by decide +kernel
theorem dX10_begins_37 : decode cX10_begins 37 = .ok (.iadd, 1) := by decide +kernel
theorem dX10_begins_38 : decode cX10_begins 38 = .ok (.bipush 99, 2) := by decide +kernel
theorem dX10_begins_40 : decode cX10_begins 40 = .ok (.iastore, 1) := by decide +kernel
theorem dX10_begins_41 : decode cX10_begins 41 = .ok (.iinc 1 1, 3) := by decide +kernel
theorem dX10_begins_44 : decode cX10_begins 44 = .ok (.goto (-20), 3) := by decide +kernel
theorem dX10_begins_47 : decode cX10_begins 47 = .ok (.return_, 1) := by decide +kernel
theorem v_X10_begins : yX10_begins.cls = RX10 ∧ yX10_begins.cls ≠ "java/lang/invoke/MethodHandle" ∧ yX10_begins.cls ≠ "java/lang/invoke/VarHandle" ∧ (parseMethodDescriptor yX10_begins.desc).map (fun d => d.parameters.length) = some 0 := ⟨rfl, by decide +kernel, by decide +kernel, by decide +kernel⟩
noncomputable def k_X10_begins_0 (κ : gb_K) : gb_C := (o_ci 0 (o_is 1 (o_j [0, 1] (κ 2))))
theorem l_X10_begins_0 : gb_Li (fun κ => k_X10_begins_0 κ) := (gb_li (q_ci 0) (gb_li (q_is 1) (q_j [0, 1] 2)))
theorem s_X10_begins_0   {κ : gb_K} (hκ : ∀ q, gb_S RX10 cX10_begins 2 (gb_rm 0 0) 0 q (κ q)) : gb_S RX10 cX10_begins 2 (gb_rm 0 0) 0 0 (k_X10_begins_0 κ) := (s_iconst (by decide +kernel) dX10_begins_0 (s_isn 1 rfl (Nat.le_of_ble_eq_true rfl) dX10_begins_1 (s_j (hκ 2))))
noncomputable def k_X10_begins_2 (κ : gb_K) : gb_C := (o_il 1 (o_ci 176 (o_cge (o_ci 0 (o_is 1 (o_j [0, 1] (κ 24)))) (o_al 0 (o_gf 10 0 (o_il 1 (o_ci 0 (o_iast (o_inc 1 1 (o_j [0, 1] (κ 2)))))))))))
theorem l_X10_begins_2 : gb_Li (fun κ => k_X10_begins_2 κ) := (gb_li (q_il 1) (gb_li (q_ci 176) (q_cge (gb_li (q_ci 0) (gb_li (q_is 1) (q_j [0, 1] 24))) (gb_li (q_al 0) (gb_li (q_gf 10 0) (gb_li (q_il 1) (gb_li (q_ci 0) (gb_li q_iast (gb_li (q_inc 1 1) (q_j [0, 1] 2))))))))))
theorem s_X10_begins_2   {κ : gb_K} (hκ : ∀ q, gb_S RX10 cX10_begins 2 (gb_rm 0 0) 0 q (κ q)) : gb_S RX10 cX10_begins 2 (gb_rm 0 0) 0 2 (k_X10_begins_2 κ) := (s_iln 1 rfl dX10_begins_2 (s_sipush (by decide +kernel) dX10_begins_3 (s_cge (tgt := 22) (by decide +kernel) dX10_begins_6 (s_iconst (by decide +kernel) dX10_begins_22 (s_isn 1 rfl (Nat.le_of_ble_eq_true rfl) dX10_begins_23 (s_j (hκ 24)))) (s_aln 0 rfl dX10_begins_9 (s_gf (T := TX10) winX10 rfl (Nat.le_of_ble_eq_true rfl) gw_545 rfl dX10_begins_10 (s_iln 1 rfl dX10_begins_13 (s_iconst (by decide +kernel) dX10_begins_14 (s_iast dX10_begins_15 (s_inc (by decide +kernel) (Nat.le_of_ble_eq_true rfl) dX10_begins_16 (s_goto (tgt := 2) (by decide +kernel) dX10_begins_19 (s_j (hκ 2))))))))))))
noncomputable def k_X10_begins_24 (κ : gb_K) : gb_C := (o_il 1 (o_ci 6 (o_cge o_rv (o_al 0 (o_gf 10 0 (o_ci 6 (o_il 1 (o_ib (fun x y => x + y) (o_ci 99 (o_iast (o_inc 1 1 (o_j [0, 1] (κ 24)))))))))))))
theorem l_X10_begins_24 : gb_Li (fun κ => k_X10_begins_24 κ) := (gb_li (q_il 1) (gb_li (q_ci 6) (q_cge (gb_li0 _) (gb_li (q_al 0) (gb_li (q_gf 10 0) (gb_li (q_ci 6) (gb_li (q_il 1) (gb_li (q_ib _) (gb_li (q_ci 99) (gb_li q_iast (gb_li (q_inc 1 1) (q_j [0, 1] 24))))))))))))
theorem s_X10_begins_24   {κ : gb_K} (hκ : ∀ q, gb_S RX10 cX10_begins 2 (gb_rm 0 0) 0 q (κ q)) : gb_S RX10 cX10_begins 2 (gb_rm 0 0) 0 24 (k_X10_begins_24 κ) := (s_iln 1 rfl dX10_begins_24 (s_bipush (by decide +kernel) dX10_begins_25 (s_cge (tgt := 47) (by decide +kernel) dX10_begins_27 (s_rv rfl dX10_begins_47) (s_aln 0 rfl dX10_begins_30 (s_gf (T := TX10) winX10 rfl (Nat.le_of_ble_eq_true rfl) gw_545 rfl dX10_begins_31 (s_bipush (by decide +kernel) dX10_begins_34 (s_iln 1 rfl dX10_begins_36 (s_iadd dX10_begins_37 (s_bipush (by decide +kernel) dX10_begins_38 (s_iast dX10_begins_40 (s_inc (by decide +kernel) (Nat.le_of_ble_eq_true rfl) dX10_begins_41 (s_goto (tgt := 24) (by decide +kernel) dX10_begins_44 (s_j (hκ 24))))))))))))))
noncomputable def B_X10_begins : List (Nat × (gb_K → gb_C)) := [(2, fun κ => k_X10_begins_2 κ), (24, fun κ => k_X10_begins_24 κ)]
noncomputable def K_X10_begins : gb_K := gb_fx (gb_tb (B_X10_begins))
theorem L_X10_begins : ∀ q, gb_Li (fun κ => gb_tb (B_X10_begins) κ q) := gb_tb_li (List.forall_mem_cons.mpr ⟨l_X10_begins_2, List.forall_mem_cons.mpr ⟨l_X10_begins_24, (fun _ h => absurd h List.not_mem_nil)⟩⟩)
theorem S_X10_begins   : ∀ q, gb_S RX10 cX10_begins 2 (gb_rm 0 0) 0 q (K_X10_begins q) := fun q => gb_fx_S (L_X10_begins) (gb_tb_S (List.forall_mem_cons.mpr ⟨fun κ hκ => s_X10_begins_2 hκ, List.forall_mem_cons.mpr ⟨fun κ hκ => s_X10_begins_24 hκ, (fun _ h => absurd h List.not_mem_nil)⟩⟩)) q
noncomputable def f_X10_begins : gb_F := gb_hide (gb_mf 2 (k_X10_begins_0 (K_X10_begins)))
theorem c_X10_begins : ∀ l, gb_Met l yX10_begins cX10_begins 2 none 0 (gb_rm 0 0) f_X10_begins := gb_hide_c (gb_met (own := RX10) (rk := 0) rfl (by decide +kernel) ⟨rfl, rfl⟩ (s_X10_begins_0 (S_X10_begins)))
theorem dX10_thrown_0 : decode cX10_thrown 0 = .ok (.aload_n 0, 1) := by decide +kernel
theorem dX10_thrown_1 : decode cX10_thrown 1 = .ok (.getfield 66, 3) := by decide +kernel
theorem dX10_thrown_4 : decode cX10_thrown 4 = .ok (.ireturn, 1) := by decide +kernel
theorem v_X10_thrown : yX10_thrown.cls = RX10 ∧ yX10_thrown.cls ≠ "java/lang/invoke/MethodHandle" ∧ yX10_thrown.cls ≠ "java/lang/invoke/VarHandle" ∧ (parseMethodDescriptor yX10_thrown.desc).map (fun d => d.parameters.length) = some 0 := ⟨rfl, by decide +kernel, by decide +kernel, by decide +kernel⟩
noncomputable def k_X10_thrown_0 (κ : gb_K) : gb_C := (o_al 0 (o_gf 10 10 o_ri))
theorem l_X10_thrown_0 : gb_Li (fun κ => k_X10_thrown_0 κ) := (gb_li (q_al 0) (gb_li (q_gf 10 10) (gb_li0 _)))
theorem s_X10_thrown_0   {κ : gb_K} (hκ : ∀ q, gb_S RX10 cX10_thrown 1 (gb_rm 0 0) 1 q (κ q)) : gb_S RX10 cX10_thrown 1 (gb_rm 0 0) 1 0 (k_X10_thrown_0 κ) := (s_aln 0 rfl dX10_thrown_0 (s_gf (T := TX10) winX10 rfl (Nat.le_of_ble_eq_true rfl) gw_546 rfl dX10_thrown_1 (s_ri rfl dX10_thrown_4)))
noncomputable def f_X10_thrown : gb_F := gb_hide (gb_mf 1 (k_X10_thrown_0 gb_n))
theorem c_X10_thrown : ∀ l, gb_Met l yX10_thrown cX10_thrown 1 (some .int) 1 (gb_rm 0 0) f_X10_thrown := gb_hide_c (gb_met (own := RX10) (rk := 1) rfl (by decide +kernel) ⟨rfl, rfl⟩ (s_X10_thrown_0 gb_S_n))
theorem dX10_in_0 : decode cX10_in 0 = .ok (.lload_n 0, 1) := by decide +kernel
theorem dX10_in_1 : decode cX10_in 1 = .ok (.lload_n 2, 1) := by decide +kernel
theorem dX10_in_2 : decode cX10_in 2 = .ok (.lcmp, 1) := by decide +kernel
theorem dX10_in_3 : decode cX10_in 3 = .ok (.ifCond .lt 14, 3) := by decide +kernel
theorem dX10_in_6 : decode cX10_in 6 = .ok (.lload_n 0, 1) := by decide +kernel
theorem dX10_in_7 : decode cX10_in 7 = .ok (.lload 4, 2) := by decide +kernel
theorem dX10_in_9 : decode cX10_in 9 = .ok (.lcmp, 1) := by decide +kernel
theorem dX10_in_10 : decode cX10_in 10 = .ok (.ifCond .gt 7, 3) := by decide +kernel
theorem dX10_in_13 : decode cX10_in 13 = .ok (.iconst 1, 1) := by decide +kernel
theorem dX10_in_14 : decode cX10_in 14 = .ok (.goto 4, 3) := by decide +kernel
theorem dX10_in_17 : decode cX10_in 17 = .ok (.iconst 0, 1) := by decide +kernel
theorem dX10_in_18 : decode cX10_in 18 = .ok (.ireturn, 1) := by decide +kernel
theorem v_X10_in : yX10_in.cls = RX10 ∧ yX10_in.cls ≠ "java/lang/invoke/MethodHandle" ∧ yX10_in.cls ≠ "java/lang/invoke/VarHandle" ∧ (parseMethodDescriptor yX10_in.desc).map (fun d => d.parameters.length) = some 3 := ⟨rfl, by decide +kernel, by decide +kernel, by decide +kernel⟩
noncomputable def k_X10_in_18 (κ : gb_K) : gb_C := o_rz
theorem l_X10_in_18 : gb_Li (fun κ => k_X10_in_18 κ) := (gb_li0 _)
theorem s_X10_in_18   {κ : gb_K} (hκ : ∀ q, gb_S RX10 cX10_in 6 (gb_rm 0 0) 2 q (κ q)) : gb_S RX10 cX10_in 6 (gb_rm 0 0) 2 18 (k_X10_in_18 κ) := (s_rz rfl dX10_in_18)
noncomputable def k_X10_in_17 (κ : gb_K) : gb_C := (o_ci 0 (k_X10_in_18 κ))
theorem l_X10_in_17 : gb_Li (fun κ => k_X10_in_17 κ) := (gb_li (q_ci 0) (l_X10_in_18))
theorem s_X10_in_17   {κ : gb_K} (hκ : ∀ q, gb_S RX10 cX10_in 6 (gb_rm 0 0) 2 q (κ q)) : gb_S RX10 cX10_in 6 (gb_rm 0 0) 2 17 (k_X10_in_17 κ) := (s_iconst (by decide +kernel) dX10_in_17 (s_X10_in_18 hκ))
noncomputable def k_X10_in_0 (κ : gb_K) : gb_C := (o_ll 0 (o_ll 2 (o_lcmp (o_zlt (k_X10_in_17 κ) (o_ll 0 (o_ll 4 (o_lcmp (o_zgt (k_X10_in_17 κ) (o_ci 1 (k_X10_in_18 κ))))))))))
theorem l_X10_in_0 : gb_Li (fun κ => k_X10_in_0 κ) := (gb_li (q_ll 0) (gb_li (q_ll 2) (gb_li q_lcmp (q_zlt (l_X10_in_17) (gb_li (q_ll 0) (gb_li (q_ll 4) (gb_li q_lcmp (q_zgt (l_X10_in_17) (gb_li (q_ci 1) (l_X10_in_18))))))))))
theorem s_X10_in_0   {κ : gb_K} (hκ : ∀ q, gb_S RX10 cX10_in 6 (gb_rm 0 0) 2 q (κ q)) : gb_S RX10 cX10_in 6 (gb_rm 0 0) 2 0 (k_X10_in_0 κ) := (s_lln 0 rfl dX10_in_0 (s_lln 2 rfl dX10_in_1 (s_lcmp dX10_in_2 (s_zlt (tgt := 17) (by decide +kernel) dX10_in_3 (s_X10_in_17 hκ) (s_lln 0 rfl dX10_in_6 (s_ll dX10_in_7 (s_lcmp dX10_in_9 (s_zgt (tgt := 17) (by decide +kernel) dX10_in_10 (s_X10_in_17 hκ) (s_iconst (by decide +kernel) dX10_in_13 (s_goto (tgt := 18) (by decide +kernel) dX10_in_14 (s_X10_in_18 hκ)))))))))))
noncomputable def f_X10_in : gb_F := gb_hide (gb_mf 6 (k_X10_in_0 gb_n))
theorem c_X10_in : ∀ l, gb_Met l yX10_in cX10_in 6 (some .boolean) 2 (gb_rm 0 0) f_X10_in := gb_hide_c (gb_met (own := RX10) (rk := 2) rfl (by decide +kernel) ⟨rfl, rfl⟩ (s_X10_in_0 gb_S_n))
theorem dX10_lost_0 : decode cX10_lost 0 = .ok (.aload_n 0, 1) := by decide +kernel
theorem dX10_lost_1 : decode cX10_lost 1 = .ok (.iconst 1, 1) := by decide +kernel
theorem dX10_lost_2 : decode cX10_lost 2 = .ok (.putfield 66, 3) := by decide +kernel
theorem dX10_lost_5 : decode cX10_lost 5 = .ok (.iconst 0, 1) := by decide +kernel
theorem dX10_lost_6 : decode cX10_lost 6 = .ok (.ireturn, 1) := by decide +kernel
theorem v_X10_lost : yX10_lost.cls = RX10 ∧ yX10_lost.cls ≠ "java/lang/invoke/MethodHandle" ∧ yX10_lost.cls ≠ "java/lang/invoke/VarHandle" ∧ (parseMethodDescriptor yX10_lost.desc).map (fun d => d.parameters.length) = some 0 := ⟨rfl, by decide +kernel, by decide +kernel, by decide +kernel⟩
noncomputable def k_X10_lost_0 (κ : gb_K) : gb_C := (o_al 0 (o_ci 1 (o_pf 10 10 (o_ci 0 o_ri))))
theorem l_X10_lost_0 : gb_Li (fun κ => k_X10_lost_0 κ) := (gb_li (q_al 0) (gb_li (q_ci 1) (gb_li (q_pf 10 10) (gb_li (q_ci 0) (gb_li0 _)))))
theorem s_X10_lost_0   {κ : gb_K} (hκ : ∀ q, gb_S RX10 cX10_lost 1 (gb_rm 0 0) 1 q (κ q)) : gb_S RX10 cX10_lost 1 (gb_rm 0 0) 1 0 (k_X10_lost_0 κ) := (s_aln 0 rfl dX10_lost_0 (s_iconst (by decide +kernel) dX10_lost_1 (s_pf (T := TX10) winX10 rfl (Nat.le_of_ble_eq_true rfl) tyX10_ok nmX10 rfl (by decide +kernel) gw_546 rfl dX10_lost_2 (s_iconst (by decide +kernel) dX10_lost_5 (s_ri rfl dX10_lost_6)))))
noncomputable def f_X10_lost : gb_F := gb_hide (gb_mf 1 (k_X10_lost_0 gb_n))
theorem c_X10_lost : ∀ l, gb_Met l yX10_lost cX10_lost 1 (some .int) 1 (gb_rm 0 0) f_X10_lost := gb_hide_c (gb_met (own := RX10) (rk := 1) rfl (by decide +kernel) ⟨rfl, rfl⟩ (s_X10_lost_0 gb_S_n))
theorem dX10_tell_0 : decode cX10_tell 0 = .ok (.aload_n 0, 1) := by decide +kernel
theorem dX10_tell_1 : decode cX10_tell 1 = .ok (.getfield 26, 3) := by decide +kernel
theorem dX10_tell_4 : decode cX10_tell 4 = .ok (.aload_n 0, 1) := by decide +kernel
theorem dX10_tell_5 : decode cX10_tell 5 = .ok (.getfield 70, 3) := by decide +kernel
theorem dX10_tell_8 : decode cX10_tell 8 = .ok (.lload_n 1, 1) := by decide +kernel
theorem dX10_tell_9 : decode cX10_tell 9 = .ok (.lastore, 1) := by decide +kernel
theorem dX10_tell_10 : decode cX10_tell 10 = .ok (.aload_n 0, 1) := by decide +kernel
theorem dX10_tell_11 : decode cX10_tell 11 = .ok (.dup, 1) := by decide +kernel
theorem dX10_tell_12 : decode cX10_tell 12 = .ok (.getfield 70, 3) := by decide +kernel
theorem dX10_tell_15 : decode cX10_tell 15 = .ok (.iconst 1, 1) := by decide +kernel
theorem dX10_tell_16 : decode cX10_tell 16 = .ok (.iadd, 1) := by decide +kernel
theorem dX10_tell_17 : decode cX10_tell 17 = .ok (.putfield 70, 3) := by decide +kernel
theorem dX10_tell_20 : decode cX10_tell 20 = .ok (.return_, 1) := by decide +kernel
theorem v_X10_tell : yX10_tell.cls = RX10 ∧ yX10_tell.cls ≠ "java/lang/invoke/MethodHandle" ∧ yX10_tell.cls ≠ "java/lang/invoke/VarHandle" ∧ (parseMethodDescriptor yX10_tell.desc).map (fun d => d.parameters.length) = some 1 := ⟨rfl, by decide +kernel, by decide +kernel, by decide +kernel⟩
noncomputable def k_X10_tell_0 (κ : gb_K) : gb_C := (o_al 0 (o_gf 10 8 (o_al 0 (o_gf 10 9 (o_ll 1 (o_last (o_al 0 (o_dup (o_gf 10 9 (o_ci 1 (o_ib (fun x y => x + y) (o_pf 10 9 o_rv))))))))))))
theorem l_X10_tell_0 : gb_Li (fun κ => k_X10_tell_0 κ) := (gb_li (q_al 0) (gb_li (q_gf 10 8) (gb_li (q_al 0) (gb_li (q_gf 10 9) (gb_li (q_ll 1) (gb_li q_last (gb_li (q_al 0) (gb_li q_dup (gb_li (q_gf 10 9) (gb_li (q_ci 1) (gb_li (q_ib _) (gb_li (q_pf 10 9) (gb_li0 _)))))))))))))
theorem s_X10_tell_0   {κ : gb_K} (hκ : ∀ q, gb_S RX10 cX10_tell 3 (gb_rm 0 0) 0 q (κ q)) : gb_S RX10 cX10_tell 3 (gb_rm 0 0) 0 0 (k_X10_tell_0 κ) := (s_aln 0 rfl dX10_tell_0 (s_gf (T := TX10) winX10 rfl (Nat.le_of_ble_eq_true rfl) gw_547 rfl dX10_tell_1 (s_aln 0 rfl dX10_tell_4 (s_gf (T := TX10) winX10 rfl (Nat.le_of_ble_eq_true rfl) gw_548 rfl dX10_tell_5 (s_lln 1 rfl dX10_tell_8 (s_last dX10_tell_9 (s_aln 0 rfl dX10_tell_10 (s_dup dX10_tell_11 (s_gf (T := TX10) winX10 rfl (Nat.le_of_ble_eq_true rfl) gw_548 rfl dX10_tell_12 (s_iconst (by decide +kernel) dX10_tell_15 (s_iadd dX10_tell_16 (s_pf (T := TX10) winX10 rfl (Nat.le_of_ble_eq_true rfl) tyX10_ok nmX10 rfl (by decide +kernel) gw_548 rfl dX10_tell_17 (s_rv rfl dX10_tell_20)))))))))))))
noncomputable def f_X10_tell : gb_F := gb_hide (gb_mf 3 (k_X10_tell_0 gb_n))
theorem c_X10_tell : ∀ l, gb_Met l yX10_tell cX10_tell 3 none 0 (gb_rm 0 0) f_X10_tell := gb_hide_c (gb_met (own := RX10) (rk := 0) rfl (by decide +kernel) ⟨rfl, rfl⟩ (s_X10_tell_0 gb_S_n))
theorem dX10_sign_0 : decode cX10_sign 0 = .ok (.aload_n 0, 1) := by decide +kernel
theorem dX10_sign_1 : decode cX10_sign 1 = .ok (.iconst 0, 1) := by decide +kernel
theorem dX10_sign_2 : decode cX10_sign 2 = .ok (.putfield 66, 3) := by decide +kernel
theorem dX10_sign_5 : decode cX10_sign 5 = .ok (.aload_n 0, 1) := by decide +kernel
theorem dX10_sign_6 : decode cX10_sign 6 = .ok (.getfield 73, 3) := by decide +kernel
theorem dX10_sign_9 : decode cX10_sign 9 = .ok (.iconst 4, 1) := by decide +kernel
theorem dX10_sign_10 : decode cX10_sign 10 = .ok (.iadd, 1) := by decide +kernel
theorem dX10_sign_11 : decode cX10_sign 11 = .ok (.sipush 200, 3) := by decide +kernel
theorem dX10_sign_14 : decode cX10_sign 14 = .ok (.if_icmp .le 5, 3) := by decide +kernel
theorem dX10_sign_17 : decode cX10_sign 17 = .ok (.iconst (-1), 1) := by decide +kernel
theorem dX10_sign_18 : decode cX10_sign 18 = .ok (.ireturn, 1) := by decide +kernel
theorem dX10_sign_19 : decode cX10_sign 19 = .ok (.iconst 3, 1) := by decide +kernel
theorem dX10_sign_20 : decode cX10_sign 20 = .ok (.istore_n 2, 1) := by decide +kernel
theorem dX10_sign_21 : decode cX10_sign 21 = .ok (.iload_n 2, 1) := by decide +kernel
theorem dX10_sign_22 : decode cX10_sign 22 = .ok (.ifCond .lt 32, 3) := by decide +kernel
theorem dX10_sign_25 : decode cX10_sign 25 = .ok (.aload_n 0, 1) := by decide +kernel
theorem dX10_sign_26 : decode cX10_sign 26 = .ok (.getfield 22, 3) := by decide +kernel
theorem dX10_sign_29 : decode cX10_sign 29 = .ok (.aload_n 0, 1) := by decide +kernel
theorem dX10_sign_30 : decode cX10_sign 30 = .ok (.dup, 1) := by decide +kernel
theorem dX10_sign_31 : decode cX10_sign 31 = .ok (.getfield 73, 3) := by decide +kernel
theorem dX10_sign_34 : decode cX10_sign 34 = .ok (.dup_x1, 1) := by decide +kernel
theorem dX10_sign_35 : decode cX10_sign 35 = .ok (.iconst 1, 1) := by decide +kernel
theorem dX10_sign_36 : decode cX10_sign 36 = .ok (.iadd, 1) := by decide +kernel
theorem dX10_sign_37 : decode cX10_sign 37 = .ok (.putfield 73, 3) := by decide +kernel
theorem dX10_sign_40 : decode cX10_sign 40 = .ok (.iload_n 1, 1) := by decide +kernel
theorem dX10_sign_41 : decode cX10_sign 41 = .ok (.bipush 8, 2) := by decide +kernel
theorem dX10_sign_43 : decode cX10_sign 43 = .ok (.iload_n 2, 1) := by decide +kernel
theorem dX10_sign_44 : decode cX10_sign 44 = .ok (.imul, 1) := by decide +kernel
theorem dX10_sign_45 : decode cX10_sign 45 = .ok (.ishr, 1) := by decide +kernel
theorem dX10_sign_46 : decode cX10_sign 46 = .ok (.i2b, 1) := by decide +kernel
theorem dX10_sign_47 : decode cX10_sign 47 = .ok (.bastore, 1) := by decide +kernel
theorem dX10_sign_48 : decode cX10_sign 48 = .ok (.iinc 2 (-1), 3) := by decide +kernel
theorem dX10_sign_51 : decode cX10_sign 51 = .ok (.goto (-30), 3) := by decide +kernel
theorem dX10_sign_54 : decode cX10_sign 54 = .ok (.aload_n 0, 1) := by decide +kernel
theorem dX10_sign_55 : decode cX10_sign 55 = .ok (.getfield 73, 3) := by decide +kernel
theorem dX10_sign_58 : decode cX10_sign 58 = .ok (.ireturn, 1) := by decide +kernel
theorem v_X10_sign : yX10_sign.cls = RX10 ∧ yX10_sign.cls ≠ "java/lang/invoke/MethodHandle" ∧ yX10_sign.cls ≠ "java/lang/invoke/VarHandle" ∧ (parseMethodDescriptor yX10_sign.desc).map (fun d => d.parameters.length) = some 1 := ⟨rfl, by decide +kernel, by decide +kernel, by decide +kernel⟩
noncomputable def k_X10_sign_0 (κ : gb_K) : gb_C := (o_al 0 (o_ci 0 (o_pf 10 10 (o_al 0 (o_gf 10 7 (o_ci 4 (o_ib (fun x y => x + y) (o_ci 200 (o_cle (o_ci 3 (o_is 2 (o_j [0, 1, 2] (κ 21)))) (o_ci (-1) o_ri))))))))))
theorem l_X10_sign_0 : gb_Li (fun κ => k_X10_sign_0 κ) := (gb_li (q_al 0) (gb_li (q_ci 0) (gb_li (q_pf 10 10) (gb_li (q_al 0) (gb_li (q_gf 10 7) (gb_li (q_ci 4) (gb_li (q_ib _) (gb_li (q_ci 200) (q_cle (gb_li (q_ci 3) (gb_li (q_is 2) (q_j [0, 1, 2] 21))) (gb_li (q_ci (-1)) (gb_li0 _)))))))))))
theorem s_X10_sign_0   {κ : gb_K} (hκ : ∀ q, gb_S RX10 cX10_sign 3 (gb_rm 0 0) 1 q (κ q)) : gb_S RX10 cX10_sign 3 (gb_rm 0 0) 1 0 (k_X10_sign_0 κ) := (s_aln 0 rfl dX10_sign_0 (s_iconst (by decide +kernel) dX10_sign_1 (s_pf (T := TX10) winX10 rfl (Nat.le_of_ble_eq_true rfl) tyX10_ok nmX10 rfl (by decide +kernel) gw_546 rfl dX10_sign_2 (s_aln 0 rfl dX10_sign_5 (s_gf (T := TX10) winX10 rfl (Nat.le_of_ble_eq_true rfl) gw_549 rfl dX10_sign_6 (s_iconst (by decide +kernel) dX10_sign_9 (s_iadd dX10_sign_10 (s_sipush (by decide +kernel) dX10_sign_11 (s_cle (tgt := 19) (by decide +kernel) dX10_sign_14 (s_iconst (by decide +kernel) dX10_sign_19 (s_isn 2 rfl (Nat.le_of_ble_eq_true rfl) dX10_sign_20 (s_j (hκ 21)))) (s_iconst (by decide +kernel) dX10_sign_17 (s_ri rfl dX10_sign_18)))))))))))
noncomputable def k_X10_sign_21 (κ : gb_K) : gb_C := (o_il 2 (o_zlt (o_al 0 (o_gf 10 7 o_ri)) (o_al 0 (o_gf 10 6 (o_al 0 (o_dup (o_gf 10 7 (o_dupx1 (o_ci 1 (o_ib (fun x y => x + y) (o_pf 10 7 (o_il 1 (o_ci 8 (o_il 2 (o_ib (fun x y => x * y) (o_ib (fun x y => x >>> (y &&& 31)) (o_iu (fun x => x.toInt8.toInt32) (o_bast (o_inc 2 (-1) (o_j [0, 1, 2] (κ 21)))))))))))))))))))))
theorem l_X10_sign_21 : gb_Li (fun κ => k_X10_sign_21 κ) := (gb_li (q_il 2) (q_zlt (gb_li (q_al 0) (gb_li (q_gf 10 7) (gb_li0 _))) (gb_li (q_al 0) (gb_li (q_gf 10 6) (gb_li (q_al 0) (gb_li q_dup (gb_li (q_gf 10 7) (gb_li q_dupx1 (gb_li (q_ci 1) (gb_li (q_ib _) (gb_li (q_pf 10 7) (gb_li (q_il 1) (gb_li (q_ci 8) (gb_li (q_il 2) (gb_li (q_ib _) (gb_li (q_ib _) (gb_li (q_iu _) (gb_li q_bast (gb_li (q_inc 2 (-1)) (q_j [0, 1, 2] 21))))))))))))))))))))
theorem s_X10_sign_21   {κ : gb_K} (hκ : ∀ q, gb_S RX10 cX10_sign 3 (gb_rm 0 0) 1 q (κ q)) : gb_S RX10 cX10_sign 3 (gb_rm 0 0) 1 21 (k_X10_sign_21 κ) := (s_iln 2 rfl dX10_sign_21 (s_zlt (tgt := 54) (by decide +kernel) dX10_sign_22 (s_aln 0 rfl dX10_sign_54 (s_gf (T := TX10) winX10 rfl (Nat.le_of_ble_eq_true rfl) gw_549 rfl dX10_sign_55 (s_ri rfl dX10_sign_58))) (s_aln 0 rfl dX10_sign_25 (s_gf (T := TX10) winX10 rfl (Nat.le_of_ble_eq_true rfl) gw_550 rfl dX10_sign_26 (s_aln 0 rfl dX10_sign_29 (s_dup dX10_sign_30 (s_gf (T := TX10) winX10 rfl (Nat.le_of_ble_eq_true rfl) gw_549 rfl dX10_sign_31 (s_dupx1 dX10_sign_34 (s_iconst (by decide +kernel) dX10_sign_35 (s_iadd dX10_sign_36 (s_pf (T := TX10) winX10 rfl (Nat.le_of_ble_eq_true rfl) tyX10_ok nmX10 rfl (by decide +kernel) gw_549 rfl dX10_sign_37 (s_iln 1 rfl dX10_sign_40 (s_bipush (by decide +kernel) dX10_sign_41 (s_iln 2 rfl dX10_sign_43 (s_imul dX10_sign_44 (s_ishr dX10_sign_45 (s_i2b dX10_sign_46 (s_bast dX10_sign_47 (s_inc (by decide +kernel) (Nat.le_of_ble_eq_true rfl) dX10_sign_48 (s_goto (tgt := 21) (by decide +kernel) dX10_sign_51 (s_j (hκ 21))))))))))))))))))))))
noncomputable def B_X10_sign : List (Nat × (gb_K → gb_C)) := [(21, fun κ => k_X10_sign_21 κ)]
noncomputable def K_X10_sign : gb_K := gb_fx (gb_tb (B_X10_sign))
theorem L_X10_sign : ∀ q, gb_Li (fun κ => gb_tb (B_X10_sign) κ q) := gb_tb_li (List.forall_mem_cons.mpr ⟨l_X10_sign_21, (fun _ h => absurd h List.not_mem_nil)⟩)
theorem S_X10_sign   : ∀ q, gb_S RX10 cX10_sign 3 (gb_rm 0 0) 1 q (K_X10_sign q) := fun q => gb_fx_S (L_X10_sign) (gb_tb_S (List.forall_mem_cons.mpr ⟨fun κ hκ => s_X10_sign_21 hκ, (fun _ h => absurd h List.not_mem_nil)⟩)) q
noncomputable def f_X10_sign : gb_F := gb_hide (gb_mf 3 (k_X10_sign_0 (K_X10_sign)))
theorem c_X10_sign : ∀ l, gb_Met l yX10_sign cX10_sign 3 (some .int) 1 (gb_rm 0 0) f_X10_sign := gb_hide_c (gb_met (own := RX10) (rk := 1) rfl (by decide +kernel) ⟨rfl, rfl⟩ (s_X10_sign_0 (S_X10_sign)))
theorem dX10_end_0 : decode cX10_end 0 = .ok (.aload_n 0, 1) := by decide +kernel
theorem dX10_end_1 : decode cX10_end 1 = .ok (.iconst 0, 1) := by decide +kernel
theorem dX10_end_2 : decode cX10_end 2 = .ok (.putfield 66, 3) := by decide +kernel
theorem dX10_end_5 : decode cX10_end 5 = .ok (.iload_n 1, 1) := by decide +kernel
theorem dX10_end_6 : decode cX10_end 6 = .ok (.i2l, 1) := by decide +kernel
theorem dX10_end_7 : decode cX10_end 7 = .ok (.lconst 0, 1) := by decide +kernel
theorem dX10_end_8 : decode cX10_end 8 = .ok (.aload_n 0, 1) := by decide +kernel
theorem dX10_end_9 : decode cX10_end 9 = .ok (.getfield 73, 3) := by decide +kernel
theorem dX10_end_12 : decode cX10_end 12 = .ok (.i2l, 1) := by decide +kernel
theorem dX10_end_13 : decode cX10_end 13 = .ok (.invokestatic 76, 3) := by decide +kernel
theorem dX10_end_16 : decode cX10_end 16 = .ok (.ifCond .ne 5, 3) := by decide +kernel
theorem dX10_end_19 : decode cX10_end 19 = .ok (.iconst 0, 1) := by decide +kernel
theorem dX10_end_20 : decode cX10_end 20 = .ok (.ireturn, 1) := by decide +kernel
theorem dX10_end_21 : decode cX10_end 21 = .ok (.aload_n 0, 1) := by decide +kernel
theorem dX10_end_22 : decode cX10_end 22 = .ok (.iload_n 1, 1) := by decide +kernel
theorem dX10_end_23 : decode cX10_end 23 = .ok (.putfield 73, 3) := by decide +kernel
theorem dX10_end_26 : decode cX10_end 26 = .ok (.iconst 1, 1) := by decide +kernel
theorem dX10_end_27 : decode cX10_end 27 = .ok (.ireturn, 1) := by decide +kernel
theorem v_X10_end : yX10_end.cls = RX10 ∧ yX10_end.cls ≠ "java/lang/invoke/MethodHandle" ∧ yX10_end.cls ≠ "java/lang/invoke/VarHandle" ∧ (parseMethodDescriptor yX10_end.desc).map (fun d => d.parameters.length) = some 1 := ⟨rfl, by decide +kernel, by decide +kernel, by decide +kernel⟩
noncomputable def k_X10_end_0 (κ : gb_K) : gb_C := (o_al 0 (o_ci 0 (o_pf 10 10 (o_il 1 (o_i2l (o_cl 0 (o_al 0 (o_gf 10 7 (o_i2l (o_cs 3 2 f_X10_in (o_zeq (o_ci 0 o_rz) (o_al 0 (o_il 1 (o_pf 10 7 (o_ci 1 o_rz)))))))))))))))
theorem l_X10_end_0 : gb_Li (fun κ => k_X10_end_0 κ) := (gb_li (q_al 0) (gb_li (q_ci 0) (gb_li (q_pf 10 10) (gb_li (q_il 1) (gb_li q_i2l (gb_li (q_cl 0) (gb_li (q_al 0) (gb_li (q_gf 10 7) (gb_li q_i2l (gb_li (q_cs 3 2 f_X10_in) (q_zeq (gb_li (q_ci 0) (gb_li0 _)) (gb_li (q_al 0) (gb_li (q_il 1) (gb_li (q_pf 10 7) (gb_li (q_ci 1) (gb_li0 _))))))))))))))))
theorem s_X10_end_0   {κ : gb_K} (hκ : ∀ q, gb_S RX10 cX10_end 2 (gb_rm 1 25) 2 q (κ q)) : gb_S RX10 cX10_end 2 (gb_rm 1 25) 2 0 (k_X10_end_0 κ) := (s_aln 0 rfl dX10_end_0 (s_iconst (by decide +kernel) dX10_end_1 (s_pf (T := TX10) winX10 rfl (Nat.le_of_ble_eq_true rfl) tyX10_ok nmX10 rfl (by decide +kernel) gw_546 rfl dX10_end_2 (s_iln 1 rfl dX10_end_5 (s_i2l dX10_end_6 (s_lconst (by decide +kernel) dX10_end_7 (s_aln 0 rfl dX10_end_8 (s_gf (T := TX10) winX10 rfl (Nat.le_of_ble_eq_true rfl) gw_549 rfl dX10_end_9 (s_i2l dX10_end_12 (s_cs c_X10_in (gb_l4 gw_551 gw_552 gw_553 gw_554) v_X10_in.2 ⟨rfl, rfl⟩ ⟨Nat.le_of_ble_eq_true rfl, Nat.le_of_ble_eq_true rfl⟩ dX10_end_13 (s_zne (tgt := 21) (by decide +kernel) dX10_end_16 (s_aln 0 rfl dX10_end_21 (s_iln 1 rfl dX10_end_22 (s_pf (T := TX10) winX10 rfl (Nat.le_of_ble_eq_true rfl) tyX10_ok nmX10 rfl (by decide +kernel) gw_549 rfl dX10_end_23 (s_iconst (by decide +kernel) dX10_end_26 (s_rz rfl dX10_end_27))))) (s_iconst (by decide +kernel) dX10_end_19 (s_rz rfl dX10_end_20)))))))))))))
noncomputable def f_X10_end : gb_F := gb_hide (gb_mf 2 (k_X10_end_0 gb_n))
theorem c_X10_end : ∀ l, gb_Met l yX10_end cX10_end 2 (some .boolean) 2 (gb_rm 1 25) f_X10_end := gb_hide_c (gb_met (own := RX10) (rk := 2) rfl (by decide +kernel) ⟨rfl, rfl⟩ (s_X10_end_0 gb_S_n))
theorem dX10_isGrade_0 : decode cX10_isGrade 0 = .ok (.iload_n 0, 1) := by decide +kernel
theorem dX10_isGrade_1 : decode cX10_isGrade 1 = .ok (.i2l, 1) := by decide +kernel
theorem dX10_isGrade_2 : decode cX10_isGrade 2 = .ok (.lconst 0, 1) := by decide +kernel
theorem dX10_isGrade_3 : decode cX10_isGrade 3 = .ok (.ldc2_w 80, 3) := by decide +kernel
theorem dX10_isGrade_6 : decode cX10_isGrade 6 = .ok (.invokestatic 76, 3) := by decide +kernel
theorem dX10_isGrade_9 : decode cX10_isGrade 9 = .ok (.ireturn, 1) := by decide +kernel
theorem v_X10_isGrade : yX10_isGrade.cls = RX10 ∧ yX10_isGrade.cls ≠ "java/lang/invoke/MethodHandle" ∧ yX10_isGrade.cls ≠ "java/lang/invoke/VarHandle" ∧ (parseMethodDescriptor yX10_isGrade.desc).map (fun d => d.parameters.length) = some 1 := ⟨rfl, by decide +kernel, by decide +kernel, by decide +kernel⟩
noncomputable def k_X10_isGrade_0 (κ : gb_K) : gb_C := (o_il 0 (o_i2l (o_cl 0 (o_cl 5 (o_cs 3 2 f_X10_in o_rz)))))
theorem l_X10_isGrade_0 : gb_Li (fun κ => k_X10_isGrade_0 κ) := (gb_li (q_il 0) (gb_li q_i2l (gb_li (q_cl 0) (gb_li (q_cl 5) (gb_li (q_cs 3 2 f_X10_in) (gb_li0 _))))))
theorem s_X10_isGrade_0   {κ : gb_K} (hκ : ∀ q, gb_S RX10 cX10_isGrade 1 (gb_rm 1 25) 2 q (κ q)) : gb_S RX10 cX10_isGrade 1 (gb_rm 1 25) 2 0 (k_X10_isGrade_0 κ) := (s_iln 0 rfl dX10_isGrade_0 (s_i2l dX10_isGrade_1 (s_lconst (by decide +kernel) dX10_isGrade_2 (s_ldc2 gw_555 dX10_isGrade_3 (s_cs c_X10_in (gb_l4 gw_551 gw_552 gw_553 gw_554) v_X10_in.2 ⟨rfl, rfl⟩ ⟨Nat.le_of_ble_eq_true rfl, Nat.le_of_ble_eq_true rfl⟩ dX10_isGrade_6 (s_rz rfl dX10_isGrade_9))))))
noncomputable def f_X10_isGrade : gb_F := gb_hide (gb_mf 1 (k_X10_isGrade_0 gb_n))
theorem c_X10_isGrade : ∀ l, gb_Met l yX10_isGrade cX10_isGrade 1 (some .boolean) 2 (gb_rm 1 25) f_X10_isGrade := gb_hide_c (gb_met (own := RX10) (rk := 2) rfl (by decide +kernel) ⟨rfl, rfl⟩ (s_X10_isGrade_0 gb_S_n))
theorem dX10_isBin_0 : decode cX10_isBin 0 = .ok (.iload_n 0, 1) := by decide +kernel
theorem dX10_isBin_1 : decode cX10_isBin 1 = .ok (.i2l, 1) := by decide +kernel
theorem dX10_isBin_2 : decode cX10_isBin 2 = .ok (.lconst 0, 1) := by decide +kernel
theorem dX10_isBin_3 : decode cX10_isBin 3 = .ok (.ldc2_w 80, 3) := by decide +kernel
theorem dX10_isBin_6 : decode cX10_isBin 6 = .ok (.invokestatic 76, 3) := by decide +kernel
theorem dX10_isBin_9 : decode cX10_isBin 9 = .ok (.ireturn, 1) := by decide +kernel
theorem v_X10_isBin : yX10_isBin.cls = RX10 ∧ yX10_isBin.cls ≠ "java/lang/invoke/MethodHandle" ∧ yX10_isBin.cls ≠ "java/lang/invoke/VarHandle" ∧ (parseMethodDescriptor yX10_isBin.desc).map (fun d => d.parameters.length) = some 1 := ⟨rfl, by decide +kernel, by decide +kernel, by decide +kernel⟩
noncomputable def k_X10_isBin_0 (κ : gb_K) : gb_C := (o_il 0 (o_i2l (o_cl 0 (o_cl 5 (o_cs 3 2 f_X10_in o_rz)))))
theorem l_X10_isBin_0 : gb_Li (fun κ => k_X10_isBin_0 κ) := (gb_li (q_il 0) (gb_li q_i2l (gb_li (q_cl 0) (gb_li (q_cl 5) (gb_li (q_cs 3 2 f_X10_in) (gb_li0 _))))))
theorem s_X10_isBin_0   {κ : gb_K} (hκ : ∀ q, gb_S RX10 cX10_isBin 1 (gb_rm 1 25) 2 q (κ q)) : gb_S RX10 cX10_isBin 1 (gb_rm 1 25) 2 0 (k_X10_isBin_0 κ) := (s_iln 0 rfl dX10_isBin_0 (s_i2l dX10_isBin_1 (s_lconst (by decide +kernel) dX10_isBin_2 (s_ldc2 gw_555 dX10_isBin_3 (s_cs c_X10_in (gb_l4 gw_551 gw_552 gw_553 gw_554) v_X10_in.2 ⟨rfl, rfl⟩ ⟨Nat.le_of_ble_eq_true rfl, Nat.le_of_ble_eq_true rfl⟩ dX10_isBin_6 (s_rz rfl dX10_isBin_9))))))
noncomputable def f_X10_isBin : gb_F := gb_hide (gb_mf 1 (k_X10_isBin_0 gb_n))
theorem c_X10_isBin : ∀ l, gb_Met l yX10_isBin cX10_isBin 1 (some .boolean) 2 (gb_rm 1 25) f_X10_isBin := gb_hide_c (gb_met (own := RX10) (rk := 2) rfl (by decide +kernel) ⟨rfl, rfl⟩ (s_X10_isBin_0 gb_S_n))
theorem dX10_isLoad_0 : decode cX10_isLoad 0 = .ok (.iload_n 0, 1) := by decide +kernel
theorem dX10_isLoad_1 : decode cX10_isLoad 1 = .ok (.i2l, 1) := by decide +kernel
theorem dX10_isLoad_2 : decode cX10_isLoad 2 = .ok (.lconst 1, 1) := by decide +kernel
theorem dX10_isLoad_3 : decode cX10_isLoad 3 = .ok (.ldc2_w 82, 3) := by decide +kernel
theorem dX10_isLoad_6 : decode cX10_isLoad 6 = .ok (.invokestatic 76, 3) := by decide +kernel
theorem dX10_isLoad_9 : decode cX10_isLoad 9 = .ok (.ireturn, 1) := by decide +kernel
theorem v_X10_isLoad : yX10_isLoad.cls = RX10 ∧ yX10_isLoad.cls ≠ "java/lang/invoke/MethodHandle" ∧ yX10_isLoad.cls ≠ "java/lang/invoke/VarHandle" ∧ (parseMethodDescriptor yX10_isLoad.desc).map (fun d => d.parameters.length) = some 1 := ⟨rfl, by decide +kernel, by decide +kernel, by decide +kernel⟩
noncomputable def k_X10_isLoad_0 (κ : gb_K) : gb_C := (o_il 0 (o_i2l (o_cl 1 (o_cl 99 (o_cs 3 2 f_X10_in o_rz)))))
theorem l_X10_isLoad_0 : gb_Li (fun κ => k_X10_isLoad_0 κ) := (gb_li (q_il 0) (gb_li q_i2l (gb_li (q_cl 1) (gb_li (q_cl 99) (gb_li (q_cs 3 2 f_X10_in) (gb_li0 _))))))
theorem s_X10_isLoad_0   {κ : gb_K} (hκ : ∀ q, gb_S RX10 cX10_isLoad 1 (gb_rm 1 25) 2 q (κ q)) : gb_S RX10 cX10_isLoad 1 (gb_rm 1 25) 2 0 (k_X10_isLoad_0 κ) := (s_iln 0 rfl dX10_isLoad_0 (s_i2l dX10_isLoad_1 (s_lconst (by decide +kernel) dX10_isLoad_2 (s_ldc2 gw_556 dX10_isLoad_3 (s_cs c_X10_in (gb_l4 gw_551 gw_552 gw_553 gw_554) v_X10_in.2 ⟨rfl, rfl⟩ ⟨Nat.le_of_ble_eq_true rfl, Nat.le_of_ble_eq_true rfl⟩ dX10_isLoad_6 (s_rz rfl dX10_isLoad_9))))))
noncomputable def f_X10_isLoad : gb_F := gb_hide (gb_mf 1 (k_X10_isLoad_0 gb_n))
theorem c_X10_isLoad : ∀ l, gb_Met l yX10_isLoad cX10_isLoad 1 (some .boolean) 2 (gb_rm 1 25) f_X10_isLoad := gb_hide_c (gb_met (own := RX10) (rk := 2) rfl (by decide +kernel) ⟨rfl, rfl⟩ (s_X10_isLoad_0 gb_S_n))
theorem dX10_layerOf_0 : decode cX10_layerOf 0 = .ok (.aload_n 0, 1) := by decide +kernel
theorem dX10_layerOf_1 : decode cX10_layerOf 1 = .ok (.getfield 7, 3) := by decide +kernel
theorem dX10_layerOf_4 : decode cX10_layerOf 4 = .ok (.bipush 66, 2) := by decide +kernel
theorem dX10_layerOf_6 : decode cX10_layerOf 6 = .ok (.bipush 18, 2) := by decide +kernel
theorem dX10_layerOf_8 : decode cX10_layerOf 8 = .ok (.iload_n 1, 1) := by decide +kernel
theorem dX10_layerOf_9 : decode cX10_layerOf 9 = .ok (.imul, 1) := by decide +kernel
theorem dX10_layerOf_10 : decode cX10_layerOf 10 = .ok (.iadd, 1) := by decide +kernel
theorem dX10_layerOf_11 : decode cX10_layerOf 11 = .ok (.iconst 3, 1) := by decide +kernel
theorem dX10_layerOf_12 : decode cX10_layerOf 12 = .ok (.iload_n 2, 1) := by decide +kernel
theorem dX10_layerOf_13 : decode cX10_layerOf 13 = .ok (.imul, 1) := by decide +kernel
theorem dX10_layerOf_14 : decode cX10_layerOf 14 = .ok (.iadd, 1) := by decide +kernel
theorem dX10_layerOf_15 : decode cX10_layerOf 15 = .ok (.iload_n 3, 1) := by decide +kernel
theorem dX10_layerOf_16 : decode cX10_layerOf 16 = .ok (.iadd, 1) := by decide +kernel
theorem dX10_layerOf_17 : decode cX10_layerOf 17 = .ok (.iaload, 1) := by decide +kernel
theorem dX10_layerOf_18 : decode cX10_layerOf 18 = .ok (.ireturn, 1) := by decide +kernel
theorem v_X10_layerOf : yX10_layerOf.cls = RX10 ∧ yX10_layerOf.cls ≠ "java/lang/invoke/MethodHandle" ∧ yX10_layerOf.cls ≠ "java/lang/invoke/VarHandle" ∧ (parseMethodDescriptor yX10_layerOf.desc).map (fun d => d.parameters.length) = some 3 := ⟨rfl, by decide +kernel, by decide +kernel, by decide +kernel⟩
noncomputable def k_X10_layerOf_0 (κ : gb_K) : gb_C := (o_al 0 (o_gf 10 0 (o_ci 66 (o_ci 18 (o_il 1 (o_ib (fun x y => x * y) (o_ib (fun x y => x + y) (o_ci 3 (o_il 2 (o_ib (fun x y => x * y) (o_ib (fun x y => x + y) (o_il 3 (o_ib (fun x y => x + y) (o_iald o_ri))))))))))))))
theorem l_X10_layerOf_0 : gb_Li (fun κ => k_X10_layerOf_0 κ) := (gb_li (q_al 0) (gb_li (q_gf 10 0) (gb_li (q_ci 66) (gb_li (q_ci 18) (gb_li (q_il 1) (gb_li (q_ib _) (gb_li (q_ib _) (gb_li (q_ci 3) (gb_li (q_il 2) (gb_li (q_ib _) (gb_li (q_ib _) (gb_li (q_il 3) (gb_li (q_ib _) (gb_li q_iald (gb_li0 _)))))))))))))))
theorem s_X10_layerOf_0   {κ : gb_K} (hκ : ∀ q, gb_S RX10 cX10_layerOf 4 (gb_rm 0 0) 1 q (κ q)) : gb_S RX10 cX10_layerOf 4 (gb_rm 0 0) 1 0 (k_X10_layerOf_0 κ) := (s_aln 0 rfl dX10_layerOf_0 (s_gf (T := TX10) winX10 rfl (Nat.le_of_ble_eq_true rfl) gw_545 rfl dX10_layerOf_1 (s_bipush (by decide +kernel) dX10_layerOf_4 (s_bipush (by decide +kernel) dX10_layerOf_6 (s_iln 1 rfl dX10_layerOf_8 (s_imul dX10_layerOf_9 (s_iadd dX10_layerOf_10 (s_iconst (by decide +kernel) dX10_layerOf_11 (s_iln 2 rfl dX10_layerOf_12 (s_imul dX10_layerOf_13 (s_iadd dX10_layerOf_14 (s_iln 3 rfl dX10_layerOf_15 (s_iadd dX10_layerOf_16 (s_iald dX10_layerOf_17 (s_ri rfl dX10_layerOf_18)))))))))))))))
noncomputable def f_X10_layerOf : gb_F := gb_hide (gb_mf 4 (k_X10_layerOf_0 gb_n))
theorem c_X10_layerOf : ∀ l, gb_Met l yX10_layerOf cX10_layerOf 4 (some .int) 1 (gb_rm 0 0) f_X10_layerOf := gb_hide_c (gb_met (own := RX10) (rk := 1) rfl (by decide +kernel) ⟨rfl, rfl⟩ (s_X10_layerOf_0 gb_S_n))
theorem dX10_sets_0 : decode cX10_sets 0 = .ok (.bipush 66, 2) := by decide +kernel
theorem dX10_sets_2 : decode cX10_sets 2 = .ok (.bipush 18, 2) := by decide +kernel
theorem dX10_sets_4 : decode cX10_sets 4 = .ok (.iload_n 1, 1) := by decide +kernel
theorem dX10_sets_5 : decode cX10_sets 5 = .ok (.imul, 1) := by decide +kernel
theorem dX10_sets_6 : decode cX10_sets 6 = .ok (.iadd, 1) := by decide +kernel
theorem dX10_sets_7 : decode cX10_sets 7 = .ok (.iconst 3, 1) := by decide +kernel
theorem dX10_sets_8 : decode cX10_sets 8 = .ok (.iload_n 2, 1) := by decide +kernel
theorem dX10_sets_9 : decode cX10_sets 9 = .ok (.imul, 1) := by decide +kernel
theorem dX10_sets_10 : decode cX10_sets 10 = .ok (.iadd, 1) := by decide +kernel
theorem dX10_sets_11 : decode cX10_sets 11 = .ok (.istore 6, 2) := by decide +kernel
theorem dX10_sets_13 : decode cX10_sets 13 = .ok (.aload_n 0, 1) := by decide +kernel
theorem dX10_sets_14 : decode cX10_sets 14 = .ok (.getfield 7, 3) := by decide +kernel
theorem dX10_sets_17 : decode cX10_sets 17 = .ok (.iload 6, 2) := by decide +kernel
theorem dX10_sets_19 : decode cX10_sets 19 = .ok (.iload_n 3, 1) := by decide +kernel
theorem dX10_sets_20 : decode cX10_sets 20 = .ok (.iastore, 1) := by decide +kernel
theorem dX10_sets_21 : decode cX10_sets 21 = .ok (.aload_n 0, 1) := by decide +kernel
theorem dX10_sets_22 : decode cX10_sets 22 = .ok (.getfield 7, 3) := by decide +kernel
theorem dX10_sets_25 : decode cX10_sets 25 = .ok (.iload 6, 2) := by decide +kernel
theorem dX10_sets_27 : decode cX10_sets 27 = .ok (.iconst 1, 1) := by decide +kernel
theorem dX10_sets_28 : decode cX10_sets 28 = .ok (.iadd, 1) := by decide +kernel
theorem dX10_sets_29 : decode cX10_sets 29 = .ok (.iload 4, 2) := by decide +kernel
theorem dX10_sets_31 : decode cX10_sets 31 = .ok (.iastore, 1) := by decide +kernel
theorem dX10_sets_32 : decode cX10_sets 32 = .ok (.aload_n 0, 1) := by decide +kernel
theorem dX10_sets_33 : decode cX10_sets 33 = .ok (.getfield 7, 3) := by decide +kernel
theorem dX10_sets_36 : decode cX10_sets 36 = .ok (.iload 6, 2) := by decide +kernel
theorem dX10_sets_38 : decode cX10_sets 38 = .ok (.iconst 2, 1) := by decide +kernel
theorem dX10_sets_39 : decode cX10_sets 39 = .ok (.iadd, 1) := by decide +kernel
theorem dX10_sets_40 : decode cX10_sets 40 = .ok (.iload 5, 2) := by decide +kernel
theorem dX10_sets_42 : decode cX10_sets 42 = .ok (.iastore, 1) := by decide +kernel
theorem dX10_sets_43 : decode cX10_sets 43 = .ok (.return_, 1) := by decide +kernel
theorem v_X10_sets : yX10_sets.cls = RX10 ∧ yX10_sets.cls ≠ "java/lang/invoke/MethodHandle" ∧ yX10_sets.cls ≠ "java/lang/invoke/VarHandle" ∧ (parseMethodDescriptor yX10_sets.desc).map (fun d => d.parameters.length) = some 5 := ⟨rfl, by decide +kernel, by decide +kernel, by decide +kernel⟩
noncomputable def k_X10_sets_0 (κ : gb_K) : gb_C := (o_ci 66 (o_ci 18 (o_il 1 (o_ib (fun x y => x * y) (o_ib (fun x y => x + y) (o_ci 3 (o_il 2 (o_ib (fun x y => x * y) (o_ib (fun x y => x + y) (o_is 6 (o_al 0 (o_gf 10 0 (o_il 6 (o_il 3 (o_iast (o_al 0 (o_gf 10 0 (o_il 6 (o_ci 1 (o_ib (fun x y => x + y) (o_il 4 (o_iast (o_al 0 (o_gf 10 0 (o_il 6 (o_ci 2 (o_ib (fun x y => x + y) (o_il 5 (o_iast o_rv)))))))))))))))))))))))))))))
theorem l_X10_sets_0 : gb_Li (fun κ => k_X10_sets_0 κ) := (gb_li (q_ci 66) (gb_li (q_ci 18) (gb_li (q_il 1) (gb_li (q_ib _) (gb_li (q_ib _) (gb_li (q_ci 3) (gb_li (q_il 2) (gb_li (q_ib _) (gb_li (q_ib _) (gb_li (q_is 6) (gb_li (q_al 0) (gb_li (q_gf 10 0) (gb_li (q_il 6) (gb_li (q_il 3) (gb_li q_iast (gb_li (q_al 0) (gb_li (q_gf 10 0) (gb_li (q_il 6) (gb_li (q_ci 1) (gb_li (q_ib _) (gb_li (q_il 4) (gb_li q_iast (gb_li (q_al 0) (gb_li (q_gf 10 0) (gb_li (q_il 6) (gb_li (q_ci 2) (gb_li (q_ib _) (gb_li (q_il 5) (gb_li q_iast (gb_li0 _))))))))))))))))))))))))))))))
theorem s_X10_sets_0   {κ : gb_K} (hκ : ∀ q, gb_S RX10 cX10_sets 7 (gb_rm 0 0) 0 q (κ q)) : gb_S RX10 cX10_sets 7 (gb_rm 0 0) 0 0 (k_X10_sets_0 κ) := (s_bipush (by decide +kernel) dX10_sets_0 (s_bipush (by decide +kernel) dX10_sets_2 (s_iln 1 rfl dX10_sets_4 (s_imul dX10_sets_5 (s_iadd dX10_sets_6 (s_iconst (by decide +kernel) dX10_sets_7 (s_iln 2 rfl dX10_sets_8 (s_imul dX10_sets_9 (s_iadd dX10_sets_10 (s_is (Nat.le_of_ble_eq_true rfl) dX10_sets_11 (s_aln 0 rfl dX10_sets_13 (s_gf (T := TX10) winX10 rfl (Nat.le_of_ble_eq_true rfl) gw_545 rfl dX10_sets_14 (s_il dX10_sets_17 (s_iln 3 rfl dX10_sets_19 (s_iast dX10_sets_20 (s_aln 0 rfl dX10_sets_21 (s_gf (T := TX10) winX10 rfl (Nat.le_of_ble_eq_true rfl) gw_545 rfl dX10_sets_22 (s_il dX10_sets_25 (s_iconst (by decide +kernel) dX10_sets_27 (s_iadd dX10_sets_28 (s_il dX10_sets_29 (s_iast dX10_sets_31 (s_aln 0 rfl dX10_sets_32 (s_gf (T := TX10) winX10 rfl (Nat.le_of_ble_eq_true rfl) gw_545 rfl dX10_sets_33 (s_il dX10_sets_36 (s_iconst (by decide +kernel) dX10_sets_38 (s_iadd dX10_sets_39 (s_il dX10_sets_40 (s_iast dX10_sets_42 (s_rv rfl dX10_sets_43))))))))))))))))))))))))))))))
noncomputable def f_X10_sets : gb_F := gb_hide (gb_mf 7 (k_X10_sets_0 gb_n))
theorem c_X10_sets : ∀ l, gb_Met l yX10_sets cX10_sets 7 none 0 (gb_rm 0 0) f_X10_sets := gb_hide_c (gb_met (own := RX10) (rk := 0) rfl (by decide +kernel) ⟨rfl, rfl⟩ (s_X10_sets_0 gb_S_n))
theorem dX10_many_0 : decode cX10_many 0 = .ok (.aload_n 0, 1) := by decide +kernel
theorem dX10_many_1 : decode cX10_many 1 = .ok (.getfield 7, 3) := by decide +kernel
theorem dX10_many_4 : decode cX10_many 4 = .ok (.bipush 60, 2) := by decide +kernel
theorem dX10_many_6 : decode cX10_many 6 = .ok (.iload_n 1, 1) := by decide +kernel
theorem dX10_many_7 : decode cX10_many 7 = .ok (.iadd, 1) := by decide +kernel
theorem dX10_many_8 : decode cX10_many 8 = .ok (.iaload, 1) := by decide +kernel
theorem dX10_many_9 : decode cX10_many 9 = .ok (.ireturn, 1) := by decide +kernel
theorem v_X10_many : yX10_many.cls = RX10 ∧ yX10_many.cls ≠ "java/lang/invoke/MethodHandle" ∧ yX10_many.cls ≠ "java/lang/invoke/VarHandle" ∧ (parseMethodDescriptor yX10_many.desc).map (fun d => d.parameters.length) = some 1 := ⟨rfl, by decide +kernel, by decide +kernel, by decide +kernel⟩
noncomputable def k_X10_many_0 (κ : gb_K) : gb_C := (o_al 0 (o_gf 10 0 (o_ci 60 (o_il 1 (o_ib (fun x y => x + y) (o_iald o_ri))))))
theorem l_X10_many_0 : gb_Li (fun κ => k_X10_many_0 κ) := (gb_li (q_al 0) (gb_li (q_gf 10 0) (gb_li (q_ci 60) (gb_li (q_il 1) (gb_li (q_ib _) (gb_li q_iald (gb_li0 _)))))))
theorem s_X10_many_0   {κ : gb_K} (hκ : ∀ q, gb_S RX10 cX10_many 2 (gb_rm 0 0) 1 q (κ q)) : gb_S RX10 cX10_many 2 (gb_rm 0 0) 1 0 (k_X10_many_0 κ) := (s_aln 0 rfl dX10_many_0 (s_gf (T := TX10) winX10 rfl (Nat.le_of_ble_eq_true rfl) gw_545 rfl dX10_many_1 (s_bipush (by decide +kernel) dX10_many_4 (s_iln 1 rfl dX10_many_6 (s_iadd dX10_many_7 (s_iald dX10_many_8 (s_ri rfl dX10_many_9)))))))
noncomputable def f_X10_many : gb_F := gb_hide (gb_mf 2 (k_X10_many_0 gb_n))
theorem c_X10_many : ∀ l, gb_Met l yX10_many cX10_many 2 (some .int) 1 (gb_rm 0 0) f_X10_many := gb_hide_c (gb_met (own := RX10) (rk := 1) rfl (by decide +kernel) ⟨rfl, rfl⟩ (s_X10_many_0 gb_S_n))
theorem dX10_tonsIn_0 : decode cX10_tonsIn 0 = .ok (.iconst 0, 1) := by decide +kernel
theorem dX10_tonsIn_1 : decode cX10_tonsIn 1 = .ok (.istore_n 2, 1) := by decide +kernel
theorem dX10_tonsIn_2 : decode cX10_tonsIn 2 = .ok (.iconst 0, 1) := by decide +kernel
theorem dX10_tonsIn_3 : decode cX10_tonsIn 3 = .ok (.istore_n 3, 1) := by decide +kernel
theorem dX10_tonsIn_4 : decode cX10_tonsIn 4 = .ok (.iload_n 3, 1) := by decide +kernel
theorem dX10_tonsIn_5 : decode cX10_tonsIn 5 = .ok (.aload_n 0, 1) := by decide +kernel
theorem dX10_tonsIn_6 : decode cX10_tonsIn 6 = .ok (.iload_n 1, 1) := by decide +kernel
theorem dX10_tonsIn_7 : decode cX10_tonsIn 7 = .ok (.invokevirtual 84, 3) := by decide +kernel
theorem dX10_tonsIn_10 : decode cX10_tonsIn 10 = .ok (.if_icmp .ge 19, 3) := by decide +kernel
theorem dX10_tonsIn_13 : decode cX10_tonsIn 13 = .ok (.iload_n 2, 1) := by decide +kernel
theorem dX10_tonsIn_14 : decode cX10_tonsIn 14 = .ok (.aload_n 0, 1) := by decide +kernel
theorem dX10_tonsIn_15 : decode cX10_tonsIn 15 = .ok (.iload_n 1, 1) := by decide +kernel
theorem dX10_tonsIn_16 : decode cX10_tonsIn 16 = .ok (.iload_n 3, 1) := by decide +kernel
theorem dX10_tonsIn_17 : decode cX10_tonsIn 17 = .ok (.iconst 1, 1) := by decide +kernel
theorem dX10_tonsIn_18 : decode cX10_tonsIn 18 = .ok (.invokevirtual 88, 3) := by decide +kernel
theorem dX10_tonsIn_21 : decode cX10_tonsIn 21 = .ok (.iadd, 1) := by decide +kernel
theorem dX10_tonsIn_22 : decode cX10_tonsIn 22 = .ok (.istore_n 2, 1) := by decide +kernel
theorem dX10_tonsIn_23 : decode cX10_tonsIn 23 = .ok (.iinc 3 1, 3) := by decide +kernel
theorem dX10_tonsIn_26 : decode cX10_tonsIn 26 = .ok (.goto (-22), 3) := by decide +kernel
theorem dX10_tonsIn_29 : decode cX10_tonsIn 29 = .ok (.iload_n 2, 1) := by decide +kernel
theorem dX10_tonsIn_30 : decode cX10_tonsIn 30 = .ok (.ireturn, 1) := by decide +kernel
theorem v_X10_tonsIn : yX10_tonsIn.cls = RX10 ∧ yX10_tonsIn.cls ≠ "java/lang/invoke/MethodHandle" ∧ yX10_tonsIn.cls ≠ "java/lang/invoke/VarHandle" ∧ (parseMethodDescriptor yX10_tonsIn.desc).map (fun d => d.parameters.length) = some 1 := ⟨rfl, by decide +kernel, by decide +kernel, by decide +kernel⟩
noncomputable def k_X10_tonsIn_0 (κ : gb_K) : gb_C := (o_ci 0 (o_is 2 (o_ci 0 (o_is 3 (o_j [0, 1, 2, 3] (κ 4))))))
theorem l_X10_tonsIn_0 : gb_Li (fun κ => k_X10_tonsIn_0 κ) := (gb_li (q_ci 0) (gb_li (q_is 2) (gb_li (q_ci 0) (gb_li (q_is 3) (q_j [0, 1, 2, 3] 4)))))
theorem s_X10_tonsIn_0   {κ : gb_K} (hκ : ∀ q, gb_S RX10 cX10_tonsIn 4 (gb_rm 1 23) 1 q (κ q)) : gb_S RX10 cX10_tonsIn 4 (gb_rm 1 23) 1 0 (k_X10_tonsIn_0 κ) := (s_iconst (by decide +kernel) dX10_tonsIn_0 (s_isn 2 rfl (Nat.le_of_ble_eq_true rfl) dX10_tonsIn_1 (s_iconst (by decide +kernel) dX10_tonsIn_2 (s_isn 3 rfl (Nat.le_of_ble_eq_true rfl) dX10_tonsIn_3 (s_j (hκ 4))))))
noncomputable def k_X10_tonsIn_4 (κ : gb_K) : gb_C := (o_il 3 (o_al 0 (o_il 1 (o_cv 1 10 1 f_X10_many (o_cge (o_il 2 o_ri) (o_il 2 (o_al 0 (o_il 1 (o_il 3 (o_ci 1 (o_cv 3 10 1 f_X10_layerOf (o_ib (fun x y => x + y) (o_is 2 (o_inc 3 1 (o_j [0, 1, 2, 3] (κ 4))))))))))))))))
theorem l_X10_tonsIn_4 : gb_Li (fun κ => k_X10_tonsIn_4 κ) := (gb_li (q_il 3) (gb_li (q_al 0) (gb_li (q_il 1) (gb_li (q_cv 1 10 1 f_X10_many) (q_cge (gb_li (q_il 2) (gb_li0 _)) (gb_li (q_il 2) (gb_li (q_al 0) (gb_li (q_il 1) (gb_li (q_il 3) (gb_li (q_ci 1) (gb_li (q_cv 3 10 1 f_X10_layerOf) (gb_li (q_ib _) (gb_li (q_is 2) (gb_li (q_inc 3 1) (q_j [0, 1, 2, 3] 4)))))))))))))))
theorem s_X10_tonsIn_4   {κ : gb_K} (hκ : ∀ q, gb_S RX10 cX10_tonsIn 4 (gb_rm 1 23) 1 q (κ q)) : gb_S RX10 cX10_tonsIn 4 (gb_rm 1 23) 1 4 (k_X10_tonsIn_4 κ) := (s_iln 3 rfl dX10_tonsIn_4 (s_aln 0 rfl dX10_tonsIn_5 (s_iln 1 rfl dX10_tonsIn_6 (s_cv (C := RX10) c_X10_many rfl (gb_l5 gw_557 gw_558 gw_559 gw_553 gw_560) v_X10_many ⟨rfl, rfl⟩ ⟨Nat.le_of_ble_eq_true rfl, Nat.le_of_ble_eq_true rfl⟩ dX10_tonsIn_7 (s_cge (tgt := 29) (by decide +kernel) dX10_tonsIn_10 (s_iln 2 rfl dX10_tonsIn_29 (s_ri rfl dX10_tonsIn_30)) (s_iln 2 rfl dX10_tonsIn_13 (s_aln 0 rfl dX10_tonsIn_14 (s_iln 1 rfl dX10_tonsIn_15 (s_iln 3 rfl dX10_tonsIn_16 (s_iconst (by decide +kernel) dX10_tonsIn_17 (s_cv (C := RX10) c_X10_layerOf rfl (gb_l5 gw_561 gw_562 gw_563 gw_553 gw_564) v_X10_layerOf ⟨rfl, rfl⟩ ⟨Nat.le_of_ble_eq_true rfl, Nat.le_of_ble_eq_true rfl⟩ dX10_tonsIn_18 (s_iadd dX10_tonsIn_21 (s_isn 2 rfl (Nat.le_of_ble_eq_true rfl) dX10_tonsIn_22 (s_inc (by decide +kernel) (Nat.le_of_ble_eq_true rfl) dX10_tonsIn_23 (s_goto (tgt := 4) (by decide +kernel) dX10_tonsIn_26 (s_j (hκ 4)))))))))))))))))
noncomputable def B_X10_tonsIn : List (Nat × (gb_K → gb_C)) := [(4, fun κ => k_X10_tonsIn_4 κ)]
noncomputable def K_X10_tonsIn : gb_K := gb_fx (gb_tb (B_X10_tonsIn))
theorem L_X10_tonsIn : ∀ q, gb_Li (fun κ => gb_tb (B_X10_tonsIn) κ q) := gb_tb_li (List.forall_mem_cons.mpr ⟨l_X10_tonsIn_4, (fun _ h => absurd h List.not_mem_nil)⟩)
theorem S_X10_tonsIn   : ∀ q, gb_S RX10 cX10_tonsIn 4 (gb_rm 1 23) 1 q (K_X10_tonsIn q) := fun q => gb_fx_S (L_X10_tonsIn) (gb_tb_S (List.forall_mem_cons.mpr ⟨fun κ hκ => s_X10_tonsIn_4 hκ, (fun _ h => absurd h List.not_mem_nil)⟩)) q
noncomputable def f_X10_tonsIn : gb_F := gb_hide (gb_mf 4 (k_X10_tonsIn_0 (K_X10_tonsIn)))
theorem c_X10_tonsIn : ∀ l, gb_Met l yX10_tonsIn cX10_tonsIn 4 (some .int) 1 (gb_rm 1 23) f_X10_tonsIn := gb_hide_c (gb_met (own := RX10) (rk := 1) rfl (by decide +kernel) ⟨rfl, rfl⟩ (s_X10_tonsIn_0 (S_X10_tonsIn)))
