/-! CODE: printed by wip/p44/gen.py -/
theorem dX7_tonsUnder_0 : decode cX7_tonsUnder 0 = .ok (.iconst 0, 1) := by decide +kernel
theorem dX7_tonsUnder_1 : decode cX7_tonsUnder 1 = .ok (.istore_n 3, 1) := by decide +kernel
theorem dX7_tonsUnder_2 : decode cX7_tonsUnder 2 = .ok (.iconst 0, 1) := by decide +kernel
theorem dX7_tonsUnder_3 : decode cX7_tonsUnder 3 = .ok (.istore 4, 2) := by decide +kernel
theorem dX7_tonsUnder_5 : decode cX7_tonsUnder 5 = .ok (.iload 4, 2) := by decide +kernel
theorem dX7_tonsUnder_7 : decode cX7_tonsUnder 7 = .ok (.iload_n 2, 1) := by decide +kernel
theorem dX7_tonsUnder_8 : decode cX7_tonsUnder 8 = .ok (.if_icmp .ge 34, 3) := by decide +kernel
theorem dX7_tonsUnder_11 : decode cX7_tonsUnder 11 = .ok (.iload 4, 2) := by decide +kernel
theorem dX7_tonsUnder_13 : decode cX7_tonsUnder 13 = .ok (.aload_n 0, 1) := by decide +kernel
theorem dX7_tonsUnder_14 : decode cX7_tonsUnder 14 = .ok (.getfield 18, 3) := by decide +kernel
theorem dX7_tonsUnder_17 : decode cX7_tonsUnder 17 = .ok (.iload_n 1, 1) := by decide +kernel
theorem dX7_tonsUnder_18 : decode cX7_tonsUnder 18 = .ok (.iaload, 1) := by decide +kernel
theorem dX7_tonsUnder_19 : decode cX7_tonsUnder 19 = .ok (.if_icmp .ge 23, 3) := by decide +kernel
theorem dX7_tonsUnder_22 : decode cX7_tonsUnder 22 = .ok (.iload_n 3, 1) := by decide +kernel
theorem dX7_tonsUnder_23 : decode cX7_tonsUnder 23 = .ok (.aload_n 0, 1) := by decide +kernel
theorem dX7_tonsUnder_24 : decode cX7_tonsUnder 24 = .ok (.getfield 27, 3) := by decide +kernel
theorem dX7_tonsUnder_27 : decode cX7_tonsUnder 27 = .ok (.iload_n 1, 1) := by decide +kernel
theorem dX7_tonsUnder_28 : decode cX7_tonsUnder 28 = .ok (.iload 4, 2) := by decide +kernel
theorem dX7_tonsUnder_30 : decode cX7_tonsUnder 30 = .ok (.invokestatic 51, 3) := by decide +kernel
theorem dX7_tonsUnder_33 : decode cX7_tonsUnder 33 = .ok (.iaload, 1) := by decide +kernel
theorem dX7_tonsUnder_34 : decode cX7_tonsUnder 34 = .ok (.iadd, 1) := by decide +kernel
theorem dX7_tonsUnder_35 : decode cX7_tonsUnder 35 = .ok (.istore_n 3, 1) := by decide +kernel
theorem dX7_tonsUnder_36 : decode cX7_tonsUnder 36 = .ok (.iinc 4 1, 3) := by decide +kernel
theorem dX7_tonsUnder_39 : decode cX7_tonsUnder 39 = .ok (.goto (-34), 3) := by decide +kernel
theorem dX7_tonsUnder_42 : decode cX7_tonsUnder 42 = .ok (.iload_n 3, 1) := by decide +kernel
theorem dX7_tonsUnder_43 : decode cX7_tonsUnder 43 = .ok (.ireturn, 1) := by decide +kernel
theorem v_X7_tonsUnder : yX7_tonsUnder.cls = RX7 ∧ yX7_tonsUnder.cls ≠ "java/lang/invoke/MethodHandle" ∧ yX7_tonsUnder.cls ≠ "java/lang/invoke/VarHandle" ∧ (parseMethodDescriptor yX7_tonsUnder.desc).map (fun d => d.parameters.length) = some 2 := ⟨rfl, by decide +kernel, by decide +kernel, by decide +kernel⟩
noncomputable def k_X7_tonsUnder_0 (κ : gb_K) : gb_C := (o_ci 0 (o_is 3 (o_ci 0 (o_is 4 (o_j [0, 1, 2, 3, 4] (κ 5))))))
theorem l_X7_tonsUnder_0 : gb_Li (fun κ => k_X7_tonsUnder_0 κ) := (gb_li (q_ci 0) (gb_li (q_is 3) (gb_li (q_ci 0) (gb_li (q_is 4) (q_j [0, 1, 2, 3, 4] 5)))))
theorem s_X7_tonsUnder_0   {κ : gb_K} (hκ : ∀ q, gb_S RX7 cX7_tonsUnder 5 (gb_rm 1 21) 1 q (κ q)) : gb_S RX7 cX7_tonsUnder 5 (gb_rm 1 21) 1 0 (k_X7_tonsUnder_0 κ) := (s_iconst (by decide +kernel) dX7_tonsUnder_0 (s_isn 3 rfl (Nat.le_of_ble_eq_true rfl) dX7_tonsUnder_1 (s_iconst (by decide +kernel) dX7_tonsUnder_2 (s_is (Nat.le_of_ble_eq_true rfl) dX7_tonsUnder_3 (s_j (hκ 5))))))
noncomputable def k_X7_tonsUnder_42 (κ : gb_K) : gb_C := (o_il 3 o_ri)
theorem l_X7_tonsUnder_42 : gb_Li (fun κ => k_X7_tonsUnder_42 κ) := (gb_li (q_il 3) (gb_li0 _))
theorem s_X7_tonsUnder_42   {κ : gb_K} (hκ : ∀ q, gb_S RX7 cX7_tonsUnder 5 (gb_rm 1 21) 1 q (κ q)) : gb_S RX7 cX7_tonsUnder 5 (gb_rm 1 21) 1 42 (k_X7_tonsUnder_42 κ) := (s_iln 3 rfl dX7_tonsUnder_42 (s_ri rfl dX7_tonsUnder_43))
noncomputable def k_X7_tonsUnder_5 (κ : gb_K) : gb_C := (o_il 4 (o_il 2 (o_cge (k_X7_tonsUnder_42 κ) (o_il 4 (o_al 0 (o_gf 7 3 (o_il 1 (o_iald (o_cge (k_X7_tonsUnder_42 κ) (o_il 3 (o_al 0 (o_gf 7 6 (o_il 1 (o_il 4 (o_cs 2 1 f_X7_place (o_iald (o_ib (fun x y => x + y) (o_is 3 (o_inc 4 1 (o_j [0, 1, 2, 3, 4] (κ 5)))))))))))))))))))))
theorem l_X7_tonsUnder_5 : gb_Li (fun κ => k_X7_tonsUnder_5 κ) := (gb_li (q_il 4) (gb_li (q_il 2) (q_cge (l_X7_tonsUnder_42) (gb_li (q_il 4) (gb_li (q_al 0) (gb_li (q_gf 7 3) (gb_li (q_il 1) (gb_li q_iald (q_cge (l_X7_tonsUnder_42) (gb_li (q_il 3) (gb_li (q_al 0) (gb_li (q_gf 7 6) (gb_li (q_il 1) (gb_li (q_il 4) (gb_li (q_cs 2 1 f_X7_place) (gb_li q_iald (gb_li (q_ib _) (gb_li (q_is 3) (gb_li (q_inc 4 1) (q_j [0, 1, 2, 3, 4] 5))))))))))))))))))))
theorem s_X7_tonsUnder_5   {κ : gb_K} (hκ : ∀ q, gb_S RX7 cX7_tonsUnder 5 (gb_rm 1 21) 1 q (κ q)) : gb_S RX7 cX7_tonsUnder 5 (gb_rm 1 21) 1 5 (k_X7_tonsUnder_5 κ) := (s_il dX7_tonsUnder_5 (s_iln 2 rfl dX7_tonsUnder_7 (s_cge (tgt := 42) (by decide +kernel) dX7_tonsUnder_8 (s_X7_tonsUnder_42 hκ) (s_il dX7_tonsUnder_11 (s_aln 0 rfl dX7_tonsUnder_13 (s_gf (T := TX7) winX7 rfl (Nat.le_of_ble_eq_true rfl) gw_79 rfl dX7_tonsUnder_14 (s_iln 1 rfl dX7_tonsUnder_17 (s_iald dX7_tonsUnder_18 (s_cge (tgt := 42) (by decide +kernel) dX7_tonsUnder_19 (s_X7_tonsUnder_42 hκ) (s_iln 3 rfl dX7_tonsUnder_22 (s_aln 0 rfl dX7_tonsUnder_23 (s_gf (T := TX7) winX7 rfl (Nat.le_of_ble_eq_true rfl) gw_85 rfl dX7_tonsUnder_24 (s_iln 1 rfl dX7_tonsUnder_27 (s_il dX7_tonsUnder_28 (s_cs c_X7_place (gb_l4 gw_83 gw_23 gw_11 gw_24) v_X7_place.2 ⟨rfl, rfl⟩ ⟨Nat.le_of_ble_eq_true rfl, Nat.le_of_ble_eq_true rfl⟩ dX7_tonsUnder_30 (s_iald dX7_tonsUnder_33 (s_iadd dX7_tonsUnder_34 (s_isn 3 rfl (Nat.le_of_ble_eq_true rfl) dX7_tonsUnder_35 (s_inc (by decide +kernel) (Nat.le_of_ble_eq_true rfl) dX7_tonsUnder_36 (s_goto (tgt := 5) (by decide +kernel) dX7_tonsUnder_39 (s_j (hκ 5))))))))))))))))))))))
noncomputable def B_X7_tonsUnder : List (Nat × (gb_K → gb_C)) := [(5, fun κ => k_X7_tonsUnder_5 κ)]
noncomputable def K_X7_tonsUnder : gb_K := gb_fx (gb_tb (B_X7_tonsUnder))
theorem L_X7_tonsUnder : ∀ q, gb_Li (fun κ => gb_tb (B_X7_tonsUnder) κ q) := gb_tb_li (List.forall_mem_cons.mpr ⟨l_X7_tonsUnder_5, (fun _ h => absurd h List.not_mem_nil)⟩)
theorem S_X7_tonsUnder   : ∀ q, gb_S RX7 cX7_tonsUnder 5 (gb_rm 1 21) 1 q (K_X7_tonsUnder q) := fun q => gb_fx_S (L_X7_tonsUnder) (gb_tb_S (List.forall_mem_cons.mpr ⟨fun κ hκ => s_X7_tonsUnder_5 hκ, (fun _ h => absurd h List.not_mem_nil)⟩)) q
noncomputable def f_X7_tonsUnder : gb_F := gb_hide (gb_mf 5 (k_X7_tonsUnder_0 (K_X7_tonsUnder)))
theorem c_X7_tonsUnder : ∀ l, gb_Met l yX7_tonsUnder cX7_tonsUnder 5 (some .int) 1 (gb_rm 1 21) f_X7_tonsUnder := gb_hide_c (gb_met (own := RX7) (rk := 1) rfl (by decide +kernel) ⟨rfl, rfl⟩ (s_X7_tonsUnder_0 (S_X7_tonsUnder)))
theorem dX7_partBelow_0 : decode cX7_partBelow 0 = .ok (.aload_n 0, 1) := by decide +kernel
theorem dX7_partBelow_1 : decode cX7_partBelow 1 = .ok (.iload_n 1, 1) := by decide +kernel
theorem dX7_partBelow_2 : decode cX7_partBelow 2 = .ok (.iload_n 2, 1) := by decide +kernel
theorem dX7_partBelow_3 : decode cX7_partBelow 3 = .ok (.invokevirtual 78, 3) := by decide +kernel
theorem dX7_partBelow_6 : decode cX7_partBelow 6 = .ok (.istore 4, 2) := by decide +kernel
theorem dX7_partBelow_8 : decode cX7_partBelow 8 = .ok (.iconst 0, 1) := by decide +kernel
theorem dX7_partBelow_9 : decode cX7_partBelow 9 = .ok (.aload_n 0, 1) := by decide +kernel
theorem dX7_partBelow_10 : decode cX7_partBelow 10 = .ok (.getfield 27, 3) := by decide +kernel
theorem dX7_partBelow_13 : decode cX7_partBelow 13 = .ok (.iload_n 1, 1) := by decide +kernel
theorem dX7_partBelow_14 : decode cX7_partBelow 14 = .ok (.iload_n 2, 1) := by decide +kernel
theorem dX7_partBelow_15 : decode cX7_partBelow 15 = .ok (.invokestatic 51, 3) := by decide +kernel
theorem dX7_partBelow_18 : decode cX7_partBelow 18 = .ok (.iaload, 1) := by decide +kernel
theorem dX7_partBelow_19 : decode cX7_partBelow 19 = .ok (.iload_n 3, 1) := by decide +kernel
theorem dX7_partBelow_20 : decode cX7_partBelow 20 = .ok (.iload 4, 2) := by decide +kernel
theorem dX7_partBelow_22 : decode cX7_partBelow 22 = .ok (.isub, 1) := by decide +kernel
theorem dX7_partBelow_23 : decode cX7_partBelow 23 = .ok (.invokestatic 81, 3) := by decide +kernel
theorem dX7_partBelow_26 : decode cX7_partBelow 26 = .ok (.invokestatic 86, 3) := by decide +kernel
theorem dX7_partBelow_29 : decode cX7_partBelow 29 = .ok (.ireturn, 1) := by decide +kernel
theorem v_X7_partBelow : yX7_partBelow.cls = RX7 ∧ yX7_partBelow.cls ≠ "java/lang/invoke/MethodHandle" ∧ yX7_partBelow.cls ≠ "java/lang/invoke/VarHandle" ∧ (parseMethodDescriptor yX7_partBelow.desc).map (fun d => d.parameters.length) = some 3 := ⟨rfl, by decide +kernel, by decide +kernel, by decide +kernel⟩
noncomputable def k_X7_partBelow_0 (κ : gb_K) : gb_C := (o_al 0 (o_il 1 (o_il 2 (o_cv 2 7 1 f_X7_tonsUnder (o_is 4 (o_ci 0 (o_al 0 (o_gf 7 6 (o_il 1 (o_il 2 (o_cs 2 1 f_X7_place (o_iald (o_il 3 (o_il 4 (o_ib (fun x y => x - y) (o_mmin (o_mmax o_ri)))))))))))))))))
theorem l_X7_partBelow_0 : gb_Li (fun κ => k_X7_partBelow_0 κ) := (gb_li (q_al 0) (gb_li (q_il 1) (gb_li (q_il 2) (gb_li (q_cv 2 7 1 f_X7_tonsUnder) (gb_li (q_is 4) (gb_li (q_ci 0) (gb_li (q_al 0) (gb_li (q_gf 7 6) (gb_li (q_il 1) (gb_li (q_il 2) (gb_li (q_cs 2 1 f_X7_place) (gb_li q_iald (gb_li (q_il 3) (gb_li (q_il 4) (gb_li (q_ib _) (gb_li q_mmin (gb_li q_mmax (gb_li0 _))))))))))))))))))
theorem s_X7_partBelow_0   {κ : gb_K} (hκ : ∀ q, gb_S RX7 cX7_partBelow 5 (gb_rm 2 45) 1 q (κ q)) : gb_S RX7 cX7_partBelow 5 (gb_rm 2 45) 1 0 (k_X7_partBelow_0 κ) := (s_aln 0 rfl dX7_partBelow_0 (s_iln 1 rfl dX7_partBelow_1 (s_iln 2 rfl dX7_partBelow_2 (s_cv (C := RX7) c_X7_tonsUnder rfl (gb_l5 gw_150 gw_151 gw_152 gw_11 gw_153) v_X7_tonsUnder ⟨rfl, rfl⟩ ⟨Nat.le_of_ble_eq_true rfl, Nat.le_of_ble_eq_true rfl⟩ dX7_partBelow_3 (s_is (Nat.le_of_ble_eq_true rfl) dX7_partBelow_6 (s_iconst (by decide +kernel) dX7_partBelow_8 (s_aln 0 rfl dX7_partBelow_9 (s_gf (T := TX7) winX7 rfl (Nat.le_of_ble_eq_true rfl) gw_85 rfl dX7_partBelow_10 (s_iln 1 rfl dX7_partBelow_13 (s_iln 2 rfl dX7_partBelow_14 (s_cs c_X7_place (gb_l4 gw_83 gw_23 gw_11 gw_24) v_X7_place.2 ⟨rfl, rfl⟩ ⟨Nat.le_of_ble_eq_true rfl, Nat.le_of_ble_eq_true rfl⟩ dX7_partBelow_15 (s_iald dX7_partBelow_18 (s_iln 3 rfl dX7_partBelow_19 (s_il dX7_partBelow_20 (s_isub dX7_partBelow_22 (s_mmin ⟨Nat.le_of_ble_eq_true rfl, Nat.le_of_ble_eq_true rfl⟩ (gb_l4 gw_154 gw_99 gw_17 gw_100) dX7_partBelow_23 (s_mmax ⟨Nat.le_of_ble_eq_true rfl, Nat.le_of_ble_eq_true rfl⟩ (gb_l4 gw_155 gw_16 gw_17 gw_18) dX7_partBelow_26 (s_ri rfl dX7_partBelow_29))))))))))))))))))
noncomputable def f_X7_partBelow : gb_F := gb_hide (gb_mf 5 (k_X7_partBelow_0 gb_n))
theorem c_X7_partBelow : ∀ l, gb_Met l yX7_partBelow cX7_partBelow 5 (some .int) 1 (gb_rm 2 45) f_X7_partBelow := gb_hide_c (gb_met (own := RX7) (rk := 1) rfl (by decide +kernel) ⟨rfl, rfl⟩ (s_X7_partBelow_0 gb_S_n))
theorem dX7_tonsBelow_0 : decode cX7_tonsBelow 0 = .ok (.iconst 0, 1) := by decide +kernel
theorem dX7_tonsBelow_1 : decode cX7_tonsBelow 1 = .ok (.istore 4, 2) := by decide +kernel
theorem dX7_tonsBelow_3 : decode cX7_tonsBelow 3 = .ok (.iconst 0, 1) := by decide +kernel
theorem dX7_tonsBelow_4 : decode cX7_tonsBelow 4 = .ok (.istore 5, 2) := by decide +kernel
theorem dX7_tonsBelow_6 : decode cX7_tonsBelow 6 = .ok (.iload 5, 2) := by decide +kernel
theorem dX7_tonsBelow_8 : decode cX7_tonsBelow 8 = .ok (.aload_n 0, 1) := by decide +kernel
theorem dX7_tonsBelow_9 : decode cX7_tonsBelow 9 = .ok (.getfield 18, 3) := by decide +kernel
theorem dX7_tonsBelow_12 : decode cX7_tonsBelow 12 = .ok (.iload_n 1, 1) := by decide +kernel
theorem dX7_tonsBelow_13 : decode cX7_tonsBelow 13 = .ok (.iaload, 1) := by decide +kernel
theorem dX7_tonsBelow_14 : decode cX7_tonsBelow 14 = .ok (.if_icmp .ge 37, 3) := by decide +kernel
theorem dX7_tonsBelow_17 : decode cX7_tonsBelow 17 = .ok (.aload_n 0, 1) := by decide +kernel
theorem dX7_tonsBelow_18 : decode cX7_tonsBelow 18 = .ok (.getfield 24, 3) := by decide +kernel
theorem dX7_tonsBelow_21 : decode cX7_tonsBelow 21 = .ok (.iload_n 1, 1) := by decide +kernel
theorem dX7_tonsBelow_22 : decode cX7_tonsBelow 22 = .ok (.iload 5, 2) := by decide +kernel
theorem dX7_tonsBelow_24 : decode cX7_tonsBelow 24 = .ok (.invokestatic 51, 3) := by decide +kernel
theorem dX7_tonsBelow_27 : decode cX7_tonsBelow 27 = .ok (.iaload, 1) := by decide +kernel
theorem dX7_tonsBelow_28 : decode cX7_tonsBelow 28 = .ok (.iload_n 3, 1) := by decide +kernel
theorem dX7_tonsBelow_29 : decode cX7_tonsBelow 29 = .ok (.if_icmp .ne 16, 3) := by decide +kernel
theorem dX7_tonsBelow_32 : decode cX7_tonsBelow 32 = .ok (.iload 4, 2) := by decide +kernel
theorem dX7_tonsBelow_34 : decode cX7_tonsBelow 34 = .ok (.aload_n 0, 1) := by decide +kernel
theorem dX7_tonsBelow_35 : decode cX7_tonsBelow 35 = .ok (.iload_n 1, 1) := by decide +kernel
theorem dX7_tonsBelow_36 : decode cX7_tonsBelow 36 = .ok (.iload 5, 2) := by decide +kernel
theorem dX7_tonsBelow_38 : decode cX7_tonsBelow 38 = .ok (.iload_n 2, 1) := by decide +kernel
theorem dX7_tonsBelow_39 : decode cX7_tonsBelow 39 = .ok (.invokevirtual 89, 3) := by decide +kernel
theorem dX7_tonsBelow_42 : decode cX7_tonsBelow 42 = .ok (.iadd, 1) := by decide +kernel
theorem dX7_tonsBelow_43 : decode cX7_tonsBelow 43 = .ok (.istore 4, 2) := by decide +kernel
theorem dX7_tonsBelow_45 : decode cX7_tonsBelow 45 = .ok (.iinc 5 1, 3) := by decide +kernel
theorem dX7_tonsBelow_48 : decode cX7_tonsBelow 48 = .ok (.goto (-42), 3) := by decide +kernel
theorem dX7_tonsBelow_51 : decode cX7_tonsBelow 51 = .ok (.iload 4, 2) := by decide +kernel
theorem dX7_tonsBelow_53 : decode cX7_tonsBelow 53 = .ok (.ireturn, 1) := by decide +kernel
theorem v_X7_tonsBelow : yX7_tonsBelow.cls = RX7 ∧ yX7_tonsBelow.cls ≠ "java/lang/invoke/MethodHandle" ∧ yX7_tonsBelow.cls ≠ "java/lang/invoke/VarHandle" ∧ (parseMethodDescriptor yX7_tonsBelow.desc).map (fun d => d.parameters.length) = some 3 := ⟨rfl, by decide +kernel, by decide +kernel, by decide +kernel⟩
noncomputable def k_X7_tonsBelow_0 (κ : gb_K) : gb_C := (o_ci 0 (o_is 4 (o_ci 0 (o_is 5 (o_j [0, 1, 2, 3, 4, 5] (κ 6))))))
theorem l_X7_tonsBelow_0 : gb_Li (fun κ => k_X7_tonsBelow_0 κ) := (gb_li (q_ci 0) (gb_li (q_is 4) (gb_li (q_ci 0) (gb_li (q_is 5) (q_j [0, 1, 2, 3, 4, 5] 6)))))
theorem s_X7_tonsBelow_0   {κ : gb_K} (hκ : ∀ q, gb_S RX7 cX7_tonsBelow 6 (gb_rm 3 69) 1 q (κ q)) : gb_S RX7 cX7_tonsBelow 6 (gb_rm 3 69) 1 0 (k_X7_tonsBelow_0 κ) := (s_iconst (by decide +kernel) dX7_tonsBelow_0 (s_is (Nat.le_of_ble_eq_true rfl) dX7_tonsBelow_1 (s_iconst (by decide +kernel) dX7_tonsBelow_3 (s_is (Nat.le_of_ble_eq_true rfl) dX7_tonsBelow_4 (s_j (hκ 6))))))
noncomputable def k_X7_tonsBelow_45 (κ : gb_K) : gb_C := (o_inc 5 1 (o_j [0, 1, 2, 3, 4, 5] (κ 6)))
theorem l_X7_tonsBelow_45 : gb_Li (fun κ => k_X7_tonsBelow_45 κ) := (gb_li (q_inc 5 1) (q_j [0, 1, 2, 3, 4, 5] 6))
theorem s_X7_tonsBelow_45   {κ : gb_K} (hκ : ∀ q, gb_S RX7 cX7_tonsBelow 6 (gb_rm 3 69) 1 q (κ q)) : gb_S RX7 cX7_tonsBelow 6 (gb_rm 3 69) 1 45 (k_X7_tonsBelow_45 κ) := (s_inc (by decide +kernel) (Nat.le_of_ble_eq_true rfl) dX7_tonsBelow_45 (s_goto (tgt := 6) (by decide +kernel) dX7_tonsBelow_48 (s_j (hκ 6))))
noncomputable def k_X7_tonsBelow_6 (κ : gb_K) : gb_C := (o_il 5 (o_al 0 (o_gf 7 3 (o_il 1 (o_iald (o_cge (o_il 4 o_ri) (o_al 0 (o_gf 7 5 (o_il 1 (o_il 5 (o_cs 2 1 f_X7_place (o_iald (o_il 3 (o_ceq (o_il 4 (o_al 0 (o_il 1 (o_il 5 (o_il 2 (o_cv 3 7 1 f_X7_partBelow (o_ib (fun x y => x + y) (o_is 4 (k_X7_tonsBelow_45 κ))))))))) (k_X7_tonsBelow_45 κ)))))))))))))))
theorem l_X7_tonsBelow_6 : gb_Li (fun κ => k_X7_tonsBelow_6 κ) := (gb_li (q_il 5) (gb_li (q_al 0) (gb_li (q_gf 7 3) (gb_li (q_il 1) (gb_li q_iald (q_cge (gb_li (q_il 4) (gb_li0 _)) (gb_li (q_al 0) (gb_li (q_gf 7 5) (gb_li (q_il 1) (gb_li (q_il 5) (gb_li (q_cs 2 1 f_X7_place) (gb_li q_iald (gb_li (q_il 3) (q_ceq (gb_li (q_il 4) (gb_li (q_al 0) (gb_li (q_il 1) (gb_li (q_il 5) (gb_li (q_il 2) (gb_li (q_cv 3 7 1 f_X7_partBelow) (gb_li (q_ib _) (gb_li (q_is 4) (l_X7_tonsBelow_45))))))))) (l_X7_tonsBelow_45)))))))))))))))
theorem s_X7_tonsBelow_6   {κ : gb_K} (hκ : ∀ q, gb_S RX7 cX7_tonsBelow 6 (gb_rm 3 69) 1 q (κ q)) : gb_S RX7 cX7_tonsBelow 6 (gb_rm 3 69) 1 6 (k_X7_tonsBelow_6 κ) := (s_il dX7_tonsBelow_6 (s_aln 0 rfl dX7_tonsBelow_8 (s_gf (T := TX7) winX7 rfl (Nat.le_of_ble_eq_true rfl) gw_79 rfl dX7_tonsBelow_9 (s_iln 1 rfl dX7_tonsBelow_12 (s_iald dX7_tonsBelow_13 (s_cge (tgt := 51) (by decide +kernel) dX7_tonsBelow_14 (s_il dX7_tonsBelow_51 (s_ri rfl dX7_tonsBelow_53)) (s_aln 0 rfl dX7_tonsBelow_17 (s_gf (T := TX7) winX7 rfl (Nat.le_of_ble_eq_true rfl) gw_84 rfl dX7_tonsBelow_18 (s_iln 1 rfl dX7_tonsBelow_21 (s_il dX7_tonsBelow_22 (s_cs c_X7_place (gb_l4 gw_83 gw_23 gw_11 gw_24) v_X7_place.2 ⟨rfl, rfl⟩ ⟨Nat.le_of_ble_eq_true rfl, Nat.le_of_ble_eq_true rfl⟩ dX7_tonsBelow_24 (s_iald dX7_tonsBelow_27 (s_iln 3 rfl dX7_tonsBelow_28 (s_cne (tgt := 45) (by decide +kernel) dX7_tonsBelow_29 (s_X7_tonsBelow_45 hκ) (s_il dX7_tonsBelow_32 (s_aln 0 rfl dX7_tonsBelow_34 (s_iln 1 rfl dX7_tonsBelow_35 (s_il dX7_tonsBelow_36 (s_iln 2 rfl dX7_tonsBelow_38 (s_cv (C := RX7) c_X7_partBelow rfl (gb_l5 gw_156 gw_157 gw_158 gw_11 gw_159) v_X7_partBelow ⟨rfl, rfl⟩ ⟨Nat.le_of_ble_eq_true rfl, Nat.le_of_ble_eq_true rfl⟩ dX7_tonsBelow_39 (s_iadd dX7_tonsBelow_42 (s_is (Nat.le_of_ble_eq_true rfl) dX7_tonsBelow_43 (s_X7_tonsBelow_45 hκ)))))))))))))))))))))))
noncomputable def B_X7_tonsBelow : List (Nat × (gb_K → gb_C)) := [(6, fun κ => k_X7_tonsBelow_6 κ)]
noncomputable def K_X7_tonsBelow : gb_K := gb_fx (gb_tb (B_X7_tonsBelow))
theorem L_X7_tonsBelow : ∀ q, gb_Li (fun κ => gb_tb (B_X7_tonsBelow) κ q) := gb_tb_li (List.forall_mem_cons.mpr ⟨l_X7_tonsBelow_6, (fun _ h => absurd h List.not_mem_nil)⟩)
theorem S_X7_tonsBelow   : ∀ q, gb_S RX7 cX7_tonsBelow 6 (gb_rm 3 69) 1 q (K_X7_tonsBelow q) := fun q => gb_fx_S (L_X7_tonsBelow) (gb_tb_S (List.forall_mem_cons.mpr ⟨fun κ hκ => s_X7_tonsBelow_6 hκ, (fun _ h => absurd h List.not_mem_nil)⟩)) q
noncomputable def f_X7_tonsBelow : gb_F := gb_hide (gb_mf 6 (k_X7_tonsBelow_0 (K_X7_tonsBelow)))
theorem c_X7_tonsBelow : ∀ l, gb_Met l yX7_tonsBelow cX7_tonsBelow 6 (some .int) 1 (gb_rm 3 69) f_X7_tonsBelow := gb_hide_c (gb_met (own := RX7) (rk := 1) rfl (by decide +kernel) ⟨rfl, rfl⟩ (s_X7_tonsBelow_0 (S_X7_tonsBelow)))
theorem dX7_unit_0 : decode cX7_unit 0 = .ok (.aload_n 0, 1) := by decide +kernel
theorem dX7_unit_1 : decode cX7_unit 1 = .ok (.getfield 24, 3) := by decide +kernel
theorem dX7_unit_4 : decode cX7_unit 4 = .ok (.iload_n 1, 1) := by decide +kernel
theorem dX7_unit_5 : decode cX7_unit 5 = .ok (.iaload, 1) := by decide +kernel
theorem dX7_unit_6 : decode cX7_unit 6 = .ok (.istore_n 3, 1) := by decide +kernel
theorem dX7_unit_7 : decode cX7_unit 7 = .ok (.iconst 0, 1) := by decide +kernel
theorem dX7_unit_8 : decode cX7_unit 8 = .ok (.iload_n 2, 1) := by decide +kernel
theorem dX7_unit_9 : decode cX7_unit 9 = .ok (.aload_n 0, 1) := by decide +kernel
theorem dX7_unit_10 : decode cX7_unit 10 = .ok (.getfield 30, 3) := by decide +kernel
theorem dX7_unit_13 : decode cX7_unit 13 = .ok (.iload_n 1, 1) := by decide +kernel
theorem dX7_unit_14 : decode cX7_unit 14 = .ok (.iaload, 1) := by decide +kernel
theorem dX7_unit_15 : decode cX7_unit 15 = .ok (.isub, 1) := by decide +kernel
theorem dX7_unit_16 : decode cX7_unit 16 = .ok (.aload_n 0, 1) := by decide +kernel
theorem dX7_unit_17 : decode cX7_unit 17 = .ok (.getfield 36, 3) := by decide +kernel
theorem dX7_unit_20 : decode cX7_unit 20 = .ok (.getfield 115, 3) := by decide +kernel
theorem dX7_unit_23 : decode cX7_unit 23 = .ok (.iload_n 3, 1) := by decide +kernel
theorem dX7_unit_24 : decode cX7_unit 24 = .ok (.iaload, 1) := by decide +kernel
theorem dX7_unit_25 : decode cX7_unit 25 = .ok (.isub, 1) := by decide +kernel
theorem dX7_unit_26 : decode cX7_unit 26 = .ok (.invokestatic 86, 3) := by decide +kernel
theorem dX7_unit_29 : decode cX7_unit 29 = .ok (.istore 4, 2) := by decide +kernel
theorem dX7_unit_31 : decode cX7_unit 31 = .ok (.iconst 0, 1) := by decide +kernel
theorem dX7_unit_32 : decode cX7_unit 32 = .ok (.aload_n 0, 1) := by decide +kernel
theorem dX7_unit_33 : decode cX7_unit 33 = .ok (.getfield 9, 3) := by decide +kernel
theorem dX7_unit_36 : decode cX7_unit 36 = .ok (.iload_n 3, 1) := by decide +kernel
theorem dX7_unit_37 : decode cX7_unit 37 = .ok (.iaload, 1) := by decide +kernel
theorem dX7_unit_38 : decode cX7_unit 38 = .ok (.iload 4, 2) := by decide +kernel
theorem dX7_unit_40 : decode cX7_unit 40 = .ok (.isub, 1) := by decide +kernel
theorem dX7_unit_41 : decode cX7_unit 41 = .ok (.invokestatic 86, 3) := by decide +kernel
theorem dX7_unit_44 : decode cX7_unit 44 = .ok (.ireturn, 1) := by decide +kernel
theorem v_X7_unit : yX7_unit.cls = RX7 ∧ yX7_unit.cls ≠ "java/lang/invoke/MethodHandle" ∧ yX7_unit.cls ≠ "java/lang/invoke/VarHandle" ∧ (parseMethodDescriptor yX7_unit.desc).map (fun d => d.parameters.length) = some 2 := ⟨rfl, by decide +kernel, by decide +kernel, by decide +kernel⟩
noncomputable def k_X7_unit_0 (κ : gb_K) : gb_C := (o_al 0 (o_gf 7 5 (o_il 1 (o_iald (o_is 3 (o_ci 0 (o_il 2 (o_al 0 (o_gf 7 7 (o_il 1 (o_iald (o_ib (fun x y => x - y) (o_al 0 (o_gf 7 0 (o_gf 5 1 (o_il 3 (o_iald (o_ib (fun x y => x - y) (o_mmax (o_is 4 (o_ci 0 (o_al 0 (o_gf 7 1 (o_il 3 (o_iald (o_il 4 (o_ib (fun x y => x - y) (o_mmax o_ri))))))))))))))))))))))))))))
theorem l_X7_unit_0 : gb_Li (fun κ => k_X7_unit_0 κ) := (gb_li (q_al 0) (gb_li (q_gf 7 5) (gb_li (q_il 1) (gb_li q_iald (gb_li (q_is 3) (gb_li (q_ci 0) (gb_li (q_il 2) (gb_li (q_al 0) (gb_li (q_gf 7 7) (gb_li (q_il 1) (gb_li q_iald (gb_li (q_ib _) (gb_li (q_al 0) (gb_li (q_gf 7 0) (gb_li (q_gf 5 1) (gb_li (q_il 3) (gb_li q_iald (gb_li (q_ib _) (gb_li q_mmax (gb_li (q_is 4) (gb_li (q_ci 0) (gb_li (q_al 0) (gb_li (q_gf 7 1) (gb_li (q_il 3) (gb_li q_iald (gb_li (q_il 4) (gb_li (q_ib _) (gb_li q_mmax (gb_li0 _)))))))))))))))))))))))))))))
theorem s_X7_unit_0   {κ : gb_K} (hκ : ∀ q, gb_S RX7 cX7_unit 5 (gb_rm 1 21) 1 q (κ q)) : gb_S RX7 cX7_unit 5 (gb_rm 1 21) 1 0 (k_X7_unit_0 κ) := (s_aln 0 rfl dX7_unit_0 (s_gf (T := TX7) winX7 rfl (Nat.le_of_ble_eq_true rfl) gw_84 rfl dX7_unit_1 (s_iln 1 rfl dX7_unit_4 (s_iald dX7_unit_5 (s_isn 3 rfl (Nat.le_of_ble_eq_true rfl) dX7_unit_6 (s_iconst (by decide +kernel) dX7_unit_7 (s_iln 2 rfl dX7_unit_8 (s_aln 0 rfl dX7_unit_9 (s_gf (T := TX7) winX7 rfl (Nat.le_of_ble_eq_true rfl) gw_82 rfl dX7_unit_10 (s_iln 1 rfl dX7_unit_13 (s_iald dX7_unit_14 (s_isub dX7_unit_15 (s_aln 0 rfl dX7_unit_16 (s_gf (T := TX7) winX7 rfl (Nat.le_of_ble_eq_true rfl) gw_137 rfl dX7_unit_17 (s_gf (T := TX5) winX5 rfl (Nat.le_of_ble_eq_true rfl) gw_160 rfl dX7_unit_20 (s_iln 3 rfl dX7_unit_23 (s_iald dX7_unit_24 (s_isub dX7_unit_25 (s_mmax ⟨Nat.le_of_ble_eq_true rfl, Nat.le_of_ble_eq_true rfl⟩ (gb_l4 gw_155 gw_16 gw_17 gw_18) dX7_unit_26 (s_is (Nat.le_of_ble_eq_true rfl) dX7_unit_29 (s_iconst (by decide +kernel) dX7_unit_31 (s_aln 0 rfl dX7_unit_32 (s_gf (T := TX7) winX7 rfl (Nat.le_of_ble_eq_true rfl) gw_86 rfl dX7_unit_33 (s_iln 3 rfl dX7_unit_36 (s_iald dX7_unit_37 (s_il dX7_unit_38 (s_isub dX7_unit_40 (s_mmax ⟨Nat.le_of_ble_eq_true rfl, Nat.le_of_ble_eq_true rfl⟩ (gb_l4 gw_155 gw_16 gw_17 gw_18) dX7_unit_41 (s_ri rfl dX7_unit_44)))))))))))))))))))))))))))))
noncomputable def f_X7_unit : gb_F := gb_hide (gb_mf 5 (k_X7_unit_0 gb_n))
theorem c_X7_unit : ∀ l, gb_Met l yX7_unit cX7_unit 5 (some .int) 1 (gb_rm 1 21) f_X7_unit := gb_hide_c (gb_met (own := RX7) (rk := 1) rfl (by decide +kernel) ⟨rfl, rfl⟩ (s_X7_unit_0 gb_S_n))
theorem dX7_take_0 : decode cX7_take 0 = .ok (.iload_n 2, 1) := by decide +kernel
theorem dX7_take_1 : decode cX7_take 1 = .ok (.istore_n 3, 1) := by decide +kernel
theorem dX7_take_2 : decode cX7_take 2 = .ok (.iconst 0, 1) := by decide +kernel
theorem dX7_take_3 : decode cX7_take 3 = .ok (.istore 4, 2) := by decide +kernel
theorem dX7_take_5 : decode cX7_take 5 = .ok (.iconst 0, 1) := by decide +kernel
theorem dX7_take_6 : decode cX7_take 6 = .ok (.istore 5, 2) := by decide +kernel
theorem dX7_take_8 : decode cX7_take 8 = .ok (.iload 5, 2) := by decide +kernel
theorem dX7_take_10 : decode cX7_take 10 = .ok (.aload_n 0, 1) := by decide +kernel
theorem dX7_take_11 : decode cX7_take 11 = .ok (.getfield 18, 3) := by decide +kernel
theorem dX7_take_14 : decode cX7_take 14 = .ok (.iload_n 1, 1) := by decide +kernel
theorem dX7_take_15 : decode cX7_take 15 = .ok (.iaload, 1) := by decide +kernel
theorem dX7_take_16 : decode cX7_take 16 = .ok (.if_icmp .ge 136, 3) := by decide +kernel
theorem dX7_take_19 : decode cX7_take 19 = .ok (.iload_n 1, 1) := by decide +kernel
theorem dX7_take_20 : decode cX7_take 20 = .ok (.iload 5, 2) := by decide +kernel
theorem dX7_take_22 : decode cX7_take 22 = .ok (.invokestatic 51, 3) := by decide +kernel
theorem dX7_take_25 : decode cX7_take 25 = .ok (.istore 6, 2) := by decide +kernel
theorem dX7_take_27 : decode cX7_take 27 = .ok (.iload_n 3, 1) := by decide +kernel
theorem dX7_take_28 : decode cX7_take 28 = .ok (.aload_n 0, 1) := by decide +kernel
theorem dX7_take_29 : decode cX7_take 29 = .ok (.getfield 27, 3) := by decide +kernel
theorem dX7_take_32 : decode cX7_take 32 = .ok (.iload 6, 2) := by decide +kernel
theorem dX7_take_34 : decode cX7_take 34 = .ok (.iaload, 1) := by decide +kernel
theorem dX7_take_35 : decode cX7_take 35 = .ok (.invokestatic 81, 3) := by decide +kernel
theorem dX7_take_38 : decode cX7_take 38 = .ok (.istore 7, 2) := by decide +kernel
theorem dX7_take_40 : decode cX7_take 40 = .ok (.iload_n 3, 1) := by decide +kernel
theorem dX7_take_41 : decode cX7_take 41 = .ok (.iload 7, 2) := by decide +kernel
theorem dX7_take_43 : decode cX7_take 43 = .ok (.isub, 1) := by decide +kernel
theorem dX7_take_44 : decode cX7_take 44 = .ok (.istore_n 3, 1) := by decide +kernel
theorem dX7_take_45 : decode cX7_take 45 = .ok (.aload_n 0, 1) := by decide +kernel
theorem dX7_take_46 : decode cX7_take 46 = .ok (.getfield 21, 3) := by decide +kernel
theorem dX7_take_49 : decode cX7_take 49 = .ok (.iload_n 1, 1) := by decide +kernel
theorem dX7_take_50 : decode cX7_take 50 = .ok (.dup2, 1) := by decide +kernel
theorem dX7_take_51 : decode cX7_take 51 = .ok (.iaload, 1) := by decide +kernel
theorem dX7_take_52 : decode cX7_take 52 = .ok (.iload 7, 2) := by decide +kernel
theorem dX7_take_54 : decode cX7_take 54 = .ok (.isub, 1) := by decide +kernel
theorem dX7_take_55 : decode cX7_take 55 = .ok (.iastore, 1) := by decide +kernel
theorem dX7_take_56 : decode cX7_take 56 = .ok (.aload_n 0, 1) := by decide +kernel
theorem dX7_take_57 : decode cX7_take 57 = .ok (.getfield 33, 3) := by decide +kernel
theorem dX7_take_60 : decode cX7_take 60 = .ok (.iload_n 1, 1) := by decide +kernel
theorem dX7_take_61 : decode cX7_take 61 = .ok (.bipush 6, 2) := by decide +kernel
theorem dX7_take_63 : decode cX7_take 63 = .ok (.imul, 1) := by decide +kernel
theorem dX7_take_64 : decode cX7_take 64 = .ok (.aload_n 0, 1) := by decide +kernel
theorem dX7_take_65 : decode cX7_take 65 = .ok (.getfield 24, 3) := by decide +kernel
theorem dX7_take_68 : decode cX7_take 68 = .ok (.iload 6, 2) := by decide +kernel
theorem dX7_take_70 : decode cX7_take 70 = .ok (.iaload, 1) := by decide +kernel
theorem dX7_take_71 : decode cX7_take 71 = .ok (.iadd, 1) := by decide +kernel
theorem dX7_take_72 : decode cX7_take 72 = .ok (.dup2, 1) := by decide +kernel
theorem dX7_take_73 : decode cX7_take 73 = .ok (.iaload, 1) := by decide +kernel
theorem dX7_take_74 : decode cX7_take 74 = .ok (.iload 7, 2) := by decide +kernel
theorem dX7_take_76 : decode cX7_take 76 = .ok (.isub, 1) := by decide +kernel
theorem dX7_take_77 : decode cX7_take 77 = .ok (.iastore, 1) := by decide +kernel
theorem dX7_take_78 : decode cX7_take 78 = .ok (.iload 7, 2) := by decide +kernel
theorem dX7_take_80 : decode cX7_take 80 = .ok (.aload_n 0, 1) := by decide +kernel
theorem dX7_take_81 : decode cX7_take 81 = .ok (.getfield 27, 3) := by decide +kernel
theorem dX7_take_84 : decode cX7_take 84 = .ok (.iload 6, 2) := by decide +kernel
theorem dX7_take_86 : decode cX7_take 86 = .ok (.iaload, 1) := by decide +kernel
theorem dX7_take_87 : decode cX7_take 87 = .ok (.if_icmp .ge 59, 3) := by decide +kernel
theorem dX7_take_90 : decode cX7_take 90 = .ok (.iload_n 1, 1) := by decide +kernel
theorem dX7_take_91 : decode cX7_take 91 = .ok (.iload 4, 2) := by decide +kernel
theorem dX7_take_93 : decode cX7_take 93 = .ok (.invokestatic 51, 3) := by decide +kernel
theorem dX7_take_96 : decode cX7_take 96 = .ok (.istore 8, 2) := by decide +kernel
theorem dX7_take_98 : decode cX7_take 98 = .ok (.aload_n 0, 1) := by decide +kernel
theorem dX7_take_99 : decode cX7_take 99 = .ok (.getfield 27, 3) := by decide +kernel
theorem dX7_take_102 : decode cX7_take 102 = .ok (.iload 8, 2) := by decide +kernel
theorem dX7_take_104 : decode cX7_take 104 = .ok (.aload_n 0, 1) := by decide +kernel
theorem dX7_take_105 : decode cX7_take 105 = .ok (.getfield 27, 3) := by decide +kernel
theorem dX7_take_108 : decode cX7_take 108 = .ok (.iload 6, 2) := by decide +kernel
theorem dX7_take_110 : decode cX7_take 110 = .ok (.iaload, 1) := by decide +kernel
theorem dX7_take_111 : decode cX7_take 111 = .ok (.iload 7, 2) := by decide +kernel
theorem dX7_take_113 : decode cX7_take 113 = .ok (.isub, 1) := by decide +kernel
theorem dX7_take_114 : decode cX7_take 114 = .ok (.iastore, 1) := by decide +kernel
theorem dX7_take_115 : decode cX7_take 115 = .ok (.aload_n 0, 1) := by decide +kernel
theorem dX7_take_116 : decode cX7_take 116 = .ok (.getfield 24, 3) := by decide +kernel
theorem dX7_take_119 : decode cX7_take 119 = .ok (.iload 8, 2) := by decide +kernel
theorem dX7_take_121 : decode cX7_take 121 = .ok (.aload_n 0, 1) := by decide +kernel
theorem dX7_take_122 : decode cX7_take 122 = .ok (.getfield 24, 3) := by decide +kernel
theorem dX7_take_125 : decode cX7_take 125 = .ok (.iload 6, 2) := by decide +kernel
theorem dX7_take_127 : decode cX7_take 127 = .ok (.iaload, 1) := by decide +kernel
theorem dX7_take_128 : decode cX7_take 128 = .ok (.iastore, 1) := by decide +kernel
theorem dX7_take_129 : decode cX7_take 129 = .ok (.aload_n 0, 1) := by decide +kernel
theorem dX7_take_130 : decode cX7_take 130 = .ok (.getfield 30, 3) := by decide +kernel
theorem dX7_take_133 : decode cX7_take 133 = .ok (.iload 8, 2) := by decide +kernel
theorem dX7_take_135 : decode cX7_take 135 = .ok (.aload_n 0, 1) := by decide +kernel
theorem dX7_take_136 : decode cX7_take 136 = .ok (.getfield 30, 3) := by decide +kernel
theorem dX7_take_139 : decode cX7_take 139 = .ok (.iload 6, 2) := by decide +kernel
theorem dX7_take_141 : decode cX7_take 141 = .ok (.iaload, 1) := by decide +kernel
theorem dX7_take_142 : decode cX7_take 142 = .ok (.iastore, 1) := by decide +kernel
theorem dX7_take_143 : decode cX7_take 143 = .ok (.iinc 4 1, 3) := by decide +kernel
theorem dX7_take_146 : decode cX7_take 146 = .ok (.iinc 5 1, 3) := by decide +kernel
theorem dX7_take_149 : decode cX7_take 149 = .ok (.goto (-141), 3) := by decide +kernel
theorem dX7_take_152 : decode cX7_take 152 = .ok (.aload_n 0, 1) := by decide +kernel
theorem dX7_take_153 : decode cX7_take 153 = .ok (.getfield 18, 3) := by decide +kernel
theorem dX7_take_156 : decode cX7_take 156 = .ok (.iload_n 1, 1) := by decide +kernel
theorem dX7_take_157 : decode cX7_take 157 = .ok (.iload 4, 2) := by decide +kernel
theorem dX7_take_159 : decode cX7_take 159 = .ok (.iastore, 1) := by decide +kernel
theorem dX7_take_160 : decode cX7_take 160 = .ok (.return_, 1) := by decide +kernel
theorem v_X7_take : yX7_take.cls = RX7 ∧ yX7_take.cls ≠ "java/lang/invoke/MethodHandle" ∧ yX7_take.cls ≠ "java/lang/invoke/VarHandle" ∧ (parseMethodDescriptor yX7_take.desc).map (fun d => d.parameters.length) = some 2 := ⟨rfl, by decide +kernel, by decide +kernel, by decide +kernel⟩
noncomputable def k_X7_take_0 (κ : gb_K) : gb_C := (o_il 2 (o_is 3 (o_ci 0 (o_is 4 (o_ci 0 (o_is 5 (o_j [0, 1, 3, 4, 5] (κ 8))))))))
theorem l_X7_take_0 : gb_Li (fun κ => k_X7_take_0 κ) := (gb_li (q_il 2) (gb_li (q_is 3) (gb_li (q_ci 0) (gb_li (q_is 4) (gb_li (q_ci 0) (gb_li (q_is 5) (q_j [0, 1, 3, 4, 5] 8)))))))
theorem s_X7_take_0   {κ : gb_K} (hκ : ∀ q, gb_S RX7 cX7_take 9 (gb_rm 1 21) 0 q (κ q)) : gb_S RX7 cX7_take 9 (gb_rm 1 21) 0 0 (k_X7_take_0 κ) := (s_iln 2 rfl dX7_take_0 (s_isn 3 rfl (Nat.le_of_ble_eq_true rfl) dX7_take_1 (s_iconst (by decide +kernel) dX7_take_2 (s_is (Nat.le_of_ble_eq_true rfl) dX7_take_3 (s_iconst (by decide +kernel) dX7_take_5 (s_is (Nat.le_of_ble_eq_true rfl) dX7_take_6 (s_j (hκ 8))))))))
noncomputable def k_X7_take_146 (κ : gb_K) : gb_C := (o_inc 5 1 (o_j [0, 1, 3, 4, 5] (κ 8)))
theorem l_X7_take_146 : gb_Li (fun κ => k_X7_take_146 κ) := (gb_li (q_inc 5 1) (q_j [0, 1, 3, 4, 5] 8))
theorem s_X7_take_146   {κ : gb_K} (hκ : ∀ q, gb_S RX7 cX7_take 9 (gb_rm 1 21) 0 q (κ q)) : gb_S RX7 cX7_take 9 (gb_rm 1 21) 0 146 (k_X7_take_146 κ) := (s_inc (by decide +kernel) (Nat.le_of_ble_eq_true rfl) dX7_take_146 (s_goto (tgt := 8) (by decide +kernel) dX7_take_149 (s_j (hκ 8))))
noncomputable def k_X7_take_110 (κ : gb_K) : gb_C := (o_iald (o_il 7 (o_ib (fun x y => x - y) (o_iast (o_al 0 (o_gf 7 5 (o_il 8 (o_al 0 (o_gf 7 5 (o_il 6 (o_iald (o_iast (o_al 0 (o_gf 7 7 (o_il 8 (o_al 0 (o_gf 7 7 (o_il 6 (o_iald (o_iast (o_inc 4 1 (k_X7_take_146 κ))))))))))))))))))))))
theorem l_X7_take_110 : gb_Li (fun κ => k_X7_take_110 κ) := (gb_li q_iald (gb_li (q_il 7) (gb_li (q_ib _) (gb_li q_iast (gb_li (q_al 0) (gb_li (q_gf 7 5) (gb_li (q_il 8) (gb_li (q_al 0) (gb_li (q_gf 7 5) (gb_li (q_il 6) (gb_li q_iald (gb_li q_iast (gb_li (q_al 0) (gb_li (q_gf 7 7) (gb_li (q_il 8) (gb_li (q_al 0) (gb_li (q_gf 7 7) (gb_li (q_il 6) (gb_li q_iald (gb_li q_iast (gb_li (q_inc 4 1) (l_X7_take_146))))))))))))))))))))))
theorem s_X7_take_110   {κ : gb_K} (hκ : ∀ q, gb_S RX7 cX7_take 9 (gb_rm 1 21) 0 q (κ q)) : gb_S RX7 cX7_take 9 (gb_rm 1 21) 0 110 (k_X7_take_110 κ) := (s_iald dX7_take_110 (s_il dX7_take_111 (s_isub dX7_take_113 (s_iast dX7_take_114 (s_aln 0 rfl dX7_take_115 (s_gf (T := TX7) winX7 rfl (Nat.le_of_ble_eq_true rfl) gw_84 rfl dX7_take_116 (s_il dX7_take_119 (s_aln 0 rfl dX7_take_121 (s_gf (T := TX7) winX7 rfl (Nat.le_of_ble_eq_true rfl) gw_84 rfl dX7_take_122 (s_il dX7_take_125 (s_iald dX7_take_127 (s_iast dX7_take_128 (s_aln 0 rfl dX7_take_129 (s_gf (T := TX7) winX7 rfl (Nat.le_of_ble_eq_true rfl) gw_82 rfl dX7_take_130 (s_il dX7_take_133 (s_aln 0 rfl dX7_take_135 (s_gf (T := TX7) winX7 rfl (Nat.le_of_ble_eq_true rfl) gw_82 rfl dX7_take_136 (s_il dX7_take_139 (s_iald dX7_take_141 (s_iast dX7_take_142 (s_inc (by decide +kernel) (Nat.le_of_ble_eq_true rfl) dX7_take_143 (s_X7_take_146 hκ))))))))))))))))))))))
noncomputable def k_X7_take_57 (κ : gb_K) : gb_C := (o_gf 7 8 (o_il 1 (o_ci 6 (o_ib (fun x y => x * y) (o_al 0 (o_gf 7 5 (o_il 6 (o_iald (o_ib (fun x y => x + y) (o_dup2 (o_iald (o_il 7 (o_ib (fun x y => x - y) (o_iast (o_il 7 (o_al 0 (o_gf 7 6 (o_il 6 (o_iald (o_cge (k_X7_take_146 κ) (o_il 1 (o_il 4 (o_cs 2 1 f_X7_place (o_is 8 (o_al 0 (o_gf 7 6 (o_il 8 (o_al 0 (o_gf 7 6 (o_il 6 (k_X7_take_110 κ)))))))))))))))))))))))))))))))
theorem l_X7_take_57 : gb_Li (fun κ => k_X7_take_57 κ) := (gb_li (q_gf 7 8) (gb_li (q_il 1) (gb_li (q_ci 6) (gb_li (q_ib _) (gb_li (q_al 0) (gb_li (q_gf 7 5) (gb_li (q_il 6) (gb_li q_iald (gb_li (q_ib _) (gb_li q_dup2 (gb_li q_iald (gb_li (q_il 7) (gb_li (q_ib _) (gb_li q_iast (gb_li (q_il 7) (gb_li (q_al 0) (gb_li (q_gf 7 6) (gb_li (q_il 6) (gb_li q_iald (q_cge (l_X7_take_146) (gb_li (q_il 1) (gb_li (q_il 4) (gb_li (q_cs 2 1 f_X7_place) (gb_li (q_is 8) (gb_li (q_al 0) (gb_li (q_gf 7 6) (gb_li (q_il 8) (gb_li (q_al 0) (gb_li (q_gf 7 6) (gb_li (q_il 6) (l_X7_take_110)))))))))))))))))))))))))))))))
theorem s_X7_take_57   {κ : gb_K} (hκ : ∀ q, gb_S RX7 cX7_take 9 (gb_rm 1 21) 0 q (κ q)) : gb_S RX7 cX7_take 9 (gb_rm 1 21) 0 57 (k_X7_take_57 κ) := (s_gf (T := TX7) winX7 rfl (Nat.le_of_ble_eq_true rfl) gw_81 rfl dX7_take_57 (s_iln 1 rfl dX7_take_60 (s_bipush (by decide +kernel) dX7_take_61 (s_imul dX7_take_63 (s_aln 0 rfl dX7_take_64 (s_gf (T := TX7) winX7 rfl (Nat.le_of_ble_eq_true rfl) gw_84 rfl dX7_take_65 (s_il dX7_take_68 (s_iald dX7_take_70 (s_iadd dX7_take_71 (s_dup2 dX7_take_72 (s_iald dX7_take_73 (s_il dX7_take_74 (s_isub dX7_take_76 (s_iast dX7_take_77 (s_il dX7_take_78 (s_aln 0 rfl dX7_take_80 (s_gf (T := TX7) winX7 rfl (Nat.le_of_ble_eq_true rfl) gw_85 rfl dX7_take_81 (s_il dX7_take_84 (s_iald dX7_take_86 (s_cge (tgt := 146) (by decide +kernel) dX7_take_87 (s_X7_take_146 hκ) (s_iln 1 rfl dX7_take_90 (s_il dX7_take_91 (s_cs c_X7_place (gb_l4 gw_83 gw_23 gw_11 gw_24) v_X7_place.2 ⟨rfl, rfl⟩ ⟨Nat.le_of_ble_eq_true rfl, Nat.le_of_ble_eq_true rfl⟩ dX7_take_93 (s_is (Nat.le_of_ble_eq_true rfl) dX7_take_96 (s_aln 0 rfl dX7_take_98 (s_gf (T := TX7) winX7 rfl (Nat.le_of_ble_eq_true rfl) gw_85 rfl dX7_take_99 (s_il dX7_take_102 (s_aln 0 rfl dX7_take_104 (s_gf (T := TX7) winX7 rfl (Nat.le_of_ble_eq_true rfl) gw_85 rfl dX7_take_105 (s_il dX7_take_108 (s_X7_take_110 hκ)))))))))))))))))))))))))))))))
noncomputable def k_X7_take_8 (κ : gb_K) : gb_C := (o_il 5 (o_al 0 (o_gf 7 3 (o_il 1 (o_iald (o_cge (o_al 0 (o_gf 7 3 (o_il 1 (o_il 4 (o_iast o_rv))))) (o_il 1 (o_il 5 (o_cs 2 1 f_X7_place (o_is 6 (o_il 3 (o_al 0 (o_gf 7 6 (o_il 6 (o_iald (o_mmin (o_is 7 (o_il 3 (o_il 7 (o_ib (fun x y => x - y) (o_is 3 (o_al 0 (o_gf 7 4 (o_il 1 (o_dup2 (o_iald (o_il 7 (o_ib (fun x y => x - y) (o_iast (o_al 0 (k_X7_take_57 κ)))))))))))))))))))))))))))))))
theorem l_X7_take_8 : gb_Li (fun κ => k_X7_take_8 κ) := (gb_li (q_il 5) (gb_li (q_al 0) (gb_li (q_gf 7 3) (gb_li (q_il 1) (gb_li q_iald (q_cge (gb_li (q_al 0) (gb_li (q_gf 7 3) (gb_li (q_il 1) (gb_li (q_il 4) (gb_li q_iast (gb_li0 _)))))) (gb_li (q_il 1) (gb_li (q_il 5) (gb_li (q_cs 2 1 f_X7_place) (gb_li (q_is 6) (gb_li (q_il 3) (gb_li (q_al 0) (gb_li (q_gf 7 6) (gb_li (q_il 6) (gb_li q_iald (gb_li q_mmin (gb_li (q_is 7) (gb_li (q_il 3) (gb_li (q_il 7) (gb_li (q_ib _) (gb_li (q_is 3) (gb_li (q_al 0) (gb_li (q_gf 7 4) (gb_li (q_il 1) (gb_li q_dup2 (gb_li q_iald (gb_li (q_il 7) (gb_li (q_ib _) (gb_li q_iast (gb_li (q_al 0) (l_X7_take_57)))))))))))))))))))))))))))))))
theorem s_X7_take_8   {κ : gb_K} (hκ : ∀ q, gb_S RX7 cX7_take 9 (gb_rm 1 21) 0 q (κ q)) : gb_S RX7 cX7_take 9 (gb_rm 1 21) 0 8 (k_X7_take_8 κ) := (s_il dX7_take_8 (s_aln 0 rfl dX7_take_10 (s_gf (T := TX7) winX7 rfl (Nat.le_of_ble_eq_true rfl) gw_79 rfl dX7_take_11 (s_iln 1 rfl dX7_take_14 (s_iald dX7_take_15 (s_cge (tgt := 152) (by decide +kernel) dX7_take_16 (s_aln 0 rfl dX7_take_152 (s_gf (T := TX7) winX7 rfl (Nat.le_of_ble_eq_true rfl) gw_79 rfl dX7_take_153 (s_iln 1 rfl dX7_take_156 (s_il dX7_take_157 (s_iast dX7_take_159 (s_rv rfl dX7_take_160)))))) (s_iln 1 rfl dX7_take_19 (s_il dX7_take_20 (s_cs c_X7_place (gb_l4 gw_83 gw_23 gw_11 gw_24) v_X7_place.2 ⟨rfl, rfl⟩ ⟨Nat.le_of_ble_eq_true rfl, Nat.le_of_ble_eq_true rfl⟩ dX7_take_22 (s_is (Nat.le_of_ble_eq_true rfl) dX7_take_25 (s_iln 3 rfl dX7_take_27 (s_aln 0 rfl dX7_take_28 (s_gf (T := TX7) winX7 rfl (Nat.le_of_ble_eq_true rfl) gw_85 rfl dX7_take_29 (s_il dX7_take_32 (s_iald dX7_take_34 (s_mmin ⟨Nat.le_of_ble_eq_true rfl, Nat.le_of_ble_eq_true rfl⟩ (gb_l4 gw_154 gw_99 gw_17 gw_100) dX7_take_35 (s_is (Nat.le_of_ble_eq_true rfl) dX7_take_38 (s_iln 3 rfl dX7_take_40 (s_il dX7_take_41 (s_isub dX7_take_43 (s_isn 3 rfl (Nat.le_of_ble_eq_true rfl) dX7_take_44 (s_aln 0 rfl dX7_take_45 (s_gf (T := TX7) winX7 rfl (Nat.le_of_ble_eq_true rfl) gw_80 rfl dX7_take_46 (s_iln 1 rfl dX7_take_49 (s_dup2 dX7_take_50 (s_iald dX7_take_51 (s_il dX7_take_52 (s_isub dX7_take_54 (s_iast dX7_take_55 (s_aln 0 rfl dX7_take_56 (s_X7_take_57 hκ)))))))))))))))))))))))))))))))
noncomputable def B_X7_take : List (Nat × (gb_K → gb_C)) := [(8, fun κ => k_X7_take_8 κ)]
noncomputable def K_X7_take : gb_K := gb_fx (gb_tb (B_X7_take))
theorem L_X7_take : ∀ q, gb_Li (fun κ => gb_tb (B_X7_take) κ q) := gb_tb_li (List.forall_mem_cons.mpr ⟨l_X7_take_8, (fun _ h => absurd h List.not_mem_nil)⟩)
theorem S_X7_take   : ∀ q, gb_S RX7 cX7_take 9 (gb_rm 1 21) 0 q (K_X7_take q) := fun q => gb_fx_S (L_X7_take) (gb_tb_S (List.forall_mem_cons.mpr ⟨fun κ hκ => s_X7_take_8 hκ, (fun _ h => absurd h List.not_mem_nil)⟩)) q
noncomputable def f_X7_take : gb_F := gb_hide (gb_mf 9 (k_X7_take_0 (K_X7_take)))
theorem c_X7_take : ∀ l, gb_Met l yX7_take cX7_take 9 none 0 (gb_rm 1 21) f_X7_take := gb_hide_c (gb_met (own := RX7) (rk := 0) rfl (by decide +kernel) ⟨rfl, rfl⟩ (s_X7_take_0 (S_X7_take)))
theorem dX7_drawOut_0 : decode cX7_drawOut 0 = .ok (.sipush 999, 3) := by decide +kernel
theorem dX7_drawOut_3 : decode cX7_drawOut 3 = .ok (.istore_n 3, 1) := by decide +kernel
theorem dX7_drawOut_4 : decode cX7_drawOut 4 = .ok (.iconst 0, 1) := by decide +kernel
theorem dX7_drawOut_5 : decode cX7_drawOut 5 = .ok (.istore 4, 2) := by decide +kernel
theorem dX7_drawOut_7 : decode cX7_drawOut 7 = .ok (.iload 4, 2) := by decide +kernel
theorem dX7_drawOut_9 : decode cX7_drawOut 9 = .ok (.aload_n 0, 1) := by decide +kernel
theorem dX7_drawOut_10 : decode cX7_drawOut 10 = .ok (.getfield 18, 3) := by decide +kernel
theorem dX7_drawOut_13 : decode cX7_drawOut 13 = .ok (.iload_n 1, 1) := by decide +kernel
theorem dX7_drawOut_14 : decode cX7_drawOut 14 = .ok (.iaload, 1) := by decide +kernel
theorem dX7_drawOut_15 : decode cX7_drawOut 15 = .ok (.if_icmp .ge 39, 3) := by decide +kernel
theorem dX7_drawOut_18 : decode cX7_drawOut 18 = .ok (.aload_n 0, 1) := by decide +kernel
theorem dX7_drawOut_19 : decode cX7_drawOut 19 = .ok (.iload_n 1, 1) := by decide +kernel
theorem dX7_drawOut_20 : decode cX7_drawOut 20 = .ok (.iload 4, 2) := by decide +kernel
theorem dX7_drawOut_22 : decode cX7_drawOut 22 = .ok (.iload_n 2, 1) := by decide +kernel
theorem dX7_drawOut_23 : decode cX7_drawOut 23 = .ok (.invokevirtual 89, 3) := by decide +kernel
theorem dX7_drawOut_26 : decode cX7_drawOut 26 = .ok (.ifCond .le 22, 3) := by decide +kernel
theorem dX7_drawOut_29 : decode cX7_drawOut 29 = .ok (.iload_n 3, 1) := by decide +kernel
theorem dX7_drawOut_30 : decode cX7_drawOut 30 = .ok (.aload_n 0, 1) := by decide +kernel
theorem dX7_drawOut_31 : decode cX7_drawOut 31 = .ok (.iload_n 1, 1) := by decide +kernel
theorem dX7_drawOut_32 : decode cX7_drawOut 32 = .ok (.iload 4, 2) := by decide +kernel
theorem dX7_drawOut_34 : decode cX7_drawOut 34 = .ok (.invokestatic 51, 3) := by decide +kernel
theorem dX7_drawOut_37 : decode cX7_drawOut 37 = .ok (.aload_n 0, 1) := by decide +kernel
theorem dX7_drawOut_38 : decode cX7_drawOut 38 = .ok (.getfield 44, 3) := by decide +kernel
theorem dX7_drawOut_41 : decode cX7_drawOut 41 = .ok (.invokevirtual 93, 3) := by decide +kernel
theorem dX7_drawOut_44 : decode cX7_drawOut 44 = .ok (.invokestatic 81, 3) := by decide +kernel
theorem dX7_drawOut_47 : decode cX7_drawOut 47 = .ok (.istore_n 3, 1) := by decide +kernel
theorem dX7_drawOut_48 : decode cX7_drawOut 48 = .ok (.iinc 4 1, 3) := by decide +kernel
theorem dX7_drawOut_51 : decode cX7_drawOut 51 = .ok (.goto (-44), 3) := by decide +kernel
theorem dX7_drawOut_54 : decode cX7_drawOut 54 = .ok (.aload_n 0, 1) := by decide +kernel
theorem dX7_drawOut_55 : decode cX7_drawOut 55 = .ok (.iload_n 1, 1) := by decide +kernel
theorem dX7_drawOut_56 : decode cX7_drawOut 56 = .ok (.iload_n 2, 1) := by decide +kernel
theorem dX7_drawOut_57 : decode cX7_drawOut 57 = .ok (.invokevirtual 96, 3) := by decide +kernel
theorem dX7_drawOut_60 : decode cX7_drawOut 60 = .ok (.iload_n 2, 1) := by decide +kernel
theorem dX7_drawOut_61 : decode cX7_drawOut 61 = .ok (.iload_n 3, 1) := by decide +kernel
theorem dX7_drawOut_62 : decode cX7_drawOut 62 = .ok (.imul, 1) := by decide +kernel
theorem dX7_drawOut_63 : decode cX7_drawOut 63 = .ok (.istore 4, 2) := by decide +kernel
theorem dX7_drawOut_65 : decode cX7_drawOut 65 = .ok (.aload_n 0, 1) := by decide +kernel
theorem dX7_drawOut_66 : decode cX7_drawOut 66 = .ok (.ldc 100, 2) := by decide +kernel
theorem dX7_drawOut_68 : decode cX7_drawOut 68 = .ok (.aload_n 0, 1) := by decide +kernel
theorem dX7_drawOut_69 : decode cX7_drawOut 69 = .ok (.getfield 48, 3) := by decide +kernel
theorem dX7_drawOut_72 : decode cX7_drawOut 72 = .ok (.iload 4, 2) := by decide +kernel
theorem dX7_drawOut_74 : decode cX7_drawOut 74 = .ok (.iadd, 1) := by decide +kernel
theorem dX7_drawOut_75 : decode cX7_drawOut 75 = .ok (.invokestatic 81, 3) := by decide +kernel
theorem dX7_drawOut_78 : decode cX7_drawOut 78 = .ok (.putfield 48, 3) := by decide +kernel
theorem dX7_drawOut_81 : decode cX7_drawOut 81 = .ok (.iload 4, 2) := by decide +kernel
theorem dX7_drawOut_83 : decode cX7_drawOut 83 = .ok (.ireturn, 1) := by decide +kernel
theorem v_X7_drawOut : yX7_drawOut.cls = RX7 ∧ yX7_drawOut.cls ≠ "java/lang/invoke/MethodHandle" ∧ yX7_drawOut.cls ≠ "java/lang/invoke/VarHandle" ∧ (parseMethodDescriptor yX7_drawOut.desc).map (fun d => d.parameters.length) = some 2 := ⟨rfl, by decide +kernel, by decide +kernel, by decide +kernel⟩
noncomputable def k_X7_drawOut_0 (κ : gb_K) : gb_C := (o_ci 999 (o_is 3 (o_ci 0 (o_is 4 (o_j [0, 1, 2, 3, 4] (κ 7))))))
theorem l_X7_drawOut_0 : gb_Li (fun κ => k_X7_drawOut_0 κ) := (gb_li (q_ci 999) (gb_li (q_is 3) (gb_li (q_ci 0) (gb_li (q_is 4) (q_j [0, 1, 2, 3, 4] 7)))))
theorem s_X7_drawOut_0   {κ : gb_K} (hκ : ∀ q, gb_S RX7 cX7_drawOut 5 (gb_rm 3 69) 1 q (κ q)) : gb_S RX7 cX7_drawOut 5 (gb_rm 3 69) 1 0 (k_X7_drawOut_0 κ) := (s_sipush (by decide +kernel) dX7_drawOut_0 (s_isn 3 rfl (Nat.le_of_ble_eq_true rfl) dX7_drawOut_3 (s_iconst (by decide +kernel) dX7_drawOut_4 (s_is (Nat.le_of_ble_eq_true rfl) dX7_drawOut_5 (s_j (hκ 7))))))
noncomputable def k_X7_drawOut_48 (κ : gb_K) : gb_C := (o_inc 4 1 (o_j [0, 1, 2, 3, 4] (κ 7)))
theorem l_X7_drawOut_48 : gb_Li (fun κ => k_X7_drawOut_48 κ) := (gb_li (q_inc 4 1) (q_j [0, 1, 2, 3, 4] 7))
theorem s_X7_drawOut_48   {κ : gb_K} (hκ : ∀ q, gb_S RX7 cX7_drawOut 5 (gb_rm 3 69) 1 q (κ q)) : gb_S RX7 cX7_drawOut 5 (gb_rm 3 69) 1 48 (k_X7_drawOut_48 κ) := (s_inc (by decide +kernel) (Nat.le_of_ble_eq_true rfl) dX7_drawOut_48 (s_goto (tgt := 7) (by decide +kernel) dX7_drawOut_51 (s_j (hκ 7))))
noncomputable def k_X7_drawOut_7 (κ : gb_K) : gb_C := (o_il 4 (o_al 0 (o_gf 7 3 (o_il 1 (o_iald (o_cge (o_al 0 (o_il 1 (o_il 2 (o_cv 2 7 0 f_X7_take (o_il 2 (o_il 3 (o_ib (fun x y => x * y) (o_is 4 (o_al 0 (o_ci 2000000000 (o_al 0 (o_gf 7 10 (o_il 4 (o_ib (fun x y => x + y) (o_mmin (o_pf 7 10 (o_il 4 o_ri))))))))))))))))) (o_al 0 (o_il 1 (o_il 4 (o_il 2 (o_cv 3 7 1 f_X7_partBelow (o_zle (k_X7_drawOut_48 κ) (o_il 3 (o_al 0 (o_il 1 (o_il 4 (o_cs 2 1 f_X7_place (o_al 0 (o_gf 7 9 (o_cv 2 7 1 f_X7_unit (o_mmin (o_is 3 (k_X7_drawOut_48 κ)))))))))))))))))))))))
theorem l_X7_drawOut_7 : gb_Li (fun κ => k_X7_drawOut_7 κ) := (gb_li (q_il 4) (gb_li (q_al 0) (gb_li (q_gf 7 3) (gb_li (q_il 1) (gb_li q_iald (q_cge (gb_li (q_al 0) (gb_li (q_il 1) (gb_li (q_il 2) (gb_li (q_cv 2 7 0 f_X7_take) (gb_li (q_il 2) (gb_li (q_il 3) (gb_li (q_ib _) (gb_li (q_is 4) (gb_li (q_al 0) (gb_li (q_ci 2000000000) (gb_li (q_al 0) (gb_li (q_gf 7 10) (gb_li (q_il 4) (gb_li (q_ib _) (gb_li q_mmin (gb_li (q_pf 7 10) (gb_li (q_il 4) (gb_li0 _)))))))))))))))))) (gb_li (q_al 0) (gb_li (q_il 1) (gb_li (q_il 4) (gb_li (q_il 2) (gb_li (q_cv 3 7 1 f_X7_partBelow) (q_zle (l_X7_drawOut_48) (gb_li (q_il 3) (gb_li (q_al 0) (gb_li (q_il 1) (gb_li (q_il 4) (gb_li (q_cs 2 1 f_X7_place) (gb_li (q_al 0) (gb_li (q_gf 7 9) (gb_li (q_cv 2 7 1 f_X7_unit) (gb_li q_mmin (gb_li (q_is 3) (l_X7_drawOut_48)))))))))))))))))))))))
theorem s_X7_drawOut_7   {κ : gb_K} (hκ : ∀ q, gb_S RX7 cX7_drawOut 5 (gb_rm 3 69) 1 q (κ q)) : gb_S RX7 cX7_drawOut 5 (gb_rm 3 69) 1 7 (k_X7_drawOut_7 κ) := (s_il dX7_drawOut_7 (s_aln 0 rfl dX7_drawOut_9 (s_gf (T := TX7) winX7 rfl (Nat.le_of_ble_eq_true rfl) gw_79 rfl dX7_drawOut_10 (s_iln 1 rfl dX7_drawOut_13 (s_iald dX7_drawOut_14 (s_cge (tgt := 54) (by decide +kernel) dX7_drawOut_15 (s_aln 0 rfl dX7_drawOut_54 (s_iln 1 rfl dX7_drawOut_55 (s_iln 2 rfl dX7_drawOut_56 (s_cv (C := RX7) c_X7_take rfl (gb_l5 gw_161 gw_162 gw_163 gw_11 gw_164) v_X7_take ⟨rfl, rfl⟩ ⟨Nat.le_of_ble_eq_true rfl, Nat.le_of_ble_eq_true rfl⟩ dX7_drawOut_57 (s_iln 2 rfl dX7_drawOut_60 (s_iln 3 rfl dX7_drawOut_61 (s_imul dX7_drawOut_62 (s_is (Nat.le_of_ble_eq_true rfl) dX7_drawOut_63 (s_aln 0 rfl dX7_drawOut_65 (s_ldc gw_165 dX7_drawOut_66 (s_aln 0 rfl dX7_drawOut_68 (s_gf (T := TX7) winX7 rfl (Nat.le_of_ble_eq_true rfl) gw_87 rfl dX7_drawOut_69 (s_il dX7_drawOut_72 (s_iadd dX7_drawOut_74 (s_mmin ⟨Nat.le_of_ble_eq_true rfl, Nat.le_of_ble_eq_true rfl⟩ (gb_l4 gw_154 gw_99 gw_17 gw_100) dX7_drawOut_75 (s_pf (T := TX7) winX7 rfl (Nat.le_of_ble_eq_true rfl) tyX7_ok nmX7 rfl (by decide +kernel) gw_87 rfl dX7_drawOut_78 (s_il dX7_drawOut_81 (s_ri rfl dX7_drawOut_83)))))))))))))))))) (s_aln 0 rfl dX7_drawOut_18 (s_iln 1 rfl dX7_drawOut_19 (s_il dX7_drawOut_20 (s_iln 2 rfl dX7_drawOut_22 (s_cv (C := RX7) c_X7_partBelow rfl (gb_l5 gw_156 gw_157 gw_158 gw_11 gw_159) v_X7_partBelow ⟨rfl, rfl⟩ ⟨Nat.le_of_ble_eq_true rfl, Nat.le_of_ble_eq_true rfl⟩ dX7_drawOut_23 (s_zle (tgt := 48) (by decide +kernel) dX7_drawOut_26 (s_X7_drawOut_48 hκ) (s_iln 3 rfl dX7_drawOut_29 (s_aln 0 rfl dX7_drawOut_30 (s_iln 1 rfl dX7_drawOut_31 (s_il dX7_drawOut_32 (s_cs c_X7_place (gb_l4 gw_83 gw_23 gw_11 gw_24) v_X7_place.2 ⟨rfl, rfl⟩ ⟨Nat.le_of_ble_eq_true rfl, Nat.le_of_ble_eq_true rfl⟩ dX7_drawOut_34 (s_aln 0 rfl dX7_drawOut_37 (s_gf (T := TX7) winX7 rfl (Nat.le_of_ble_eq_true rfl) gw_5 rfl dX7_drawOut_38 (s_cv (C := RX7) c_X7_unit rfl (gb_l5 gw_166 gw_167 gw_168 gw_11 gw_169) v_X7_unit ⟨rfl, rfl⟩ ⟨Nat.le_of_ble_eq_true rfl, Nat.le_of_ble_eq_true rfl⟩ dX7_drawOut_41 (s_mmin ⟨Nat.le_of_ble_eq_true rfl, Nat.le_of_ble_eq_true rfl⟩ (gb_l4 gw_154 gw_99 gw_17 gw_100) dX7_drawOut_44 (s_isn 3 rfl (Nat.le_of_ble_eq_true rfl) dX7_drawOut_47 (s_X7_drawOut_48 hκ)))))))))))))))))))))))
noncomputable def B_X7_drawOut : List (Nat × (gb_K → gb_C)) := [(7, fun κ => k_X7_drawOut_7 κ)]
noncomputable def K_X7_drawOut : gb_K := gb_fx (gb_tb (B_X7_drawOut))
theorem L_X7_drawOut : ∀ q, gb_Li (fun κ => gb_tb (B_X7_drawOut) κ q) := gb_tb_li (List.forall_mem_cons.mpr ⟨l_X7_drawOut_7, (fun _ h => absurd h List.not_mem_nil)⟩)
theorem S_X7_drawOut   : ∀ q, gb_S RX7 cX7_drawOut 5 (gb_rm 3 69) 1 q (K_X7_drawOut q) := fun q => gb_fx_S (L_X7_drawOut) (gb_tb_S (List.forall_mem_cons.mpr ⟨fun κ hκ => s_X7_drawOut_7 hκ, (fun _ h => absurd h List.not_mem_nil)⟩)) q
noncomputable def f_X7_drawOut : gb_F := gb_hide (gb_mf 5 (k_X7_drawOut_0 (K_X7_drawOut)))
theorem c_X7_drawOut : ∀ l, gb_Met l yX7_drawOut cX7_drawOut 5 (some .int) 1 (gb_rm 3 69) f_X7_drawOut := gb_hide_c (gb_met (own := RX7) (rk := 1) rfl (by decide +kernel) ⟨rfl, rfl⟩ (s_X7_drawOut_0 (S_X7_drawOut)))
theorem dX7_layersWith_0 : decode cX7_layersWith 0 = .ok (.aload_n 0, 1) := by decide +kernel
theorem dX7_layersWith_1 : decode cX7_layersWith 1 = .ok (.getfield 18, 3) := by decide +kernel
theorem dX7_layersWith_4 : decode cX7_layersWith 4 = .ok (.iload_n 2, 1) := by decide +kernel
theorem dX7_layersWith_5 : decode cX7_layersWith 5 = .ok (.iaload, 1) := by decide +kernel
theorem dX7_layersWith_6 : decode cX7_layersWith 6 = .ok (.istore 4, 2) := by decide +kernel
theorem dX7_layersWith_8 : decode cX7_layersWith 8 = .ok (.iconst 0, 1) := by decide +kernel
theorem dX7_layersWith_9 : decode cX7_layersWith 9 = .ok (.istore 5, 2) := by decide +kernel
theorem dX7_layersWith_11 : decode cX7_layersWith 11 = .ok (.iload 5, 2) := by decide +kernel
theorem dX7_layersWith_13 : decode cX7_layersWith 13 = .ok (.aload_n 0, 1) := by decide +kernel
theorem dX7_layersWith_14 : decode cX7_layersWith 14 = .ok (.getfield 18, 3) := by decide +kernel
theorem dX7_layersWith_17 : decode cX7_layersWith 17 = .ok (.iload_n 1, 1) := by decide +kernel
theorem dX7_layersWith_18 : decode cX7_layersWith 18 = .ok (.iaload, 1) := by decide +kernel
theorem dX7_layersWith_19 : decode cX7_layersWith 19 = .ok (.if_icmp .ge 68, 3) := by decide +kernel
theorem dX7_layersWith_22 : decode cX7_layersWith 22 = .ok (.iload 5, 2) := by decide +kernel
theorem dX7_layersWith_24 : decode cX7_layersWith 24 = .ok (.ifCond .ne 35, 3) := by decide +kernel
theorem dX7_layersWith_27 : decode cX7_layersWith 27 = .ok (.aload_n 0, 1) := by decide +kernel
theorem dX7_layersWith_28 : decode cX7_layersWith 28 = .ok (.iload_n 2, 1) := by decide +kernel
theorem dX7_layersWith_29 : decode cX7_layersWith 29 = .ok (.aload_n 0, 1) := by decide +kernel
theorem dX7_layersWith_30 : decode cX7_layersWith 30 = .ok (.getfield 24, 3) := by decide +kernel
theorem dX7_layersWith_33 : decode cX7_layersWith 33 = .ok (.iload_n 1, 1) := by decide +kernel
theorem dX7_layersWith_34 : decode cX7_layersWith 34 = .ok (.iconst 0, 1) := by decide +kernel
theorem dX7_layersWith_35 : decode cX7_layersWith 35 = .ok (.invokestatic 51, 3) := by decide +kernel
theorem dX7_layersWith_38 : decode cX7_layersWith 38 = .ok (.iaload, 1) := by decide +kernel
theorem dX7_layersWith_39 : decode cX7_layersWith 39 = .ok (.aload_n 0, 1) := by decide +kernel
theorem dX7_layersWith_40 : decode cX7_layersWith 40 = .ok (.getfield 30, 3) := by decide +kernel
theorem dX7_layersWith_43 : decode cX7_layersWith 43 = .ok (.iload_n 1, 1) := by decide +kernel
theorem dX7_layersWith_44 : decode cX7_layersWith 44 = .ok (.iconst 0, 1) := by decide +kernel
theorem dX7_layersWith_45 : decode cX7_layersWith 45 = .ok (.invokestatic 51, 3) := by decide +kernel
theorem dX7_layersWith_48 : decode cX7_layersWith 48 = .ok (.iaload, 1) := by decide +kernel
theorem dX7_layersWith_49 : decode cX7_layersWith 49 = .ok (.invokevirtual 74, 3) := by decide +kernel
theorem dX7_layersWith_52 : decode cX7_layersWith 52 = .ok (.ifCond .eq 7, 3) := by decide +kernel
theorem dX7_layersWith_55 : decode cX7_layersWith 55 = .ok (.iconst 1, 1) := by decide +kernel
theorem dX7_layersWith_56 : decode cX7_layersWith 56 = .ok (.goto 4, 3) := by decide +kernel
theorem dX7_layersWith_59 : decode cX7_layersWith 59 = .ok (.iconst 0, 1) := by decide +kernel
theorem dX7_layersWith_60 : decode cX7_layersWith 60 = .ok (.istore 6, 2) := by decide +kernel
theorem dX7_layersWith_62 : decode cX7_layersWith 62 = .ok (.aload_n 0, 1) := by decide +kernel
theorem dX7_layersWith_63 : decode cX7_layersWith 63 = .ok (.iload_n 1, 1) := by decide +kernel
theorem dX7_layersWith_64 : decode cX7_layersWith 64 = .ok (.iload 5, 2) := by decide +kernel
theorem dX7_layersWith_66 : decode cX7_layersWith 66 = .ok (.iload_n 3, 1) := by decide +kernel
theorem dX7_layersWith_67 : decode cX7_layersWith 67 = .ok (.invokevirtual 89, 3) := by decide +kernel
theorem dX7_layersWith_70 : decode cX7_layersWith 70 = .ok (.ifCond .le 11, 3) := by decide +kernel
theorem dX7_layersWith_73 : decode cX7_layersWith 73 = .ok (.iload 6, 2) := by decide +kernel
theorem dX7_layersWith_75 : decode cX7_layersWith 75 = .ok (.ifCond .ne 6, 3) := by decide +kernel
theorem dX7_layersWith_78 : decode cX7_layersWith 78 = .ok (.iinc 4 1, 3) := by decide +kernel
theorem dX7_layersWith_81 : decode cX7_layersWith 81 = .ok (.iinc 5 1, 3) := by decide +kernel
theorem dX7_layersWith_84 : decode cX7_layersWith 84 = .ok (.goto (-73), 3) := by decide +kernel
theorem dX7_layersWith_87 : decode cX7_layersWith 87 = .ok (.iload 4, 2) := by decide +kernel
theorem dX7_layersWith_89 : decode cX7_layersWith 89 = .ok (.ireturn, 1) := by decide +kernel
theorem v_X7_layersWith : yX7_layersWith.cls = RX7 ∧ yX7_layersWith.cls ≠ "java/lang/invoke/MethodHandle" ∧ yX7_layersWith.cls ≠ "java/lang/invoke/VarHandle" ∧ (parseMethodDescriptor yX7_layersWith.desc).map (fun d => d.parameters.length) = some 3 := ⟨rfl, by decide +kernel, by decide +kernel, by decide +kernel⟩
noncomputable def k_X7_layersWith_0 (κ : gb_K) : gb_C := (o_al 0 (o_gf 7 3 (o_il 2 (o_iald (o_is 4 (o_ci 0 (o_is 5 (o_j [0, 1, 2, 3, 4, 5] (κ 11)))))))))
theorem l_X7_layersWith_0 : gb_Li (fun κ => k_X7_layersWith_0 κ) := (gb_li (q_al 0) (gb_li (q_gf 7 3) (gb_li (q_il 2) (gb_li q_iald (gb_li (q_is 4) (gb_li (q_ci 0) (gb_li (q_is 5) (q_j [0, 1, 2, 3, 4, 5] 11))))))))
theorem s_X7_layersWith_0   {κ : gb_K} (hκ : ∀ q, gb_S RX7 cX7_layersWith 7 (gb_rm 3 69) 1 q (κ q)) : gb_S RX7 cX7_layersWith 7 (gb_rm 3 69) 1 0 (k_X7_layersWith_0 κ) := (s_aln 0 rfl dX7_layersWith_0 (s_gf (T := TX7) winX7 rfl (Nat.le_of_ble_eq_true rfl) gw_79 rfl dX7_layersWith_1 (s_iln 2 rfl dX7_layersWith_4 (s_iald dX7_layersWith_5 (s_is (Nat.le_of_ble_eq_true rfl) dX7_layersWith_6 (s_iconst (by decide +kernel) dX7_layersWith_8 (s_is (Nat.le_of_ble_eq_true rfl) dX7_layersWith_9 (s_j (hκ 11)))))))))
noncomputable def k_X7_layersWith_81 (κ : gb_K) : gb_C := (o_inc 5 1 (o_j [0, 1, 2, 3, 4, 5] (κ 11)))
theorem l_X7_layersWith_81 : gb_Li (fun κ => k_X7_layersWith_81 κ) := (gb_li (q_inc 5 1) (q_j [0, 1, 2, 3, 4, 5] 11))
theorem s_X7_layersWith_81   {κ : gb_K} (hκ : ∀ q, gb_S RX7 cX7_layersWith 7 (gb_rm 3 69) 1 q (κ q)) : gb_S RX7 cX7_layersWith 7 (gb_rm 3 69) 1 81 (k_X7_layersWith_81 κ) := (s_inc (by decide +kernel) (Nat.le_of_ble_eq_true rfl) dX7_layersWith_81 (s_goto (tgt := 11) (by decide +kernel) dX7_layersWith_84 (s_j (hκ 11))))
noncomputable def k_X7_layersWith_60 (κ : gb_K) : gb_C := (o_is 6 (o_al 0 (o_il 1 (o_il 5 (o_il 3 (o_cv 3 7 1 f_X7_partBelow (o_zle (k_X7_layersWith_81 κ) (o_il 6 (o_zeq (o_inc 4 1 (k_X7_layersWith_81 κ)) (k_X7_layersWith_81 κ))))))))))
theorem l_X7_layersWith_60 : gb_Li (fun κ => k_X7_layersWith_60 κ) := (gb_li (q_is 6) (gb_li (q_al 0) (gb_li (q_il 1) (gb_li (q_il 5) (gb_li (q_il 3) (gb_li (q_cv 3 7 1 f_X7_partBelow) (q_zle (l_X7_layersWith_81) (gb_li (q_il 6) (q_zeq (gb_li (q_inc 4 1) (l_X7_layersWith_81)) (l_X7_layersWith_81))))))))))
theorem s_X7_layersWith_60   {κ : gb_K} (hκ : ∀ q, gb_S RX7 cX7_layersWith 7 (gb_rm 3 69) 1 q (κ q)) : gb_S RX7 cX7_layersWith 7 (gb_rm 3 69) 1 60 (k_X7_layersWith_60 κ) := (s_is (Nat.le_of_ble_eq_true rfl) dX7_layersWith_60 (s_aln 0 rfl dX7_layersWith_62 (s_iln 1 rfl dX7_layersWith_63 (s_il dX7_layersWith_64 (s_iln 3 rfl dX7_layersWith_66 (s_cv (C := RX7) c_X7_partBelow rfl (gb_l5 gw_156 gw_157 gw_158 gw_11 gw_159) v_X7_partBelow ⟨rfl, rfl⟩ ⟨Nat.le_of_ble_eq_true rfl, Nat.le_of_ble_eq_true rfl⟩ dX7_layersWith_67 (s_zle (tgt := 81) (by decide +kernel) dX7_layersWith_70 (s_X7_layersWith_81 hκ) (s_il dX7_layersWith_73 (s_zne (tgt := 81) (by decide +kernel) dX7_layersWith_75 (s_X7_layersWith_81 hκ) (s_inc (by decide +kernel) (Nat.le_of_ble_eq_true rfl) dX7_layersWith_78 (s_X7_layersWith_81 hκ)))))))))))
noncomputable def k_X7_layersWith_59 (κ : gb_K) : gb_C := (o_ci 0 (k_X7_layersWith_60 κ))
theorem l_X7_layersWith_59 : gb_Li (fun κ => k_X7_layersWith_59 κ) := (gb_li (q_ci 0) (l_X7_layersWith_60))
theorem s_X7_layersWith_59   {κ : gb_K} (hκ : ∀ q, gb_S RX7 cX7_layersWith 7 (gb_rm 3 69) 1 q (κ q)) : gb_S RX7 cX7_layersWith 7 (gb_rm 3 69) 1 59 (k_X7_layersWith_59 κ) := (s_iconst (by decide +kernel) dX7_layersWith_59 (s_X7_layersWith_60 hκ))
noncomputable def k_X7_layersWith_11 (κ : gb_K) : gb_C := (o_il 5 (o_al 0 (o_gf 7 3 (o_il 1 (o_iald (o_cge (o_il 4 o_ri) (o_il 5 (o_zeq (o_al 0 (o_il 2 (o_al 0 (o_gf 7 5 (o_il 1 (o_ci 0 (o_cs 2 1 f_X7_place (o_iald (o_al 0 (o_gf 7 7 (o_il 1 (o_ci 0 (o_cs 2 1 f_X7_place (o_iald (o_cv 3 7 2 f_X7_onTop (o_zeq (k_X7_layersWith_59 κ) (o_ci 1 (k_X7_layersWith_60 κ)))))))))))))))))) (k_X7_layersWith_59 κ)))))))))
theorem l_X7_layersWith_11 : gb_Li (fun κ => k_X7_layersWith_11 κ) := (gb_li (q_il 5) (gb_li (q_al 0) (gb_li (q_gf 7 3) (gb_li (q_il 1) (gb_li q_iald (q_cge (gb_li (q_il 4) (gb_li0 _)) (gb_li (q_il 5) (q_zeq (gb_li (q_al 0) (gb_li (q_il 2) (gb_li (q_al 0) (gb_li (q_gf 7 5) (gb_li (q_il 1) (gb_li (q_ci 0) (gb_li (q_cs 2 1 f_X7_place) (gb_li q_iald (gb_li (q_al 0) (gb_li (q_gf 7 7) (gb_li (q_il 1) (gb_li (q_ci 0) (gb_li (q_cs 2 1 f_X7_place) (gb_li q_iald (gb_li (q_cv 3 7 2 f_X7_onTop) (q_zeq (l_X7_layersWith_59) (gb_li (q_ci 1) (l_X7_layersWith_60)))))))))))))))))) (l_X7_layersWith_59)))))))))
theorem s_X7_layersWith_11   {κ : gb_K} (hκ : ∀ q, gb_S RX7 cX7_layersWith 7 (gb_rm 3 69) 1 q (κ q)) : gb_S RX7 cX7_layersWith 7 (gb_rm 3 69) 1 11 (k_X7_layersWith_11 κ) := (s_il dX7_layersWith_11 (s_aln 0 rfl dX7_layersWith_13 (s_gf (T := TX7) winX7 rfl (Nat.le_of_ble_eq_true rfl) gw_79 rfl dX7_layersWith_14 (s_iln 1 rfl dX7_layersWith_17 (s_iald dX7_layersWith_18 (s_cge (tgt := 87) (by decide +kernel) dX7_layersWith_19 (s_il dX7_layersWith_87 (s_ri rfl dX7_layersWith_89)) (s_il dX7_layersWith_22 (s_zne (tgt := 59) (by decide +kernel) dX7_layersWith_24 (s_X7_layersWith_59 hκ) (s_aln 0 rfl dX7_layersWith_27 (s_iln 2 rfl dX7_layersWith_28 (s_aln 0 rfl dX7_layersWith_29 (s_gf (T := TX7) winX7 rfl (Nat.le_of_ble_eq_true rfl) gw_84 rfl dX7_layersWith_30 (s_iln 1 rfl dX7_layersWith_33 (s_iconst (by decide +kernel) dX7_layersWith_34 (s_cs c_X7_place (gb_l4 gw_83 gw_23 gw_11 gw_24) v_X7_place.2 ⟨rfl, rfl⟩ ⟨Nat.le_of_ble_eq_true rfl, Nat.le_of_ble_eq_true rfl⟩ dX7_layersWith_35 (s_iald dX7_layersWith_38 (s_aln 0 rfl dX7_layersWith_39 (s_gf (T := TX7) winX7 rfl (Nat.le_of_ble_eq_true rfl) gw_82 rfl dX7_layersWith_40 (s_iln 1 rfl dX7_layersWith_43 (s_iconst (by decide +kernel) dX7_layersWith_44 (s_cs c_X7_place (gb_l4 gw_83 gw_23 gw_11 gw_24) v_X7_place.2 ⟨rfl, rfl⟩ ⟨Nat.le_of_ble_eq_true rfl, Nat.le_of_ble_eq_true rfl⟩ dX7_layersWith_45 (s_iald dX7_layersWith_48 (s_cv (C := RX7) c_X7_onTop rfl (gb_l5 gw_140 gw_141 gw_142 gw_11 gw_143) v_X7_onTop ⟨rfl, rfl⟩ ⟨Nat.le_of_ble_eq_true rfl, Nat.le_of_ble_eq_true rfl⟩ dX7_layersWith_49 (s_zeq (tgt := 59) (by decide +kernel) dX7_layersWith_52 (s_X7_layersWith_59 hκ) (s_iconst (by decide +kernel) dX7_layersWith_55 (s_goto (tgt := 60) (by decide +kernel) dX7_layersWith_56 (s_X7_layersWith_60 hκ)))))))))))))))))))))))))))
noncomputable def B_X7_layersWith : List (Nat × (gb_K → gb_C)) := [(11, fun κ => k_X7_layersWith_11 κ)]
noncomputable def K_X7_layersWith : gb_K := gb_fx (gb_tb (B_X7_layersWith))
theorem L_X7_layersWith : ∀ q, gb_Li (fun κ => gb_tb (B_X7_layersWith) κ q) := gb_tb_li (List.forall_mem_cons.mpr ⟨l_X7_layersWith_11, (fun _ h => absurd h List.not_mem_nil)⟩)
theorem S_X7_layersWith   : ∀ q, gb_S RX7 cX7_layersWith 7 (gb_rm 3 69) 1 q (K_X7_layersWith q) := fun q => gb_fx_S (L_X7_layersWith) (gb_tb_S (List.forall_mem_cons.mpr ⟨fun κ hκ => s_X7_layersWith_11 hκ, (fun _ h => absurd h List.not_mem_nil)⟩)) q
noncomputable def f_X7_layersWith : gb_F := gb_hide (gb_mf 7 (k_X7_layersWith_0 (K_X7_layersWith)))
theorem c_X7_layersWith : ∀ l, gb_Met l yX7_layersWith cX7_layersWith 7 (some .int) 1 (gb_rm 3 69) f_X7_layersWith := gb_hide_c (gb_met (own := RX7) (rk := 1) rfl (by decide +kernel) ⟨rfl, rfl⟩ (s_X7_layersWith_0 (S_X7_layersWith)))
theorem dX7_whyNotMove_0 : decode cX7_whyNotMove 0 = .ok (.aload_n 0, 1) := by decide +kernel
theorem dX7_whyNotMove_1 : decode cX7_whyNotMove 1 = .ok (.iload_n 1, 1) := by decide +kernel
theorem dX7_whyNotMove_2 : decode cX7_whyNotMove 2 = .ok (.invokevirtual 60, 3) := by decide +kernel
theorem dX7_whyNotMove_5 : decode cX7_whyNotMove 5 = .ok (.ifCond .ne 11, 3) := by decide +kernel
theorem dX7_whyNotMove_8 : decode cX7_whyNotMove 8 = .ok (.aload_n 0, 1) := by decide +kernel
theorem dX7_whyNotMove_9 : decode cX7_whyNotMove 9 = .ok (.iload_n 2, 1) := by decide +kernel
theorem dX7_whyNotMove_10 : decode cX7_whyNotMove 10 = .ok (.invokevirtual 60, 3) := by decide +kernel
theorem dX7_whyNotMove_13 : decode cX7_whyNotMove 13 = .ok (.ifCond .eq 6, 3) := by decide +kernel
theorem dX7_whyNotMove_16 : decode cX7_whyNotMove 16 = .ok (.bipush (-2), 2) := by decide +kernel
theorem dX7_whyNotMove_18 : decode cX7_whyNotMove 18 = .ok (.ireturn, 1) := by decide +kernel
theorem dX7_whyNotMove_19 : decode cX7_whyNotMove 19 = .ok (.aload_n 0, 1) := by decide +kernel
theorem dX7_whyNotMove_20 : decode cX7_whyNotMove 20 = .ok (.getfield 21, 3) := by decide +kernel
theorem dX7_whyNotMove_23 : decode cX7_whyNotMove 23 = .ok (.iload_n 1, 1) := by decide +kernel
theorem dX7_whyNotMove_24 : decode cX7_whyNotMove 24 = .ok (.iaload, 1) := by decide +kernel
theorem dX7_whyNotMove_25 : decode cX7_whyNotMove 25 = .ok (.iload_n 3, 1) := by decide +kernel
theorem dX7_whyNotMove_26 : decode cX7_whyNotMove 26 = .ok (.if_icmp .ge 6, 3) := by decide +kernel
theorem dX7_whyNotMove_29 : decode cX7_whyNotMove 29 = .ok (.bipush (-3), 2) := by decide +kernel
theorem dX7_whyNotMove_31 : decode cX7_whyNotMove 31 = .ok (.ireturn, 1) := by decide +kernel
theorem dX7_whyNotMove_32 : decode cX7_whyNotMove 32 = .ok (.aload_n 0, 1) := by decide +kernel
theorem dX7_whyNotMove_33 : decode cX7_whyNotMove 33 = .ok (.getfield 21, 3) := by decide +kernel
theorem dX7_whyNotMove_36 : decode cX7_whyNotMove 36 = .ok (.iload_n 2, 1) := by decide +kernel
theorem dX7_whyNotMove_37 : decode cX7_whyNotMove 37 = .ok (.iaload, 1) := by decide +kernel
theorem dX7_whyNotMove_38 : decode cX7_whyNotMove 38 = .ok (.iload_n 3, 1) := by decide +kernel
theorem dX7_whyNotMove_39 : decode cX7_whyNotMove 39 = .ok (.iadd, 1) := by decide +kernel
theorem dX7_whyNotMove_40 : decode cX7_whyNotMove 40 = .ok (.aload_n 0, 1) := by decide +kernel
theorem dX7_whyNotMove_41 : decode cX7_whyNotMove 41 = .ok (.getfield 36, 3) := by decide +kernel
theorem dX7_whyNotMove_44 : decode cX7_whyNotMove 44 = .ok (.getfield 64, 3) := by decide +kernel
theorem dX7_whyNotMove_47 : decode cX7_whyNotMove 47 = .ok (.iload_n 2, 1) := by decide +kernel
theorem dX7_whyNotMove_48 : decode cX7_whyNotMove 48 = .ok (.iaload, 1) := by decide +kernel
theorem dX7_whyNotMove_49 : decode cX7_whyNotMove 49 = .ok (.if_icmp .le 6, 3) := by decide +kernel
theorem dX7_whyNotMove_52 : decode cX7_whyNotMove 52 = .ok (.bipush (-4), 2) := by decide +kernel
theorem dX7_whyNotMove_54 : decode cX7_whyNotMove 54 = .ok (.ireturn, 1) := by decide +kernel
theorem dX7_whyNotMove_55 : decode cX7_whyNotMove 55 = .ok (.aload_n 0, 1) := by decide +kernel
theorem dX7_whyNotMove_56 : decode cX7_whyNotMove 56 = .ok (.iload_n 2, 1) := by decide +kernel
theorem dX7_whyNotMove_57 : decode cX7_whyNotMove 57 = .ok (.invokevirtual 67, 3) := by decide +kernel
theorem dX7_whyNotMove_60 : decode cX7_whyNotMove 60 = .ok (.istore 4, 2) := by decide +kernel
theorem dX7_whyNotMove_62 : decode cX7_whyNotMove 62 = .ok (.iconst 0, 1) := by decide +kernel
theorem dX7_whyNotMove_63 : decode cX7_whyNotMove 63 = .ok (.istore 5, 2) := by decide +kernel
theorem dX7_whyNotMove_65 : decode cX7_whyNotMove 65 = .ok (.iload 5, 2) := by decide +kernel
theorem dX7_whyNotMove_67 : decode cX7_whyNotMove 67 = .ok (.aload_n 0, 1) := by decide +kernel
theorem dX7_whyNotMove_68 : decode cX7_whyNotMove 68 = .ok (.getfield 18, 3) := by decide +kernel
theorem dX7_whyNotMove_71 : decode cX7_whyNotMove 71 = .ok (.iload_n 1, 1) := by decide +kernel
theorem dX7_whyNotMove_72 : decode cX7_whyNotMove 72 = .ok (.iaload, 1) := by decide +kernel
theorem dX7_whyNotMove_73 : decode cX7_whyNotMove 73 = .ok (.if_icmp .ge 48, 3) := by decide +kernel
theorem dX7_whyNotMove_76 : decode cX7_whyNotMove 76 = .ok (.aload_n 0, 1) := by decide +kernel
theorem dX7_whyNotMove_77 : decode cX7_whyNotMove 77 = .ok (.iload_n 1, 1) := by decide +kernel
theorem dX7_whyNotMove_78 : decode cX7_whyNotMove 78 = .ok (.iload 5, 2) := by decide +kernel
theorem dX7_whyNotMove_80 : decode cX7_whyNotMove 80 = .ok (.iload_n 3, 1) := by decide +kernel
theorem dX7_whyNotMove_81 : decode cX7_whyNotMove 81 = .ok (.invokevirtual 89, 3) := by decide +kernel
theorem dX7_whyNotMove_84 : decode cX7_whyNotMove 84 = .ok (.ifCond .le 31, 3) := by decide +kernel
theorem dX7_whyNotMove_87 : decode cX7_whyNotMove 87 = .ok (.iload 4, 2) := by decide +kernel
theorem dX7_whyNotMove_89 : decode cX7_whyNotMove 89 = .ok (.aload_n 0, 1) := by decide +kernel
theorem dX7_whyNotMove_90 : decode cX7_whyNotMove 90 = .ok (.getfield 36, 3) := by decide +kernel
theorem dX7_whyNotMove_93 : decode cX7_whyNotMove 93 = .ok (.getfield 71, 3) := by decide +kernel
theorem dX7_whyNotMove_96 : decode cX7_whyNotMove 96 = .ok (.aload_n 0, 1) := by decide +kernel
theorem dX7_whyNotMove_97 : decode cX7_whyNotMove 97 = .ok (.getfield 24, 3) := by decide +kernel
theorem dX7_whyNotMove_100 : decode cX7_whyNotMove 100 = .ok (.iload_n 1, 1) := by decide +kernel
theorem dX7_whyNotMove_101 : decode cX7_whyNotMove 101 = .ok (.iload 5, 2) := by decide +kernel
theorem dX7_whyNotMove_103 : decode cX7_whyNotMove 103 = .ok (.invokestatic 51, 3) := by decide +kernel
theorem dX7_whyNotMove_106 : decode cX7_whyNotMove 106 = .ok (.iaload, 1) := by decide +kernel
theorem dX7_whyNotMove_107 : decode cX7_whyNotMove 107 = .ok (.iaload, 1) := by decide +kernel
theorem dX7_whyNotMove_108 : decode cX7_whyNotMove 108 = .ok (.iand, 1) := by decide +kernel
theorem dX7_whyNotMove_109 : decode cX7_whyNotMove 109 = .ok (.ifCond .eq 6, 3) := by decide +kernel
theorem dX7_whyNotMove_112 : decode cX7_whyNotMove 112 = .ok (.bipush (-5), 2) := by decide +kernel
theorem dX7_whyNotMove_114 : decode cX7_whyNotMove 114 = .ok (.ireturn, 1) := by decide +kernel
theorem dX7_whyNotMove_115 : decode cX7_whyNotMove 115 = .ok (.iinc 5 1, 3) := by decide +kernel
theorem dX7_whyNotMove_118 : decode cX7_whyNotMove 118 = .ok (.goto (-53), 3) := by decide +kernel
theorem dX7_whyNotMove_121 : decode cX7_whyNotMove 121 = .ok (.aload_n 0, 1) := by decide +kernel
theorem dX7_whyNotMove_122 : decode cX7_whyNotMove 122 = .ok (.iload_n 1, 1) := by decide +kernel
theorem dX7_whyNotMove_123 : decode cX7_whyNotMove 123 = .ok (.iload_n 2, 1) := by decide +kernel
theorem dX7_whyNotMove_124 : decode cX7_whyNotMove 124 = .ok (.iload_n 3, 1) := by decide +kernel
theorem dX7_whyNotMove_125 : decode cX7_whyNotMove 125 = .ok (.invokevirtual 101, 3) := by decide +kernel
theorem dX7_whyNotMove_128 : decode cX7_whyNotMove 128 = .ok (.bipush 6, 2) := by decide +kernel
theorem dX7_whyNotMove_130 : decode cX7_whyNotMove 130 = .ok (.if_icmp .le 8, 3) := by decide +kernel
theorem dX7_whyNotMove_133 : decode cX7_whyNotMove 133 = .ok (.bipush (-6), 2) := by decide +kernel
theorem dX7_whyNotMove_135 : decode cX7_whyNotMove 135 = .ok (.goto 4, 3) := by decide +kernel
theorem dX7_whyNotMove_138 : decode cX7_whyNotMove 138 = .ok (.iconst 0, 1) := by decide +kernel
theorem dX7_whyNotMove_139 : decode cX7_whyNotMove 139 = .ok (.ireturn, 1) := by decide +kernel
theorem v_X7_whyNotMove : yX7_whyNotMove.cls = RX7 ∧ yX7_whyNotMove.cls ≠ "java/lang/invoke/MethodHandle" ∧ yX7_whyNotMove.cls ≠ "java/lang/invoke/VarHandle" ∧ (parseMethodDescriptor yX7_whyNotMove.desc).map (fun d => d.parameters.length) = some 3 := ⟨rfl, by decide +kernel, by decide +kernel, by decide +kernel⟩
noncomputable def k_X7_whyNotMove_16 (κ : gb_K) : gb_C := (o_ci (-2) o_ri)
theorem l_X7_whyNotMove_16 : gb_Li (fun κ => k_X7_whyNotMove_16 κ) := (gb_li (q_ci (-2)) (gb_li0 _))
theorem s_X7_whyNotMove_16   {κ : gb_K} (hκ : ∀ q, gb_S RX7 cX7_whyNotMove 6 (gb_rm 4 95) 1 q (κ q)) : gb_S RX7 cX7_whyNotMove 6 (gb_rm 4 95) 1 16 (k_X7_whyNotMove_16 κ) := (s_bipush (by decide +kernel) dX7_whyNotMove_16 (s_ri rfl dX7_whyNotMove_18))
noncomputable def k_X7_whyNotMove_62 (κ : gb_K) : gb_C := (o_ci 0 (o_is 5 (o_j [0, 1, 2, 3, 4, 5] (κ 65))))
theorem l_X7_whyNotMove_62 : gb_Li (fun κ => k_X7_whyNotMove_62 κ) := (gb_li (q_ci 0) (gb_li (q_is 5) (q_j [0, 1, 2, 3, 4, 5] 65)))
theorem s_X7_whyNotMove_62   {κ : gb_K} (hκ : ∀ q, gb_S RX7 cX7_whyNotMove 6 (gb_rm 4 95) 1 q (κ q)) : gb_S RX7 cX7_whyNotMove 6 (gb_rm 4 95) 1 62 (k_X7_whyNotMove_62 κ) := (s_iconst (by decide +kernel) dX7_whyNotMove_62 (s_is (Nat.le_of_ble_eq_true rfl) dX7_whyNotMove_63 (s_j (hκ 65))))
noncomputable def k_X7_whyNotMove_0 (κ : gb_K) : gb_C := (o_al 0 (o_il 1 (o_cv 1 7 2 f_X7_closed (o_zeq (o_al 0 (o_il 2 (o_cv 1 7 2 f_X7_closed (o_zeq (o_al 0 (o_gf 7 4 (o_il 1 (o_iald (o_il 3 (o_cge (o_al 0 (o_gf 7 4 (o_il 2 (o_iald (o_il 3 (o_ib (fun x y => x + y) (o_al 0 (o_gf 7 0 (o_gf 5 2 (o_il 2 (o_iald (o_cle (o_al 0 (o_il 2 (o_cv 1 7 1 f_X7_gradesIn (o_is 4 (k_X7_whyNotMove_62 κ))))) (o_ci (-4) o_ri))))))))))))) (o_ci (-3) o_ri))))))) (k_X7_whyNotMove_16 κ))))) (k_X7_whyNotMove_16 κ)))))
theorem l_X7_whyNotMove_0 : gb_Li (fun κ => k_X7_whyNotMove_0 κ) := (gb_li (q_al 0) (gb_li (q_il 1) (gb_li (q_cv 1 7 2 f_X7_closed) (q_zeq (gb_li (q_al 0) (gb_li (q_il 2) (gb_li (q_cv 1 7 2 f_X7_closed) (q_zeq (gb_li (q_al 0) (gb_li (q_gf 7 4) (gb_li (q_il 1) (gb_li q_iald (gb_li (q_il 3) (q_cge (gb_li (q_al 0) (gb_li (q_gf 7 4) (gb_li (q_il 2) (gb_li q_iald (gb_li (q_il 3) (gb_li (q_ib _) (gb_li (q_al 0) (gb_li (q_gf 7 0) (gb_li (q_gf 5 2) (gb_li (q_il 2) (gb_li q_iald (q_cle (gb_li (q_al 0) (gb_li (q_il 2) (gb_li (q_cv 1 7 1 f_X7_gradesIn) (gb_li (q_is 4) (l_X7_whyNotMove_62))))) (gb_li (q_ci (-4)) (gb_li0 _)))))))))))))) (gb_li (q_ci (-3)) (gb_li0 _)))))))) (l_X7_whyNotMove_16))))) (l_X7_whyNotMove_16)))))
theorem s_X7_whyNotMove_0   {κ : gb_K} (hκ : ∀ q, gb_S RX7 cX7_whyNotMove 6 (gb_rm 4 95) 1 q (κ q)) : gb_S RX7 cX7_whyNotMove 6 (gb_rm 4 95) 1 0 (k_X7_whyNotMove_0 κ) := (s_aln 0 rfl dX7_whyNotMove_0 (s_iln 1 rfl dX7_whyNotMove_1 (s_cv (C := RX7) c_X7_closed rfl (gb_l5 gw_139 gw_9 gw_10 gw_11 gw_12) v_X7_closed ⟨rfl, rfl⟩ ⟨Nat.le_of_ble_eq_true rfl, Nat.le_of_ble_eq_true rfl⟩ dX7_whyNotMove_2 (s_zne (tgt := 16) (by decide +kernel) dX7_whyNotMove_5 (s_X7_whyNotMove_16 hκ) (s_aln 0 rfl dX7_whyNotMove_8 (s_iln 2 rfl dX7_whyNotMove_9 (s_cv (C := RX7) c_X7_closed rfl (gb_l5 gw_139 gw_9 gw_10 gw_11 gw_12) v_X7_closed ⟨rfl, rfl⟩ ⟨Nat.le_of_ble_eq_true rfl, Nat.le_of_ble_eq_true rfl⟩ dX7_whyNotMove_10 (s_zeq (tgt := 19) (by decide +kernel) dX7_whyNotMove_13 (s_aln 0 rfl dX7_whyNotMove_19 (s_gf (T := TX7) winX7 rfl (Nat.le_of_ble_eq_true rfl) gw_80 rfl dX7_whyNotMove_20 (s_iln 1 rfl dX7_whyNotMove_23 (s_iald dX7_whyNotMove_24 (s_iln 3 rfl dX7_whyNotMove_25 (s_cge (tgt := 32) (by decide +kernel) dX7_whyNotMove_26 (s_aln 0 rfl dX7_whyNotMove_32 (s_gf (T := TX7) winX7 rfl (Nat.le_of_ble_eq_true rfl) gw_80 rfl dX7_whyNotMove_33 (s_iln 2 rfl dX7_whyNotMove_36 (s_iald dX7_whyNotMove_37 (s_iln 3 rfl dX7_whyNotMove_38 (s_iadd dX7_whyNotMove_39 (s_aln 0 rfl dX7_whyNotMove_40 (s_gf (T := TX7) winX7 rfl (Nat.le_of_ble_eq_true rfl) gw_137 rfl dX7_whyNotMove_41 (s_gf (T := TX5) winX5 rfl (Nat.le_of_ble_eq_true rfl) gw_144 rfl dX7_whyNotMove_44 (s_iln 2 rfl dX7_whyNotMove_47 (s_iald dX7_whyNotMove_48 (s_cle (tgt := 55) (by decide +kernel) dX7_whyNotMove_49 (s_aln 0 rfl dX7_whyNotMove_55 (s_iln 2 rfl dX7_whyNotMove_56 (s_cv (C := RX7) c_X7_gradesIn rfl (gb_l5 gw_145 gw_146 gw_147 gw_11 gw_148) v_X7_gradesIn ⟨rfl, rfl⟩ ⟨Nat.le_of_ble_eq_true rfl, Nat.le_of_ble_eq_true rfl⟩ dX7_whyNotMove_57 (s_is (Nat.le_of_ble_eq_true rfl) dX7_whyNotMove_60 (s_X7_whyNotMove_62 hκ))))) (s_bipush (by decide +kernel) dX7_whyNotMove_52 (s_ri rfl dX7_whyNotMove_54)))))))))))))) (s_bipush (by decide +kernel) dX7_whyNotMove_29 (s_ri rfl dX7_whyNotMove_31)))))))) (s_X7_whyNotMove_16 hκ)))))))))
noncomputable def k_X7_whyNotMove_115 (κ : gb_K) : gb_C := (o_inc 5 1 (o_j [0, 1, 2, 3, 4, 5] (κ 65)))
theorem l_X7_whyNotMove_115 : gb_Li (fun κ => k_X7_whyNotMove_115 κ) := (gb_li (q_inc 5 1) (q_j [0, 1, 2, 3, 4, 5] 65))
theorem s_X7_whyNotMove_115   {κ : gb_K} (hκ : ∀ q, gb_S RX7 cX7_whyNotMove 6 (gb_rm 4 95) 1 q (κ q)) : gb_S RX7 cX7_whyNotMove 6 (gb_rm 4 95) 1 115 (k_X7_whyNotMove_115 κ) := (s_inc (by decide +kernel) (Nat.le_of_ble_eq_true rfl) dX7_whyNotMove_115 (s_goto (tgt := 65) (by decide +kernel) dX7_whyNotMove_118 (s_j (hκ 65))))
noncomputable def k_X7_whyNotMove_139 (κ : gb_K) : gb_C := o_ri
theorem l_X7_whyNotMove_139 : gb_Li (fun κ => k_X7_whyNotMove_139 κ) := (gb_li0 _)
theorem s_X7_whyNotMove_139   {κ : gb_K} (hκ : ∀ q, gb_S RX7 cX7_whyNotMove 6 (gb_rm 4 95) 1 q (κ q)) : gb_S RX7 cX7_whyNotMove 6 (gb_rm 4 95) 1 139 (k_X7_whyNotMove_139 κ) := (s_ri rfl dX7_whyNotMove_139)
noncomputable def k_X7_whyNotMove_65 (κ : gb_K) : gb_C := (o_il 5 (o_al 0 (o_gf 7 3 (o_il 1 (o_iald (o_cge (o_al 0 (o_il 1 (o_il 2 (o_il 3 (o_cv 3 7 1 f_X7_layersWith (o_ci 6 (o_cle (o_ci 0 (k_X7_whyNotMove_139 κ)) (o_ci (-6) (k_X7_whyNotMove_139 κ))))))))) (o_al 0 (o_il 1 (o_il 5 (o_il 3 (o_cv 3 7 1 f_X7_partBelow (o_zle (k_X7_whyNotMove_115 κ) (o_il 4 (o_al 0 (o_gf 7 0 (o_gf 5 4 (o_al 0 (o_gf 7 5 (o_il 1 (o_il 5 (o_cs 2 1 f_X7_place (o_iald (o_iald (o_ib (fun x y => x &&& y) (o_zeq (k_X7_whyNotMove_115 κ) (o_ci (-5) o_ri))))))))))))))))))))))))))
theorem l_X7_whyNotMove_65 : gb_Li (fun κ => k_X7_whyNotMove_65 κ) := (gb_li (q_il 5) (gb_li (q_al 0) (gb_li (q_gf 7 3) (gb_li (q_il 1) (gb_li q_iald (q_cge (gb_li (q_al 0) (gb_li (q_il 1) (gb_li (q_il 2) (gb_li (q_il 3) (gb_li (q_cv 3 7 1 f_X7_layersWith) (gb_li (q_ci 6) (q_cle (gb_li (q_ci 0) (l_X7_whyNotMove_139)) (gb_li (q_ci (-6)) (l_X7_whyNotMove_139))))))))) (gb_li (q_al 0) (gb_li (q_il 1) (gb_li (q_il 5) (gb_li (q_il 3) (gb_li (q_cv 3 7 1 f_X7_partBelow) (q_zle (l_X7_whyNotMove_115) (gb_li (q_il 4) (gb_li (q_al 0) (gb_li (q_gf 7 0) (gb_li (q_gf 5 4) (gb_li (q_al 0) (gb_li (q_gf 7 5) (gb_li (q_il 1) (gb_li (q_il 5) (gb_li (q_cs 2 1 f_X7_place) (gb_li q_iald (gb_li q_iald (gb_li (q_ib _) (q_zeq (l_X7_whyNotMove_115) (gb_li (q_ci (-5)) (gb_li0 _)))))))))))))))))))))))))))
theorem s_X7_whyNotMove_65   {κ : gb_K} (hκ : ∀ q, gb_S RX7 cX7_whyNotMove 6 (gb_rm 4 95) 1 q (κ q)) : gb_S RX7 cX7_whyNotMove 6 (gb_rm 4 95) 1 65 (k_X7_whyNotMove_65 κ) := (s_il dX7_whyNotMove_65 (s_aln 0 rfl dX7_whyNotMove_67 (s_gf (T := TX7) winX7 rfl (Nat.le_of_ble_eq_true rfl) gw_79 rfl dX7_whyNotMove_68 (s_iln 1 rfl dX7_whyNotMove_71 (s_iald dX7_whyNotMove_72 (s_cge (tgt := 121) (by decide +kernel) dX7_whyNotMove_73 (s_aln 0 rfl dX7_whyNotMove_121 (s_iln 1 rfl dX7_whyNotMove_122 (s_iln 2 rfl dX7_whyNotMove_123 (s_iln 3 rfl dX7_whyNotMove_124 (s_cv (C := RX7) c_X7_layersWith rfl (gb_l5 gw_170 gw_171 gw_172 gw_11 gw_173) v_X7_layersWith ⟨rfl, rfl⟩ ⟨Nat.le_of_ble_eq_true rfl, Nat.le_of_ble_eq_true rfl⟩ dX7_whyNotMove_125 (s_bipush (by decide +kernel) dX7_whyNotMove_128 (s_cle (tgt := 138) (by decide +kernel) dX7_whyNotMove_130 (s_iconst (by decide +kernel) dX7_whyNotMove_138 (s_X7_whyNotMove_139 hκ)) (s_bipush (by decide +kernel) dX7_whyNotMove_133 (s_goto (tgt := 139) (by decide +kernel) dX7_whyNotMove_135 (s_X7_whyNotMove_139 hκ)))))))))) (s_aln 0 rfl dX7_whyNotMove_76 (s_iln 1 rfl dX7_whyNotMove_77 (s_il dX7_whyNotMove_78 (s_iln 3 rfl dX7_whyNotMove_80 (s_cv (C := RX7) c_X7_partBelow rfl (gb_l5 gw_156 gw_157 gw_158 gw_11 gw_159) v_X7_partBelow ⟨rfl, rfl⟩ ⟨Nat.le_of_ble_eq_true rfl, Nat.le_of_ble_eq_true rfl⟩ dX7_whyNotMove_81 (s_zle (tgt := 115) (by decide +kernel) dX7_whyNotMove_84 (s_X7_whyNotMove_115 hκ) (s_il dX7_whyNotMove_87 (s_aln 0 rfl dX7_whyNotMove_89 (s_gf (T := TX7) winX7 rfl (Nat.le_of_ble_eq_true rfl) gw_137 rfl dX7_whyNotMove_90 (s_gf (T := TX5) winX5 rfl (Nat.le_of_ble_eq_true rfl) gw_149 rfl dX7_whyNotMove_93 (s_aln 0 rfl dX7_whyNotMove_96 (s_gf (T := TX7) winX7 rfl (Nat.le_of_ble_eq_true rfl) gw_84 rfl dX7_whyNotMove_97 (s_iln 1 rfl dX7_whyNotMove_100 (s_il dX7_whyNotMove_101 (s_cs c_X7_place (gb_l4 gw_83 gw_23 gw_11 gw_24) v_X7_place.2 ⟨rfl, rfl⟩ ⟨Nat.le_of_ble_eq_true rfl, Nat.le_of_ble_eq_true rfl⟩ dX7_whyNotMove_103 (s_iald dX7_whyNotMove_106 (s_iald dX7_whyNotMove_107 (s_iand dX7_whyNotMove_108 (s_zeq (tgt := 115) (by decide +kernel) dX7_whyNotMove_109 (s_X7_whyNotMove_115 hκ) (s_bipush (by decide +kernel) dX7_whyNotMove_112 (s_ri rfl dX7_whyNotMove_114)))))))))))))))))))))))))))
noncomputable def B_X7_whyNotMove : List (Nat × (gb_K → gb_C)) := [(65, fun κ => k_X7_whyNotMove_65 κ)]
noncomputable def K_X7_whyNotMove : gb_K := gb_fx (gb_tb (B_X7_whyNotMove))
theorem L_X7_whyNotMove : ∀ q, gb_Li (fun κ => gb_tb (B_X7_whyNotMove) κ q) := gb_tb_li (List.forall_mem_cons.mpr ⟨l_X7_whyNotMove_65, (fun _ h => absurd h List.not_mem_nil)⟩)
theorem S_X7_whyNotMove   : ∀ q, gb_S RX7 cX7_whyNotMove 6 (gb_rm 4 95) 1 q (K_X7_whyNotMove q) := fun q => gb_fx_S (L_X7_whyNotMove) (gb_tb_S (List.forall_mem_cons.mpr ⟨fun κ hκ => s_X7_whyNotMove_65 hκ, (fun _ h => absurd h List.not_mem_nil)⟩)) q
noncomputable def f_X7_whyNotMove : gb_F := gb_hide (gb_mf 6 (k_X7_whyNotMove_0 (K_X7_whyNotMove)))
theorem c_X7_whyNotMove : ∀ l, gb_Met l yX7_whyNotMove cX7_whyNotMove 6 (some .int) 1 (gb_rm 4 95) f_X7_whyNotMove := gb_hide_c (gb_met (own := RX7) (rk := 1) rfl (by decide +kernel) ⟨rfl, rfl⟩ (s_X7_whyNotMove_0 (S_X7_whyNotMove)))
theorem dX7_shift_0 : decode cX7_shift 0 = .ok (.iconst 0, 1) := by decide +kernel
theorem dX7_shift_1 : decode cX7_shift 1 = .ok (.istore 4, 2) := by decide +kernel
theorem dX7_shift_3 : decode cX7_shift 3 = .ok (.iload 4, 2) := by decide +kernel
theorem dX7_shift_5 : decode cX7_shift 5 = .ok (.aload_n 0, 1) := by decide +kernel
theorem dX7_shift_6 : decode cX7_shift 6 = .ok (.getfield 18, 3) := by decide +kernel
theorem dX7_shift_9 : decode cX7_shift 9 = .ok (.iload_n 1, 1) := by decide +kernel
theorem dX7_shift_10 : decode cX7_shift 10 = .ok (.iaload, 1) := by decide +kernel
theorem dX7_shift_11 : decode cX7_shift 11 = .ok (.if_icmp .ge 53, 3) := by decide +kernel
theorem dX7_shift_14 : decode cX7_shift 14 = .ok (.aload_n 0, 1) := by decide +kernel
theorem dX7_shift_15 : decode cX7_shift 15 = .ok (.iload_n 1, 1) := by decide +kernel
theorem dX7_shift_16 : decode cX7_shift 16 = .ok (.iload 4, 2) := by decide +kernel
theorem dX7_shift_18 : decode cX7_shift 18 = .ok (.iload_n 3, 1) := by decide +kernel
theorem dX7_shift_19 : decode cX7_shift 19 = .ok (.invokevirtual 89, 3) := by decide +kernel
theorem dX7_shift_22 : decode cX7_shift 22 = .ok (.istore 5, 2) := by decide +kernel
theorem dX7_shift_24 : decode cX7_shift 24 = .ok (.iload 5, 2) := by decide +kernel
theorem dX7_shift_26 : decode cX7_shift 26 = .ok (.ifCond .le 32, 3) := by decide +kernel
theorem dX7_shift_29 : decode cX7_shift 29 = .ok (.aload_n 0, 1) := by decide +kernel
theorem dX7_shift_30 : decode cX7_shift 30 = .ok (.iload_n 2, 1) := by decide +kernel
theorem dX7_shift_31 : decode cX7_shift 31 = .ok (.aload_n 0, 1) := by decide +kernel
theorem dX7_shift_32 : decode cX7_shift 32 = .ok (.getfield 24, 3) := by decide +kernel
theorem dX7_shift_35 : decode cX7_shift 35 = .ok (.iload_n 1, 1) := by decide +kernel
theorem dX7_shift_36 : decode cX7_shift 36 = .ok (.iload 4, 2) := by decide +kernel
theorem dX7_shift_38 : decode cX7_shift 38 = .ok (.invokestatic 51, 3) := by decide +kernel
theorem dX7_shift_41 : decode cX7_shift 41 = .ok (.iaload, 1) := by decide +kernel
theorem dX7_shift_42 : decode cX7_shift 42 = .ok (.iload 5, 2) := by decide +kernel
theorem dX7_shift_44 : decode cX7_shift 44 = .ok (.aload_n 0, 1) := by decide +kernel
theorem dX7_shift_45 : decode cX7_shift 45 = .ok (.getfield 30, 3) := by decide +kernel
theorem dX7_shift_48 : decode cX7_shift 48 = .ok (.iload_n 1, 1) := by decide +kernel
theorem dX7_shift_49 : decode cX7_shift 49 = .ok (.iload 4, 2) := by decide +kernel
theorem dX7_shift_51 : decode cX7_shift 51 = .ok (.invokestatic 51, 3) := by decide +kernel
theorem dX7_shift_54 : decode cX7_shift 54 = .ok (.iaload, 1) := by decide +kernel
theorem dX7_shift_55 : decode cX7_shift 55 = .ok (.invokevirtual 104, 3) := by decide +kernel
theorem dX7_shift_58 : decode cX7_shift 58 = .ok (.iinc 4 1, 3) := by decide +kernel
theorem dX7_shift_61 : decode cX7_shift 61 = .ok (.goto (-58), 3) := by decide +kernel
theorem dX7_shift_64 : decode cX7_shift 64 = .ok (.aload_n 0, 1) := by decide +kernel
theorem dX7_shift_65 : decode cX7_shift 65 = .ok (.iload_n 1, 1) := by decide +kernel
theorem dX7_shift_66 : decode cX7_shift 66 = .ok (.iload_n 3, 1) := by decide +kernel
theorem dX7_shift_67 : decode cX7_shift 67 = .ok (.invokevirtual 96, 3) := by decide +kernel
theorem dX7_shift_70 : decode cX7_shift 70 = .ok (.return_, 1) := by decide +kernel
theorem v_X7_shift : yX7_shift.cls = RX7 ∧ yX7_shift.cls ≠ "java/lang/invoke/MethodHandle" ∧ yX7_shift.cls ≠ "java/lang/invoke/VarHandle" ∧ (parseMethodDescriptor yX7_shift.desc).map (fun d => d.parameters.length) = some 3 := ⟨rfl, by decide +kernel, by decide +kernel, by decide +kernel⟩
noncomputable def k_X7_shift_0 (κ : gb_K) : gb_C := (o_ci 0 (o_is 4 (o_j [0, 1, 2, 3, 4] (κ 3))))
theorem l_X7_shift_0 : gb_Li (fun κ => k_X7_shift_0 κ) := (gb_li (q_ci 0) (gb_li (q_is 4) (q_j [0, 1, 2, 3, 4] 3)))
theorem s_X7_shift_0   {κ : gb_K} (hκ : ∀ q, gb_S RX7 cX7_shift 6 (gb_rm 3 70) 0 q (κ q)) : gb_S RX7 cX7_shift 6 (gb_rm 3 70) 0 0 (k_X7_shift_0 κ) := (s_iconst (by decide +kernel) dX7_shift_0 (s_is (Nat.le_of_ble_eq_true rfl) dX7_shift_1 (s_j (hκ 3))))
noncomputable def k_X7_shift_58 (κ : gb_K) : gb_C := (o_inc 4 1 (o_j [0, 1, 2, 3, 4] (κ 3)))
theorem l_X7_shift_58 : gb_Li (fun κ => k_X7_shift_58 κ) := (gb_li (q_inc 4 1) (q_j [0, 1, 2, 3, 4] 3))
theorem s_X7_shift_58   {κ : gb_K} (hκ : ∀ q, gb_S RX7 cX7_shift 6 (gb_rm 3 70) 0 q (κ q)) : gb_S RX7 cX7_shift 6 (gb_rm 3 70) 0 58 (k_X7_shift_58 κ) := (s_inc (by decide +kernel) (Nat.le_of_ble_eq_true rfl) dX7_shift_58 (s_goto (tgt := 3) (by decide +kernel) dX7_shift_61 (s_j (hκ 3))))
noncomputable def k_X7_shift_3 (κ : gb_K) : gb_C := (o_il 4 (o_al 0 (o_gf 7 3 (o_il 1 (o_iald (o_cge (o_al 0 (o_il 1 (o_il 3 (o_cv 2 7 0 f_X7_take o_rv)))) (o_al 0 (o_il 1 (o_il 4 (o_il 3 (o_cv 3 7 1 f_X7_partBelow (o_is 5 (o_il 5 (o_zle (k_X7_shift_58 κ) (o_al 0 (o_il 2 (o_al 0 (o_gf 7 5 (o_il 1 (o_il 4 (o_cs 2 1 f_X7_place (o_iald (o_il 5 (o_al 0 (o_gf 7 7 (o_il 1 (o_il 4 (o_cs 2 1 f_X7_place (o_iald (o_cv 4 7 0 f_X7_lay (k_X7_shift_58 κ)))))))))))))))))))))))))))))))
theorem l_X7_shift_3 : gb_Li (fun κ => k_X7_shift_3 κ) := (gb_li (q_il 4) (gb_li (q_al 0) (gb_li (q_gf 7 3) (gb_li (q_il 1) (gb_li q_iald (q_cge (gb_li (q_al 0) (gb_li (q_il 1) (gb_li (q_il 3) (gb_li (q_cv 2 7 0 f_X7_take) (gb_li0 _))))) (gb_li (q_al 0) (gb_li (q_il 1) (gb_li (q_il 4) (gb_li (q_il 3) (gb_li (q_cv 3 7 1 f_X7_partBelow) (gb_li (q_is 5) (gb_li (q_il 5) (q_zle (l_X7_shift_58) (gb_li (q_al 0) (gb_li (q_il 2) (gb_li (q_al 0) (gb_li (q_gf 7 5) (gb_li (q_il 1) (gb_li (q_il 4) (gb_li (q_cs 2 1 f_X7_place) (gb_li q_iald (gb_li (q_il 5) (gb_li (q_al 0) (gb_li (q_gf 7 7) (gb_li (q_il 1) (gb_li (q_il 4) (gb_li (q_cs 2 1 f_X7_place) (gb_li q_iald (gb_li (q_cv 4 7 0 f_X7_lay) (l_X7_shift_58)))))))))))))))))))))))))))))))
theorem s_X7_shift_3   {κ : gb_K} (hκ : ∀ q, gb_S RX7 cX7_shift 6 (gb_rm 3 70) 0 q (κ q)) : gb_S RX7 cX7_shift 6 (gb_rm 3 70) 0 3 (k_X7_shift_3 κ) := (s_il dX7_shift_3 (s_aln 0 rfl dX7_shift_5 (s_gf (T := TX7) winX7 rfl (Nat.le_of_ble_eq_true rfl) gw_79 rfl dX7_shift_6 (s_iln 1 rfl dX7_shift_9 (s_iald dX7_shift_10 (s_cge (tgt := 64) (by decide +kernel) dX7_shift_11 (s_aln 0 rfl dX7_shift_64 (s_iln 1 rfl dX7_shift_65 (s_iln 3 rfl dX7_shift_66 (s_cv (C := RX7) c_X7_take rfl (gb_l5 gw_161 gw_162 gw_163 gw_11 gw_164) v_X7_take ⟨rfl, rfl⟩ ⟨Nat.le_of_ble_eq_true rfl, Nat.le_of_ble_eq_true rfl⟩ dX7_shift_67 (s_rv rfl dX7_shift_70))))) (s_aln 0 rfl dX7_shift_14 (s_iln 1 rfl dX7_shift_15 (s_il dX7_shift_16 (s_iln 3 rfl dX7_shift_18 (s_cv (C := RX7) c_X7_partBelow rfl (gb_l5 gw_156 gw_157 gw_158 gw_11 gw_159) v_X7_partBelow ⟨rfl, rfl⟩ ⟨Nat.le_of_ble_eq_true rfl, Nat.le_of_ble_eq_true rfl⟩ dX7_shift_19 (s_is (Nat.le_of_ble_eq_true rfl) dX7_shift_22 (s_il dX7_shift_24 (s_zle (tgt := 58) (by decide +kernel) dX7_shift_26 (s_X7_shift_58 hκ) (s_aln 0 rfl dX7_shift_29 (s_iln 2 rfl dX7_shift_30 (s_aln 0 rfl dX7_shift_31 (s_gf (T := TX7) winX7 rfl (Nat.le_of_ble_eq_true rfl) gw_84 rfl dX7_shift_32 (s_iln 1 rfl dX7_shift_35 (s_il dX7_shift_36 (s_cs c_X7_place (gb_l4 gw_83 gw_23 gw_11 gw_24) v_X7_place.2 ⟨rfl, rfl⟩ ⟨Nat.le_of_ble_eq_true rfl, Nat.le_of_ble_eq_true rfl⟩ dX7_shift_38 (s_iald dX7_shift_41 (s_il dX7_shift_42 (s_aln 0 rfl dX7_shift_44 (s_gf (T := TX7) winX7 rfl (Nat.le_of_ble_eq_true rfl) gw_82 rfl dX7_shift_45 (s_iln 1 rfl dX7_shift_48 (s_il dX7_shift_49 (s_cs c_X7_place (gb_l4 gw_83 gw_23 gw_11 gw_24) v_X7_place.2 ⟨rfl, rfl⟩ ⟨Nat.le_of_ble_eq_true rfl, Nat.le_of_ble_eq_true rfl⟩ dX7_shift_51 (s_iald dX7_shift_54 (s_cv (C := RX7) c_X7_lay rfl (gb_l5 gw_174 gw_175 gw_176 gw_11 gw_177) v_X7_lay ⟨rfl, rfl⟩ ⟨Nat.le_of_ble_eq_true rfl, Nat.le_of_ble_eq_true rfl⟩ dX7_shift_55 (s_X7_shift_58 hκ)))))))))))))))))))))))))))))))
noncomputable def B_X7_shift : List (Nat × (gb_K → gb_C)) := [(3, fun κ => k_X7_shift_3 κ)]
noncomputable def K_X7_shift : gb_K := gb_fx (gb_tb (B_X7_shift))
theorem L_X7_shift : ∀ q, gb_Li (fun κ => gb_tb (B_X7_shift) κ q) := gb_tb_li (List.forall_mem_cons.mpr ⟨l_X7_shift_3, (fun _ h => absurd h List.not_mem_nil)⟩)
theorem S_X7_shift   : ∀ q, gb_S RX7 cX7_shift 6 (gb_rm 3 70) 0 q (K_X7_shift q) := fun q => gb_fx_S (L_X7_shift) (gb_tb_S (List.forall_mem_cons.mpr ⟨fun κ hκ => s_X7_shift_3 hκ, (fun _ h => absurd h List.not_mem_nil)⟩)) q
noncomputable def f_X7_shift : gb_F := gb_hide (gb_mf 6 (k_X7_shift_0 (K_X7_shift)))
theorem c_X7_shift : ∀ l, gb_Met l yX7_shift cX7_shift 6 none 0 (gb_rm 3 70) f_X7_shift := gb_hide_c (gb_met (own := RX7) (rk := 0) rfl (by decide +kernel) ⟨rfl, rfl⟩ (s_X7_shift_0 (S_X7_shift)))
theorem dX7_join_0 : decode cX7_join 0 = .ok (.aload_n 0, 1) := by decide +kernel
theorem dX7_join_1 : decode cX7_join 1 = .ok (.getfield 18, 3) := by decide +kernel
theorem dX7_join_4 : decode cX7_join 4 = .ok (.iload_n 1, 1) := by decide +kernel
theorem dX7_join_5 : decode cX7_join 5 = .ok (.iaload, 1) := by decide +kernel
theorem dX7_join_6 : decode cX7_join 6 = .ok (.istore_n 2, 1) := by decide +kernel
theorem dX7_join_7 : decode cX7_join 7 = .ok (.aload_n 0, 1) := by decide +kernel
theorem dX7_join_8 : decode cX7_join 8 = .ok (.getfield 18, 3) := by decide +kernel
theorem dX7_join_11 : decode cX7_join 11 = .ok (.iload_n 1, 1) := by decide +kernel
theorem dX7_join_12 : decode cX7_join 12 = .ok (.iconst 0, 1) := by decide +kernel
theorem dX7_join_13 : decode cX7_join 13 = .ok (.iastore, 1) := by decide +kernel
theorem dX7_join_14 : decode cX7_join 14 = .ok (.aload_n 0, 1) := by decide +kernel
theorem dX7_join_15 : decode cX7_join 15 = .ok (.getfield 21, 3) := by decide +kernel
theorem dX7_join_18 : decode cX7_join 18 = .ok (.iload_n 1, 1) := by decide +kernel
theorem dX7_join_19 : decode cX7_join 19 = .ok (.iconst 0, 1) := by decide +kernel
theorem dX7_join_20 : decode cX7_join 20 = .ok (.iastore, 1) := by decide +kernel
theorem dX7_join_21 : decode cX7_join 21 = .ok (.iconst 0, 1) := by decide +kernel
theorem dX7_join_22 : decode cX7_join 22 = .ok (.istore_n 3, 1) := by decide +kernel
theorem dX7_join_23 : decode cX7_join 23 = .ok (.iload_n 3, 1) := by decide +kernel
theorem dX7_join_24 : decode cX7_join 24 = .ok (.bipush 6, 2) := by decide +kernel
theorem dX7_join_26 : decode cX7_join 26 = .ok (.if_icmp .ge 21, 3) := by decide +kernel
theorem dX7_join_29 : decode cX7_join 29 = .ok (.aload_n 0, 1) := by decide +kernel
theorem dX7_join_30 : decode cX7_join 30 = .ok (.getfield 33, 3) := by decide +kernel
theorem dX7_join_33 : decode cX7_join 33 = .ok (.iload_n 1, 1) := by decide +kernel
theorem dX7_join_34 : decode cX7_join 34 = .ok (.bipush 6, 2) := by decide +kernel
theorem dX7_join_36 : decode cX7_join 36 = .ok (.imul, 1) := by decide +kernel
theorem dX7_join_37 : decode cX7_join 37 = .ok (.iload_n 3, 1) := by decide +kernel
theorem dX7_join_38 : decode cX7_join 38 = .ok (.iadd, 1) := by decide +kernel
theorem dX7_join_39 : decode cX7_join 39 = .ok (.iconst 0, 1) := by decide +kernel
theorem dX7_join_40 : decode cX7_join 40 = .ok (.iastore, 1) := by decide +kernel
theorem dX7_join_41 : decode cX7_join 41 = .ok (.iinc 3 1, 3) := by decide +kernel
theorem dX7_join_44 : decode cX7_join 44 = .ok (.goto (-21), 3) := by decide +kernel
theorem dX7_join_47 : decode cX7_join 47 = .ok (.iconst 0, 1) := by decide +kernel
theorem dX7_join_48 : decode cX7_join 48 = .ok (.istore_n 3, 1) := by decide +kernel
theorem dX7_join_49 : decode cX7_join 49 = .ok (.iload_n 3, 1) := by decide +kernel
theorem dX7_join_50 : decode cX7_join 50 = .ok (.iload_n 2, 1) := by decide +kernel
theorem dX7_join_51 : decode cX7_join 51 = .ok (.if_icmp .ge 42, 3) := by decide +kernel
theorem dX7_join_54 : decode cX7_join 54 = .ok (.iload_n 1, 1) := by decide +kernel
theorem dX7_join_55 : decode cX7_join 55 = .ok (.iload_n 3, 1) := by decide +kernel
theorem dX7_join_56 : decode cX7_join 56 = .ok (.invokestatic 51, 3) := by decide +kernel
theorem dX7_join_59 : decode cX7_join 59 = .ok (.istore 4, 2) := by decide +kernel
theorem dX7_join_61 : decode cX7_join 61 = .ok (.aload_n 0, 1) := by decide +kernel
theorem dX7_join_62 : decode cX7_join 62 = .ok (.iload_n 1, 1) := by decide +kernel
theorem dX7_join_63 : decode cX7_join 63 = .ok (.aload_n 0, 1) := by decide +kernel
theorem dX7_join_64 : decode cX7_join 64 = .ok (.getfield 24, 3) := by decide +kernel
theorem dX7_join_67 : decode cX7_join 67 = .ok (.iload 4, 2) := by decide +kernel
theorem dX7_join_69 : decode cX7_join 69 = .ok (.iaload, 1) := by decide +kernel
theorem dX7_join_70 : decode cX7_join 70 = .ok (.aload_n 0, 1) := by decide +kernel
theorem dX7_join_71 : decode cX7_join 71 = .ok (.getfield 27, 3) := by decide +kernel
theorem dX7_join_74 : decode cX7_join 74 = .ok (.iload 4, 2) := by decide +kernel
theorem dX7_join_76 : decode cX7_join 76 = .ok (.iaload, 1) := by decide +kernel
theorem dX7_join_77 : decode cX7_join 77 = .ok (.aload_n 0, 1) := by decide +kernel
theorem dX7_join_78 : decode cX7_join 78 = .ok (.getfield 30, 3) := by decide +kernel
theorem dX7_join_81 : decode cX7_join 81 = .ok (.iload 4, 2) := by decide +kernel
theorem dX7_join_83 : decode cX7_join 83 = .ok (.iaload, 1) := by decide +kernel
theorem dX7_join_84 : decode cX7_join 84 = .ok (.invokevirtual 104, 3) := by decide +kernel
theorem dX7_join_87 : decode cX7_join 87 = .ok (.iinc 3 1, 3) := by decide +kernel
theorem dX7_join_90 : decode cX7_join 90 = .ok (.goto (-41), 3) := by decide +kernel
theorem dX7_join_93 : decode cX7_join 93 = .ok (.return_, 1) := by decide +kernel
theorem v_X7_join : yX7_join.cls = RX7 ∧ yX7_join.cls ≠ "java/lang/invoke/MethodHandle" ∧ yX7_join.cls ≠ "java/lang/invoke/VarHandle" ∧ (parseMethodDescriptor yX7_join.desc).map (fun d => d.parameters.length) = some 1 := ⟨rfl, by decide +kernel, by decide +kernel, by decide +kernel⟩
noncomputable def k_X7_join_0 (κ : gb_K) : gb_C := (o_al 0 (o_gf 7 3 (o_il 1 (o_iald (o_is 2 (o_al 0 (o_gf 7 3 (o_il 1 (o_ci 0 (o_iast (o_al 0 (o_gf 7 4 (o_il 1 (o_ci 0 (o_iast (o_ci 0 (o_is 3 (o_j [0, 1, 2, 3] (κ 23)))))))))))))))))))
theorem l_X7_join_0 : gb_Li (fun κ => k_X7_join_0 κ) := (gb_li (q_al 0) (gb_li (q_gf 7 3) (gb_li (q_il 1) (gb_li q_iald (gb_li (q_is 2) (gb_li (q_al 0) (gb_li (q_gf 7 3) (gb_li (q_il 1) (gb_li (q_ci 0) (gb_li q_iast (gb_li (q_al 0) (gb_li (q_gf 7 4) (gb_li (q_il 1) (gb_li (q_ci 0) (gb_li q_iast (gb_li (q_ci 0) (gb_li (q_is 3) (q_j [0, 1, 2, 3] 23))))))))))))))))))
theorem s_X7_join_0   {κ : gb_K} (hκ : ∀ q, gb_S RX7 cX7_join 5 (gb_rm 3 70) 0 q (κ q)) : gb_S RX7 cX7_join 5 (gb_rm 3 70) 0 0 (k_X7_join_0 κ) := (s_aln 0 rfl dX7_join_0 (s_gf (T := TX7) winX7 rfl (Nat.le_of_ble_eq_true rfl) gw_79 rfl dX7_join_1 (s_iln 1 rfl dX7_join_4 (s_iald dX7_join_5 (s_isn 2 rfl (Nat.le_of_ble_eq_true rfl) dX7_join_6 (s_aln 0 rfl dX7_join_7 (s_gf (T := TX7) winX7 rfl (Nat.le_of_ble_eq_true rfl) gw_79 rfl dX7_join_8 (s_iln 1 rfl dX7_join_11 (s_iconst (by decide +kernel) dX7_join_12 (s_iast dX7_join_13 (s_aln 0 rfl dX7_join_14 (s_gf (T := TX7) winX7 rfl (Nat.le_of_ble_eq_true rfl) gw_80 rfl dX7_join_15 (s_iln 1 rfl dX7_join_18 (s_iconst (by decide +kernel) dX7_join_19 (s_iast dX7_join_20 (s_iconst (by decide +kernel) dX7_join_21 (s_isn 3 rfl (Nat.le_of_ble_eq_true rfl) dX7_join_22 (s_j (hκ 23)))))))))))))))))))
noncomputable def k_X7_join_23 (κ : gb_K) : gb_C := (o_il 3 (o_ci 6 (o_cge (o_ci 0 (o_is 3 (o_j [0, 1, 2, 3] (κ 49)))) (o_al 0 (o_gf 7 8 (o_il 1 (o_ci 6 (o_ib (fun x y => x * y) (o_il 3 (o_ib (fun x y => x + y) (o_ci 0 (o_iast (o_inc 3 1 (o_j [0, 1, 2, 3] (κ 23)))))))))))))))
theorem l_X7_join_23 : gb_Li (fun κ => k_X7_join_23 κ) := (gb_li (q_il 3) (gb_li (q_ci 6) (q_cge (gb_li (q_ci 0) (gb_li (q_is 3) (q_j [0, 1, 2, 3] 49))) (gb_li (q_al 0) (gb_li (q_gf 7 8) (gb_li (q_il 1) (gb_li (q_ci 6) (gb_li (q_ib _) (gb_li (q_il 3) (gb_li (q_ib _) (gb_li (q_ci 0) (gb_li q_iast (gb_li (q_inc 3 1) (q_j [0, 1, 2, 3] 23))))))))))))))
theorem s_X7_join_23   {κ : gb_K} (hκ : ∀ q, gb_S RX7 cX7_join 5 (gb_rm 3 70) 0 q (κ q)) : gb_S RX7 cX7_join 5 (gb_rm 3 70) 0 23 (k_X7_join_23 κ) := (s_iln 3 rfl dX7_join_23 (s_bipush (by decide +kernel) dX7_join_24 (s_cge (tgt := 47) (by decide +kernel) dX7_join_26 (s_iconst (by decide +kernel) dX7_join_47 (s_isn 3 rfl (Nat.le_of_ble_eq_true rfl) dX7_join_48 (s_j (hκ 49)))) (s_aln 0 rfl dX7_join_29 (s_gf (T := TX7) winX7 rfl (Nat.le_of_ble_eq_true rfl) gw_81 rfl dX7_join_30 (s_iln 1 rfl dX7_join_33 (s_bipush (by decide +kernel) dX7_join_34 (s_imul dX7_join_36 (s_iln 3 rfl dX7_join_37 (s_iadd dX7_join_38 (s_iconst (by decide +kernel) dX7_join_39 (s_iast dX7_join_40 (s_inc (by decide +kernel) (Nat.le_of_ble_eq_true rfl) dX7_join_41 (s_goto (tgt := 23) (by decide +kernel) dX7_join_44 (s_j (hκ 23))))))))))))))))
noncomputable def k_X7_join_49 (κ : gb_K) : gb_C := (o_il 3 (o_il 2 (o_cge o_rv (o_il 1 (o_il 3 (o_cs 2 1 f_X7_place (o_is 4 (o_al 0 (o_il 1 (o_al 0 (o_gf 7 5 (o_il 4 (o_iald (o_al 0 (o_gf 7 6 (o_il 4 (o_iald (o_al 0 (o_gf 7 7 (o_il 4 (o_iald (o_cv 4 7 0 f_X7_lay (o_inc 3 1 (o_j [0, 1, 2, 3] (κ 49)))))))))))))))))))))))))
theorem l_X7_join_49 : gb_Li (fun κ => k_X7_join_49 κ) := (gb_li (q_il 3) (gb_li (q_il 2) (q_cge (gb_li0 _) (gb_li (q_il 1) (gb_li (q_il 3) (gb_li (q_cs 2 1 f_X7_place) (gb_li (q_is 4) (gb_li (q_al 0) (gb_li (q_il 1) (gb_li (q_al 0) (gb_li (q_gf 7 5) (gb_li (q_il 4) (gb_li q_iald (gb_li (q_al 0) (gb_li (q_gf 7 6) (gb_li (q_il 4) (gb_li q_iald (gb_li (q_al 0) (gb_li (q_gf 7 7) (gb_li (q_il 4) (gb_li q_iald (gb_li (q_cv 4 7 0 f_X7_lay) (gb_li (q_inc 3 1) (q_j [0, 1, 2, 3] 49))))))))))))))))))))))))
theorem s_X7_join_49   {κ : gb_K} (hκ : ∀ q, gb_S RX7 cX7_join 5 (gb_rm 3 70) 0 q (κ q)) : gb_S RX7 cX7_join 5 (gb_rm 3 70) 0 49 (k_X7_join_49 κ) := (s_iln 3 rfl dX7_join_49 (s_iln 2 rfl dX7_join_50 (s_cge (tgt := 93) (by decide +kernel) dX7_join_51 (s_rv rfl dX7_join_93) (s_iln 1 rfl dX7_join_54 (s_iln 3 rfl dX7_join_55 (s_cs c_X7_place (gb_l4 gw_83 gw_23 gw_11 gw_24) v_X7_place.2 ⟨rfl, rfl⟩ ⟨Nat.le_of_ble_eq_true rfl, Nat.le_of_ble_eq_true rfl⟩ dX7_join_56 (s_is (Nat.le_of_ble_eq_true rfl) dX7_join_59 (s_aln 0 rfl dX7_join_61 (s_iln 1 rfl dX7_join_62 (s_aln 0 rfl dX7_join_63 (s_gf (T := TX7) winX7 rfl (Nat.le_of_ble_eq_true rfl) gw_84 rfl dX7_join_64 (s_il dX7_join_67 (s_iald dX7_join_69 (s_aln 0 rfl dX7_join_70 (s_gf (T := TX7) winX7 rfl (Nat.le_of_ble_eq_true rfl) gw_85 rfl dX7_join_71 (s_il dX7_join_74 (s_iald dX7_join_76 (s_aln 0 rfl dX7_join_77 (s_gf (T := TX7) winX7 rfl (Nat.le_of_ble_eq_true rfl) gw_82 rfl dX7_join_78 (s_il dX7_join_81 (s_iald dX7_join_83 (s_cv (C := RX7) c_X7_lay rfl (gb_l5 gw_174 gw_175 gw_176 gw_11 gw_177) v_X7_lay ⟨rfl, rfl⟩ ⟨Nat.le_of_ble_eq_true rfl, Nat.le_of_ble_eq_true rfl⟩ dX7_join_84 (s_inc (by decide +kernel) (Nat.le_of_ble_eq_true rfl) dX7_join_87 (s_goto (tgt := 49) (by decide +kernel) dX7_join_90 (s_j (hκ 49))))))))))))))))))))))))))
noncomputable def B_X7_join : List (Nat × (gb_K → gb_C)) := [(23, fun κ => k_X7_join_23 κ), (49, fun κ => k_X7_join_49 κ)]
noncomputable def K_X7_join : gb_K := gb_fx (gb_tb (B_X7_join))
theorem L_X7_join : ∀ q, gb_Li (fun κ => gb_tb (B_X7_join) κ q) := gb_tb_li (List.forall_mem_cons.mpr ⟨l_X7_join_23, List.forall_mem_cons.mpr ⟨l_X7_join_49, (fun _ h => absurd h List.not_mem_nil)⟩⟩)
theorem S_X7_join   : ∀ q, gb_S RX7 cX7_join 5 (gb_rm 3 70) 0 q (K_X7_join q) := fun q => gb_fx_S (L_X7_join) (gb_tb_S (List.forall_mem_cons.mpr ⟨fun κ hκ => s_X7_join_23 hκ, List.forall_mem_cons.mpr ⟨fun κ hκ => s_X7_join_49 hκ, (fun _ h => absurd h List.not_mem_nil)⟩⟩)) q
noncomputable def f_X7_join : gb_F := gb_hide (gb_mf 5 (k_X7_join_0 (K_X7_join)))
theorem c_X7_join : ∀ l, gb_Met l yX7_join cX7_join 5 none 0 (gb_rm 3 70) f_X7_join := gb_hide_c (gb_met (own := RX7) (rk := 0) rfl (by decide +kernel) ⟨rfl, rfl⟩ (s_X7_join_0 (S_X7_join)))
theorem dX7_fumigate_0 : decode cX7_fumigate 0 = .ok (.aload_n 0, 1) := by decide +kernel
theorem dX7_fumigate_1 : decode cX7_fumigate 1 = .ok (.getfield 15, 3) := by decide +kernel
theorem dX7_fumigate_4 : decode cX7_fumigate 4 = .ok (.iload_n 1, 1) := by decide +kernel
theorem dX7_fumigate_5 : decode cX7_fumigate 5 = .ok (.aload_n 0, 1) := by decide +kernel
theorem dX7_fumigate_6 : decode cX7_fumigate 6 = .ok (.getfield 44, 3) := by decide +kernel
theorem dX7_fumigate_9 : decode cX7_fumigate 9 = .ok (.iload_n 2, 1) := by decide +kernel
theorem dX7_fumigate_10 : decode cX7_fumigate 10 = .ok (.iadd, 1) := by decide +kernel
theorem dX7_fumigate_11 : decode cX7_fumigate 11 = .ok (.iastore, 1) := by decide +kernel
theorem dX7_fumigate_12 : decode cX7_fumigate 12 = .ok (.iconst 0, 1) := by decide +kernel
theorem dX7_fumigate_13 : decode cX7_fumigate 13 = .ok (.istore_n 3, 1) := by decide +kernel
theorem dX7_fumigate_14 : decode cX7_fumigate 14 = .ok (.iload_n 3, 1) := by decide +kernel
theorem dX7_fumigate_15 : decode cX7_fumigate 15 = .ok (.aload_n 0, 1) := by decide +kernel
theorem dX7_fumigate_16 : decode cX7_fumigate 16 = .ok (.getfield 18, 3) := by decide +kernel
theorem dX7_fumigate_19 : decode cX7_fumigate 19 = .ok (.iload_n 1, 1) := by decide +kernel
theorem dX7_fumigate_20 : decode cX7_fumigate 20 = .ok (.iaload, 1) := by decide +kernel
theorem dX7_fumigate_21 : decode cX7_fumigate 21 = .ok (.if_icmp .ge 25, 3) := by decide +kernel
theorem dX7_fumigate_24 : decode cX7_fumigate 24 = .ok (.aload_n 0, 1) := by decide +kernel
theorem dX7_fumigate_25 : decode cX7_fumigate 25 = .ok (.getfield 30, 3) := by decide +kernel
theorem dX7_fumigate_28 : decode cX7_fumigate 28 = .ok (.iload_n 1, 1) := by decide +kernel
theorem dX7_fumigate_29 : decode cX7_fumigate 29 = .ok (.iload_n 3, 1) := by decide +kernel
theorem dX7_fumigate_30 : decode cX7_fumigate 30 = .ok (.invokestatic 51, 3) := by decide +kernel
theorem dX7_fumigate_33 : decode cX7_fumigate 33 = .ok (.aload_n 0, 1) := by decide +kernel
theorem dX7_fumigate_34 : decode cX7_fumigate 34 = .ok (.getfield 15, 3) := by decide +kernel
theorem dX7_fumigate_37 : decode cX7_fumigate 37 = .ok (.iload_n 1, 1) := by decide +kernel
theorem dX7_fumigate_38 : decode cX7_fumigate 38 = .ok (.iaload, 1) := by decide +kernel
theorem dX7_fumigate_39 : decode cX7_fumigate 39 = .ok (.iastore, 1) := by decide +kernel
theorem dX7_fumigate_40 : decode cX7_fumigate 40 = .ok (.iinc 3 1, 3) := by decide +kernel
theorem dX7_fumigate_43 : decode cX7_fumigate 43 = .ok (.goto (-29), 3) := by decide +kernel
theorem dX7_fumigate_46 : decode cX7_fumigate 46 = .ok (.aload_n 0, 1) := by decide +kernel
theorem dX7_fumigate_47 : decode cX7_fumigate 47 = .ok (.iload_n 1, 1) := by decide +kernel
theorem dX7_fumigate_48 : decode cX7_fumigate 48 = .ok (.invokevirtual 111, 3) := by decide +kernel
theorem dX7_fumigate_51 : decode cX7_fumigate 51 = .ok (.return_, 1) := by decide +kernel
theorem v_X7_fumigate : yX7_fumigate.cls = RX7 ∧ yX7_fumigate.cls ≠ "java/lang/invoke/MethodHandle" ∧ yX7_fumigate.cls ≠ "java/lang/invoke/VarHandle" ∧ (parseMethodDescriptor yX7_fumigate.desc).map (fun d => d.parameters.length) = some 2 := ⟨rfl, by decide +kernel, by decide +kernel, by decide +kernel⟩
noncomputable def k_X7_fumigate_0 (κ : gb_K) : gb_C := (o_al 0 (o_gf 7 2 (o_il 1 (o_al 0 (o_gf 7 9 (o_il 2 (o_ib (fun x y => x + y) (o_iast (o_ci 0 (o_is 3 (o_j [0, 1, 3] (κ 14))))))))))))
theorem l_X7_fumigate_0 : gb_Li (fun κ => k_X7_fumigate_0 κ) := (gb_li (q_al 0) (gb_li (q_gf 7 2) (gb_li (q_il 1) (gb_li (q_al 0) (gb_li (q_gf 7 9) (gb_li (q_il 2) (gb_li (q_ib _) (gb_li q_iast (gb_li (q_ci 0) (gb_li (q_is 3) (q_j [0, 1, 3] 14)))))))))))
theorem s_X7_fumigate_0   {κ : gb_K} (hκ : ∀ q, gb_S RX7 cX7_fumigate 4 (gb_rm 4 94) 0 q (κ q)) : gb_S RX7 cX7_fumigate 4 (gb_rm 4 94) 0 0 (k_X7_fumigate_0 κ) := (s_aln 0 rfl dX7_fumigate_0 (s_gf (T := TX7) winX7 rfl (Nat.le_of_ble_eq_true rfl) gw_6 rfl dX7_fumigate_1 (s_iln 1 rfl dX7_fumigate_4 (s_aln 0 rfl dX7_fumigate_5 (s_gf (T := TX7) winX7 rfl (Nat.le_of_ble_eq_true rfl) gw_5 rfl dX7_fumigate_6 (s_iln 2 rfl dX7_fumigate_9 (s_iadd dX7_fumigate_10 (s_iast dX7_fumigate_11 (s_iconst (by decide +kernel) dX7_fumigate_12 (s_isn 3 rfl (Nat.le_of_ble_eq_true rfl) dX7_fumigate_13 (s_j (hκ 14))))))))))))
noncomputable def k_X7_fumigate_14 (κ : gb_K) : gb_C := (o_il 3 (o_al 0 (o_gf 7 3 (o_il 1 (o_iald (o_cge (o_al 0 (o_il 1 (o_cv 1 7 0 f_X7_join o_rv))) (o_al 0 (o_gf 7 7 (o_il 1 (o_il 3 (o_cs 2 1 f_X7_place (o_al 0 (o_gf 7 2 (o_il 1 (o_iald (o_iast (o_inc 3 1 (o_j [0, 1, 3] (κ 14)))))))))))))))))))
theorem l_X7_fumigate_14 : gb_Li (fun κ => k_X7_fumigate_14 κ) := (gb_li (q_il 3) (gb_li (q_al 0) (gb_li (q_gf 7 3) (gb_li (q_il 1) (gb_li q_iald (q_cge (gb_li (q_al 0) (gb_li (q_il 1) (gb_li (q_cv 1 7 0 f_X7_join) (gb_li0 _)))) (gb_li (q_al 0) (gb_li (q_gf 7 7) (gb_li (q_il 1) (gb_li (q_il 3) (gb_li (q_cs 2 1 f_X7_place) (gb_li (q_al 0) (gb_li (q_gf 7 2) (gb_li (q_il 1) (gb_li q_iald (gb_li q_iast (gb_li (q_inc 3 1) (q_j [0, 1, 3] 14))))))))))))))))))
theorem s_X7_fumigate_14   {κ : gb_K} (hκ : ∀ q, gb_S RX7 cX7_fumigate 4 (gb_rm 4 94) 0 q (κ q)) : gb_S RX7 cX7_fumigate 4 (gb_rm 4 94) 0 14 (k_X7_fumigate_14 κ) := (s_iln 3 rfl dX7_fumigate_14 (s_aln 0 rfl dX7_fumigate_15 (s_gf (T := TX7) winX7 rfl (Nat.le_of_ble_eq_true rfl) gw_79 rfl dX7_fumigate_16 (s_iln 1 rfl dX7_fumigate_19 (s_iald dX7_fumigate_20 (s_cge (tgt := 46) (by decide +kernel) dX7_fumigate_21 (s_aln 0 rfl dX7_fumigate_46 (s_iln 1 rfl dX7_fumigate_47 (s_cv (C := RX7) c_X7_join rfl (gb_l5 gw_178 gw_179 gw_180 gw_11 gw_181) v_X7_join ⟨rfl, rfl⟩ ⟨Nat.le_of_ble_eq_true rfl, Nat.le_of_ble_eq_true rfl⟩ dX7_fumigate_48 (s_rv rfl dX7_fumigate_51)))) (s_aln 0 rfl dX7_fumigate_24 (s_gf (T := TX7) winX7 rfl (Nat.le_of_ble_eq_true rfl) gw_82 rfl dX7_fumigate_25 (s_iln 1 rfl dX7_fumigate_28 (s_iln 3 rfl dX7_fumigate_29 (s_cs c_X7_place (gb_l4 gw_83 gw_23 gw_11 gw_24) v_X7_place.2 ⟨rfl, rfl⟩ ⟨Nat.le_of_ble_eq_true rfl, Nat.le_of_ble_eq_true rfl⟩ dX7_fumigate_30 (s_aln 0 rfl dX7_fumigate_33 (s_gf (T := TX7) winX7 rfl (Nat.le_of_ble_eq_true rfl) gw_6 rfl dX7_fumigate_34 (s_iln 1 rfl dX7_fumigate_37 (s_iald dX7_fumigate_38 (s_iast dX7_fumigate_39 (s_inc (by decide +kernel) (Nat.le_of_ble_eq_true rfl) dX7_fumigate_40 (s_goto (tgt := 14) (by decide +kernel) dX7_fumigate_43 (s_j (hκ 14))))))))))))))))))))
noncomputable def B_X7_fumigate : List (Nat × (gb_K → gb_C)) := [(14, fun κ => k_X7_fumigate_14 κ)]
noncomputable def K_X7_fumigate : gb_K := gb_fx (gb_tb (B_X7_fumigate))
theorem L_X7_fumigate : ∀ q, gb_Li (fun κ => gb_tb (B_X7_fumigate) κ q) := gb_tb_li (List.forall_mem_cons.mpr ⟨l_X7_fumigate_14, (fun _ h => absurd h List.not_mem_nil)⟩)
theorem S_X7_fumigate   : ∀ q, gb_S RX7 cX7_fumigate 4 (gb_rm 4 94) 0 q (K_X7_fumigate q) := fun q => gb_fx_S (L_X7_fumigate) (gb_tb_S (List.forall_mem_cons.mpr ⟨fun κ hκ => s_X7_fumigate_14 hκ, (fun _ h => absurd h List.not_mem_nil)⟩)) q
noncomputable def f_X7_fumigate : gb_F := gb_hide (gb_mf 4 (k_X7_fumigate_0 (K_X7_fumigate)))
theorem c_X7_fumigate : ∀ l, gb_Met l yX7_fumigate cX7_fumigate 4 none 0 (gb_rm 4 94) f_X7_fumigate := gb_hide_c (gb_met (own := RX7) (rk := 0) rfl (by decide +kernel) ⟨rfl, rfl⟩ (s_X7_fumigate_0 (S_X7_fumigate)))
theorem dX7_raw_0 : decode cX7_raw 0 = .ok (.iconst 0, 1) := by decide +kernel
theorem dX7_raw_1 : decode cX7_raw 1 = .ok (.istore_n 3, 1) := by decide +kernel
theorem dX7_raw_2 : decode cX7_raw 2 = .ok (.iconst 0, 1) := by decide +kernel
theorem dX7_raw_3 : decode cX7_raw 3 = .ok (.istore 4, 2) := by decide +kernel
theorem dX7_raw_5 : decode cX7_raw 5 = .ok (.iload 4, 2) := by decide +kernel
theorem dX7_raw_7 : decode cX7_raw 7 = .ok (.aload_n 0, 1) := by decide +kernel
theorem dX7_raw_8 : decode cX7_raw 8 = .ok (.getfield 18, 3) := by decide +kernel
theorem dX7_raw_11 : decode cX7_raw 11 = .ok (.iload_n 1, 1) := by decide +kernel
theorem dX7_raw_12 : decode cX7_raw 12 = .ok (.iaload, 1) := by decide +kernel
theorem dX7_raw_13 : decode cX7_raw 13 = .ok (.if_icmp .ge 35, 3) := by decide +kernel
theorem dX7_raw_16 : decode cX7_raw 16 = .ok (.iload_n 1, 1) := by decide +kernel
theorem dX7_raw_17 : decode cX7_raw 17 = .ok (.iload 4, 2) := by decide +kernel
theorem dX7_raw_19 : decode cX7_raw 19 = .ok (.invokestatic 51, 3) := by decide +kernel
theorem dX7_raw_22 : decode cX7_raw 22 = .ok (.istore 5, 2) := by decide +kernel
theorem dX7_raw_24 : decode cX7_raw 24 = .ok (.iload_n 3, 1) := by decide +kernel
theorem dX7_raw_25 : decode cX7_raw 25 = .ok (.aload_n 0, 1) := by decide +kernel
theorem dX7_raw_26 : decode cX7_raw 26 = .ok (.getfield 27, 3) := by decide +kernel
theorem dX7_raw_29 : decode cX7_raw 29 = .ok (.iload 5, 2) := by decide +kernel
theorem dX7_raw_31 : decode cX7_raw 31 = .ok (.iaload, 1) := by decide +kernel
theorem dX7_raw_32 : decode cX7_raw 32 = .ok (.aload_n 0, 1) := by decide +kernel
theorem dX7_raw_33 : decode cX7_raw 33 = .ok (.iload 5, 2) := by decide +kernel
theorem dX7_raw_35 : decode cX7_raw 35 = .ok (.iload_n 2, 1) := by decide +kernel
theorem dX7_raw_36 : decode cX7_raw 36 = .ok (.invokevirtual 93, 3) := by decide +kernel
theorem dX7_raw_39 : decode cX7_raw 39 = .ok (.imul, 1) := by decide +kernel
theorem dX7_raw_40 : decode cX7_raw 40 = .ok (.iadd, 1) := by decide +kernel
theorem dX7_raw_41 : decode cX7_raw 41 = .ok (.istore_n 3, 1) := by decide +kernel
theorem dX7_raw_42 : decode cX7_raw 42 = .ok (.iinc 4 1, 3) := by decide +kernel
theorem dX7_raw_45 : decode cX7_raw 45 = .ok (.goto (-40), 3) := by decide +kernel
theorem dX7_raw_48 : decode cX7_raw 48 = .ok (.iload_n 3, 1) := by decide +kernel
theorem dX7_raw_49 : decode cX7_raw 49 = .ok (.ireturn, 1) := by decide +kernel
theorem v_X7_raw : yX7_raw.cls = RX7 ∧ yX7_raw.cls ≠ "java/lang/invoke/MethodHandle" ∧ yX7_raw.cls ≠ "java/lang/invoke/VarHandle" ∧ (parseMethodDescriptor yX7_raw.desc).map (fun d => d.parameters.length) = some 2 := ⟨rfl, by decide +kernel, by decide +kernel, by decide +kernel⟩
noncomputable def k_X7_raw_0 (κ : gb_K) : gb_C := (o_ci 0 (o_is 3 (o_ci 0 (o_is 4 (o_j [0, 1, 2, 3, 4] (κ 5))))))
theorem l_X7_raw_0 : gb_Li (fun κ => k_X7_raw_0 κ) := (gb_li (q_ci 0) (gb_li (q_is 3) (gb_li (q_ci 0) (gb_li (q_is 4) (q_j [0, 1, 2, 3, 4] 5)))))
theorem s_X7_raw_0   {κ : gb_K} (hκ : ∀ q, gb_S RX7 cX7_raw 6 (gb_rm 2 45) 1 q (κ q)) : gb_S RX7 cX7_raw 6 (gb_rm 2 45) 1 0 (k_X7_raw_0 κ) := (s_iconst (by decide +kernel) dX7_raw_0 (s_isn 3 rfl (Nat.le_of_ble_eq_true rfl) dX7_raw_1 (s_iconst (by decide +kernel) dX7_raw_2 (s_is (Nat.le_of_ble_eq_true rfl) dX7_raw_3 (s_j (hκ 5))))))
noncomputable def k_X7_raw_5 (κ : gb_K) : gb_C := (o_il 4 (o_al 0 (o_gf 7 3 (o_il 1 (o_iald (o_cge (o_il 3 o_ri) (o_il 1 (o_il 4 (o_cs 2 1 f_X7_place (o_is 5 (o_il 3 (o_al 0 (o_gf 7 6 (o_il 5 (o_iald (o_al 0 (o_il 5 (o_il 2 (o_cv 2 7 1 f_X7_unit (o_ib (fun x y => x * y) (o_ib (fun x y => x + y) (o_is 3 (o_inc 4 1 (o_j [0, 1, 2, 3, 4] (κ 5)))))))))))))))))))))))))
theorem l_X7_raw_5 : gb_Li (fun κ => k_X7_raw_5 κ) := (gb_li (q_il 4) (gb_li (q_al 0) (gb_li (q_gf 7 3) (gb_li (q_il 1) (gb_li q_iald (q_cge (gb_li (q_il 3) (gb_li0 _)) (gb_li (q_il 1) (gb_li (q_il 4) (gb_li (q_cs 2 1 f_X7_place) (gb_li (q_is 5) (gb_li (q_il 3) (gb_li (q_al 0) (gb_li (q_gf 7 6) (gb_li (q_il 5) (gb_li q_iald (gb_li (q_al 0) (gb_li (q_il 5) (gb_li (q_il 2) (gb_li (q_cv 2 7 1 f_X7_unit) (gb_li (q_ib _) (gb_li (q_ib _) (gb_li (q_is 3) (gb_li (q_inc 4 1) (q_j [0, 1, 2, 3, 4] 5))))))))))))))))))))))))
theorem s_X7_raw_5   {κ : gb_K} (hκ : ∀ q, gb_S RX7 cX7_raw 6 (gb_rm 2 45) 1 q (κ q)) : gb_S RX7 cX7_raw 6 (gb_rm 2 45) 1 5 (k_X7_raw_5 κ) := (s_il dX7_raw_5 (s_aln 0 rfl dX7_raw_7 (s_gf (T := TX7) winX7 rfl (Nat.le_of_ble_eq_true rfl) gw_79 rfl dX7_raw_8 (s_iln 1 rfl dX7_raw_11 (s_iald dX7_raw_12 (s_cge (tgt := 48) (by decide +kernel) dX7_raw_13 (s_iln 3 rfl dX7_raw_48 (s_ri rfl dX7_raw_49)) (s_iln 1 rfl dX7_raw_16 (s_il dX7_raw_17 (s_cs c_X7_place (gb_l4 gw_83 gw_23 gw_11 gw_24) v_X7_place.2 ⟨rfl, rfl⟩ ⟨Nat.le_of_ble_eq_true rfl, Nat.le_of_ble_eq_true rfl⟩ dX7_raw_19 (s_is (Nat.le_of_ble_eq_true rfl) dX7_raw_22 (s_iln 3 rfl dX7_raw_24 (s_aln 0 rfl dX7_raw_25 (s_gf (T := TX7) winX7 rfl (Nat.le_of_ble_eq_true rfl) gw_85 rfl dX7_raw_26 (s_il dX7_raw_29 (s_iald dX7_raw_31 (s_aln 0 rfl dX7_raw_32 (s_il dX7_raw_33 (s_iln 2 rfl dX7_raw_35 (s_cv (C := RX7) c_X7_unit rfl (gb_l5 gw_166 gw_167 gw_168 gw_11 gw_169) v_X7_unit ⟨rfl, rfl⟩ ⟨Nat.le_of_ble_eq_true rfl, Nat.le_of_ble_eq_true rfl⟩ dX7_raw_36 (s_imul dX7_raw_39 (s_iadd dX7_raw_40 (s_isn 3 rfl (Nat.le_of_ble_eq_true rfl) dX7_raw_41 (s_inc (by decide +kernel) (Nat.le_of_ble_eq_true rfl) dX7_raw_42 (s_goto (tgt := 5) (by decide +kernel) dX7_raw_45 (s_j (hκ 5))))))))))))))))))))))))))
noncomputable def B_X7_raw : List (Nat × (gb_K → gb_C)) := [(5, fun κ => k_X7_raw_5 κ)]
noncomputable def K_X7_raw : gb_K := gb_fx (gb_tb (B_X7_raw))
theorem L_X7_raw : ∀ q, gb_Li (fun κ => gb_tb (B_X7_raw) κ q) := gb_tb_li (List.forall_mem_cons.mpr ⟨l_X7_raw_5, (fun _ h => absurd h List.not_mem_nil)⟩)
theorem S_X7_raw   : ∀ q, gb_S RX7 cX7_raw 6 (gb_rm 2 45) 1 q (K_X7_raw q) := fun q => gb_fx_S (L_X7_raw) (gb_tb_S (List.forall_mem_cons.mpr ⟨fun κ hκ => s_X7_raw_5 hκ, (fun _ h => absurd h List.not_mem_nil)⟩)) q
noncomputable def f_X7_raw : gb_F := gb_hide (gb_mf 6 (k_X7_raw_0 (K_X7_raw)))
theorem c_X7_raw : ∀ l, gb_Met l yX7_raw cX7_raw 6 (some .int) 1 (gb_rm 2 45) f_X7_raw := gb_hide_c (gb_met (own := RX7) (rk := 1) rfl (by decide +kernel) ⟨rfl, rfl⟩ (s_X7_raw_0 (S_X7_raw)))
theorem dX7_rawUnspoilt_0 : decode cX7_rawUnspoilt 0 = .ok (.iconst 0, 1) := by decide +kernel
theorem dX7_rawUnspoilt_1 : decode cX7_rawUnspoilt 1 = .ok (.istore_n 2, 1) := by decide +kernel
theorem dX7_rawUnspoilt_2 : decode cX7_rawUnspoilt 2 = .ok (.iconst 0, 1) := by decide +kernel
theorem dX7_rawUnspoilt_3 : decode cX7_rawUnspoilt 3 = .ok (.istore_n 3, 1) := by decide +kernel
theorem dX7_rawUnspoilt_4 : decode cX7_rawUnspoilt 4 = .ok (.iload_n 3, 1) := by decide +kernel
theorem dX7_rawUnspoilt_5 : decode cX7_rawUnspoilt 5 = .ok (.bipush 6, 2) := by decide +kernel
theorem dX7_rawUnspoilt_7 : decode cX7_rawUnspoilt 7 = .ok (.if_icmp .ge 30, 3) := by decide +kernel
theorem dX7_rawUnspoilt_10 : decode cX7_rawUnspoilt 10 = .ok (.iload_n 2, 1) := by decide +kernel
theorem dX7_rawUnspoilt_11 : decode cX7_rawUnspoilt 11 = .ok (.aload_n 0, 1) := by decide +kernel
theorem dX7_rawUnspoilt_12 : decode cX7_rawUnspoilt 12 = .ok (.getfield 33, 3) := by decide +kernel
theorem dX7_rawUnspoilt_15 : decode cX7_rawUnspoilt 15 = .ok (.iload_n 1, 1) := by decide +kernel
theorem dX7_rawUnspoilt_16 : decode cX7_rawUnspoilt 16 = .ok (.bipush 6, 2) := by decide +kernel
theorem dX7_rawUnspoilt_18 : decode cX7_rawUnspoilt 18 = .ok (.imul, 1) := by decide +kernel
theorem dX7_rawUnspoilt_19 : decode cX7_rawUnspoilt 19 = .ok (.iload_n 3, 1) := by decide +kernel
theorem dX7_rawUnspoilt_20 : decode cX7_rawUnspoilt 20 = .ok (.iadd, 1) := by decide +kernel
theorem dX7_rawUnspoilt_21 : decode cX7_rawUnspoilt 21 = .ok (.iaload, 1) := by decide +kernel
theorem dX7_rawUnspoilt_22 : decode cX7_rawUnspoilt 22 = .ok (.aload_n 0, 1) := by decide +kernel
theorem dX7_rawUnspoilt_23 : decode cX7_rawUnspoilt 23 = .ok (.getfield 9, 3) := by decide +kernel
theorem dX7_rawUnspoilt_26 : decode cX7_rawUnspoilt 26 = .ok (.iload_n 3, 1) := by decide +kernel
theorem dX7_rawUnspoilt_27 : decode cX7_rawUnspoilt 27 = .ok (.iaload, 1) := by decide +kernel
theorem dX7_rawUnspoilt_28 : decode cX7_rawUnspoilt 28 = .ok (.imul, 1) := by decide +kernel
theorem dX7_rawUnspoilt_29 : decode cX7_rawUnspoilt 29 = .ok (.iadd, 1) := by decide +kernel
theorem dX7_rawUnspoilt_30 : decode cX7_rawUnspoilt 30 = .ok (.istore_n 2, 1) := by decide +kernel
theorem dX7_rawUnspoilt_31 : decode cX7_rawUnspoilt 31 = .ok (.iinc 3 1, 3) := by decide +kernel
theorem dX7_rawUnspoilt_34 : decode cX7_rawUnspoilt 34 = .ok (.goto (-30), 3) := by decide +kernel
theorem dX7_rawUnspoilt_37 : decode cX7_rawUnspoilt 37 = .ok (.iload_n 2, 1) := by decide +kernel
theorem dX7_rawUnspoilt_38 : decode cX7_rawUnspoilt 38 = .ok (.ireturn, 1) := by decide +kernel
theorem v_X7_rawUnspoilt : yX7_rawUnspoilt.cls = RX7 ∧ yX7_rawUnspoilt.cls ≠ "java/lang/invoke/MethodHandle" ∧ yX7_rawUnspoilt.cls ≠ "java/lang/invoke/VarHandle" ∧ (parseMethodDescriptor yX7_rawUnspoilt.desc).map (fun d => d.parameters.length) = some 1 := ⟨rfl, by decide +kernel, by decide +kernel, by decide +kernel⟩
noncomputable def k_X7_rawUnspoilt_0 (κ : gb_K) : gb_C := (o_ci 0 (o_is 2 (o_ci 0 (o_is 3 (o_j [0, 1, 2, 3] (κ 4))))))
theorem l_X7_rawUnspoilt_0 : gb_Li (fun κ => k_X7_rawUnspoilt_0 κ) := (gb_li (q_ci 0) (gb_li (q_is 2) (gb_li (q_ci 0) (gb_li (q_is 3) (q_j [0, 1, 2, 3] 4)))))
theorem s_X7_rawUnspoilt_0   {κ : gb_K} (hκ : ∀ q, gb_S RX7 cX7_rawUnspoilt 4 (gb_rm 0 0) 1 q (κ q)) : gb_S RX7 cX7_rawUnspoilt 4 (gb_rm 0 0) 1 0 (k_X7_rawUnspoilt_0 κ) := (s_iconst (by decide +kernel) dX7_rawUnspoilt_0 (s_isn 2 rfl (Nat.le_of_ble_eq_true rfl) dX7_rawUnspoilt_1 (s_iconst (by decide +kernel) dX7_rawUnspoilt_2 (s_isn 3 rfl (Nat.le_of_ble_eq_true rfl) dX7_rawUnspoilt_3 (s_j (hκ 4))))))
noncomputable def k_X7_rawUnspoilt_4 (κ : gb_K) : gb_C := (o_il 3 (o_ci 6 (o_cge (o_il 2 o_ri) (o_il 2 (o_al 0 (o_gf 7 8 (o_il 1 (o_ci 6 (o_ib (fun x y => x * y) (o_il 3 (o_ib (fun x y => x + y) (o_iald (o_al 0 (o_gf 7 1 (o_il 3 (o_iald (o_ib (fun x y => x * y) (o_ib (fun x y => x + y) (o_is 2 (o_inc 3 1 (o_j [0, 1, 2, 3] (κ 4))))))))))))))))))))))
theorem l_X7_rawUnspoilt_4 : gb_Li (fun κ => k_X7_rawUnspoilt_4 κ) := (gb_li (q_il 3) (gb_li (q_ci 6) (q_cge (gb_li (q_il 2) (gb_li0 _)) (gb_li (q_il 2) (gb_li (q_al 0) (gb_li (q_gf 7 8) (gb_li (q_il 1) (gb_li (q_ci 6) (gb_li (q_ib _) (gb_li (q_il 3) (gb_li (q_ib _) (gb_li q_iald (gb_li (q_al 0) (gb_li (q_gf 7 1) (gb_li (q_il 3) (gb_li q_iald (gb_li (q_ib _) (gb_li (q_ib _) (gb_li (q_is 2) (gb_li (q_inc 3 1) (q_j [0, 1, 2, 3] 4)))))))))))))))))))))
theorem s_X7_rawUnspoilt_4   {κ : gb_K} (hκ : ∀ q, gb_S RX7 cX7_rawUnspoilt 4 (gb_rm 0 0) 1 q (κ q)) : gb_S RX7 cX7_rawUnspoilt 4 (gb_rm 0 0) 1 4 (k_X7_rawUnspoilt_4 κ) := (s_iln 3 rfl dX7_rawUnspoilt_4 (s_bipush (by decide +kernel) dX7_rawUnspoilt_5 (s_cge (tgt := 37) (by decide +kernel) dX7_rawUnspoilt_7 (s_iln 2 rfl dX7_rawUnspoilt_37 (s_ri rfl dX7_rawUnspoilt_38)) (s_iln 2 rfl dX7_rawUnspoilt_10 (s_aln 0 rfl dX7_rawUnspoilt_11 (s_gf (T := TX7) winX7 rfl (Nat.le_of_ble_eq_true rfl) gw_81 rfl dX7_rawUnspoilt_12 (s_iln 1 rfl dX7_rawUnspoilt_15 (s_bipush (by decide +kernel) dX7_rawUnspoilt_16 (s_imul dX7_rawUnspoilt_18 (s_iln 3 rfl dX7_rawUnspoilt_19 (s_iadd dX7_rawUnspoilt_20 (s_iald dX7_rawUnspoilt_21 (s_aln 0 rfl dX7_rawUnspoilt_22 (s_gf (T := TX7) winX7 rfl (Nat.le_of_ble_eq_true rfl) gw_86 rfl dX7_rawUnspoilt_23 (s_iln 3 rfl dX7_rawUnspoilt_26 (s_iald dX7_rawUnspoilt_27 (s_imul dX7_rawUnspoilt_28 (s_iadd dX7_rawUnspoilt_29 (s_isn 2 rfl (Nat.le_of_ble_eq_true rfl) dX7_rawUnspoilt_30 (s_inc (by decide +kernel) (Nat.le_of_ble_eq_true rfl) dX7_rawUnspoilt_31 (s_goto (tgt := 4) (by decide +kernel) dX7_rawUnspoilt_34 (s_j (hκ 4)))))))))))))))))))))))
noncomputable def B_X7_rawUnspoilt : List (Nat × (gb_K → gb_C)) := [(4, fun κ => k_X7_rawUnspoilt_4 κ)]
noncomputable def K_X7_rawUnspoilt : gb_K := gb_fx (gb_tb (B_X7_rawUnspoilt))
theorem L_X7_rawUnspoilt : ∀ q, gb_Li (fun κ => gb_tb (B_X7_rawUnspoilt) κ q) := gb_tb_li (List.forall_mem_cons.mpr ⟨l_X7_rawUnspoilt_4, (fun _ h => absurd h List.not_mem_nil)⟩)
theorem S_X7_rawUnspoilt   : ∀ q, gb_S RX7 cX7_rawUnspoilt 4 (gb_rm 0 0) 1 q (K_X7_rawUnspoilt q) := fun q => gb_fx_S (L_X7_rawUnspoilt) (gb_tb_S (List.forall_mem_cons.mpr ⟨fun κ hκ => s_X7_rawUnspoilt_4 hκ, (fun _ h => absurd h List.not_mem_nil)⟩)) q
noncomputable def f_X7_rawUnspoilt : gb_F := gb_hide (gb_mf 4 (k_X7_rawUnspoilt_0 (K_X7_rawUnspoilt)))
theorem c_X7_rawUnspoilt : ∀ l, gb_Met l yX7_rawUnspoilt cX7_rawUnspoilt 4 (some .int) 1 (gb_rm 0 0) f_X7_rawUnspoilt := gb_hide_c (gb_met (own := RX7) (rk := 1) rfl (by decide +kernel) ⟨rfl, rfl⟩ (s_X7_rawUnspoilt_0 (S_X7_rawUnspoilt)))
theorem dX7_mixedOf_0 : decode cX7_mixedOf 0 = .ok (.aload_n 0, 1) := by decide +kernel
theorem dX7_mixedOf_1 : decode cX7_mixedOf 1 = .ok (.getfield 33, 3) := by decide +kernel
theorem dX7_mixedOf_4 : decode cX7_mixedOf 4 = .ok (.iload_n 1, 1) := by decide +kernel
theorem dX7_mixedOf_5 : decode cX7_mixedOf 5 = .ok (.bipush 6, 2) := by decide +kernel
theorem dX7_mixedOf_7 : decode cX7_mixedOf 7 = .ok (.imul, 1) := by decide +kernel
theorem dX7_mixedOf_8 : decode cX7_mixedOf 8 = .ok (.iload_n 2, 1) := by decide +kernel
theorem dX7_mixedOf_9 : decode cX7_mixedOf 9 = .ok (.iadd, 1) := by decide +kernel
theorem dX7_mixedOf_10 : decode cX7_mixedOf 10 = .ok (.iaload, 1) := by decide +kernel
theorem dX7_mixedOf_11 : decode cX7_mixedOf 11 = .ok (.aload_n 0, 1) := by decide +kernel
theorem dX7_mixedOf_12 : decode cX7_mixedOf 12 = .ok (.getfield 33, 3) := by decide +kernel
theorem dX7_mixedOf_15 : decode cX7_mixedOf 15 = .ok (.iload_n 1, 1) := by decide +kernel
theorem dX7_mixedOf_16 : decode cX7_mixedOf 16 = .ok (.bipush 6, 2) := by decide +kernel
theorem dX7_mixedOf_18 : decode cX7_mixedOf 18 = .ok (.imul, 1) := by decide +kernel
theorem dX7_mixedOf_19 : decode cX7_mixedOf 19 = .ok (.iload_n 3, 1) := by decide +kernel
theorem dX7_mixedOf_20 : decode cX7_mixedOf 20 = .ok (.iadd, 1) := by decide +kernel
theorem dX7_mixedOf_21 : decode cX7_mixedOf 21 = .ok (.iaload, 1) := by decide +kernel
theorem dX7_mixedOf_22 : decode cX7_mixedOf 22 = .ok (.invokestatic 81, 3) := by decide +kernel
theorem dX7_mixedOf_25 : decode cX7_mixedOf 25 = .ok (.istore 4, 2) := by decide +kernel
theorem dX7_mixedOf_27 : decode cX7_mixedOf 27 = .ok (.aload_n 0, 1) := by decide +kernel
theorem dX7_mixedOf_28 : decode cX7_mixedOf 28 = .ok (.getfield 36, 3) := by decide +kernel
theorem dX7_mixedOf_31 : decode cX7_mixedOf 31 = .ok (.iload_n 2, 1) := by decide +kernel
theorem dX7_mixedOf_32 : decode cX7_mixedOf 32 = .ok (.iload_n 3, 1) := by decide +kernel
theorem dX7_mixedOf_33 : decode cX7_mixedOf 33 = .ok (.invokevirtual 118, 3) := by decide +kernel
theorem dX7_mixedOf_36 : decode cX7_mixedOf 36 = .ok (.iload 4, 2) := by decide +kernel
theorem dX7_mixedOf_38 : decode cX7_mixedOf 38 = .ok (.imul, 1) := by decide +kernel
theorem dX7_mixedOf_39 : decode cX7_mixedOf 39 = .ok (.ireturn, 1) := by decide +kernel
theorem v_X7_mixedOf : yX7_mixedOf.cls = RX7 ∧ yX7_mixedOf.cls ≠ "java/lang/invoke/MethodHandle" ∧ yX7_mixedOf.cls ≠ "java/lang/invoke/VarHandle" ∧ (parseMethodDescriptor yX7_mixedOf.desc).map (fun d => d.parameters.length) = some 3 := ⟨rfl, by decide +kernel, by decide +kernel, by decide +kernel⟩
noncomputable def k_X7_mixedOf_0 (κ : gb_K) : gb_C := (o_al 0 (o_gf 7 8 (o_il 1 (o_ci 6 (o_ib (fun x y => x * y) (o_il 2 (o_ib (fun x y => x + y) (o_iald (o_al 0 (o_gf 7 8 (o_il 1 (o_ci 6 (o_ib (fun x y => x * y) (o_il 3 (o_ib (fun x y => x + y) (o_iald (o_mmin (o_is 4 (o_al 0 (o_gf 7 0 (o_il 2 (o_il 3 (o_cv 2 5 1 f_X5_lossOf (o_il 4 (o_ib (fun x y => x * y) o_ri)))))))))))))))))))))))))
theorem l_X7_mixedOf_0 : gb_Li (fun κ => k_X7_mixedOf_0 κ) := (gb_li (q_al 0) (gb_li (q_gf 7 8) (gb_li (q_il 1) (gb_li (q_ci 6) (gb_li (q_ib _) (gb_li (q_il 2) (gb_li (q_ib _) (gb_li q_iald (gb_li (q_al 0) (gb_li (q_gf 7 8) (gb_li (q_il 1) (gb_li (q_ci 6) (gb_li (q_ib _) (gb_li (q_il 3) (gb_li (q_ib _) (gb_li q_iald (gb_li q_mmin (gb_li (q_is 4) (gb_li (q_al 0) (gb_li (q_gf 7 0) (gb_li (q_il 2) (gb_li (q_il 3) (gb_li (q_cv 2 5 1 f_X5_lossOf) (gb_li (q_il 4) (gb_li (q_ib _) (gb_li0 _))))))))))))))))))))))))))
theorem s_X7_mixedOf_0   {κ : gb_K} (hκ : ∀ q, gb_S RX7 cX7_mixedOf 5 (gb_rm 1 22) 1 q (κ q)) : gb_S RX7 cX7_mixedOf 5 (gb_rm 1 22) 1 0 (k_X7_mixedOf_0 κ) := (s_aln 0 rfl dX7_mixedOf_0 (s_gf (T := TX7) winX7 rfl (Nat.le_of_ble_eq_true rfl) gw_81 rfl dX7_mixedOf_1 (s_iln 1 rfl dX7_mixedOf_4 (s_bipush (by decide +kernel) dX7_mixedOf_5 (s_imul dX7_mixedOf_7 (s_iln 2 rfl dX7_mixedOf_8 (s_iadd dX7_mixedOf_9 (s_iald dX7_mixedOf_10 (s_aln 0 rfl dX7_mixedOf_11 (s_gf (T := TX7) winX7 rfl (Nat.le_of_ble_eq_true rfl) gw_81 rfl dX7_mixedOf_12 (s_iln 1 rfl dX7_mixedOf_15 (s_bipush (by decide +kernel) dX7_mixedOf_16 (s_imul dX7_mixedOf_18 (s_iln 3 rfl dX7_mixedOf_19 (s_iadd dX7_mixedOf_20 (s_iald dX7_mixedOf_21 (s_mmin ⟨Nat.le_of_ble_eq_true rfl, Nat.le_of_ble_eq_true rfl⟩ (gb_l4 gw_154 gw_99 gw_17 gw_100) dX7_mixedOf_22 (s_is (Nat.le_of_ble_eq_true rfl) dX7_mixedOf_25 (s_aln 0 rfl dX7_mixedOf_27 (s_gf (T := TX7) winX7 rfl (Nat.le_of_ble_eq_true rfl) gw_137 rfl dX7_mixedOf_28 (s_iln 2 rfl dX7_mixedOf_31 (s_iln 3 rfl dX7_mixedOf_32 (s_cv (C := RX5) c_X5_lossOf rfl (gb_l5 gw_182 gw_183 gw_184 gw_117 gw_185) v_X5_lossOf ⟨rfl, rfl⟩ ⟨Nat.le_of_ble_eq_true rfl, Nat.le_of_ble_eq_true rfl⟩ dX7_mixedOf_33 (s_il dX7_mixedOf_36 (s_imul dX7_mixedOf_38 (s_ri rfl dX7_mixedOf_39))))))))))))))))))))))))))
noncomputable def f_X7_mixedOf : gb_F := gb_hide (gb_mf 5 (k_X7_mixedOf_0 gb_n))
theorem c_X7_mixedOf : ∀ l, gb_Met l yX7_mixedOf cX7_mixedOf 5 (some .int) 1 (gb_rm 1 22) f_X7_mixedOf := gb_hide_c (gb_met (own := RX7) (rk := 1) rfl (by decide +kernel) ⟨rfl, rfl⟩ (s_X7_mixedOf_0 gb_S_n))
theorem dX7_mixedIn_0 : decode cX7_mixedIn 0 = .ok (.iconst 0, 1) := by decide +kernel
theorem dX7_mixedIn_1 : decode cX7_mixedIn 1 = .ok (.istore_n 2, 1) := by decide +kernel
theorem dX7_mixedIn_2 : decode cX7_mixedIn 2 = .ok (.iconst 0, 1) := by decide +kernel
theorem dX7_mixedIn_3 : decode cX7_mixedIn 3 = .ok (.istore_n 3, 1) := by decide +kernel
theorem dX7_mixedIn_4 : decode cX7_mixedIn 4 = .ok (.iload_n 3, 1) := by decide +kernel
theorem dX7_mixedIn_5 : decode cX7_mixedIn 5 = .ok (.bipush 6, 2) := by decide +kernel
theorem dX7_mixedIn_7 : decode cX7_mixedIn 7 = .ok (.if_icmp .ge 38, 3) := by decide +kernel
theorem dX7_mixedIn_10 : decode cX7_mixedIn 10 = .ok (.iload_n 3, 1) := by decide +kernel
theorem dX7_mixedIn_11 : decode cX7_mixedIn 11 = .ok (.iconst 1, 1) := by decide +kernel
theorem dX7_mixedIn_12 : decode cX7_mixedIn 12 = .ok (.iadd, 1) := by decide +kernel
theorem dX7_mixedIn_13 : decode cX7_mixedIn 13 = .ok (.istore 4, 2) := by decide +kernel
theorem dX7_mixedIn_15 : decode cX7_mixedIn 15 = .ok (.iload 4, 2) := by decide +kernel
theorem dX7_mixedIn_17 : decode cX7_mixedIn 17 = .ok (.bipush 6, 2) := by decide +kernel
theorem dX7_mixedIn_19 : decode cX7_mixedIn 19 = .ok (.if_icmp .ge 20, 3) := by decide +kernel
theorem dX7_mixedIn_22 : decode cX7_mixedIn 22 = .ok (.iload_n 2, 1) := by decide +kernel
theorem dX7_mixedIn_23 : decode cX7_mixedIn 23 = .ok (.aload_n 0, 1) := by decide +kernel
theorem dX7_mixedIn_24 : decode cX7_mixedIn 24 = .ok (.iload_n 1, 1) := by decide +kernel
theorem dX7_mixedIn_25 : decode cX7_mixedIn 25 = .ok (.iload_n 3, 1) := by decide +kernel
theorem dX7_mixedIn_26 : decode cX7_mixedIn 26 = .ok (.iload 4, 2) := by decide +kernel
theorem dX7_mixedIn_28 : decode cX7_mixedIn 28 = .ok (.invokevirtual 121, 3) := by decide +kernel
theorem dX7_mixedIn_31 : decode cX7_mixedIn 31 = .ok (.iadd, 1) := by decide +kernel
theorem dX7_mixedIn_32 : decode cX7_mixedIn 32 = .ok (.istore_n 2, 1) := by decide +kernel
theorem dX7_mixedIn_33 : decode cX7_mixedIn 33 = .ok (.iinc 4 1, 3) := by decide +kernel
theorem dX7_mixedIn_36 : decode cX7_mixedIn 36 = .ok (.goto (-21), 3) := by decide +kernel
theorem dX7_mixedIn_39 : decode cX7_mixedIn 39 = .ok (.iinc 3 1, 3) := by decide +kernel
theorem dX7_mixedIn_42 : decode cX7_mixedIn 42 = .ok (.goto (-38), 3) := by decide +kernel
theorem dX7_mixedIn_45 : decode cX7_mixedIn 45 = .ok (.iload_n 2, 1) := by decide +kernel
theorem dX7_mixedIn_46 : decode cX7_mixedIn 46 = .ok (.ireturn, 1) := by decide +kernel
theorem v_X7_mixedIn : yX7_mixedIn.cls = RX7 ∧ yX7_mixedIn.cls ≠ "java/lang/invoke/MethodHandle" ∧ yX7_mixedIn.cls ≠ "java/lang/invoke/VarHandle" ∧ (parseMethodDescriptor yX7_mixedIn.desc).map (fun d => d.parameters.length) = some 1 := ⟨rfl, by decide +kernel, by decide +kernel, by decide +kernel⟩
noncomputable def k_X7_mixedIn_0 (κ : gb_K) : gb_C := (o_ci 0 (o_is 2 (o_ci 0 (o_is 3 (o_j [0, 1, 2, 3] (κ 4))))))
theorem l_X7_mixedIn_0 : gb_Li (fun κ => k_X7_mixedIn_0 κ) := (gb_li (q_ci 0) (gb_li (q_is 2) (gb_li (q_ci 0) (gb_li (q_is 3) (q_j [0, 1, 2, 3] 4)))))
theorem s_X7_mixedIn_0   {κ : gb_K} (hκ : ∀ q, gb_S RX7 cX7_mixedIn 5 (gb_rm 2 46) 1 q (κ q)) : gb_S RX7 cX7_mixedIn 5 (gb_rm 2 46) 1 0 (k_X7_mixedIn_0 κ) := (s_iconst (by decide +kernel) dX7_mixedIn_0 (s_isn 2 rfl (Nat.le_of_ble_eq_true rfl) dX7_mixedIn_1 (s_iconst (by decide +kernel) dX7_mixedIn_2 (s_isn 3 rfl (Nat.le_of_ble_eq_true rfl) dX7_mixedIn_3 (s_j (hκ 4))))))
noncomputable def k_X7_mixedIn_4 (κ : gb_K) : gb_C := (o_il 3 (o_ci 6 (o_cge (o_il 2 o_ri) (o_il 3 (o_ci 1 (o_ib (fun x y => x + y) (o_is 4 (o_j [0, 1, 2, 3, 4] (κ 15)))))))))
theorem l_X7_mixedIn_4 : gb_Li (fun κ => k_X7_mixedIn_4 κ) := (gb_li (q_il 3) (gb_li (q_ci 6) (q_cge (gb_li (q_il 2) (gb_li0 _)) (gb_li (q_il 3) (gb_li (q_ci 1) (gb_li (q_ib _) (gb_li (q_is 4) (q_j [0, 1, 2, 3, 4] 15))))))))
theorem s_X7_mixedIn_4   {κ : gb_K} (hκ : ∀ q, gb_S RX7 cX7_mixedIn 5 (gb_rm 2 46) 1 q (κ q)) : gb_S RX7 cX7_mixedIn 5 (gb_rm 2 46) 1 4 (k_X7_mixedIn_4 κ) := (s_iln 3 rfl dX7_mixedIn_4 (s_bipush (by decide +kernel) dX7_mixedIn_5 (s_cge (tgt := 45) (by decide +kernel) dX7_mixedIn_7 (s_iln 2 rfl dX7_mixedIn_45 (s_ri rfl dX7_mixedIn_46)) (s_iln 3 rfl dX7_mixedIn_10 (s_iconst (by decide +kernel) dX7_mixedIn_11 (s_iadd dX7_mixedIn_12 (s_is (Nat.le_of_ble_eq_true rfl) dX7_mixedIn_13 (s_j (hκ 15)))))))))
noncomputable def k_X7_mixedIn_15 (κ : gb_K) : gb_C := (o_il 4 (o_ci 6 (o_cge (o_inc 3 1 (o_j [0, 1, 2, 3] (κ 4))) (o_il 2 (o_al 0 (o_il 1 (o_il 3 (o_il 4 (o_cv 3 7 1 f_X7_mixedOf (o_ib (fun x y => x + y) (o_is 2 (o_inc 4 1 (o_j [0, 1, 2, 3, 4] (κ 15))))))))))))))
theorem l_X7_mixedIn_15 : gb_Li (fun κ => k_X7_mixedIn_15 κ) := (gb_li (q_il 4) (gb_li (q_ci 6) (q_cge (gb_li (q_inc 3 1) (q_j [0, 1, 2, 3] 4)) (gb_li (q_il 2) (gb_li (q_al 0) (gb_li (q_il 1) (gb_li (q_il 3) (gb_li (q_il 4) (gb_li (q_cv 3 7 1 f_X7_mixedOf) (gb_li (q_ib _) (gb_li (q_is 2) (gb_li (q_inc 4 1) (q_j [0, 1, 2, 3, 4] 15)))))))))))))
theorem s_X7_mixedIn_15   {κ : gb_K} (hκ : ∀ q, gb_S RX7 cX7_mixedIn 5 (gb_rm 2 46) 1 q (κ q)) : gb_S RX7 cX7_mixedIn 5 (gb_rm 2 46) 1 15 (k_X7_mixedIn_15 κ) := (s_il dX7_mixedIn_15 (s_bipush (by decide +kernel) dX7_mixedIn_17 (s_cge (tgt := 39) (by decide +kernel) dX7_mixedIn_19 (s_inc (by decide +kernel) (Nat.le_of_ble_eq_true rfl) dX7_mixedIn_39 (s_goto (tgt := 4) (by decide +kernel) dX7_mixedIn_42 (s_j (hκ 4)))) (s_iln 2 rfl dX7_mixedIn_22 (s_aln 0 rfl dX7_mixedIn_23 (s_iln 1 rfl dX7_mixedIn_24 (s_iln 3 rfl dX7_mixedIn_25 (s_il dX7_mixedIn_26 (s_cv (C := RX7) c_X7_mixedOf rfl (gb_l5 gw_186 gw_187 gw_188 gw_11 gw_189) v_X7_mixedOf ⟨rfl, rfl⟩ ⟨Nat.le_of_ble_eq_true rfl, Nat.le_of_ble_eq_true rfl⟩ dX7_mixedIn_28 (s_iadd dX7_mixedIn_31 (s_isn 2 rfl (Nat.le_of_ble_eq_true rfl) dX7_mixedIn_32 (s_inc (by decide +kernel) (Nat.le_of_ble_eq_true rfl) dX7_mixedIn_33 (s_goto (tgt := 15) (by decide +kernel) dX7_mixedIn_36 (s_j (hκ 15)))))))))))))))
noncomputable def B_X7_mixedIn : List (Nat × (gb_K → gb_C)) := [(4, fun κ => k_X7_mixedIn_4 κ), (15, fun κ => k_X7_mixedIn_15 κ)]
noncomputable def K_X7_mixedIn : gb_K := gb_fx (gb_tb (B_X7_mixedIn))
theorem L_X7_mixedIn : ∀ q, gb_Li (fun κ => gb_tb (B_X7_mixedIn) κ q) := gb_tb_li (List.forall_mem_cons.mpr ⟨l_X7_mixedIn_4, List.forall_mem_cons.mpr ⟨l_X7_mixedIn_15, (fun _ h => absurd h List.not_mem_nil)⟩⟩)
theorem S_X7_mixedIn   : ∀ q, gb_S RX7 cX7_mixedIn 5 (gb_rm 2 46) 1 q (K_X7_mixedIn q) := fun q => gb_fx_S (L_X7_mixedIn) (gb_tb_S (List.forall_mem_cons.mpr ⟨fun κ hκ => s_X7_mixedIn_4 hκ, List.forall_mem_cons.mpr ⟨fun κ hκ => s_X7_mixedIn_15 hκ, (fun _ h => absurd h List.not_mem_nil)⟩⟩)) q
noncomputable def f_X7_mixedIn : gb_F := gb_hide (gb_mf 5 (k_X7_mixedIn_0 (K_X7_mixedIn)))
theorem c_X7_mixedIn : ∀ l, gb_Met l yX7_mixedIn cX7_mixedIn 5 (some .int) 1 (gb_rm 2 46) f_X7_mixedIn := gb_hide_c (gb_met (own := RX7) (rk := 1) rfl (by decide +kernel) ⟨rfl, rfl⟩ (s_X7_mixedIn_0 (S_X7_mixedIn)))
theorem dX7_valueThen_0 : decode cX7_valueThen 0 = .ok (.aload_n 0, 1) := by decide +kernel
theorem dX7_valueThen_1 : decode cX7_valueThen 1 = .ok (.iload_n 1, 1) := by decide +kernel
theorem dX7_valueThen_2 : decode cX7_valueThen 2 = .ok (.iload_n 2, 1) := by decide +kernel
theorem dX7_valueThen_3 : decode cX7_valueThen 3 = .ok (.invokevirtual 127, 3) := by decide +kernel
theorem dX7_valueThen_6 : decode cX7_valueThen 6 = .ok (.aload_n 0, 1) := by decide +kernel
theorem dX7_valueThen_7 : decode cX7_valueThen 7 = .ok (.iload_n 1, 1) := by decide +kernel
theorem dX7_valueThen_8 : decode cX7_valueThen 8 = .ok (.invokevirtual 130, 3) := by decide +kernel
theorem dX7_valueThen_11 : decode cX7_valueThen 11 = .ok (.isub, 1) := by decide +kernel
theorem dX7_valueThen_12 : decode cX7_valueThen 12 = .ok (.ireturn, 1) := by decide +kernel
theorem v_X7_valueThen : yX7_valueThen.cls = RX7 ∧ yX7_valueThen.cls ≠ "java/lang/invoke/MethodHandle" ∧ yX7_valueThen.cls ≠ "java/lang/invoke/VarHandle" ∧ (parseMethodDescriptor yX7_valueThen.desc).map (fun d => d.parameters.length) = some 2 := ⟨rfl, by decide +kernel, by decide +kernel, by decide +kernel⟩
noncomputable def k_X7_valueThen_0 (κ : gb_K) : gb_C := (o_al 0 (o_il 1 (o_il 2 (o_cv 2 7 1 f_X7_raw (o_al 0 (o_il 1 (o_cv 1 7 1 f_X7_mixedIn (o_ib (fun x y => x - y) o_ri))))))))
theorem l_X7_valueThen_0 : gb_Li (fun κ => k_X7_valueThen_0 κ) := (gb_li (q_al 0) (gb_li (q_il 1) (gb_li (q_il 2) (gb_li (q_cv 2 7 1 f_X7_raw) (gb_li (q_al 0) (gb_li (q_il 1) (gb_li (q_cv 1 7 1 f_X7_mixedIn) (gb_li (q_ib _) (gb_li0 _)))))))))
theorem s_X7_valueThen_0   {κ : gb_K} (hκ : ∀ q, gb_S RX7 cX7_valueThen 3 (gb_rm 3 70) 1 q (κ q)) : gb_S RX7 cX7_valueThen 3 (gb_rm 3 70) 1 0 (k_X7_valueThen_0 κ) := (s_aln 0 rfl dX7_valueThen_0 (s_iln 1 rfl dX7_valueThen_1 (s_iln 2 rfl dX7_valueThen_2 (s_cv (C := RX7) c_X7_raw rfl (gb_l5 gw_190 gw_191 gw_192 gw_11 gw_193) v_X7_raw ⟨rfl, rfl⟩ ⟨Nat.le_of_ble_eq_true rfl, Nat.le_of_ble_eq_true rfl⟩ dX7_valueThen_3 (s_aln 0 rfl dX7_valueThen_6 (s_iln 1 rfl dX7_valueThen_7 (s_cv (C := RX7) c_X7_mixedIn rfl (gb_l5 gw_194 gw_195 gw_196 gw_11 gw_197) v_X7_mixedIn ⟨rfl, rfl⟩ ⟨Nat.le_of_ble_eq_true rfl, Nat.le_of_ble_eq_true rfl⟩ dX7_valueThen_8 (s_isub dX7_valueThen_11 (s_ri rfl dX7_valueThen_12)))))))))
noncomputable def f_X7_valueThen : gb_F := gb_hide (gb_mf 3 (k_X7_valueThen_0 gb_n))
theorem c_X7_valueThen : ∀ l, gb_Met l yX7_valueThen cX7_valueThen 3 (some .int) 1 (gb_rm 3 70) f_X7_valueThen := gb_hide_c (gb_met (own := RX7) (rk := 1) rfl (by decide +kernel) ⟨rfl, rfl⟩ (s_X7_valueThen_0 gb_S_n))
theorem dX7_valueOf_0 : decode cX7_valueOf 0 = .ok (.aload_n 0, 1) := by decide +kernel
theorem dX7_valueOf_1 : decode cX7_valueOf 1 = .ok (.iload_n 1, 1) := by decide +kernel
theorem dX7_valueOf_2 : decode cX7_valueOf 2 = .ok (.aload_n 0, 1) := by decide +kernel
theorem dX7_valueOf_3 : decode cX7_valueOf 3 = .ok (.getfield 44, 3) := by decide +kernel
theorem dX7_valueOf_6 : decode cX7_valueOf 6 = .ok (.invokevirtual 124, 3) := by decide +kernel
theorem dX7_valueOf_9 : decode cX7_valueOf 9 = .ok (.ireturn, 1) := by decide +kernel
theorem v_X7_valueOf : yX7_valueOf.cls = RX7 ∧ yX7_valueOf.cls ≠ "java/lang/invoke/MethodHandle" ∧ yX7_valueOf.cls ≠ "java/lang/invoke/VarHandle" ∧ (parseMethodDescriptor yX7_valueOf.desc).map (fun d => d.parameters.length) = some 1 := ⟨rfl, by decide +kernel, by decide +kernel, by decide +kernel⟩
noncomputable def k_X7_valueOf_0 (κ : gb_K) : gb_C := (o_al 0 (o_il 1 (o_al 0 (o_gf 7 9 (o_cv 2 7 1 f_X7_valueThen o_ri)))))
theorem l_X7_valueOf_0 : gb_Li (fun κ => k_X7_valueOf_0 κ) := (gb_li (q_al 0) (gb_li (q_il 1) (gb_li (q_al 0) (gb_li (q_gf 7 9) (gb_li (q_cv 2 7 1 f_X7_valueThen) (gb_li0 _))))))
theorem s_X7_valueOf_0   {κ : gb_K} (hκ : ∀ q, gb_S RX7 cX7_valueOf 2 (gb_rm 4 92) 1 q (κ q)) : gb_S RX7 cX7_valueOf 2 (gb_rm 4 92) 1 0 (k_X7_valueOf_0 κ) := (s_aln 0 rfl dX7_valueOf_0 (s_iln 1 rfl dX7_valueOf_1 (s_aln 0 rfl dX7_valueOf_2 (s_gf (T := TX7) winX7 rfl (Nat.le_of_ble_eq_true rfl) gw_5 rfl dX7_valueOf_3 (s_cv (C := RX7) c_X7_valueThen rfl (gb_l5 gw_198 gw_199 gw_200 gw_11 gw_201) v_X7_valueThen ⟨rfl, rfl⟩ ⟨Nat.le_of_ble_eq_true rfl, Nat.le_of_ble_eq_true rfl⟩ dX7_valueOf_6 (s_ri rfl dX7_valueOf_9))))))
noncomputable def f_X7_valueOf : gb_F := gb_hide (gb_mf 2 (k_X7_valueOf_0 gb_n))
theorem c_X7_valueOf : ∀ l, gb_Met l yX7_valueOf cX7_valueOf 2 (some .int) 1 (gb_rm 4 92) f_X7_valueOf := gb_hide_c (gb_met (own := RX7) (rk := 1) rfl (by decide +kernel) ⟨rfl, rfl⟩ (s_X7_valueOf_0 gb_S_n))
theorem dX7_valueOfAll_0 : decode cX7_valueOfAll 0 = .ok (.iconst 0, 1) := by decide +kernel
theorem dX7_valueOfAll_1 : decode cX7_valueOfAll 1 = .ok (.istore_n 2, 1) := by decide +kernel
theorem dX7_valueOfAll_2 : decode cX7_valueOfAll 2 = .ok (.iconst 0, 1) := by decide +kernel
theorem dX7_valueOfAll_3 : decode cX7_valueOfAll 3 = .ok (.istore_n 3, 1) := by decide +kernel
theorem dX7_valueOfAll_4 : decode cX7_valueOfAll 4 = .ok (.iload_n 3, 1) := by decide +kernel
theorem dX7_valueOfAll_5 : decode cX7_valueOfAll 5 = .ok (.bipush 6, 2) := by decide +kernel
theorem dX7_valueOfAll_7 : decode cX7_valueOfAll 7 = .ok (.if_icmp .ge 18, 3) := by decide +kernel
theorem dX7_valueOfAll_10 : decode cX7_valueOfAll 10 = .ok (.iload_n 2, 1) := by decide +kernel
theorem dX7_valueOfAll_11 : decode cX7_valueOfAll 11 = .ok (.aload_n 0, 1) := by decide +kernel
theorem dX7_valueOfAll_12 : decode cX7_valueOfAll 12 = .ok (.iload_n 3, 1) := by decide +kernel
theorem dX7_valueOfAll_13 : decode cX7_valueOfAll 13 = .ok (.iload_n 1, 1) := by decide +kernel
theorem dX7_valueOfAll_14 : decode cX7_valueOfAll 14 = .ok (.invokevirtual 124, 3) := by decide +kernel
theorem dX7_valueOfAll_17 : decode cX7_valueOfAll 17 = .ok (.iadd, 1) := by decide +kernel
theorem dX7_valueOfAll_18 : decode cX7_valueOfAll 18 = .ok (.istore_n 2, 1) := by decide +kernel
theorem dX7_valueOfAll_19 : decode cX7_valueOfAll 19 = .ok (.iinc 3 1, 3) := by decide +kernel
theorem dX7_valueOfAll_22 : decode cX7_valueOfAll 22 = .ok (.goto (-18), 3) := by decide +kernel
theorem dX7_valueOfAll_25 : decode cX7_valueOfAll 25 = .ok (.iload_n 2, 1) := by decide +kernel
theorem dX7_valueOfAll_26 : decode cX7_valueOfAll 26 = .ok (.ireturn, 1) := by decide +kernel
theorem v_X7_valueOfAll : yX7_valueOfAll.cls = RX7 ∧ yX7_valueOfAll.cls ≠ "java/lang/invoke/MethodHandle" ∧ yX7_valueOfAll.cls ≠ "java/lang/invoke/VarHandle" ∧ (parseMethodDescriptor yX7_valueOfAll.desc).map (fun d => d.parameters.length) = some 1 := ⟨rfl, by decide +kernel, by decide +kernel, by decide +kernel⟩
noncomputable def k_X7_valueOfAll_0 (κ : gb_K) : gb_C := (o_ci 0 (o_is 2 (o_ci 0 (o_is 3 (o_j [0, 1, 2, 3] (κ 4))))))
theorem l_X7_valueOfAll_0 : gb_Li (fun κ => k_X7_valueOfAll_0 κ) := (gb_li (q_ci 0) (gb_li (q_is 2) (gb_li (q_ci 0) (gb_li (q_is 3) (q_j [0, 1, 2, 3] 4)))))
theorem s_X7_valueOfAll_0   {κ : gb_K} (hκ : ∀ q, gb_S RX7 cX7_valueOfAll 4 (gb_rm 4 92) 1 q (κ q)) : gb_S RX7 cX7_valueOfAll 4 (gb_rm 4 92) 1 0 (k_X7_valueOfAll_0 κ) := (s_iconst (by decide +kernel) dX7_valueOfAll_0 (s_isn 2 rfl (Nat.le_of_ble_eq_true rfl) dX7_valueOfAll_1 (s_iconst (by decide +kernel) dX7_valueOfAll_2 (s_isn 3 rfl (Nat.le_of_ble_eq_true rfl) dX7_valueOfAll_3 (s_j (hκ 4))))))
noncomputable def k_X7_valueOfAll_4 (κ : gb_K) : gb_C := (o_il 3 (o_ci 6 (o_cge (o_il 2 o_ri) (o_il 2 (o_al 0 (o_il 3 (o_il 1 (o_cv 2 7 1 f_X7_valueThen (o_ib (fun x y => x + y) (o_is 2 (o_inc 3 1 (o_j [0, 1, 2, 3] (κ 4)))))))))))))
theorem l_X7_valueOfAll_4 : gb_Li (fun κ => k_X7_valueOfAll_4 κ) := (gb_li (q_il 3) (gb_li (q_ci 6) (q_cge (gb_li (q_il 2) (gb_li0 _)) (gb_li (q_il 2) (gb_li (q_al 0) (gb_li (q_il 3) (gb_li (q_il 1) (gb_li (q_cv 2 7 1 f_X7_valueThen) (gb_li (q_ib _) (gb_li (q_is 2) (gb_li (q_inc 3 1) (q_j [0, 1, 2, 3] 4))))))))))))
theorem s_X7_valueOfAll_4   {κ : gb_K} (hκ : ∀ q, gb_S RX7 cX7_valueOfAll 4 (gb_rm 4 92) 1 q (κ q)) : gb_S RX7 cX7_valueOfAll 4 (gb_rm 4 92) 1 4 (k_X7_valueOfAll_4 κ) := (s_iln 3 rfl dX7_valueOfAll_4 (s_bipush (by decide +kernel) dX7_valueOfAll_5 (s_cge (tgt := 25) (by decide +kernel) dX7_valueOfAll_7 (s_iln 2 rfl dX7_valueOfAll_25 (s_ri rfl dX7_valueOfAll_26)) (s_iln 2 rfl dX7_valueOfAll_10 (s_aln 0 rfl dX7_valueOfAll_11 (s_iln 3 rfl dX7_valueOfAll_12 (s_iln 1 rfl dX7_valueOfAll_13 (s_cv (C := RX7) c_X7_valueThen rfl (gb_l5 gw_198 gw_199 gw_200 gw_11 gw_201) v_X7_valueThen ⟨rfl, rfl⟩ ⟨Nat.le_of_ble_eq_true rfl, Nat.le_of_ble_eq_true rfl⟩ dX7_valueOfAll_14 (s_iadd dX7_valueOfAll_17 (s_isn 2 rfl (Nat.le_of_ble_eq_true rfl) dX7_valueOfAll_18 (s_inc (by decide +kernel) (Nat.le_of_ble_eq_true rfl) dX7_valueOfAll_19 (s_goto (tgt := 4) (by decide +kernel) dX7_valueOfAll_22 (s_j (hκ 4))))))))))))))
noncomputable def B_X7_valueOfAll : List (Nat × (gb_K → gb_C)) := [(4, fun κ => k_X7_valueOfAll_4 κ)]
noncomputable def K_X7_valueOfAll : gb_K := gb_fx (gb_tb (B_X7_valueOfAll))
theorem L_X7_valueOfAll : ∀ q, gb_Li (fun κ => gb_tb (B_X7_valueOfAll) κ q) := gb_tb_li (List.forall_mem_cons.mpr ⟨l_X7_valueOfAll_4, (fun _ h => absurd h List.not_mem_nil)⟩)
theorem S_X7_valueOfAll   : ∀ q, gb_S RX7 cX7_valueOfAll 4 (gb_rm 4 92) 1 q (K_X7_valueOfAll q) := fun q => gb_fx_S (L_X7_valueOfAll) (gb_tb_S (List.forall_mem_cons.mpr ⟨fun κ hκ => s_X7_valueOfAll_4 hκ, (fun _ h => absurd h List.not_mem_nil)⟩)) q
noncomputable def f_X7_valueOfAll : gb_F := gb_hide (gb_mf 4 (k_X7_valueOfAll_0 (K_X7_valueOfAll)))
theorem c_X7_valueOfAll : ∀ l, gb_Met l yX7_valueOfAll cX7_valueOfAll 4 (some .int) 1 (gb_rm 4 92) f_X7_valueOfAll := gb_hide_c (gb_met (own := RX7) (rk := 1) rfl (by decide +kernel) ⟨rfl, rfl⟩ (s_X7_valueOfAll_0 (S_X7_valueOfAll)))
theorem dX7_growth_0 : decode cX7_growth 0 = .ok (.aload_n 0, 1) := by decide +kernel
theorem dX7_growth_1 : decode cX7_growth 1 = .ok (.getfield 33, 3) := by decide +kernel
theorem dX7_growth_4 : decode cX7_growth 4 = .ok (.iload_n 1, 1) := by decide +kernel
theorem dX7_growth_5 : decode cX7_growth 5 = .ok (.bipush 6, 2) := by decide +kernel
theorem dX7_growth_7 : decode cX7_growth 7 = .ok (.imul, 1) := by decide +kernel
theorem dX7_growth_8 : decode cX7_growth 8 = .ok (.iload_n 2, 1) := by decide +kernel
theorem dX7_growth_9 : decode cX7_growth 9 = .ok (.iadd, 1) := by decide +kernel
theorem dX7_growth_10 : decode cX7_growth 10 = .ok (.iaload, 1) := by decide +kernel
theorem dX7_growth_11 : decode cX7_growth 11 = .ok (.istore 4, 2) := by decide +kernel
theorem dX7_growth_13 : decode cX7_growth 13 = .ok (.iconst 0, 1) := by decide +kernel
theorem dX7_growth_14 : decode cX7_growth 14 = .ok (.istore 5, 2) := by decide +kernel
theorem dX7_growth_16 : decode cX7_growth 16 = .ok (.iconst 0, 1) := by decide +kernel
theorem dX7_growth_17 : decode cX7_growth 17 = .ok (.istore 6, 2) := by decide +kernel
theorem dX7_growth_19 : decode cX7_growth 19 = .ok (.iload 6, 2) := by decide +kernel
theorem dX7_growth_21 : decode cX7_growth 21 = .ok (.bipush 6, 2) := by decide +kernel
theorem dX7_growth_23 : decode cX7_growth 23 = .ok (.if_icmp .ge 56, 3) := by decide +kernel
theorem dX7_growth_26 : decode cX7_growth 26 = .ok (.aload_n 0, 1) := by decide +kernel
theorem dX7_growth_27 : decode cX7_growth 27 = .ok (.getfield 33, 3) := by decide +kernel
theorem dX7_growth_30 : decode cX7_growth 30 = .ok (.iload_n 1, 1) := by decide +kernel
theorem dX7_growth_31 : decode cX7_growth 31 = .ok (.bipush 6, 2) := by decide +kernel
theorem dX7_growth_33 : decode cX7_growth 33 = .ok (.imul, 1) := by decide +kernel
theorem dX7_growth_34 : decode cX7_growth 34 = .ok (.iload 6, 2) := by decide +kernel
theorem dX7_growth_36 : decode cX7_growth 36 = .ok (.iadd, 1) := by decide +kernel
theorem dX7_growth_37 : decode cX7_growth 37 = .ok (.iaload, 1) := by decide +kernel
theorem dX7_growth_38 : decode cX7_growth 38 = .ok (.istore 7, 2) := by decide +kernel
theorem dX7_growth_40 : decode cX7_growth 40 = .ok (.iload 5, 2) := by decide +kernel
theorem dX7_growth_42 : decode cX7_growth 42 = .ok (.aload_n 0, 1) := by decide +kernel
theorem dX7_growth_43 : decode cX7_growth 43 = .ok (.getfield 36, 3) := by decide +kernel
theorem dX7_growth_46 : decode cX7_growth 46 = .ok (.iload_n 2, 1) := by decide +kernel
theorem dX7_growth_47 : decode cX7_growth 47 = .ok (.iload 6, 2) := by decide +kernel
theorem dX7_growth_49 : decode cX7_growth 49 = .ok (.invokevirtual 118, 3) := by decide +kernel
theorem dX7_growth_52 : decode cX7_growth 52 = .ok (.iload 4, 2) := by decide +kernel
theorem dX7_growth_54 : decode cX7_growth 54 = .ok (.iload_n 3, 1) := by decide +kernel
theorem dX7_growth_55 : decode cX7_growth 55 = .ok (.iadd, 1) := by decide +kernel
theorem dX7_growth_56 : decode cX7_growth 56 = .ok (.iload 7, 2) := by decide +kernel
theorem dX7_growth_58 : decode cX7_growth 58 = .ok (.invokestatic 81, 3) := by decide +kernel
theorem dX7_growth_61 : decode cX7_growth 61 = .ok (.iload 4, 2) := by decide +kernel
theorem dX7_growth_63 : decode cX7_growth 63 = .ok (.iload 7, 2) := by decide +kernel
theorem dX7_growth_65 : decode cX7_growth 65 = .ok (.invokestatic 81, 3) := by decide +kernel
theorem dX7_growth_68 : decode cX7_growth 68 = .ok (.isub, 1) := by decide +kernel
theorem dX7_growth_69 : decode cX7_growth 69 = .ok (.imul, 1) := by decide +kernel
theorem dX7_growth_70 : decode cX7_growth 70 = .ok (.iadd, 1) := by decide +kernel
theorem dX7_growth_71 : decode cX7_growth 71 = .ok (.istore 5, 2) := by decide +kernel
theorem dX7_growth_73 : decode cX7_growth 73 = .ok (.iinc 6 1, 3) := by decide +kernel
theorem dX7_growth_76 : decode cX7_growth 76 = .ok (.goto (-57), 3) := by decide +kernel
theorem dX7_growth_79 : decode cX7_growth 79 = .ok (.iload 5, 2) := by decide +kernel
theorem dX7_growth_81 : decode cX7_growth 81 = .ok (.ireturn, 1) := by decide +kernel
theorem v_X7_growth : yX7_growth.cls = RX7 ∧ yX7_growth.cls ≠ "java/lang/invoke/MethodHandle" ∧ yX7_growth.cls ≠ "java/lang/invoke/VarHandle" ∧ (parseMethodDescriptor yX7_growth.desc).map (fun d => d.parameters.length) = some 3 := ⟨rfl, by decide +kernel, by decide +kernel, by decide +kernel⟩
noncomputable def k_X7_growth_0 (κ : gb_K) : gb_C := (o_al 0 (o_gf 7 8 (o_il 1 (o_ci 6 (o_ib (fun x y => x * y) (o_il 2 (o_ib (fun x y => x + y) (o_iald (o_is 4 (o_ci 0 (o_is 5 (o_ci 0 (o_is 6 (o_j [0, 1, 2, 3, 4, 5, 6] (κ 19)))))))))))))))
theorem l_X7_growth_0 : gb_Li (fun κ => k_X7_growth_0 κ) := (gb_li (q_al 0) (gb_li (q_gf 7 8) (gb_li (q_il 1) (gb_li (q_ci 6) (gb_li (q_ib _) (gb_li (q_il 2) (gb_li (q_ib _) (gb_li q_iald (gb_li (q_is 4) (gb_li (q_ci 0) (gb_li (q_is 5) (gb_li (q_ci 0) (gb_li (q_is 6) (q_j [0, 1, 2, 3, 4, 5, 6] 19))))))))))))))
theorem s_X7_growth_0   {κ : gb_K} (hκ : ∀ q, gb_S RX7 cX7_growth 8 (gb_rm 1 22) 1 q (κ q)) : gb_S RX7 cX7_growth 8 (gb_rm 1 22) 1 0 (k_X7_growth_0 κ) := (s_aln 0 rfl dX7_growth_0 (s_gf (T := TX7) winX7 rfl (Nat.le_of_ble_eq_true rfl) gw_81 rfl dX7_growth_1 (s_iln 1 rfl dX7_growth_4 (s_bipush (by decide +kernel) dX7_growth_5 (s_imul dX7_growth_7 (s_iln 2 rfl dX7_growth_8 (s_iadd dX7_growth_9 (s_iald dX7_growth_10 (s_is (Nat.le_of_ble_eq_true rfl) dX7_growth_11 (s_iconst (by decide +kernel) dX7_growth_13 (s_is (Nat.le_of_ble_eq_true rfl) dX7_growth_14 (s_iconst (by decide +kernel) dX7_growth_16 (s_is (Nat.le_of_ble_eq_true rfl) dX7_growth_17 (s_j (hκ 19)))))))))))))))
noncomputable def k_X7_growth_73 (κ : gb_K) : gb_C := (o_inc 6 1 (o_j [0, 1, 2, 3, 4, 5, 6] (κ 19)))
theorem l_X7_growth_73 : gb_Li (fun κ => k_X7_growth_73 κ) := (gb_li (q_inc 6 1) (q_j [0, 1, 2, 3, 4, 5, 6] 19))
theorem s_X7_growth_73   {κ : gb_K} (hκ : ∀ q, gb_S RX7 cX7_growth 8 (gb_rm 1 22) 1 q (κ q)) : gb_S RX7 cX7_growth 8 (gb_rm 1 22) 1 73 (k_X7_growth_73 κ) := (s_inc (by decide +kernel) (Nat.le_of_ble_eq_true rfl) dX7_growth_73 (s_goto (tgt := 19) (by decide +kernel) dX7_growth_76 (s_j (hκ 19))))
noncomputable def k_X7_growth_19 (κ : gb_K) : gb_C := (o_il 6 (o_ci 6 (o_cge (o_il 5 o_ri) (o_al 0 (o_gf 7 8 (o_il 1 (o_ci 6 (o_ib (fun x y => x * y) (o_il 6 (o_ib (fun x y => x + y) (o_iald (o_is 7 (o_il 5 (o_al 0 (o_gf 7 0 (o_il 2 (o_il 6 (o_cv 2 5 1 f_X5_lossOf (o_il 4 (o_il 3 (o_ib (fun x y => x + y) (o_il 7 (o_mmin (o_il 4 (o_il 7 (o_mmin (o_ib (fun x y => x - y) (o_ib (fun x y => x * y) (o_ib (fun x y => x + y) (o_is 5 (k_X7_growth_73 κ)))))))))))))))))))))))))))))))
theorem l_X7_growth_19 : gb_Li (fun κ => k_X7_growth_19 κ) := (gb_li (q_il 6) (gb_li (q_ci 6) (q_cge (gb_li (q_il 5) (gb_li0 _)) (gb_li (q_al 0) (gb_li (q_gf 7 8) (gb_li (q_il 1) (gb_li (q_ci 6) (gb_li (q_ib _) (gb_li (q_il 6) (gb_li (q_ib _) (gb_li q_iald (gb_li (q_is 7) (gb_li (q_il 5) (gb_li (q_al 0) (gb_li (q_gf 7 0) (gb_li (q_il 2) (gb_li (q_il 6) (gb_li (q_cv 2 5 1 f_X5_lossOf) (gb_li (q_il 4) (gb_li (q_il 3) (gb_li (q_ib _) (gb_li (q_il 7) (gb_li q_mmin (gb_li (q_il 4) (gb_li (q_il 7) (gb_li q_mmin (gb_li (q_ib _) (gb_li (q_ib _) (gb_li (q_ib _) (gb_li (q_is 5) (l_X7_growth_73)))))))))))))))))))))))))))))))
theorem s_X7_growth_19   {κ : gb_K} (hκ : ∀ q, gb_S RX7 cX7_growth 8 (gb_rm 1 22) 1 q (κ q)) : gb_S RX7 cX7_growth 8 (gb_rm 1 22) 1 19 (k_X7_growth_19 κ) := (s_il dX7_growth_19 (s_bipush (by decide +kernel) dX7_growth_21 (s_cge (tgt := 79) (by decide +kernel) dX7_growth_23 (s_il dX7_growth_79 (s_ri rfl dX7_growth_81)) (s_aln 0 rfl dX7_growth_26 (s_gf (T := TX7) winX7 rfl (Nat.le_of_ble_eq_true rfl) gw_81 rfl dX7_growth_27 (s_iln 1 rfl dX7_growth_30 (s_bipush (by decide +kernel) dX7_growth_31 (s_imul dX7_growth_33 (s_il dX7_growth_34 (s_iadd dX7_growth_36 (s_iald dX7_growth_37 (s_is (Nat.le_of_ble_eq_true rfl) dX7_growth_38 (s_il dX7_growth_40 (s_aln 0 rfl dX7_growth_42 (s_gf (T := TX7) winX7 rfl (Nat.le_of_ble_eq_true rfl) gw_137 rfl dX7_growth_43 (s_iln 2 rfl dX7_growth_46 (s_il dX7_growth_47 (s_cv (C := RX5) c_X5_lossOf rfl (gb_l5 gw_182 gw_183 gw_184 gw_117 gw_185) v_X5_lossOf ⟨rfl, rfl⟩ ⟨Nat.le_of_ble_eq_true rfl, Nat.le_of_ble_eq_true rfl⟩ dX7_growth_49 (s_il dX7_growth_52 (s_iln 3 rfl dX7_growth_54 (s_iadd dX7_growth_55 (s_il dX7_growth_56 (s_mmin ⟨Nat.le_of_ble_eq_true rfl, Nat.le_of_ble_eq_true rfl⟩ (gb_l4 gw_154 gw_99 gw_17 gw_100) dX7_growth_58 (s_il dX7_growth_61 (s_il dX7_growth_63 (s_mmin ⟨Nat.le_of_ble_eq_true rfl, Nat.le_of_ble_eq_true rfl⟩ (gb_l4 gw_154 gw_99 gw_17 gw_100) dX7_growth_65 (s_isub dX7_growth_68 (s_imul dX7_growth_69 (s_iadd dX7_growth_70 (s_is (Nat.le_of_ble_eq_true rfl) dX7_growth_71 (s_X7_growth_73 hκ)))))))))))))))))))))))))))))))
noncomputable def B_X7_growth : List (Nat × (gb_K → gb_C)) := [(19, fun κ => k_X7_growth_19 κ)]
noncomputable def K_X7_growth : gb_K := gb_fx (gb_tb (B_X7_growth))
theorem L_X7_growth : ∀ q, gb_Li (fun κ => gb_tb (B_X7_growth) κ q) := gb_tb_li (List.forall_mem_cons.mpr ⟨l_X7_growth_19, (fun _ h => absurd h List.not_mem_nil)⟩)
theorem S_X7_growth   : ∀ q, gb_S RX7 cX7_growth 8 (gb_rm 1 22) 1 q (K_X7_growth q) := fun q => gb_fx_S (L_X7_growth) (gb_tb_S (List.forall_mem_cons.mpr ⟨fun κ hκ => s_X7_growth_19 hκ, (fun _ h => absurd h List.not_mem_nil)⟩)) q
noncomputable def f_X7_growth : gb_F := gb_hide (gb_mf 8 (k_X7_growth_0 (K_X7_growth)))
theorem c_X7_growth : ∀ l, gb_Met l yX7_growth cX7_growth 8 (some .int) 1 (gb_rm 1 22) f_X7_growth := gb_hide_c (gb_met (own := RX7) (rk := 1) rfl (by decide +kernel) ⟨rfl, rfl⟩ (s_X7_growth_0 (S_X7_growth)))
theorem dX7_gain_0 : decode cX7_gain 0 = .ok (.iload_n 3, 1) := by decide +kernel
theorem dX7_gain_1 : decode cX7_gain 1 = .ok (.aload_n 0, 1) := by decide +kernel
theorem dX7_gain_2 : decode cX7_gain 2 = .ok (.getfield 9, 3) := by decide +kernel
theorem dX7_gain_5 : decode cX7_gain 5 = .ok (.iload_n 2, 1) := by decide +kernel
theorem dX7_gain_6 : decode cX7_gain 6 = .ok (.iaload, 1) := by decide +kernel
theorem dX7_gain_7 : decode cX7_gain 7 = .ok (.imul, 1) := by decide +kernel
theorem dX7_gain_8 : decode cX7_gain 8 = .ok (.aload_n 0, 1) := by decide +kernel
theorem dX7_gain_9 : decode cX7_gain 9 = .ok (.iload_n 1, 1) := by decide +kernel
theorem dX7_gain_10 : decode cX7_gain 10 = .ok (.iload_n 2, 1) := by decide +kernel
theorem dX7_gain_11 : decode cX7_gain 11 = .ok (.iload_n 3, 1) := by decide +kernel
theorem dX7_gain_12 : decode cX7_gain 12 = .ok (.invokevirtual 140, 3) := by decide +kernel
theorem dX7_gain_15 : decode cX7_gain 15 = .ok (.isub, 1) := by decide +kernel
theorem dX7_gain_16 : decode cX7_gain 16 = .ok (.ireturn, 1) := by decide +kernel
theorem v_X7_gain : yX7_gain.cls = RX7 ∧ yX7_gain.cls ≠ "java/lang/invoke/MethodHandle" ∧ yX7_gain.cls ≠ "java/lang/invoke/VarHandle" ∧ (parseMethodDescriptor yX7_gain.desc).map (fun d => d.parameters.length) = some 3 := ⟨rfl, by decide +kernel, by decide +kernel, by decide +kernel⟩
noncomputable def k_X7_gain_0 (κ : gb_K) : gb_C := (o_il 3 (o_al 0 (o_gf 7 1 (o_il 2 (o_iald (o_ib (fun x y => x * y) (o_al 0 (o_il 1 (o_il 2 (o_il 3 (o_cv 3 7 1 f_X7_growth (o_ib (fun x y => x - y) o_ri))))))))))))
theorem l_X7_gain_0 : gb_Li (fun κ => k_X7_gain_0 κ) := (gb_li (q_il 3) (gb_li (q_al 0) (gb_li (q_gf 7 1) (gb_li (q_il 2) (gb_li q_iald (gb_li (q_ib _) (gb_li (q_al 0) (gb_li (q_il 1) (gb_li (q_il 2) (gb_li (q_il 3) (gb_li (q_cv 3 7 1 f_X7_growth) (gb_li (q_ib _) (gb_li0 _)))))))))))))
theorem s_X7_gain_0   {κ : gb_K} (hκ : ∀ q, gb_S RX7 cX7_gain 4 (gb_rm 2 49) 1 q (κ q)) : gb_S RX7 cX7_gain 4 (gb_rm 2 49) 1 0 (k_X7_gain_0 κ) := (s_iln 3 rfl dX7_gain_0 (s_aln 0 rfl dX7_gain_1 (s_gf (T := TX7) winX7 rfl (Nat.le_of_ble_eq_true rfl) gw_86 rfl dX7_gain_2 (s_iln 2 rfl dX7_gain_5 (s_iald dX7_gain_6 (s_imul dX7_gain_7 (s_aln 0 rfl dX7_gain_8 (s_iln 1 rfl dX7_gain_9 (s_iln 2 rfl dX7_gain_10 (s_iln 3 rfl dX7_gain_11 (s_cv (C := RX7) c_X7_growth rfl (gb_l5 gw_202 gw_203 gw_204 gw_11 gw_205) v_X7_growth ⟨rfl, rfl⟩ ⟨Nat.le_of_ble_eq_true rfl, Nat.le_of_ble_eq_true rfl⟩ dX7_gain_12 (s_isub dX7_gain_15 (s_ri rfl dX7_gain_16)))))))))))))
noncomputable def f_X7_gain : gb_F := gb_hide (gb_mf 4 (k_X7_gain_0 gb_n))
theorem c_X7_gain : ∀ l, gb_Met l yX7_gain cX7_gain 4 (some .int) 1 (gb_rm 2 49) f_X7_gain := gb_hide_c (gb_met (own := RX7) (rk := 1) rfl (by decide +kernel) ⟨rfl, rfl⟩ (s_X7_gain_0 gb_S_n))
