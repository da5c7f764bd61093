/-! CODE: printed by wip/whole/gen.py -/
theorem dX10_tonsOf_0 : decode cX10_tonsOf 0 = .ok (.iconst 0, 1) := by decide +kernel
theorem dX10_tonsOf_1 : decode cX10_tonsOf 1 = .ok (.istore_n 3, 1) := by decide +kernel
theorem dX10_tonsOf_2 : decode cX10_tonsOf 2 = .ok (.iconst 0, 1) := by decide +kernel
theorem dX10_tonsOf_3 : decode cX10_tonsOf 3 = .ok (.istore 4, 2) := by decide +kernel
theorem dX10_tonsOf_5 : decode cX10_tonsOf 5 = .ok (.iload 4, 2) := by decide +kernel
theorem dX10_tonsOf_7 : decode cX10_tonsOf 7 = .ok (.aload_n 0, 1) := by decide +kernel
theorem dX10_tonsOf_8 : decode cX10_tonsOf 8 = .ok (.iload_n 1, 1) := by decide +kernel
theorem dX10_tonsOf_9 : decode cX10_tonsOf 9 = .ok (.invokevirtual 84, 3) := by decide +kernel
theorem dX10_tonsOf_12 : decode cX10_tonsOf 12 = .ok (.if_icmp .ge 36, 3) := by decide +kernel
theorem dX10_tonsOf_15 : decode cX10_tonsOf 15 = .ok (.iload_n 3, 1) := by decide +kernel
theorem dX10_tonsOf_16 : decode cX10_tonsOf 16 = .ok (.aload_n 0, 1) := by decide +kernel
theorem dX10_tonsOf_17 : decode cX10_tonsOf 17 = .ok (.iload_n 1, 1) := by decide +kernel
theorem dX10_tonsOf_18 : decode cX10_tonsOf 18 = .ok (.iload 4, 2) := by decide +kernel
theorem dX10_tonsOf_20 : decode cX10_tonsOf 20 = .ok (.iconst 0, 1) := by decide +kernel
theorem dX10_tonsOf_21 : decode cX10_tonsOf 21 = .ok (.invokevirtual 88, 3) := by decide +kernel
theorem dX10_tonsOf_24 : decode cX10_tonsOf 24 = .ok (.iload_n 2, 1) := by decide +kernel
theorem dX10_tonsOf_25 : decode cX10_tonsOf 25 = .ok (.if_icmp .ne 14, 3) := by decide +kernel
theorem dX10_tonsOf_28 : decode cX10_tonsOf 28 = .ok (.aload_n 0, 1) := by decide +kernel
theorem dX10_tonsOf_29 : decode cX10_tonsOf 29 = .ok (.iload_n 1, 1) := by decide +kernel
theorem dX10_tonsOf_30 : decode cX10_tonsOf 30 = .ok (.iload 4, 2) := by decide +kernel
theorem dX10_tonsOf_32 : decode cX10_tonsOf 32 = .ok (.iconst 1, 1) := by decide +kernel
theorem dX10_tonsOf_33 : decode cX10_tonsOf 33 = .ok (.invokevirtual 88, 3) := by decide +kernel
theorem dX10_tonsOf_36 : decode cX10_tonsOf 36 = .ok (.goto 4, 3) := by decide +kernel
theorem dX10_tonsOf_39 : decode cX10_tonsOf 39 = .ok (.iconst 0, 1) := by decide +kernel
theorem dX10_tonsOf_40 : decode cX10_tonsOf 40 = .ok (.iadd, 1) := by decide +kernel
theorem dX10_tonsOf_41 : decode cX10_tonsOf 41 = .ok (.istore_n 3, 1) := by decide +kernel
theorem dX10_tonsOf_42 : decode cX10_tonsOf 42 = .ok (.iinc 4 1, 3) := by decide +kernel
theorem dX10_tonsOf_45 : decode cX10_tonsOf 45 = .ok (.goto (-40), 3) := by decide +kernel
theorem dX10_tonsOf_48 : decode cX10_tonsOf 48 = .ok (.iload_n 3, 1) := by decide +kernel
theorem dX10_tonsOf_49 : decode cX10_tonsOf 49 = .ok (.ireturn, 1) := by decide +kernel
theorem v_X10_tonsOf : yX10_tonsOf.cls = RX10 ∧ yX10_tonsOf.cls ≠ "java/lang/invoke/MethodHandle" ∧ yX10_tonsOf.cls ≠ "java/lang/invoke/VarHandle" ∧ (parseMethodDescriptor yX10_tonsOf.desc).map (fun d => d.parameters.length) = some 2 := ⟨rfl, by decide +kernel, by decide +kernel, by decide +kernel⟩
noncomputable def k_X10_tonsOf_0 (κ : gb_K) : gb_C := (o_ci 0 (o_is 3 (o_ci 0 (o_is 4 (o_j [0, 1, 2, 3, 4] (κ 5))))))
theorem l_X10_tonsOf_0 : gb_Li (fun κ => k_X10_tonsOf_0 κ) := (gb_li (q_ci 0) (gb_li (q_is 3) (gb_li (q_ci 0) (gb_li (q_is 4) (q_j [0, 1, 2, 3, 4] 5)))))
theorem s_X10_tonsOf_0   {κ : gb_K} (hκ : ∀ q, gb_S RX10 cX10_tonsOf 5 (gb_rm 1 23) 1 q (κ q)) : gb_S RX10 cX10_tonsOf 5 (gb_rm 1 23) 1 0 (k_X10_tonsOf_0 κ) := (s_iconst (by decide +kernel) dX10_tonsOf_0 (s_isn 3 rfl (Nat.le_of_ble_eq_true rfl) dX10_tonsOf_1 (s_iconst (by decide +kernel) dX10_tonsOf_2 (s_is (Nat.le_of_ble_eq_true rfl) dX10_tonsOf_3 (s_j (hκ 5))))))
noncomputable def k_X10_tonsOf_40 (κ : gb_K) : gb_C := (o_ib (fun x y => x + y) (o_is 3 (o_inc 4 1 (o_j [0, 1, 2, 3, 4] (κ 5)))))
theorem l_X10_tonsOf_40 : gb_Li (fun κ => k_X10_tonsOf_40 κ) := (gb_li (q_ib _) (gb_li (q_is 3) (gb_li (q_inc 4 1) (q_j [0, 1, 2, 3, 4] 5))))
theorem s_X10_tonsOf_40   {κ : gb_K} (hκ : ∀ q, gb_S RX10 cX10_tonsOf 5 (gb_rm 1 23) 1 q (κ q)) : gb_S RX10 cX10_tonsOf 5 (gb_rm 1 23) 1 40 (k_X10_tonsOf_40 κ) := (s_iadd dX10_tonsOf_40 (s_isn 3 rfl (Nat.le_of_ble_eq_true rfl) dX10_tonsOf_41 (s_inc (by decide +kernel) (Nat.le_of_ble_eq_true rfl) dX10_tonsOf_42 (s_goto (tgt := 5) (by decide +kernel) dX10_tonsOf_45 (s_j (hκ 5))))))
noncomputable def k_X10_tonsOf_5 (κ : gb_K) : gb_C := (o_il 4 (o_al 0 (o_il 1 (o_cv 1 10 1 f_X10_many (o_cge (o_il 3 o_ri) (o_il 3 (o_al 0 (o_il 1 (o_il 4 (o_ci 0 (o_cv 3 10 1 f_X10_layerOf (o_il 2 (o_ceq (o_al 0 (o_il 1 (o_il 4 (o_ci 1 (o_cv 3 10 1 f_X10_layerOf (k_X10_tonsOf_40 κ)))))) (o_ci 0 (k_X10_tonsOf_40 κ)))))))))))))))
theorem l_X10_tonsOf_5 : gb_Li (fun κ => k_X10_tonsOf_5 κ) := (gb_li (q_il 4) (gb_li (q_al 0) (gb_li (q_il 1) (gb_li (q_cv 1 10 1 f_X10_many) (q_cge (gb_li (q_il 3) (gb_li0 _)) (gb_li (q_il 3) (gb_li (q_al 0) (gb_li (q_il 1) (gb_li (q_il 4) (gb_li (q_ci 0) (gb_li (q_cv 3 10 1 f_X10_layerOf) (gb_li (q_il 2) (q_ceq (gb_li (q_al 0) (gb_li (q_il 1) (gb_li (q_il 4) (gb_li (q_ci 1) (gb_li (q_cv 3 10 1 f_X10_layerOf) (l_X10_tonsOf_40)))))) (gb_li (q_ci 0) (l_X10_tonsOf_40)))))))))))))))
theorem s_X10_tonsOf_5   {κ : gb_K} (hκ : ∀ q, gb_S RX10 cX10_tonsOf 5 (gb_rm 1 23) 1 q (κ q)) : gb_S RX10 cX10_tonsOf 5 (gb_rm 1 23) 1 5 (k_X10_tonsOf_5 κ) := (s_il dX10_tonsOf_5 (s_aln 0 rfl dX10_tonsOf_7 (s_iln 1 rfl dX10_tonsOf_8 (s_cv (C := RX10) c_X10_many rfl (gb_l5 gw_557 gw_558 gw_559 gw_553 gw_560) v_X10_many ⟨rfl, rfl⟩ ⟨Nat.le_of_ble_eq_true rfl, Nat.le_of_ble_eq_true rfl⟩ dX10_tonsOf_9 (s_cge (tgt := 48) (by decide +kernel) dX10_tonsOf_12 (s_iln 3 rfl dX10_tonsOf_48 (s_ri rfl dX10_tonsOf_49)) (s_iln 3 rfl dX10_tonsOf_15 (s_aln 0 rfl dX10_tonsOf_16 (s_iln 1 rfl dX10_tonsOf_17 (s_il dX10_tonsOf_18 (s_iconst (by decide +kernel) dX10_tonsOf_20 (s_cv (C := RX10) c_X10_layerOf rfl (gb_l5 gw_561 gw_562 gw_563 gw_553 gw_564) v_X10_layerOf ⟨rfl, rfl⟩ ⟨Nat.le_of_ble_eq_true rfl, Nat.le_of_ble_eq_true rfl⟩ dX10_tonsOf_21 (s_iln 2 rfl dX10_tonsOf_24 (s_cne (tgt := 39) (by decide +kernel) dX10_tonsOf_25 (s_iconst (by decide +kernel) dX10_tonsOf_39 (s_X10_tonsOf_40 hκ)) (s_aln 0 rfl dX10_tonsOf_28 (s_iln 1 rfl dX10_tonsOf_29 (s_il dX10_tonsOf_30 (s_iconst (by decide +kernel) dX10_tonsOf_32 (s_cv (C := RX10) c_X10_layerOf rfl (gb_l5 gw_561 gw_562 gw_563 gw_553 gw_564) v_X10_layerOf ⟨rfl, rfl⟩ ⟨Nat.le_of_ble_eq_true rfl, Nat.le_of_ble_eq_true rfl⟩ dX10_tonsOf_33 (s_goto (tgt := 40) (by decide +kernel) dX10_tonsOf_36 (s_X10_tonsOf_40 hκ))))))))))))))))))))
noncomputable def B_X10_tonsOf : List (Nat × (gb_K → gb_C)) := [(5, fun κ => k_X10_tonsOf_5 κ)]
noncomputable def K_X10_tonsOf : gb_K := gb_fx (gb_tb (B_X10_tonsOf))
theorem L_X10_tonsOf : ∀ q, gb_Li (fun κ => gb_tb (B_X10_tonsOf) κ q) := gb_tb_li (List.forall_mem_cons.mpr ⟨l_X10_tonsOf_5, (fun _ h => absurd h List.not_mem_nil)⟩)
theorem S_X10_tonsOf   : ∀ q, gb_S RX10 cX10_tonsOf 5 (gb_rm 1 23) 1 q (K_X10_tonsOf q) := fun q => gb_fx_S (L_X10_tonsOf) (gb_tb_S (List.forall_mem_cons.mpr ⟨fun κ hκ => s_X10_tonsOf_5 hκ, (fun _ h => absurd h List.not_mem_nil)⟩)) q
noncomputable def f_X10_tonsOf : gb_F := gb_hide (gb_mf 5 (k_X10_tonsOf_0 (K_X10_tonsOf)))
theorem c_X10_tonsOf : ∀ l, gb_Met l yX10_tonsOf cX10_tonsOf 5 (some .int) 1 (gb_rm 1 23) f_X10_tonsOf := gb_hide_c (gb_met (own := RX10) (rk := 1) rfl (by decide +kernel) ⟨rfl, rfl⟩ (s_X10_tonsOf_0 (S_X10_tonsOf)))
theorem dX10_loss_0 : decode cX10_loss 0 = .ok (.aload_n 0, 1) := by decide +kernel
theorem dX10_loss_1 : decode cX10_loss 1 = .ok (.getfield 7, 3) := by decide +kernel
theorem dX10_loss_4 : decode cX10_loss 4 = .ok (.bipush 12, 2) := by decide +kernel
theorem dX10_loss_6 : decode cX10_loss 6 = .ok (.bipush 6, 2) := by decide +kernel
theorem dX10_loss_8 : decode cX10_loss 8 = .ok (.iload_n 1, 1) := by decide +kernel
theorem dX10_loss_9 : decode cX10_loss 9 = .ok (.imul, 1) := by decide +kernel
theorem dX10_loss_10 : decode cX10_loss 10 = .ok (.iadd, 1) := by decide +kernel
theorem dX10_loss_11 : decode cX10_loss 11 = .ok (.iload_n 2, 1) := by decide +kernel
theorem dX10_loss_12 : decode cX10_loss 12 = .ok (.iadd, 1) := by decide +kernel
theorem dX10_loss_13 : decode cX10_loss 13 = .ok (.iaload, 1) := by decide +kernel
theorem dX10_loss_14 : decode cX10_loss 14 = .ok (.ireturn, 1) := by decide +kernel
theorem v_X10_loss : yX10_loss.cls = RX10 ∧ yX10_loss.cls ≠ "java/lang/invoke/MethodHandle" ∧ yX10_loss.cls ≠ "java/lang/invoke/VarHandle" ∧ (parseMethodDescriptor yX10_loss.desc).map (fun d => d.parameters.length) = some 2 := ⟨rfl, by decide +kernel, by decide +kernel, by decide +kernel⟩
noncomputable def k_X10_loss_0 (κ : gb_K) : gb_C := (o_al 0 (o_gf 10 0 (o_ci 12 (o_ci 6 (o_il 1 (o_ib (fun x y => x * y) (o_ib (fun x y => x + y) (o_il 2 (o_ib (fun x y => x + y) (o_iald o_ri))))))))))
theorem l_X10_loss_0 : gb_Li (fun κ => k_X10_loss_0 κ) := (gb_li (q_al 0) (gb_li (q_gf 10 0) (gb_li (q_ci 12) (gb_li (q_ci 6) (gb_li (q_il 1) (gb_li (q_ib _) (gb_li (q_ib _) (gb_li (q_il 2) (gb_li (q_ib _) (gb_li q_iald (gb_li0 _)))))))))))
theorem s_X10_loss_0   {κ : gb_K} (hκ : ∀ q, gb_S RX10 cX10_loss 3 (gb_rm 0 0) 1 q (κ q)) : gb_S RX10 cX10_loss 3 (gb_rm 0 0) 1 0 (k_X10_loss_0 κ) := (s_aln 0 rfl dX10_loss_0 (s_gf (T := TX10) winX10 rfl (Nat.le_of_ble_eq_true rfl) gw_545 rfl dX10_loss_1 (s_bipush (by decide +kernel) dX10_loss_4 (s_bipush (by decide +kernel) dX10_loss_6 (s_iln 1 rfl dX10_loss_8 (s_imul dX10_loss_9 (s_iadd dX10_loss_10 (s_iln 2 rfl dX10_loss_11 (s_iadd dX10_loss_12 (s_iald dX10_loss_13 (s_ri rfl dX10_loss_14)))))))))))
noncomputable def f_X10_loss : gb_F := gb_hide (gb_mf 3 (k_X10_loss_0 gb_n))
theorem c_X10_loss : ∀ l, gb_Met l yX10_loss cX10_loss 3 (some .int) 1 (gb_rm 0 0) f_X10_loss := gb_hide_c (gb_met (own := RX10) (rk := 1) rfl (by decide +kernel) ⟨rfl, rfl⟩ (s_X10_loss_0 gb_S_n))
theorem dX10_isClosed_0 : decode cX10_isClosed 0 = .ok (.aload_n 0, 1) := by decide +kernel
theorem dX10_isClosed_1 : decode cX10_isClosed 1 = .ok (.getfield 7, 3) := by decide +kernel
theorem dX10_isClosed_4 : decode cX10_isClosed 4 = .ok (.sipush 174, 3) := by decide +kernel
theorem dX10_isClosed_7 : decode cX10_isClosed 7 = .ok (.iaload, 1) := by decide +kernel
theorem dX10_isClosed_8 : decode cX10_isClosed 8 = .ok (.aload_n 0, 1) := by decide +kernel
theorem dX10_isClosed_9 : decode cX10_isClosed 9 = .ok (.getfield 7, 3) := by decide +kernel
theorem dX10_isClosed_12 : decode cX10_isClosed 12 = .ok (.bipush 54, 2) := by decide +kernel
theorem dX10_isClosed_14 : decode cX10_isClosed 14 = .ok (.iload_n 1, 1) := by decide +kernel
theorem dX10_isClosed_15 : decode cX10_isClosed 15 = .ok (.iadd, 1) := by decide +kernel
theorem dX10_isClosed_16 : decode cX10_isClosed 16 = .ok (.iaload, 1) := by decide +kernel
theorem dX10_isClosed_17 : decode cX10_isClosed 17 = .ok (.if_icmp .ge 7, 3) := by decide +kernel
theorem dX10_isClosed_20 : decode cX10_isClosed 20 = .ok (.iconst 1, 1) := by decide +kernel
theorem dX10_isClosed_21 : decode cX10_isClosed 21 = .ok (.goto 4, 3) := by decide +kernel
theorem dX10_isClosed_24 : decode cX10_isClosed 24 = .ok (.iconst 0, 1) := by decide +kernel
theorem dX10_isClosed_25 : decode cX10_isClosed 25 = .ok (.ireturn, 1) := by decide +kernel
theorem v_X10_isClosed : yX10_isClosed.cls = RX10 ∧ yX10_isClosed.cls ≠ "java/lang/invoke/MethodHandle" ∧ yX10_isClosed.cls ≠ "java/lang/invoke/VarHandle" ∧ (parseMethodDescriptor yX10_isClosed.desc).map (fun d => d.parameters.length) = some 1 := ⟨rfl, by decide +kernel, by decide +kernel, by decide +kernel⟩
noncomputable def k_X10_isClosed_25 (κ : gb_K) : gb_C := o_rz
theorem l_X10_isClosed_25 : gb_Li (fun κ => k_X10_isClosed_25 κ) := (gb_li0 _)
theorem s_X10_isClosed_25   {κ : gb_K} (hκ : ∀ q, gb_S RX10 cX10_isClosed 2 (gb_rm 0 0) 2 q (κ q)) : gb_S RX10 cX10_isClosed 2 (gb_rm 0 0) 2 25 (k_X10_isClosed_25 κ) := (s_rz rfl dX10_isClosed_25)
noncomputable def k_X10_isClosed_0 (κ : gb_K) : gb_C := (o_al 0 (o_gf 10 0 (o_ci 174 (o_iald (o_al 0 (o_gf 10 0 (o_ci 54 (o_il 1 (o_ib (fun x y => x + y) (o_iald (o_cge (o_ci 0 (k_X10_isClosed_25 κ)) (o_ci 1 (k_X10_isClosed_25 κ)))))))))))))
theorem l_X10_isClosed_0 : gb_Li (fun κ => k_X10_isClosed_0 κ) := (gb_li (q_al 0) (gb_li (q_gf 10 0) (gb_li (q_ci 174) (gb_li q_iald (gb_li (q_al 0) (gb_li (q_gf 10 0) (gb_li (q_ci 54) (gb_li (q_il 1) (gb_li (q_ib _) (gb_li q_iald (q_cge (gb_li (q_ci 0) (l_X10_isClosed_25)) (gb_li (q_ci 1) (l_X10_isClosed_25)))))))))))))
theorem s_X10_isClosed_0   {κ : gb_K} (hκ : ∀ q, gb_S RX10 cX10_isClosed 2 (gb_rm 0 0) 2 q (κ q)) : gb_S RX10 cX10_isClosed 2 (gb_rm 0 0) 2 0 (k_X10_isClosed_0 κ) := (s_aln 0 rfl dX10_isClosed_0 (s_gf (T := TX10) winX10 rfl (Nat.le_of_ble_eq_true rfl) gw_545 rfl dX10_isClosed_1 (s_sipush (by decide +kernel) dX10_isClosed_4 (s_iald dX10_isClosed_7 (s_aln 0 rfl dX10_isClosed_8 (s_gf (T := TX10) winX10 rfl (Nat.le_of_ble_eq_true rfl) gw_545 rfl dX10_isClosed_9 (s_bipush (by decide +kernel) dX10_isClosed_12 (s_iln 1 rfl dX10_isClosed_14 (s_iadd dX10_isClosed_15 (s_iald dX10_isClosed_16 (s_cge (tgt := 24) (by decide +kernel) dX10_isClosed_17 (s_iconst (by decide +kernel) dX10_isClosed_24 (s_X10_isClosed_25 hκ)) (s_iconst (by decide +kernel) dX10_isClosed_20 (s_goto (tgt := 25) (by decide +kernel) dX10_isClosed_21 (s_X10_isClosed_25 hκ))))))))))))))
noncomputable def f_X10_isClosed : gb_F := gb_hide (gb_mf 2 (k_X10_isClosed_0 gb_n))
theorem c_X10_isClosed : ∀ l, gb_Met l yX10_isClosed cX10_isClosed 2 (some .boolean) 2 (gb_rm 0 0) f_X10_isClosed := gb_hide_c (gb_met (own := RX10) (rk := 2) rfl (by decide +kernel) ⟨rfl, rfl⟩ (s_X10_isClosed_0 gb_S_n))
theorem dX10_keepsAside_0 : decode cX10_keepsAside 0 = .ok (.iconst 0, 1) := by decide +kernel
theorem dX10_keepsAside_1 : decode cX10_keepsAside 1 = .ok (.istore_n 1, 1) := by decide +kernel
theorem dX10_keepsAside_2 : decode cX10_keepsAside 2 = .ok (.iload_n 1, 1) := by decide +kernel
theorem dX10_keepsAside_3 : decode cX10_keepsAside 3 = .ok (.sipush 176, 3) := by decide +kernel
theorem dX10_keepsAside_6 : decode cX10_keepsAside 6 = .ok (.if_icmp .ge 21, 3) := by decide +kernel
theorem dX10_keepsAside_9 : decode cX10_keepsAside 9 = .ok (.aload_n 0, 1) := by decide +kernel
theorem dX10_keepsAside_10 : decode cX10_keepsAside 10 = .ok (.getfield 13, 3) := by decide +kernel
theorem dX10_keepsAside_13 : decode cX10_keepsAside 13 = .ok (.iload_n 1, 1) := by decide +kernel
theorem dX10_keepsAside_14 : decode cX10_keepsAside 14 = .ok (.aload_n 0, 1) := by decide +kernel
theorem dX10_keepsAside_15 : decode cX10_keepsAside 15 = .ok (.getfield 7, 3) := by decide +kernel
theorem dX10_keepsAside_18 : decode cX10_keepsAside 18 = .ok (.iload_n 1, 1) := by decide +kernel
theorem dX10_keepsAside_19 : decode cX10_keepsAside 19 = .ok (.iaload, 1) := by decide +kernel
theorem dX10_keepsAside_20 : decode cX10_keepsAside 20 = .ok (.iastore, 1) := by decide +kernel
theorem dX10_keepsAside_21 : decode cX10_keepsAside 21 = .ok (.iinc 1 1, 3) := by decide +kernel
theorem dX10_keepsAside_24 : decode cX10_keepsAside 24 = .ok (.goto (-22), 3) := by decide +kernel
theorem dX10_keepsAside_27 : decode cX10_keepsAside 27 = .ok (.return_, 1) := by decide +kernel
theorem v_X10_keepsAside : yX10_keepsAside.cls = RX10 ∧ yX10_keepsAside.cls ≠ "java/lang/invoke/MethodHandle" ∧ yX10_keepsAside.cls ≠ "java/lang/invoke/VarHandle" ∧ (parseMethodDescriptor yX10_keepsAside.desc).map (fun d => d.parameters.length) = some 0 := ⟨rfl, by decide +kernel, by decide +kernel, by decide +kernel⟩
noncomputable def k_X10_keepsAside_0 (κ : gb_K) : gb_C := (o_ci 0 (o_is 1 (o_j [0, 1] (κ 2))))
theorem l_X10_keepsAside_0 : gb_Li (fun κ => k_X10_keepsAside_0 κ) := (gb_li (q_ci 0) (gb_li (q_is 1) (q_j [0, 1] 2)))
theorem s_X10_keepsAside_0   {κ : gb_K} (hκ : ∀ q, gb_S RX10 cX10_keepsAside 2 (gb_rm 0 0) 0 q (κ q)) : gb_S RX10 cX10_keepsAside 2 (gb_rm 0 0) 0 0 (k_X10_keepsAside_0 κ) := (s_iconst (by decide +kernel) dX10_keepsAside_0 (s_isn 1 rfl (Nat.le_of_ble_eq_true rfl) dX10_keepsAside_1 (s_j (hκ 2))))
noncomputable def k_X10_keepsAside_2 (κ : gb_K) : gb_C := (o_il 1 (o_ci 176 (o_cge o_rv (o_al 0 (o_gf 10 1 (o_il 1 (o_al 0 (o_gf 10 0 (o_il 1 (o_iald (o_iast (o_inc 1 1 (o_j [0, 1] (κ 2))))))))))))))
theorem l_X10_keepsAside_2 : gb_Li (fun κ => k_X10_keepsAside_2 κ) := (gb_li (q_il 1) (gb_li (q_ci 176) (q_cge (gb_li0 _) (gb_li (q_al 0) (gb_li (q_gf 10 1) (gb_li (q_il 1) (gb_li (q_al 0) (gb_li (q_gf 10 0) (gb_li (q_il 1) (gb_li q_iald (gb_li q_iast (gb_li (q_inc 1 1) (q_j [0, 1] 2)))))))))))))
theorem s_X10_keepsAside_2   {κ : gb_K} (hκ : ∀ q, gb_S RX10 cX10_keepsAside 2 (gb_rm 0 0) 0 q (κ q)) : gb_S RX10 cX10_keepsAside 2 (gb_rm 0 0) 0 2 (k_X10_keepsAside_2 κ) := (s_iln 1 rfl dX10_keepsAside_2 (s_sipush (by decide +kernel) dX10_keepsAside_3 (s_cge (tgt := 27) (by decide +kernel) dX10_keepsAside_6 (s_rv rfl dX10_keepsAside_27) (s_aln 0 rfl dX10_keepsAside_9 (s_gf (T := TX10) winX10 rfl (Nat.le_of_ble_eq_true rfl) gw_565 rfl dX10_keepsAside_10 (s_iln 1 rfl dX10_keepsAside_13 (s_aln 0 rfl dX10_keepsAside_14 (s_gf (T := TX10) winX10 rfl (Nat.le_of_ble_eq_true rfl) gw_545 rfl dX10_keepsAside_15 (s_iln 1 rfl dX10_keepsAside_18 (s_iald dX10_keepsAside_19 (s_iast dX10_keepsAside_20 (s_inc (by decide +kernel) (Nat.le_of_ble_eq_true rfl) dX10_keepsAside_21 (s_goto (tgt := 2) (by decide +kernel) dX10_keepsAside_24 (s_j (hκ 2)))))))))))))))
noncomputable def B_X10_keepsAside : List (Nat × (gb_K → gb_C)) := [(2, fun κ => k_X10_keepsAside_2 κ)]
noncomputable def K_X10_keepsAside : gb_K := gb_fx (gb_tb (B_X10_keepsAside))
theorem L_X10_keepsAside : ∀ q, gb_Li (fun κ => gb_tb (B_X10_keepsAside) κ q) := gb_tb_li (List.forall_mem_cons.mpr ⟨l_X10_keepsAside_2, (fun _ h => absurd h List.not_mem_nil)⟩)
theorem S_X10_keepsAside   : ∀ q, gb_S RX10 cX10_keepsAside 2 (gb_rm 0 0) 0 q (K_X10_keepsAside q) := fun q => gb_fx_S (L_X10_keepsAside) (gb_tb_S (List.forall_mem_cons.mpr ⟨fun κ hκ => s_X10_keepsAside_2 hκ, (fun _ h => absurd h List.not_mem_nil)⟩)) q
noncomputable def f_X10_keepsAside : gb_F := gb_hide (gb_mf 2 (k_X10_keepsAside_0 (K_X10_keepsAside)))
theorem c_X10_keepsAside : ∀ l, gb_Met l yX10_keepsAside cX10_keepsAside 2 none 0 (gb_rm 0 0) f_X10_keepsAside := gb_hide_c (gb_met (own := RX10) (rk := 0) rfl (by decide +kernel) ⟨rfl, rfl⟩ (s_X10_keepsAside_0 (S_X10_keepsAside)))
theorem dX10_putsBack_0 : decode cX10_putsBack 0 = .ok (.iconst 0, 1) := by decide +kernel
theorem dX10_putsBack_1 : decode cX10_putsBack 1 = .ok (.istore_n 1, 1) := by decide +kernel
theorem dX10_putsBack_2 : decode cX10_putsBack 2 = .ok (.iload_n 1, 1) := by decide +kernel
theorem dX10_putsBack_3 : decode cX10_putsBack 3 = .ok (.sipush 176, 3) := by decide +kernel
theorem dX10_putsBack_6 : decode cX10_putsBack 6 = .ok (.if_icmp .ge 21, 3) := by decide +kernel
theorem dX10_putsBack_9 : decode cX10_putsBack 9 = .ok (.aload_n 0, 1) := by decide +kernel
theorem dX10_putsBack_10 : decode cX10_putsBack 10 = .ok (.getfield 7, 3) := by decide +kernel
theorem dX10_putsBack_13 : decode cX10_putsBack 13 = .ok (.iload_n 1, 1) := by decide +kernel
theorem dX10_putsBack_14 : decode cX10_putsBack 14 = .ok (.aload_n 0, 1) := by decide +kernel
theorem dX10_putsBack_15 : decode cX10_putsBack 15 = .ok (.getfield 13, 3) := by decide +kernel
theorem dX10_putsBack_18 : decode cX10_putsBack 18 = .ok (.iload_n 1, 1) := by decide +kernel
theorem dX10_putsBack_19 : decode cX10_putsBack 19 = .ok (.iaload, 1) := by decide +kernel
theorem dX10_putsBack_20 : decode cX10_putsBack 20 = .ok (.iastore, 1) := by decide +kernel
theorem dX10_putsBack_21 : decode cX10_putsBack 21 = .ok (.iinc 1 1, 3) := by decide +kernel
theorem dX10_putsBack_24 : decode cX10_putsBack 24 = .ok (.goto (-22), 3) := by decide +kernel
theorem dX10_putsBack_27 : decode cX10_putsBack 27 = .ok (.return_, 1) := by decide +kernel
theorem v_X10_putsBack : yX10_putsBack.cls = RX10 ∧ yX10_putsBack.cls ≠ "java/lang/invoke/MethodHandle" ∧ yX10_putsBack.cls ≠ "java/lang/invoke/VarHandle" ∧ (parseMethodDescriptor yX10_putsBack.desc).map (fun d => d.parameters.length) = some 0 := ⟨rfl, by decide +kernel, by decide +kernel, by decide +kernel⟩
noncomputable def k_X10_putsBack_0 (κ : gb_K) : gb_C := (o_ci 0 (o_is 1 (o_j [0, 1] (κ 2))))
theorem l_X10_putsBack_0 : gb_Li (fun κ => k_X10_putsBack_0 κ) := (gb_li (q_ci 0) (gb_li (q_is 1) (q_j [0, 1] 2)))
theorem s_X10_putsBack_0   {κ : gb_K} (hκ : ∀ q, gb_S RX10 cX10_putsBack 2 (gb_rm 0 0) 0 q (κ q)) : gb_S RX10 cX10_putsBack 2 (gb_rm 0 0) 0 0 (k_X10_putsBack_0 κ) := (s_iconst (by decide +kernel) dX10_putsBack_0 (s_isn 1 rfl (Nat.le_of_ble_eq_true rfl) dX10_putsBack_1 (s_j (hκ 2))))
noncomputable def k_X10_putsBack_2 (κ : gb_K) : gb_C := (o_il 1 (o_ci 176 (o_cge o_rv (o_al 0 (o_gf 10 0 (o_il 1 (o_al 0 (o_gf 10 1 (o_il 1 (o_iald (o_iast (o_inc 1 1 (o_j [0, 1] (κ 2))))))))))))))
theorem l_X10_putsBack_2 : gb_Li (fun κ => k_X10_putsBack_2 κ) := (gb_li (q_il 1) (gb_li (q_ci 176) (q_cge (gb_li0 _) (gb_li (q_al 0) (gb_li (q_gf 10 0) (gb_li (q_il 1) (gb_li (q_al 0) (gb_li (q_gf 10 1) (gb_li (q_il 1) (gb_li q_iald (gb_li q_iast (gb_li (q_inc 1 1) (q_j [0, 1] 2)))))))))))))
theorem s_X10_putsBack_2   {κ : gb_K} (hκ : ∀ q, gb_S RX10 cX10_putsBack 2 (gb_rm 0 0) 0 q (κ q)) : gb_S RX10 cX10_putsBack 2 (gb_rm 0 0) 0 2 (k_X10_putsBack_2 κ) := (s_iln 1 rfl dX10_putsBack_2 (s_sipush (by decide +kernel) dX10_putsBack_3 (s_cge (tgt := 27) (by decide +kernel) dX10_putsBack_6 (s_rv rfl dX10_putsBack_27) (s_aln 0 rfl dX10_putsBack_9 (s_gf (T := TX10) winX10 rfl (Nat.le_of_ble_eq_true rfl) gw_545 rfl dX10_putsBack_10 (s_iln 1 rfl dX10_putsBack_13 (s_aln 0 rfl dX10_putsBack_14 (s_gf (T := TX10) winX10 rfl (Nat.le_of_ble_eq_true rfl) gw_565 rfl dX10_putsBack_15 (s_iln 1 rfl dX10_putsBack_18 (s_iald dX10_putsBack_19 (s_iast dX10_putsBack_20 (s_inc (by decide +kernel) (Nat.le_of_ble_eq_true rfl) dX10_putsBack_21 (s_goto (tgt := 2) (by decide +kernel) dX10_putsBack_24 (s_j (hκ 2)))))))))))))))
noncomputable def B_X10_putsBack : List (Nat × (gb_K → gb_C)) := [(2, fun κ => k_X10_putsBack_2 κ)]
noncomputable def K_X10_putsBack : gb_K := gb_fx (gb_tb (B_X10_putsBack))
theorem L_X10_putsBack : ∀ q, gb_Li (fun κ => gb_tb (B_X10_putsBack) κ q) := gb_tb_li (List.forall_mem_cons.mpr ⟨l_X10_putsBack_2, (fun _ h => absurd h List.not_mem_nil)⟩)
theorem S_X10_putsBack   : ∀ q, gb_S RX10 cX10_putsBack 2 (gb_rm 0 0) 0 q (K_X10_putsBack q) := fun q => gb_fx_S (L_X10_putsBack) (gb_tb_S (List.forall_mem_cons.mpr ⟨fun κ hκ => s_X10_putsBack_2 hκ, (fun _ h => absurd h List.not_mem_nil)⟩)) q
noncomputable def f_X10_putsBack : gb_F := gb_hide (gb_mf 2 (k_X10_putsBack_0 (K_X10_putsBack)))
theorem c_X10_putsBack : ∀ l, gb_Met l yX10_putsBack cX10_putsBack 2 none 0 (gb_rm 0 0) f_X10_putsBack := gb_hide_c (gb_met (own := RX10) (rk := 0) rfl (by decide +kernel) ⟨rfl, rfl⟩ (s_X10_putsBack_0 (S_X10_putsBack)))
theorem dX10_did_0 : decode cX10_did 0 = .ok (.aload_n 0, 1) := by decide +kernel
theorem dX10_did_1 : decode cX10_did 1 = .ok (.getfield 92, 3) := by decide +kernel
theorem dX10_did_4 : decode cX10_did 4 = .ok (.bipush 8, 2) := by decide +kernel
theorem dX10_did_6 : decode cX10_did 6 = .ok (.if_icmp .ne 46, 3) := by decide +kernel
theorem dX10_did_9 : decode cX10_did 9 = .ok (.sipush 176, 3) := by decide +kernel
theorem dX10_did_12 : decode cX10_did 12 = .ok (.istore_n 1, 1) := by decide +kernel
theorem dX10_did_13 : decode cX10_did 13 = .ok (.iload_n 1, 1) := by decide +kernel
theorem dX10_did_14 : decode cX10_did 14 = .ok (.sipush 1408, 3) := by decide +kernel
theorem dX10_did_17 : decode cX10_did 17 = .ok (.if_icmp .ge 25, 3) := by decide +kernel
theorem dX10_did_20 : decode cX10_did 20 = .ok (.aload_n 0, 1) := by decide +kernel
theorem dX10_did_21 : decode cX10_did 21 = .ok (.getfield 19, 3) := by decide +kernel
theorem dX10_did_24 : decode cX10_did 24 = .ok (.iload_n 1, 1) := by decide +kernel
theorem dX10_did_25 : decode cX10_did 25 = .ok (.sipush 176, 3) := by decide +kernel
theorem dX10_did_28 : decode cX10_did 28 = .ok (.isub, 1) := by decide +kernel
theorem dX10_did_29 : decode cX10_did 29 = .ok (.aload_n 0, 1) := by decide +kernel
theorem dX10_did_30 : decode cX10_did 30 = .ok (.getfield 19, 3) := by decide +kernel
theorem dX10_did_33 : decode cX10_did 33 = .ok (.iload_n 1, 1) := by decide +kernel
theorem dX10_did_34 : decode cX10_did 34 = .ok (.iaload, 1) := by decide +kernel
theorem dX10_did_35 : decode cX10_did 35 = .ok (.iastore, 1) := by decide +kernel
theorem dX10_did_36 : decode cX10_did 36 = .ok (.iinc 1 1, 3) := by decide +kernel
theorem dX10_did_39 : decode cX10_did 39 = .ok (.goto (-26), 3) := by decide +kernel
theorem dX10_did_42 : decode cX10_did 42 = .ok (.aload_n 0, 1) := by decide +kernel
theorem dX10_did_43 : decode cX10_did 43 = .ok (.dup, 1) := by decide +kernel
theorem dX10_did_44 : decode cX10_did 44 = .ok (.getfield 92, 3) := by decide +kernel
theorem dX10_did_47 : decode cX10_did 47 = .ok (.iconst 1, 1) := by decide +kernel
theorem dX10_did_48 : decode cX10_did 48 = .ok (.isub, 1) := by decide +kernel
theorem dX10_did_49 : decode cX10_did 49 = .ok (.putfield 92, 3) := by decide +kernel
theorem dX10_did_52 : decode cX10_did 52 = .ok (.iconst 0, 1) := by decide +kernel
theorem dX10_did_53 : decode cX10_did 53 = .ok (.istore_n 1, 1) := by decide +kernel
theorem dX10_did_54 : decode cX10_did 54 = .ok (.iload_n 1, 1) := by decide +kernel
theorem dX10_did_55 : decode cX10_did 55 = .ok (.sipush 176, 3) := by decide +kernel
theorem dX10_did_58 : decode cX10_did 58 = .ok (.if_icmp .ge 30, 3) := by decide +kernel
theorem dX10_did_61 : decode cX10_did 61 = .ok (.aload_n 0, 1) := by decide +kernel
theorem dX10_did_62 : decode cX10_did 62 = .ok (.getfield 19, 3) := by decide +kernel
theorem dX10_did_65 : decode cX10_did 65 = .ok (.sipush 176, 3) := by decide +kernel
theorem dX10_did_68 : decode cX10_did 68 = .ok (.aload_n 0, 1) := by decide +kernel
theorem dX10_did_69 : decode cX10_did 69 = .ok (.getfield 92, 3) := by decide +kernel
theorem dX10_did_72 : decode cX10_did 72 = .ok (.imul, 1) := by decide +kernel
theorem dX10_did_73 : decode cX10_did 73 = .ok (.iload_n 1, 1) := by decide +kernel
theorem dX10_did_74 : decode cX10_did 74 = .ok (.iadd, 1) := by decide +kernel
theorem dX10_did_75 : decode cX10_did 75 = .ok (.aload_n 0, 1) := by decide +kernel
theorem dX10_did_76 : decode cX10_did 76 = .ok (.getfield 13, 3) := by decide +kernel
theorem dX10_did_79 : decode cX10_did 79 = .ok (.iload_n 1, 1) := by decide +kernel
theorem dX10_did_80 : decode cX10_did 80 = .ok (.iaload, 1) := by decide +kernel
theorem dX10_did_81 : decode cX10_did 81 = .ok (.iastore, 1) := by decide +kernel
theorem dX10_did_82 : decode cX10_did 82 = .ok (.iinc 1 1, 3) := by decide +kernel
theorem dX10_did_85 : decode cX10_did 85 = .ok (.goto (-31), 3) := by decide +kernel
theorem dX10_did_88 : decode cX10_did 88 = .ok (.aload_n 0, 1) := by decide +kernel
theorem dX10_did_89 : decode cX10_did 89 = .ok (.dup, 1) := by decide +kernel
theorem dX10_did_90 : decode cX10_did 90 = .ok (.getfield 92, 3) := by decide +kernel
theorem dX10_did_93 : decode cX10_did 93 = .ok (.iconst 1, 1) := by decide +kernel
theorem dX10_did_94 : decode cX10_did 94 = .ok (.iadd, 1) := by decide +kernel
theorem dX10_did_95 : decode cX10_did 95 = .ok (.putfield 92, 3) := by decide +kernel
theorem dX10_did_98 : decode cX10_did 98 = .ok (.return_, 1) := by decide +kernel
theorem v_X10_did : yX10_did.cls = RX10 ∧ yX10_did.cls ≠ "java/lang/invoke/MethodHandle" ∧ yX10_did.cls ≠ "java/lang/invoke/VarHandle" ∧ (parseMethodDescriptor yX10_did.desc).map (fun d => d.parameters.length) = some 0 := ⟨rfl, by decide +kernel, by decide +kernel, by decide +kernel⟩
noncomputable def k_X10_did_52 (κ : gb_K) : gb_C := (o_ci 0 (o_is 1 (o_j [0, 1] (κ 54))))
theorem l_X10_did_52 : gb_Li (fun κ => k_X10_did_52 κ) := (gb_li (q_ci 0) (gb_li (q_is 1) (q_j [0, 1] 54)))
theorem s_X10_did_52   {κ : gb_K} (hκ : ∀ q, gb_S RX10 cX10_did 2 (gb_rm 0 0) 0 q (κ q)) : gb_S RX10 cX10_did 2 (gb_rm 0 0) 0 52 (k_X10_did_52 κ) := (s_iconst (by decide +kernel) dX10_did_52 (s_isn 1 rfl (Nat.le_of_ble_eq_true rfl) dX10_did_53 (s_j (hκ 54))))
noncomputable def k_X10_did_0 (κ : gb_K) : gb_C := (o_al 0 (o_gf 10 5 (o_ci 8 (o_ceq (o_ci 176 (o_is 1 (o_j [0, 1] (κ 13)))) (k_X10_did_52 κ)))))
theorem l_X10_did_0 : gb_Li (fun κ => k_X10_did_0 κ) := (gb_li (q_al 0) (gb_li (q_gf 10 5) (gb_li (q_ci 8) (q_ceq (gb_li (q_ci 176) (gb_li (q_is 1) (q_j [0, 1] 13))) (l_X10_did_52)))))
theorem s_X10_did_0   {κ : gb_K} (hκ : ∀ q, gb_S RX10 cX10_did 2 (gb_rm 0 0) 0 q (κ q)) : gb_S RX10 cX10_did 2 (gb_rm 0 0) 0 0 (k_X10_did_0 κ) := (s_aln 0 rfl dX10_did_0 (s_gf (T := TX10) winX10 rfl (Nat.le_of_ble_eq_true rfl) gw_566 rfl dX10_did_1 (s_bipush (by decide +kernel) dX10_did_4 (s_cne (tgt := 52) (by decide +kernel) dX10_did_6 (s_X10_did_52 hκ) (s_sipush (by decide +kernel) dX10_did_9 (s_isn 1 rfl (Nat.le_of_ble_eq_true rfl) dX10_did_12 (s_j (hκ 13))))))))
noncomputable def k_X10_did_13 (κ : gb_K) : gb_C := (o_il 1 (o_ci 1408 (o_cge (o_al 0 (o_dup (o_gf 10 5 (o_ci 1 (o_ib (fun x y => x - y) (o_pf 10 5 (k_X10_did_52 κ))))))) (o_al 0 (o_gf 10 4 (o_il 1 (o_ci 176 (o_ib (fun x y => x - y) (o_al 0 (o_gf 10 4 (o_il 1 (o_iald (o_iast (o_inc 1 1 (o_j [0, 1] (κ 13))))))))))))))))
theorem l_X10_did_13 : gb_Li (fun κ => k_X10_did_13 κ) := (gb_li (q_il 1) (gb_li (q_ci 1408) (q_cge (gb_li (q_al 0) (gb_li q_dup (gb_li (q_gf 10 5) (gb_li (q_ci 1) (gb_li (q_ib _) (gb_li (q_pf 10 5) (l_X10_did_52))))))) (gb_li (q_al 0) (gb_li (q_gf 10 4) (gb_li (q_il 1) (gb_li (q_ci 176) (gb_li (q_ib _) (gb_li (q_al 0) (gb_li (q_gf 10 4) (gb_li (q_il 1) (gb_li q_iald (gb_li q_iast (gb_li (q_inc 1 1) (q_j [0, 1] 13)))))))))))))))
theorem s_X10_did_13   {κ : gb_K} (hκ : ∀ q, gb_S RX10 cX10_did 2 (gb_rm 0 0) 0 q (κ q)) : gb_S RX10 cX10_did 2 (gb_rm 0 0) 0 13 (k_X10_did_13 κ) := (s_iln 1 rfl dX10_did_13 (s_sipush (by decide +kernel) dX10_did_14 (s_cge (tgt := 42) (by decide +kernel) dX10_did_17 (s_aln 0 rfl dX10_did_42 (s_dup dX10_did_43 (s_gf (T := TX10) winX10 rfl (Nat.le_of_ble_eq_true rfl) gw_566 rfl dX10_did_44 (s_iconst (by decide +kernel) dX10_did_47 (s_isub dX10_did_48 (s_pf (T := TX10) winX10 rfl (Nat.le_of_ble_eq_true rfl) tyX10_ok nmX10 rfl (by decide +kernel) gw_566 rfl dX10_did_49 (s_X10_did_52 hκ))))))) (s_aln 0 rfl dX10_did_20 (s_gf (T := TX10) winX10 rfl (Nat.le_of_ble_eq_true rfl) gw_567 rfl dX10_did_21 (s_iln 1 rfl dX10_did_24 (s_sipush (by decide +kernel) dX10_did_25 (s_isub dX10_did_28 (s_aln 0 rfl dX10_did_29 (s_gf (T := TX10) winX10 rfl (Nat.le_of_ble_eq_true rfl) gw_567 rfl dX10_did_30 (s_iln 1 rfl dX10_did_33 (s_iald dX10_did_34 (s_iast dX10_did_35 (s_inc (by decide +kernel) (Nat.le_of_ble_eq_true rfl) dX10_did_36 (s_goto (tgt := 13) (by decide +kernel) dX10_did_39 (s_j (hκ 13)))))))))))))))))
noncomputable def k_X10_did_54 (κ : gb_K) : gb_C := (o_il 1 (o_ci 176 (o_cge (o_al 0 (o_dup (o_gf 10 5 (o_ci 1 (o_ib (fun x y => x + y) (o_pf 10 5 o_rv)))))) (o_al 0 (o_gf 10 4 (o_ci 176 (o_al 0 (o_gf 10 5 (o_ib (fun x y => x * y) (o_il 1 (o_ib (fun x y => x + y) (o_al 0 (o_gf 10 1 (o_il 1 (o_iald (o_iast (o_inc 1 1 (o_j [0, 1] (κ 54)))))))))))))))))))
theorem l_X10_did_54 : gb_Li (fun κ => k_X10_did_54 κ) := (gb_li (q_il 1) (gb_li (q_ci 176) (q_cge (gb_li (q_al 0) (gb_li q_dup (gb_li (q_gf 10 5) (gb_li (q_ci 1) (gb_li (q_ib _) (gb_li (q_pf 10 5) (gb_li0 _))))))) (gb_li (q_al 0) (gb_li (q_gf 10 4) (gb_li (q_ci 176) (gb_li (q_al 0) (gb_li (q_gf 10 5) (gb_li (q_ib _) (gb_li (q_il 1) (gb_li (q_ib _) (gb_li (q_al 0) (gb_li (q_gf 10 1) (gb_li (q_il 1) (gb_li q_iald (gb_li q_iast (gb_li (q_inc 1 1) (q_j [0, 1] 54))))))))))))))))))
theorem s_X10_did_54   {κ : gb_K} (hκ : ∀ q, gb_S RX10 cX10_did 2 (gb_rm 0 0) 0 q (κ q)) : gb_S RX10 cX10_did 2 (gb_rm 0 0) 0 54 (k_X10_did_54 κ) := (s_iln 1 rfl dX10_did_54 (s_sipush (by decide +kernel) dX10_did_55 (s_cge (tgt := 88) (by decide +kernel) dX10_did_58 (s_aln 0 rfl dX10_did_88 (s_dup dX10_did_89 (s_gf (T := TX10) winX10 rfl (Nat.le_of_ble_eq_true rfl) gw_566 rfl dX10_did_90 (s_iconst (by decide +kernel) dX10_did_93 (s_iadd dX10_did_94 (s_pf (T := TX10) winX10 rfl (Nat.le_of_ble_eq_true rfl) tyX10_ok nmX10 rfl (by decide +kernel) gw_566 rfl dX10_did_95 (s_rv rfl dX10_did_98))))))) (s_aln 0 rfl dX10_did_61 (s_gf (T := TX10) winX10 rfl (Nat.le_of_ble_eq_true rfl) gw_567 rfl dX10_did_62 (s_sipush (by decide +kernel) dX10_did_65 (s_aln 0 rfl dX10_did_68 (s_gf (T := TX10) winX10 rfl (Nat.le_of_ble_eq_true rfl) gw_566 rfl dX10_did_69 (s_imul dX10_did_72 (s_iln 1 rfl dX10_did_73 (s_iadd dX10_did_74 (s_aln 0 rfl dX10_did_75 (s_gf (T := TX10) winX10 rfl (Nat.le_of_ble_eq_true rfl) gw_565 rfl dX10_did_76 (s_iln 1 rfl dX10_did_79 (s_iald dX10_did_80 (s_iast dX10_did_81 (s_inc (by decide +kernel) (Nat.le_of_ble_eq_true rfl) dX10_did_82 (s_goto (tgt := 54) (by decide +kernel) dX10_did_85 (s_j (hκ 54))))))))))))))))))))
noncomputable def B_X10_did : List (Nat × (gb_K → gb_C)) := [(13, fun κ => k_X10_did_13 κ), (54, fun κ => k_X10_did_54 κ)]
noncomputable def K_X10_did : gb_K := gb_fx (gb_tb (B_X10_did))
theorem L_X10_did : ∀ q, gb_Li (fun κ => gb_tb (B_X10_did) κ q) := gb_tb_li (List.forall_mem_cons.mpr ⟨l_X10_did_13, List.forall_mem_cons.mpr ⟨l_X10_did_54, (fun _ h => absurd h List.not_mem_nil)⟩⟩)
theorem S_X10_did   : ∀ q, gb_S RX10 cX10_did 2 (gb_rm 0 0) 0 q (K_X10_did q) := fun q => gb_fx_S (L_X10_did) (gb_tb_S (List.forall_mem_cons.mpr ⟨fun κ hκ => s_X10_did_13 hκ, List.forall_mem_cons.mpr ⟨fun κ hκ => s_X10_did_54 hκ, (fun _ h => absurd h List.not_mem_nil)⟩⟩)) q
noncomputable def f_X10_did : gb_F := gb_hide (gb_mf 2 (k_X10_did_0 (K_X10_did)))
theorem c_X10_did : ∀ l, gb_Met l yX10_did cX10_did 2 none 0 (gb_rm 0 0) f_X10_did := gb_hide_c (gb_met (own := RX10) (rk := 0) rfl (by decide +kernel) ⟨rfl, rfl⟩ (s_X10_did_0 (S_X10_did)))
theorem dX10_does_0 : decode cX10_does 0 = .ok (.aload_n 0, 1) := by decide +kernel
theorem dX10_does_1 : decode cX10_does 1 = .ok (.invokevirtual 95, 3) := by decide +kernel
theorem dX10_does_4 : decode cX10_does 4 = .ok (.aload_n 0, 1) := by decide +kernel
theorem dX10_does_5 : decode cX10_does 5 = .ok (.invokevirtual 98, 3) := by decide +kernel
theorem dX10_does_8 : decode cX10_does 8 = .ok (.return_, 1) := by decide +kernel
theorem v_X10_does : yX10_does.cls = RX10 ∧ yX10_does.cls ≠ "java/lang/invoke/MethodHandle" ∧ yX10_does.cls ≠ "java/lang/invoke/VarHandle" ∧ (parseMethodDescriptor yX10_does.desc).map (fun d => d.parameters.length) = some 0 := ⟨rfl, by decide +kernel, by decide +kernel, by decide +kernel⟩
noncomputable def k_X10_does_0 (κ : gb_K) : gb_C := (o_al 0 (o_cv 0 10 0 f_X10_keepsAside (o_al 0 (o_cv 0 10 0 f_X10_did o_rv))))
theorem l_X10_does_0 : gb_Li (fun κ => k_X10_does_0 κ) := (gb_li (q_al 0) (gb_li (q_cv 0 10 0 f_X10_keepsAside) (gb_li (q_al 0) (gb_li (q_cv 0 10 0 f_X10_did) (gb_li0 _)))))
theorem s_X10_does_0   {κ : gb_K} (hκ : ∀ q, gb_S RX10 cX10_does 1 (gb_rm 1 21) 0 q (κ q)) : gb_S RX10 cX10_does 1 (gb_rm 1 21) 0 0 (k_X10_does_0 κ) := (s_aln 0 rfl dX10_does_0 (s_cv (C := RX10) c_X10_keepsAside rfl (gb_l5 gw_568 gw_569 gw_570 gw_553 gw_571) v_X10_keepsAside ⟨rfl, rfl⟩ ⟨Nat.le_of_ble_eq_true rfl, Nat.le_of_ble_eq_true rfl⟩ dX10_does_1 (s_aln 0 rfl dX10_does_4 (s_cv (C := RX10) c_X10_did rfl (gb_l5 gw_572 gw_573 gw_574 gw_553 gw_575) v_X10_did ⟨rfl, rfl⟩ ⟨Nat.le_of_ble_eq_true rfl, Nat.le_of_ble_eq_true rfl⟩ dX10_does_5 (s_rv rfl dX10_does_8)))))
noncomputable def f_X10_does : gb_F := gb_hide (gb_mf 1 (k_X10_does_0 gb_n))
theorem c_X10_does : ∀ l, gb_Met l yX10_does cX10_does 1 none 0 (gb_rm 1 21) f_X10_does := gb_hide_c (gb_met (own := RX10) (rk := 0) rfl (by decide +kernel) ⟨rfl, rfl⟩ (s_X10_does_0 gb_S_n))
theorem dX10_unitOn_0 : decode cX10_unitOn 0 = .ok (.aload_n 0, 1) := by decide +kernel
theorem dX10_unitOn_1 : decode cX10_unitOn 1 = .ok (.iload_n 2, 1) := by decide +kernel
theorem dX10_unitOn_2 : decode cX10_unitOn 2 = .ok (.iload_n 3, 1) := by decide +kernel
theorem dX10_unitOn_3 : decode cX10_unitOn 3 = .ok (.iconst 0, 1) := by decide +kernel
theorem dX10_unitOn_4 : decode cX10_unitOn 4 = .ok (.invokevirtual 88, 3) := by decide +kernel
theorem dX10_unitOn_7 : decode cX10_unitOn 7 = .ok (.istore 4, 2) := by decide +kernel
theorem dX10_unitOn_9 : decode cX10_unitOn 9 = .ok (.iload_n 1, 1) := by decide +kernel
theorem dX10_unitOn_10 : decode cX10_unitOn 10 = .ok (.aload_n 0, 1) := by decide +kernel
theorem dX10_unitOn_11 : decode cX10_unitOn 11 = .ok (.iload_n 2, 1) := by decide +kernel
theorem dX10_unitOn_12 : decode cX10_unitOn 12 = .ok (.iload_n 3, 1) := by decide +kernel
theorem dX10_unitOn_13 : decode cX10_unitOn 13 = .ok (.iconst 2, 1) := by decide +kernel
theorem dX10_unitOn_14 : decode cX10_unitOn 14 = .ok (.invokevirtual 88, 3) := by decide +kernel
theorem dX10_unitOn_17 : decode cX10_unitOn 17 = .ok (.isub, 1) := by decide +kernel
theorem dX10_unitOn_18 : decode cX10_unitOn 18 = .ok (.aload_n 0, 1) := by decide +kernel
theorem dX10_unitOn_19 : decode cX10_unitOn 19 = .ok (.getfield 7, 3) := by decide +kernel
theorem dX10_unitOn_22 : decode cX10_unitOn 22 = .ok (.bipush 6, 2) := by decide +kernel
theorem dX10_unitOn_24 : decode cX10_unitOn 24 = .ok (.iload 4, 2) := by decide +kernel
theorem dX10_unitOn_26 : decode cX10_unitOn 26 = .ok (.iadd, 1) := by decide +kernel
theorem dX10_unitOn_27 : decode cX10_unitOn 27 = .ok (.iaload, 1) := by decide +kernel
theorem dX10_unitOn_28 : decode cX10_unitOn 28 = .ok (.isub, 1) := by decide +kernel
theorem dX10_unitOn_29 : decode cX10_unitOn 29 = .ok (.istore 5, 2) := by decide +kernel
theorem dX10_unitOn_31 : decode cX10_unitOn 31 = .ok (.iconst 0, 1) := by decide +kernel
theorem dX10_unitOn_32 : decode cX10_unitOn 32 = .ok (.aload_n 0, 1) := by decide +kernel
theorem dX10_unitOn_33 : decode cX10_unitOn 33 = .ok (.getfield 7, 3) := by decide +kernel
theorem dX10_unitOn_36 : decode cX10_unitOn 36 = .ok (.iconst 0, 1) := by decide +kernel
theorem dX10_unitOn_37 : decode cX10_unitOn 37 = .ok (.iload 4, 2) := by decide +kernel
theorem dX10_unitOn_39 : decode cX10_unitOn 39 = .ok (.iadd, 1) := by decide +kernel
theorem dX10_unitOn_40 : decode cX10_unitOn 40 = .ok (.iaload, 1) := by decide +kernel
theorem dX10_unitOn_41 : decode cX10_unitOn 41 = .ok (.iconst 0, 1) := by decide +kernel
theorem dX10_unitOn_42 : decode cX10_unitOn 42 = .ok (.iload 5, 2) := by decide +kernel
theorem dX10_unitOn_44 : decode cX10_unitOn 44 = .ok (.invokestatic 101, 3) := by decide +kernel
theorem dX10_unitOn_47 : decode cX10_unitOn 47 = .ok (.isub, 1) := by decide +kernel
theorem dX10_unitOn_48 : decode cX10_unitOn 48 = .ok (.invokestatic 101, 3) := by decide +kernel
theorem dX10_unitOn_51 : decode cX10_unitOn 51 = .ok (.ireturn, 1) := by decide +kernel
theorem v_X10_unitOn : yX10_unitOn.cls = RX10 ∧ yX10_unitOn.cls ≠ "java/lang/invoke/MethodHandle" ∧ yX10_unitOn.cls ≠ "java/lang/invoke/VarHandle" ∧ (parseMethodDescriptor yX10_unitOn.desc).map (fun d => d.parameters.length) = some 3 := ⟨rfl, by decide +kernel, by decide +kernel, by decide +kernel⟩
noncomputable def k_X10_unitOn_44 (κ : gb_K) : gb_C := (o_mmax (o_ib (fun x y => x - y) (o_mmax o_ri)))
theorem l_X10_unitOn_44 : gb_Li (fun κ => k_X10_unitOn_44 κ) := (gb_li q_mmax (gb_li (q_ib _) (gb_li q_mmax (gb_li0 _))))
theorem s_X10_unitOn_44   {κ : gb_K} (hκ : ∀ q, gb_S RX10 cX10_unitOn 6 (gb_rm 1 23) 1 q (κ q)) : gb_S RX10 cX10_unitOn 6 (gb_rm 1 23) 1 44 (k_X10_unitOn_44 κ) := (s_mmax ⟨Nat.le_of_ble_eq_true rfl, Nat.le_of_ble_eq_true rfl⟩ (gb_l4 gw_576 gw_16 gw_17 gw_18) dX10_unitOn_44 (s_isub dX10_unitOn_47 (s_mmax ⟨Nat.le_of_ble_eq_true rfl, Nat.le_of_ble_eq_true rfl⟩ (gb_l4 gw_576 gw_16 gw_17 gw_18) dX10_unitOn_48 (s_ri rfl dX10_unitOn_51))))
noncomputable def k_X10_unitOn_0 (κ : gb_K) : gb_C := (o_al 0 (o_il 2 (o_il 3 (o_ci 0 (o_cv 3 10 1 f_X10_layerOf (o_is 4 (o_il 1 (o_al 0 (o_il 2 (o_il 3 (o_ci 2 (o_cv 3 10 1 f_X10_layerOf (o_ib (fun x y => x - y) (o_al 0 (o_gf 10 0 (o_ci 6 (o_il 4 (o_ib (fun x y => x + y) (o_iald (o_ib (fun x y => x - y) (o_is 5 (o_ci 0 (o_al 0 (o_gf 10 0 (o_ci 0 (o_il 4 (o_ib (fun x y => x + y) (o_iald (o_ci 0 (o_il 5 (k_X10_unitOn_44 κ)))))))))))))))))))))))))))))))
theorem l_X10_unitOn_0 : gb_Li (fun κ => k_X10_unitOn_0 κ) := (gb_li (q_al 0) (gb_li (q_il 2) (gb_li (q_il 3) (gb_li (q_ci 0) (gb_li (q_cv 3 10 1 f_X10_layerOf) (gb_li (q_is 4) (gb_li (q_il 1) (gb_li (q_al 0) (gb_li (q_il 2) (gb_li (q_il 3) (gb_li (q_ci 2) (gb_li (q_cv 3 10 1 f_X10_layerOf) (gb_li (q_ib _) (gb_li (q_al 0) (gb_li (q_gf 10 0) (gb_li (q_ci 6) (gb_li (q_il 4) (gb_li (q_ib _) (gb_li q_iald (gb_li (q_ib _) (gb_li (q_is 5) (gb_li (q_ci 0) (gb_li (q_al 0) (gb_li (q_gf 10 0) (gb_li (q_ci 0) (gb_li (q_il 4) (gb_li (q_ib _) (gb_li q_iald (gb_li (q_ci 0) (gb_li (q_il 5) (l_X10_unitOn_44)))))))))))))))))))))))))))))))
theorem s_X10_unitOn_0   {κ : gb_K} (hκ : ∀ q, gb_S RX10 cX10_unitOn 6 (gb_rm 1 23) 1 q (κ q)) : gb_S RX10 cX10_unitOn 6 (gb_rm 1 23) 1 0 (k_X10_unitOn_0 κ) := (s_aln 0 rfl dX10_unitOn_0 (s_iln 2 rfl dX10_unitOn_1 (s_iln 3 rfl dX10_unitOn_2 (s_iconst (by decide +kernel) dX10_unitOn_3 (s_cv (C := RX10) c_X10_layerOf rfl (gb_l5 gw_561 gw_562 gw_563 gw_553 gw_564) v_X10_layerOf ⟨rfl, rfl⟩ ⟨Nat.le_of_ble_eq_true rfl, Nat.le_of_ble_eq_true rfl⟩ dX10_unitOn_4 (s_is (Nat.le_of_ble_eq_true rfl) dX10_unitOn_7 (s_iln 1 rfl dX10_unitOn_9 (s_aln 0 rfl dX10_unitOn_10 (s_iln 2 rfl dX10_unitOn_11 (s_iln 3 rfl dX10_unitOn_12 (s_iconst (by decide +kernel) dX10_unitOn_13 (s_cv (C := RX10) c_X10_layerOf rfl (gb_l5 gw_561 gw_562 gw_563 gw_553 gw_564) v_X10_layerOf ⟨rfl, rfl⟩ ⟨Nat.le_of_ble_eq_true rfl, Nat.le_of_ble_eq_true rfl⟩ dX10_unitOn_14 (s_isub dX10_unitOn_17 (s_aln 0 rfl dX10_unitOn_18 (s_gf (T := TX10) winX10 rfl (Nat.le_of_ble_eq_true rfl) gw_545 rfl dX10_unitOn_19 (s_bipush (by decide +kernel) dX10_unitOn_22 (s_il dX10_unitOn_24 (s_iadd dX10_unitOn_26 (s_iald dX10_unitOn_27 (s_isub dX10_unitOn_28 (s_is (Nat.le_of_ble_eq_true rfl) dX10_unitOn_29 (s_iconst (by decide +kernel) dX10_unitOn_31 (s_aln 0 rfl dX10_unitOn_32 (s_gf (T := TX10) winX10 rfl (Nat.le_of_ble_eq_true rfl) gw_545 rfl dX10_unitOn_33 (s_iconst (by decide +kernel) dX10_unitOn_36 (s_il dX10_unitOn_37 (s_iadd dX10_unitOn_39 (s_iald dX10_unitOn_40 (s_iconst (by decide +kernel) dX10_unitOn_41 (s_il dX10_unitOn_42 (s_X10_unitOn_44 hκ)))))))))))))))))))))))))))))))
noncomputable def f_X10_unitOn : gb_F := gb_hide (gb_mf 6 (k_X10_unitOn_0 gb_n))
theorem c_X10_unitOn : ∀ l, gb_Met l yX10_unitOn cX10_unitOn 6 (some .int) 1 (gb_rm 1 23) f_X10_unitOn := gb_hide_c (gb_met (own := RX10) (rk := 1) rfl (by decide +kernel) ⟨rfl, rfl⟩ (s_X10_unitOn_0 gb_S_n))
theorem dX10_unit_0 : decode cX10_unit 0 = .ok (.aload_n 0, 1) := by decide +kernel
theorem dX10_unit_1 : decode cX10_unit 1 = .ok (.aload_n 0, 1) := by decide +kernel
theorem dX10_unit_2 : decode cX10_unit 2 = .ok (.getfield 7, 3) := by decide +kernel
theorem dX10_unit_5 : decode cX10_unit 5 = .ok (.sipush 174, 3) := by decide +kernel
theorem dX10_unit_8 : decode cX10_unit 8 = .ok (.iaload, 1) := by decide +kernel
theorem dX10_unit_9 : decode cX10_unit 9 = .ok (.iload_n 1, 1) := by decide +kernel
theorem dX10_unit_10 : decode cX10_unit 10 = .ok (.iload_n 2, 1) := by decide +kernel
theorem dX10_unit_11 : decode cX10_unit 11 = .ok (.invokevirtual 107, 3) := by decide +kernel
theorem dX10_unit_14 : decode cX10_unit 14 = .ok (.ireturn, 1) := by decide +kernel
theorem v_X10_unit : yX10_unit.cls = RX10 ∧ yX10_unit.cls ≠ "java/lang/invoke/MethodHandle" ∧ yX10_unit.cls ≠ "java/lang/invoke/VarHandle" ∧ (parseMethodDescriptor yX10_unit.desc).map (fun d => d.parameters.length) = some 2 := ⟨rfl, by decide +kernel, by decide +kernel, by decide +kernel⟩
noncomputable def k_X10_unit_0 (κ : gb_K) : gb_C := (o_al 0 (o_al 0 (o_gf 10 0 (o_ci 174 (o_iald (o_il 1 (o_il 2 (o_cv 3 10 1 f_X10_unitOn o_ri))))))))
theorem l_X10_unit_0 : gb_Li (fun κ => k_X10_unit_0 κ) := (gb_li (q_al 0) (gb_li (q_al 0) (gb_li (q_gf 10 0) (gb_li (q_ci 174) (gb_li q_iald (gb_li (q_il 1) (gb_li (q_il 2) (gb_li (q_cv 3 10 1 f_X10_unitOn) (gb_li0 _)))))))))
theorem s_X10_unit_0   {κ : gb_K} (hκ : ∀ q, gb_S RX10 cX10_unit 3 (gb_rm 2 48) 1 q (κ q)) : gb_S RX10 cX10_unit 3 (gb_rm 2 48) 1 0 (k_X10_unit_0 κ) := (s_aln 0 rfl dX10_unit_0 (s_aln 0 rfl dX10_unit_1 (s_gf (T := TX10) winX10 rfl (Nat.le_of_ble_eq_true rfl) gw_545 rfl dX10_unit_2 (s_sipush (by decide +kernel) dX10_unit_5 (s_iald dX10_unit_8 (s_iln 1 rfl dX10_unit_9 (s_iln 2 rfl dX10_unit_10 (s_cv (C := RX10) c_X10_unitOn rfl (gb_l5 gw_577 gw_578 gw_579 gw_553 gw_580) v_X10_unitOn ⟨rfl, rfl⟩ ⟨Nat.le_of_ble_eq_true rfl, Nat.le_of_ble_eq_true rfl⟩ dX10_unit_11 (s_ri rfl dX10_unit_14)))))))))
noncomputable def f_X10_unit : gb_F := gb_hide (gb_mf 3 (k_X10_unit_0 gb_n))
theorem c_X10_unit : ∀ l, gb_Met l yX10_unit cX10_unit 3 (some .int) 1 (gb_rm 2 48) f_X10_unit := gb_hide_c (gb_met (own := RX10) (rk := 1) rfl (by decide +kernel) ⟨rfl, rfl⟩ (s_X10_unit_0 gb_S_n))
theorem dX10_rawOn_0 : decode cX10_rawOn 0 = .ok (.iconst 0, 1) := by decide +kernel
theorem dX10_rawOn_1 : decode cX10_rawOn 1 = .ok (.istore_n 3, 1) := by decide +kernel
theorem dX10_rawOn_2 : decode cX10_rawOn 2 = .ok (.iconst 0, 1) := by decide +kernel
theorem dX10_rawOn_3 : decode cX10_rawOn 3 = .ok (.istore 4, 2) := by decide +kernel
theorem dX10_rawOn_5 : decode cX10_rawOn 5 = .ok (.iload 4, 2) := by decide +kernel
theorem dX10_rawOn_7 : decode cX10_rawOn 7 = .ok (.aload_n 0, 1) := by decide +kernel
theorem dX10_rawOn_8 : decode cX10_rawOn 8 = .ok (.iload_n 2, 1) := by decide +kernel
theorem dX10_rawOn_9 : decode cX10_rawOn 9 = .ok (.invokevirtual 84, 3) := by decide +kernel
theorem dX10_rawOn_12 : decode cX10_rawOn 12 = .ok (.if_icmp .ge 29, 3) := by decide +kernel
theorem dX10_rawOn_15 : decode cX10_rawOn 15 = .ok (.iload_n 3, 1) := by decide +kernel
theorem dX10_rawOn_16 : decode cX10_rawOn 16 = .ok (.aload_n 0, 1) := by decide +kernel
theorem dX10_rawOn_17 : decode cX10_rawOn 17 = .ok (.iload_n 2, 1) := by decide +kernel
theorem dX10_rawOn_18 : decode cX10_rawOn 18 = .ok (.iload 4, 2) := by decide +kernel
theorem dX10_rawOn_20 : decode cX10_rawOn 20 = .ok (.iconst 1, 1) := by decide +kernel
theorem dX10_rawOn_21 : decode cX10_rawOn 21 = .ok (.invokevirtual 88, 3) := by decide +kernel
theorem dX10_rawOn_24 : decode cX10_rawOn 24 = .ok (.aload_n 0, 1) := by decide +kernel
theorem dX10_rawOn_25 : decode cX10_rawOn 25 = .ok (.iload_n 1, 1) := by decide +kernel
theorem dX10_rawOn_26 : decode cX10_rawOn 26 = .ok (.iload_n 2, 1) := by decide +kernel
theorem dX10_rawOn_27 : decode cX10_rawOn 27 = .ok (.iload 4, 2) := by decide +kernel
theorem dX10_rawOn_29 : decode cX10_rawOn 29 = .ok (.invokevirtual 107, 3) := by decide +kernel
theorem dX10_rawOn_32 : decode cX10_rawOn 32 = .ok (.imul, 1) := by decide +kernel
theorem dX10_rawOn_33 : decode cX10_rawOn 33 = .ok (.iadd, 1) := by decide +kernel
theorem dX10_rawOn_34 : decode cX10_rawOn 34 = .ok (.istore_n 3, 1) := by decide +kernel
theorem dX10_rawOn_35 : decode cX10_rawOn 35 = .ok (.iinc 4 1, 3) := by decide +kernel
theorem dX10_rawOn_38 : decode cX10_rawOn 38 = .ok (.goto (-33), 3) := by decide +kernel
theorem dX10_rawOn_41 : decode cX10_rawOn 41 = .ok (.iload_n 3, 1) := by decide +kernel
theorem dX10_rawOn_42 : decode cX10_rawOn 42 = .ok (.ireturn, 1) := by decide +kernel
theorem v_X10_rawOn : yX10_rawOn.cls = RX10 ∧ yX10_rawOn.cls ≠ "java/lang/invoke/MethodHandle" ∧ yX10_rawOn.cls ≠ "java/lang/invoke/VarHandle" ∧ (parseMethodDescriptor yX10_rawOn.desc).map (fun d => d.parameters.length) = some 2 := ⟨rfl, by decide +kernel, by decide +kernel, by decide +kernel⟩
noncomputable def k_X10_rawOn_0 (κ : gb_K) : gb_C := (o_ci 0 (o_is 3 (o_ci 0 (o_is 4 (o_j [0, 1, 2, 3, 4] (κ 5))))))
theorem l_X10_rawOn_0 : gb_Li (fun κ => k_X10_rawOn_0 κ) := (gb_li (q_ci 0) (gb_li (q_is 3) (gb_li (q_ci 0) (gb_li (q_is 4) (q_j [0, 1, 2, 3, 4] 5)))))
theorem s_X10_rawOn_0   {κ : gb_K} (hκ : ∀ q, gb_S RX10 cX10_rawOn 5 (gb_rm 2 48) 1 q (κ q)) : gb_S RX10 cX10_rawOn 5 (gb_rm 2 48) 1 0 (k_X10_rawOn_0 κ) := (s_iconst (by decide +kernel) dX10_rawOn_0 (s_isn 3 rfl (Nat.le_of_ble_eq_true rfl) dX10_rawOn_1 (s_iconst (by decide +kernel) dX10_rawOn_2 (s_is (Nat.le_of_ble_eq_true rfl) dX10_rawOn_3 (s_j (hκ 5))))))
noncomputable def k_X10_rawOn_5 (κ : gb_K) : gb_C := (o_il 4 (o_al 0 (o_il 2 (o_cv 1 10 1 f_X10_many (o_cge (o_il 3 o_ri) (o_il 3 (o_al 0 (o_il 2 (o_il 4 (o_ci 1 (o_cv 3 10 1 f_X10_layerOf (o_al 0 (o_il 1 (o_il 2 (o_il 4 (o_cv 3 10 1 f_X10_unitOn (o_ib (fun x y => x * y) (o_ib (fun x y => x + y) (o_is 3 (o_inc 4 1 (o_j [0, 1, 2, 3, 4] (κ 5))))))))))))))))))))))
theorem l_X10_rawOn_5 : gb_Li (fun κ => k_X10_rawOn_5 κ) := (gb_li (q_il 4) (gb_li (q_al 0) (gb_li (q_il 2) (gb_li (q_cv 1 10 1 f_X10_many) (q_cge (gb_li (q_il 3) (gb_li0 _)) (gb_li (q_il 3) (gb_li (q_al 0) (gb_li (q_il 2) (gb_li (q_il 4) (gb_li (q_ci 1) (gb_li (q_cv 3 10 1 f_X10_layerOf) (gb_li (q_al 0) (gb_li (q_il 1) (gb_li (q_il 2) (gb_li (q_il 4) (gb_li (q_cv 3 10 1 f_X10_unitOn) (gb_li (q_ib _) (gb_li (q_ib _) (gb_li (q_is 3) (gb_li (q_inc 4 1) (q_j [0, 1, 2, 3, 4] 5)))))))))))))))))))))
theorem s_X10_rawOn_5   {κ : gb_K} (hκ : ∀ q, gb_S RX10 cX10_rawOn 5 (gb_rm 2 48) 1 q (κ q)) : gb_S RX10 cX10_rawOn 5 (gb_rm 2 48) 1 5 (k_X10_rawOn_5 κ) := (s_il dX10_rawOn_5 (s_aln 0 rfl dX10_rawOn_7 (s_iln 2 rfl dX10_rawOn_8 (s_cv (C := RX10) c_X10_many rfl (gb_l5 gw_557 gw_558 gw_559 gw_553 gw_560) v_X10_many ⟨rfl, rfl⟩ ⟨Nat.le_of_ble_eq_true rfl, Nat.le_of_ble_eq_true rfl⟩ dX10_rawOn_9 (s_cge (tgt := 41) (by decide +kernel) dX10_rawOn_12 (s_iln 3 rfl dX10_rawOn_41 (s_ri rfl dX10_rawOn_42)) (s_iln 3 rfl dX10_rawOn_15 (s_aln 0 rfl dX10_rawOn_16 (s_iln 2 rfl dX10_rawOn_17 (s_il dX10_rawOn_18 (s_iconst (by decide +kernel) dX10_rawOn_20 (s_cv (C := RX10) c_X10_layerOf rfl (gb_l5 gw_561 gw_562 gw_563 gw_553 gw_564) v_X10_layerOf ⟨rfl, rfl⟩ ⟨Nat.le_of_ble_eq_true rfl, Nat.le_of_ble_eq_true rfl⟩ dX10_rawOn_21 (s_aln 0 rfl dX10_rawOn_24 (s_iln 1 rfl dX10_rawOn_25 (s_iln 2 rfl dX10_rawOn_26 (s_il dX10_rawOn_27 (s_cv (C := RX10) c_X10_unitOn rfl (gb_l5 gw_577 gw_578 gw_579 gw_553 gw_580) v_X10_unitOn ⟨rfl, rfl⟩ ⟨Nat.le_of_ble_eq_true rfl, Nat.le_of_ble_eq_true rfl⟩ dX10_rawOn_29 (s_imul dX10_rawOn_32 (s_iadd dX10_rawOn_33 (s_isn 3 rfl (Nat.le_of_ble_eq_true rfl) dX10_rawOn_34 (s_inc (by decide +kernel) (Nat.le_of_ble_eq_true rfl) dX10_rawOn_35 (s_goto (tgt := 5) (by decide +kernel) dX10_rawOn_38 (s_j (hκ 5)))))))))))))))))))))))
noncomputable def B_X10_rawOn : List (Nat × (gb_K → gb_C)) := [(5, fun κ => k_X10_rawOn_5 κ)]
noncomputable def K_X10_rawOn : gb_K := gb_fx (gb_tb (B_X10_rawOn))
theorem L_X10_rawOn : ∀ q, gb_Li (fun κ => gb_tb (B_X10_rawOn) κ q) := gb_tb_li (List.forall_mem_cons.mpr ⟨l_X10_rawOn_5, (fun _ h => absurd h List.not_mem_nil)⟩)
theorem S_X10_rawOn   : ∀ q, gb_S RX10 cX10_rawOn 5 (gb_rm 2 48) 1 q (K_X10_rawOn q) := fun q => gb_fx_S (L_X10_rawOn) (gb_tb_S (List.forall_mem_cons.mpr ⟨fun κ hκ => s_X10_rawOn_5 hκ, (fun _ h => absurd h List.not_mem_nil)⟩)) q
noncomputable def f_X10_rawOn : gb_F := gb_hide (gb_mf 5 (k_X10_rawOn_0 (K_X10_rawOn)))
theorem c_X10_rawOn : ∀ l, gb_Met l yX10_rawOn cX10_rawOn 5 (some .int) 1 (gb_rm 2 48) f_X10_rawOn := gb_hide_c (gb_met (own := RX10) (rk := 1) rfl (by decide +kernel) ⟨rfl, rfl⟩ (s_X10_rawOn_0 (S_X10_rawOn)))
theorem dX10_mixedOf_0 : decode cX10_mixedOf 0 = .ok (.iload_n 2, 1) := by decide +kernel
theorem dX10_mixedOf_1 : decode cX10_mixedOf 1 = .ok (.iload_n 3, 1) := by decide +kernel
theorem dX10_mixedOf_2 : decode cX10_mixedOf 2 = .ok (.if_icmp .eq 12, 3) := by decide +kernel
theorem dX10_mixedOf_5 : decode cX10_mixedOf 5 = .ok (.aload_n 0, 1) := by decide +kernel
theorem dX10_mixedOf_6 : decode cX10_mixedOf 6 = .ok (.iload_n 2, 1) := by decide +kernel
theorem dX10_mixedOf_7 : decode cX10_mixedOf 7 = .ok (.iload_n 3, 1) := by decide +kernel
theorem dX10_mixedOf_8 : decode cX10_mixedOf 8 = .ok (.invokevirtual 110, 3) := by decide +kernel
theorem dX10_mixedOf_11 : decode cX10_mixedOf 11 = .ok (.ifCond .ge 7, 3) := by decide +kernel
theorem dX10_mixedOf_14 : decode cX10_mixedOf 14 = .ok (.iconst 0, 1) := by decide +kernel
theorem dX10_mixedOf_15 : decode cX10_mixedOf 15 = .ok (.goto 25, 3) := by decide +kernel
theorem dX10_mixedOf_18 : decode cX10_mixedOf 18 = .ok (.aload_n 0, 1) := by decide +kernel
theorem dX10_mixedOf_19 : decode cX10_mixedOf 19 = .ok (.iload_n 2, 1) := by decide +kernel
theorem dX10_mixedOf_20 : decode cX10_mixedOf 20 = .ok (.iload_n 3, 1) := by decide +kernel
theorem dX10_mixedOf_21 : decode cX10_mixedOf 21 = .ok (.invokevirtual 110, 3) := by decide +kernel
theorem dX10_mixedOf_24 : decode cX10_mixedOf 24 = .ok (.aload_n 0, 1) := by decide +kernel
theorem dX10_mixedOf_25 : decode cX10_mixedOf 25 = .ok (.iload_n 1, 1) := by decide +kernel
theorem dX10_mixedOf_26 : decode cX10_mixedOf 26 = .ok (.iload_n 2, 1) := by decide +kernel
theorem dX10_mixedOf_27 : decode cX10_mixedOf 27 = .ok (.invokevirtual 113, 3) := by decide +kernel
theorem dX10_mixedOf_30 : decode cX10_mixedOf 30 = .ok (.aload_n 0, 1) := by decide +kernel
theorem dX10_mixedOf_31 : decode cX10_mixedOf 31 = .ok (.iload_n 1, 1) := by decide +kernel
theorem dX10_mixedOf_32 : decode cX10_mixedOf 32 = .ok (.iload_n 3, 1) := by decide +kernel
theorem dX10_mixedOf_33 : decode cX10_mixedOf 33 = .ok (.invokevirtual 113, 3) := by decide +kernel
theorem dX10_mixedOf_36 : decode cX10_mixedOf 36 = .ok (.invokestatic 116, 3) := by decide +kernel
theorem dX10_mixedOf_39 : decode cX10_mixedOf 39 = .ok (.imul, 1) := by decide +kernel
theorem dX10_mixedOf_40 : decode cX10_mixedOf 40 = .ok (.ireturn, 1) := by decide +kernel
theorem v_X10_mixedOf : yX10_mixedOf.cls = RX10 ∧ yX10_mixedOf.cls ≠ "java/lang/invoke/MethodHandle" ∧ yX10_mixedOf.cls ≠ "java/lang/invoke/VarHandle" ∧ (parseMethodDescriptor yX10_mixedOf.desc).map (fun d => d.parameters.length) = some 3 := ⟨rfl, by decide +kernel, by decide +kernel, by decide +kernel⟩
noncomputable def k_X10_mixedOf_40 (κ : gb_K) : gb_C := o_ri
theorem l_X10_mixedOf_40 : gb_Li (fun κ => k_X10_mixedOf_40 κ) := (gb_li0 _)
theorem s_X10_mixedOf_40   {κ : gb_K} (hκ : ∀ q, gb_S RX10 cX10_mixedOf 4 (gb_rm 2 47) 1 q (κ q)) : gb_S RX10 cX10_mixedOf 4 (gb_rm 2 47) 1 40 (k_X10_mixedOf_40 κ) := (s_ri rfl dX10_mixedOf_40)
noncomputable def k_X10_mixedOf_14 (κ : gb_K) : gb_C := (o_ci 0 (k_X10_mixedOf_40 κ))
theorem l_X10_mixedOf_14 : gb_Li (fun κ => k_X10_mixedOf_14 κ) := (gb_li (q_ci 0) (l_X10_mixedOf_40))
theorem s_X10_mixedOf_14   {κ : gb_K} (hκ : ∀ q, gb_S RX10 cX10_mixedOf 4 (gb_rm 2 47) 1 q (κ q)) : gb_S RX10 cX10_mixedOf 4 (gb_rm 2 47) 1 14 (k_X10_mixedOf_14 κ) := (s_iconst (by decide +kernel) dX10_mixedOf_14 (s_goto (tgt := 40) (by decide +kernel) dX10_mixedOf_15 (s_X10_mixedOf_40 hκ)))
noncomputable def k_X10_mixedOf_0 (κ : gb_K) : gb_C := (o_il 2 (o_il 3 (o_ceq (k_X10_mixedOf_14 κ) (o_al 0 (o_il 2 (o_il 3 (o_cv 2 10 1 f_X10_loss (o_zge (o_al 0 (o_il 2 (o_il 3 (o_cv 2 10 1 f_X10_loss (o_al 0 (o_il 1 (o_il 2 (o_cv 2 10 1 f_X10_tonsOf (o_al 0 (o_il 1 (o_il 3 (o_cv 2 10 1 f_X10_tonsOf (o_mmin (o_ib (fun x y => x * y) (k_X10_mixedOf_40 κ))))))))))))))) (k_X10_mixedOf_14 κ)))))))))
theorem l_X10_mixedOf_0 : gb_Li (fun κ => k_X10_mixedOf_0 κ) := (gb_li (q_il 2) (gb_li (q_il 3) (q_ceq (l_X10_mixedOf_14) (gb_li (q_al 0) (gb_li (q_il 2) (gb_li (q_il 3) (gb_li (q_cv 2 10 1 f_X10_loss) (q_zge (gb_li (q_al 0) (gb_li (q_il 2) (gb_li (q_il 3) (gb_li (q_cv 2 10 1 f_X10_loss) (gb_li (q_al 0) (gb_li (q_il 1) (gb_li (q_il 2) (gb_li (q_cv 2 10 1 f_X10_tonsOf) (gb_li (q_al 0) (gb_li (q_il 1) (gb_li (q_il 3) (gb_li (q_cv 2 10 1 f_X10_tonsOf) (gb_li q_mmin (gb_li (q_ib _) (l_X10_mixedOf_40))))))))))))))) (l_X10_mixedOf_14)))))))))
theorem s_X10_mixedOf_0   {κ : gb_K} (hκ : ∀ q, gb_S RX10 cX10_mixedOf 4 (gb_rm 2 47) 1 q (κ q)) : gb_S RX10 cX10_mixedOf 4 (gb_rm 2 47) 1 0 (k_X10_mixedOf_0 κ) := (s_iln 2 rfl dX10_mixedOf_0 (s_iln 3 rfl dX10_mixedOf_1 (s_ceq (tgt := 14) (by decide +kernel) dX10_mixedOf_2 (s_X10_mixedOf_14 hκ) (s_aln 0 rfl dX10_mixedOf_5 (s_iln 2 rfl dX10_mixedOf_6 (s_iln 3 rfl dX10_mixedOf_7 (s_cv (C := RX10) c_X10_loss rfl (gb_l5 gw_581 gw_582 gw_583 gw_553 gw_584) v_X10_loss ⟨rfl, rfl⟩ ⟨Nat.le_of_ble_eq_true rfl, Nat.le_of_ble_eq_true rfl⟩ dX10_mixedOf_8 (s_zge (tgt := 18) (by decide +kernel) dX10_mixedOf_11 (s_aln 0 rfl dX10_mixedOf_18 (s_iln 2 rfl dX10_mixedOf_19 (s_iln 3 rfl dX10_mixedOf_20 (s_cv (C := RX10) c_X10_loss rfl (gb_l5 gw_581 gw_582 gw_583 gw_553 gw_584) v_X10_loss ⟨rfl, rfl⟩ ⟨Nat.le_of_ble_eq_true rfl, Nat.le_of_ble_eq_true rfl⟩ dX10_mixedOf_21 (s_aln 0 rfl dX10_mixedOf_24 (s_iln 1 rfl dX10_mixedOf_25 (s_iln 2 rfl dX10_mixedOf_26 (s_cv (C := RX10) c_X10_tonsOf rfl (gb_l5 gw_585 gw_586 gw_587 gw_553 gw_588) v_X10_tonsOf ⟨rfl, rfl⟩ ⟨Nat.le_of_ble_eq_true rfl, Nat.le_of_ble_eq_true rfl⟩ dX10_mixedOf_27 (s_aln 0 rfl dX10_mixedOf_30 (s_iln 1 rfl dX10_mixedOf_31 (s_iln 3 rfl dX10_mixedOf_32 (s_cv (C := RX10) c_X10_tonsOf rfl (gb_l5 gw_585 gw_586 gw_587 gw_553 gw_588) v_X10_tonsOf ⟨rfl, rfl⟩ ⟨Nat.le_of_ble_eq_true rfl, Nat.le_of_ble_eq_true rfl⟩ dX10_mixedOf_33 (s_mmin ⟨Nat.le_of_ble_eq_true rfl, Nat.le_of_ble_eq_true rfl⟩ (gb_l4 gw_589 gw_95 gw_17 gw_96) dX10_mixedOf_36 (s_imul dX10_mixedOf_39 (s_X10_mixedOf_40 hκ))))))))))))))) (s_X10_mixedOf_14 hκ)))))))))
noncomputable def f_X10_mixedOf : gb_F := gb_hide (gb_mf 4 (k_X10_mixedOf_0 gb_n))
theorem c_X10_mixedOf : ∀ l, gb_Met l yX10_mixedOf cX10_mixedOf 4 (some .int) 1 (gb_rm 2 47) f_X10_mixedOf := gb_hide_c (gb_met (own := RX10) (rk := 1) rfl (by decide +kernel) ⟨rfl, rfl⟩ (s_X10_mixedOf_0 gb_S_n))
theorem dX10_mixedIn_0 : decode cX10_mixedIn 0 = .ok (.iconst 0, 1) := by decide +kernel
theorem dX10_mixedIn_1 : decode cX10_mixedIn 1 = .ok (.istore_n 2, 1) := by decide +kernel
theorem dX10_mixedIn_2 : decode cX10_mixedIn 2 = .ok (.iconst 0, 1) := by decide +kernel
theorem dX10_mixedIn_3 : decode cX10_mixedIn 3 = .ok (.istore_n 3, 1) := by decide +kernel
theorem dX10_mixedIn_4 : decode cX10_mixedIn 4 = .ok (.iload_n 3, 1) := by decide +kernel
theorem dX10_mixedIn_5 : decode cX10_mixedIn 5 = .ok (.bipush 6, 2) := by decide +kernel
theorem dX10_mixedIn_7 : decode cX10_mixedIn 7 = .ok (.if_icmp .ge 38, 3) := by decide +kernel
theorem dX10_mixedIn_10 : decode cX10_mixedIn 10 = .ok (.iload_n 3, 1) := by decide +kernel
theorem dX10_mixedIn_11 : decode cX10_mixedIn 11 = .ok (.iconst 1, 1) := by decide +kernel
theorem dX10_mixedIn_12 : decode cX10_mixedIn 12 = .ok (.iadd, 1) := by decide +kernel
theorem dX10_mixedIn_13 : decode cX10_mixedIn 13 = .ok (.istore 4, 2) := by decide +kernel
theorem dX10_mixedIn_15 : decode cX10_mixedIn 15 = .ok (.iload 4, 2) := by decide +kernel
theorem dX10_mixedIn_17 : decode cX10_mixedIn 17 = .ok (.bipush 6, 2) := by decide +kernel
theorem dX10_mixedIn_19 : decode cX10_mixedIn 19 = .ok (.if_icmp .ge 20, 3) := by decide +kernel
theorem dX10_mixedIn_22 : decode cX10_mixedIn 22 = .ok (.iload_n 2, 1) := by decide +kernel
theorem dX10_mixedIn_23 : decode cX10_mixedIn 23 = .ok (.aload_n 0, 1) := by decide +kernel
theorem dX10_mixedIn_24 : decode cX10_mixedIn 24 = .ok (.iload_n 1, 1) := by decide +kernel
theorem dX10_mixedIn_25 : decode cX10_mixedIn 25 = .ok (.iload_n 3, 1) := by decide +kernel
theorem dX10_mixedIn_26 : decode cX10_mixedIn 26 = .ok (.iload 4, 2) := by decide +kernel
theorem dX10_mixedIn_28 : decode cX10_mixedIn 28 = .ok (.invokevirtual 119, 3) := by decide +kernel
theorem dX10_mixedIn_31 : decode cX10_mixedIn 31 = .ok (.iadd, 1) := by decide +kernel
theorem dX10_mixedIn_32 : decode cX10_mixedIn 32 = .ok (.istore_n 2, 1) := by decide +kernel
theorem dX10_mixedIn_33 : decode cX10_mixedIn 33 = .ok (.iinc 4 1, 3) := by decide +kernel
theorem dX10_mixedIn_36 : decode cX10_mixedIn 36 = .ok (.goto (-21), 3) := by decide +kernel
theorem dX10_mixedIn_39 : decode cX10_mixedIn 39 = .ok (.iinc 3 1, 3) := by decide +kernel
theorem dX10_mixedIn_42 : decode cX10_mixedIn 42 = .ok (.goto (-38), 3) := by decide +kernel
theorem dX10_mixedIn_45 : decode cX10_mixedIn 45 = .ok (.iload_n 2, 1) := by decide +kernel
theorem dX10_mixedIn_46 : decode cX10_mixedIn 46 = .ok (.ireturn, 1) := by decide +kernel
theorem v_X10_mixedIn : yX10_mixedIn.cls = RX10 ∧ yX10_mixedIn.cls ≠ "java/lang/invoke/MethodHandle" ∧ yX10_mixedIn.cls ≠ "java/lang/invoke/VarHandle" ∧ (parseMethodDescriptor yX10_mixedIn.desc).map (fun d => d.parameters.length) = some 1 := ⟨rfl, by decide +kernel, by decide +kernel, by decide +kernel⟩
noncomputable def k_X10_mixedIn_0 (κ : gb_K) : gb_C := (o_ci 0 (o_is 2 (o_ci 0 (o_is 3 (o_j [0, 1, 2, 3] (κ 4))))))
theorem l_X10_mixedIn_0 : gb_Li (fun κ => k_X10_mixedIn_0 κ) := (gb_li (q_ci 0) (gb_li (q_is 2) (gb_li (q_ci 0) (gb_li (q_is 3) (q_j [0, 1, 2, 3] 4)))))
theorem s_X10_mixedIn_0   {κ : gb_K} (hκ : ∀ q, gb_S RX10 cX10_mixedIn 5 (gb_rm 3 70) 1 q (κ q)) : gb_S RX10 cX10_mixedIn 5 (gb_rm 3 70) 1 0 (k_X10_mixedIn_0 κ) := (s_iconst (by decide +kernel) dX10_mixedIn_0 (s_isn 2 rfl (Nat.le_of_ble_eq_true rfl) dX10_mixedIn_1 (s_iconst (by decide +kernel) dX10_mixedIn_2 (s_isn 3 rfl (Nat.le_of_ble_eq_true rfl) dX10_mixedIn_3 (s_j (hκ 4))))))
noncomputable def k_X10_mixedIn_4 (κ : gb_K) : gb_C := (o_il 3 (o_ci 6 (o_cge (o_il 2 o_ri) (o_il 3 (o_ci 1 (o_ib (fun x y => x + y) (o_is 4 (o_j [0, 1, 2, 3, 4] (κ 15)))))))))
theorem l_X10_mixedIn_4 : gb_Li (fun κ => k_X10_mixedIn_4 κ) := (gb_li (q_il 3) (gb_li (q_ci 6) (q_cge (gb_li (q_il 2) (gb_li0 _)) (gb_li (q_il 3) (gb_li (q_ci 1) (gb_li (q_ib _) (gb_li (q_is 4) (q_j [0, 1, 2, 3, 4] 15))))))))
theorem s_X10_mixedIn_4   {κ : gb_K} (hκ : ∀ q, gb_S RX10 cX10_mixedIn 5 (gb_rm 3 70) 1 q (κ q)) : gb_S RX10 cX10_mixedIn 5 (gb_rm 3 70) 1 4 (k_X10_mixedIn_4 κ) := (s_iln 3 rfl dX10_mixedIn_4 (s_bipush (by decide +kernel) dX10_mixedIn_5 (s_cge (tgt := 45) (by decide +kernel) dX10_mixedIn_7 (s_iln 2 rfl dX10_mixedIn_45 (s_ri rfl dX10_mixedIn_46)) (s_iln 3 rfl dX10_mixedIn_10 (s_iconst (by decide +kernel) dX10_mixedIn_11 (s_iadd dX10_mixedIn_12 (s_is (Nat.le_of_ble_eq_true rfl) dX10_mixedIn_13 (s_j (hκ 15)))))))))
noncomputable def k_X10_mixedIn_15 (κ : gb_K) : gb_C := (o_il 4 (o_ci 6 (o_cge (o_inc 3 1 (o_j [0, 1, 2, 3] (κ 4))) (o_il 2 (o_al 0 (o_il 1 (o_il 3 (o_il 4 (o_cv 3 10 1 f_X10_mixedOf (o_ib (fun x y => x + y) (o_is 2 (o_inc 4 1 (o_j [0, 1, 2, 3, 4] (κ 15))))))))))))))
theorem l_X10_mixedIn_15 : gb_Li (fun κ => k_X10_mixedIn_15 κ) := (gb_li (q_il 4) (gb_li (q_ci 6) (q_cge (gb_li (q_inc 3 1) (q_j [0, 1, 2, 3] 4)) (gb_li (q_il 2) (gb_li (q_al 0) (gb_li (q_il 1) (gb_li (q_il 3) (gb_li (q_il 4) (gb_li (q_cv 3 10 1 f_X10_mixedOf) (gb_li (q_ib _) (gb_li (q_is 2) (gb_li (q_inc 4 1) (q_j [0, 1, 2, 3, 4] 15)))))))))))))
theorem s_X10_mixedIn_15   {κ : gb_K} (hκ : ∀ q, gb_S RX10 cX10_mixedIn 5 (gb_rm 3 70) 1 q (κ q)) : gb_S RX10 cX10_mixedIn 5 (gb_rm 3 70) 1 15 (k_X10_mixedIn_15 κ) := (s_il dX10_mixedIn_15 (s_bipush (by decide +kernel) dX10_mixedIn_17 (s_cge (tgt := 39) (by decide +kernel) dX10_mixedIn_19 (s_inc (by decide +kernel) (Nat.le_of_ble_eq_true rfl) dX10_mixedIn_39 (s_goto (tgt := 4) (by decide +kernel) dX10_mixedIn_42 (s_j (hκ 4)))) (s_iln 2 rfl dX10_mixedIn_22 (s_aln 0 rfl dX10_mixedIn_23 (s_iln 1 rfl dX10_mixedIn_24 (s_iln 3 rfl dX10_mixedIn_25 (s_il dX10_mixedIn_26 (s_cv (C := RX10) c_X10_mixedOf rfl (gb_l5 gw_590 gw_591 gw_592 gw_553 gw_593) v_X10_mixedOf ⟨rfl, rfl⟩ ⟨Nat.le_of_ble_eq_true rfl, Nat.le_of_ble_eq_true rfl⟩ dX10_mixedIn_28 (s_iadd dX10_mixedIn_31 (s_isn 2 rfl (Nat.le_of_ble_eq_true rfl) dX10_mixedIn_32 (s_inc (by decide +kernel) (Nat.le_of_ble_eq_true rfl) dX10_mixedIn_33 (s_goto (tgt := 15) (by decide +kernel) dX10_mixedIn_36 (s_j (hκ 15)))))))))))))))
noncomputable def B_X10_mixedIn : List (Nat × (gb_K → gb_C)) := [(4, fun κ => k_X10_mixedIn_4 κ), (15, fun κ => k_X10_mixedIn_15 κ)]
noncomputable def K_X10_mixedIn : gb_K := gb_fx (gb_tb (B_X10_mixedIn))
theorem L_X10_mixedIn : ∀ q, gb_Li (fun κ => gb_tb (B_X10_mixedIn) κ q) := gb_tb_li (List.forall_mem_cons.mpr ⟨l_X10_mixedIn_4, List.forall_mem_cons.mpr ⟨l_X10_mixedIn_15, (fun _ h => absurd h List.not_mem_nil)⟩⟩)
theorem S_X10_mixedIn   : ∀ q, gb_S RX10 cX10_mixedIn 5 (gb_rm 3 70) 1 q (K_X10_mixedIn q) := fun q => gb_fx_S (L_X10_mixedIn) (gb_tb_S (List.forall_mem_cons.mpr ⟨fun κ hκ => s_X10_mixedIn_4 hκ, List.forall_mem_cons.mpr ⟨fun κ hκ => s_X10_mixedIn_15 hκ, (fun _ h => absurd h List.not_mem_nil)⟩⟩)) q
noncomputable def f_X10_mixedIn : gb_F := gb_hide (gb_mf 5 (k_X10_mixedIn_0 (K_X10_mixedIn)))
theorem c_X10_mixedIn : ∀ l, gb_Met l yX10_mixedIn cX10_mixedIn 5 (some .int) 1 (gb_rm 3 70) f_X10_mixedIn := gb_hide_c (gb_met (own := RX10) (rk := 1) rfl (by decide +kernel) ⟨rfl, rfl⟩ (s_X10_mixedIn_0 (S_X10_mixedIn)))
theorem dX10_valueOn_0 : decode cX10_valueOn 0 = .ok (.aload_n 0, 1) := by decide +kernel
theorem dX10_valueOn_1 : decode cX10_valueOn 1 = .ok (.iload_n 1, 1) := by decide +kernel
theorem dX10_valueOn_2 : decode cX10_valueOn 2 = .ok (.iload_n 2, 1) := by decide +kernel
theorem dX10_valueOn_3 : decode cX10_valueOn 3 = .ok (.invokevirtual 122, 3) := by decide +kernel
theorem dX10_valueOn_6 : decode cX10_valueOn 6 = .ok (.aload_n 0, 1) := by decide +kernel
theorem dX10_valueOn_7 : decode cX10_valueOn 7 = .ok (.iload_n 2, 1) := by decide +kernel
theorem dX10_valueOn_8 : decode cX10_valueOn 8 = .ok (.invokevirtual 125, 3) := by decide +kernel
theorem dX10_valueOn_11 : decode cX10_valueOn 11 = .ok (.isub, 1) := by decide +kernel
theorem dX10_valueOn_12 : decode cX10_valueOn 12 = .ok (.ireturn, 1) := by decide +kernel
theorem v_X10_valueOn : yX10_valueOn.cls = RX10 ∧ yX10_valueOn.cls ≠ "java/lang/invoke/MethodHandle" ∧ yX10_valueOn.cls ≠ "java/lang/invoke/VarHandle" ∧ (parseMethodDescriptor yX10_valueOn.desc).map (fun d => d.parameters.length) = some 2 := ⟨rfl, by decide +kernel, by decide +kernel, by decide +kernel⟩
noncomputable def k_X10_valueOn_0 (κ : gb_K) : gb_C := (o_al 0 (o_il 1 (o_il 2 (o_cv 2 10 1 f_X10_rawOn (o_al 0 (o_il 2 (o_cv 1 10 1 f_X10_mixedIn (o_ib (fun x y => x - y) o_ri))))))))
theorem l_X10_valueOn_0 : gb_Li (fun κ => k_X10_valueOn_0 κ) := (gb_li (q_al 0) (gb_li (q_il 1) (gb_li (q_il 2) (gb_li (q_cv 2 10 1 f_X10_rawOn) (gb_li (q_al 0) (gb_li (q_il 2) (gb_li (q_cv 1 10 1 f_X10_mixedIn) (gb_li (q_ib _) (gb_li0 _)))))))))
theorem s_X10_valueOn_0   {κ : gb_K} (hκ : ∀ q, gb_S RX10 cX10_valueOn 3 (gb_rm 4 94) 1 q (κ q)) : gb_S RX10 cX10_valueOn 3 (gb_rm 4 94) 1 0 (k_X10_valueOn_0 κ) := (s_aln 0 rfl dX10_valueOn_0 (s_iln 1 rfl dX10_valueOn_1 (s_iln 2 rfl dX10_valueOn_2 (s_cv (C := RX10) c_X10_rawOn rfl (gb_l5 gw_594 gw_595 gw_596 gw_553 gw_597) v_X10_rawOn ⟨rfl, rfl⟩ ⟨Nat.le_of_ble_eq_true rfl, Nat.le_of_ble_eq_true rfl⟩ dX10_valueOn_3 (s_aln 0 rfl dX10_valueOn_6 (s_iln 2 rfl dX10_valueOn_7 (s_cv (C := RX10) c_X10_mixedIn rfl (gb_l5 gw_598 gw_599 gw_600 gw_553 gw_601) v_X10_mixedIn ⟨rfl, rfl⟩ ⟨Nat.le_of_ble_eq_true rfl, Nat.le_of_ble_eq_true rfl⟩ dX10_valueOn_8 (s_isub dX10_valueOn_11 (s_ri rfl dX10_valueOn_12)))))))))
noncomputable def f_X10_valueOn : gb_F := gb_hide (gb_mf 3 (k_X10_valueOn_0 gb_n))
theorem c_X10_valueOn : ∀ l, gb_Met l yX10_valueOn cX10_valueOn 3 (some .int) 1 (gb_rm 4 94) f_X10_valueOn := gb_hide_c (gb_met (own := RX10) (rk := 1) rfl (by decide +kernel) ⟨rfl, rfl⟩ (s_X10_valueOn_0 gb_S_n))
theorem dX10_valueOf_0 : decode cX10_valueOf 0 = .ok (.aload_n 0, 1) := by decide +kernel
theorem dX10_valueOf_1 : decode cX10_valueOf 1 = .ok (.aload_n 0, 1) := by decide +kernel
theorem dX10_valueOf_2 : decode cX10_valueOf 2 = .ok (.getfield 7, 3) := by decide +kernel
theorem dX10_valueOf_5 : decode cX10_valueOf 5 = .ok (.sipush 174, 3) := by decide +kernel
theorem dX10_valueOf_8 : decode cX10_valueOf 8 = .ok (.iaload, 1) := by decide +kernel
theorem dX10_valueOf_9 : decode cX10_valueOf 9 = .ok (.iload_n 1, 1) := by decide +kernel
theorem dX10_valueOf_10 : decode cX10_valueOf 10 = .ok (.invokevirtual 128, 3) := by decide +kernel
theorem dX10_valueOf_13 : decode cX10_valueOf 13 = .ok (.ireturn, 1) := by decide +kernel
theorem v_X10_valueOf : yX10_valueOf.cls = RX10 ∧ yX10_valueOf.cls ≠ "java/lang/invoke/MethodHandle" ∧ yX10_valueOf.cls ≠ "java/lang/invoke/VarHandle" ∧ (parseMethodDescriptor yX10_valueOf.desc).map (fun d => d.parameters.length) = some 1 := ⟨rfl, by decide +kernel, by decide +kernel, by decide +kernel⟩
noncomputable def k_X10_valueOf_0 (κ : gb_K) : gb_C := (o_al 0 (o_al 0 (o_gf 10 0 (o_ci 174 (o_iald (o_il 1 (o_cv 2 10 1 f_X10_valueOn o_ri)))))))
theorem l_X10_valueOf_0 : gb_Li (fun κ => k_X10_valueOf_0 κ) := (gb_li (q_al 0) (gb_li (q_al 0) (gb_li (q_gf 10 0) (gb_li (q_ci 174) (gb_li q_iald (gb_li (q_il 1) (gb_li (q_cv 2 10 1 f_X10_valueOn) (gb_li0 _))))))))
theorem s_X10_valueOf_0   {κ : gb_K} (hκ : ∀ q, gb_S RX10 cX10_valueOf 2 (gb_rm 5 116) 1 q (κ q)) : gb_S RX10 cX10_valueOf 2 (gb_rm 5 116) 1 0 (k_X10_valueOf_0 κ) := (s_aln 0 rfl dX10_valueOf_0 (s_aln 0 rfl dX10_valueOf_1 (s_gf (T := TX10) winX10 rfl (Nat.le_of_ble_eq_true rfl) gw_545 rfl dX10_valueOf_2 (s_sipush (by decide +kernel) dX10_valueOf_5 (s_iald dX10_valueOf_8 (s_iln 1 rfl dX10_valueOf_9 (s_cv (C := RX10) c_X10_valueOn rfl (gb_l5 gw_602 gw_603 gw_604 gw_553 gw_605) v_X10_valueOn ⟨rfl, rfl⟩ ⟨Nat.le_of_ble_eq_true rfl, Nat.le_of_ble_eq_true rfl⟩ dX10_valueOf_10 (s_ri rfl dX10_valueOf_13))))))))
noncomputable def f_X10_valueOf : gb_F := gb_hide (gb_mf 2 (k_X10_valueOf_0 gb_n))
theorem c_X10_valueOf : ∀ l, gb_Met l yX10_valueOf cX10_valueOf 2 (some .int) 1 (gb_rm 5 116) f_X10_valueOf := gb_hide_c (gb_met (own := RX10) (rk := 1) rfl (by decide +kernel) ⟨rfl, rfl⟩ (s_X10_valueOf_0 gb_S_n))
theorem dX10_allOn_0 : decode cX10_allOn 0 = .ok (.iconst 0, 1) := by decide +kernel
theorem dX10_allOn_1 : decode cX10_allOn 1 = .ok (.istore_n 2, 1) := by decide +kernel
theorem dX10_allOn_2 : decode cX10_allOn 2 = .ok (.iconst 0, 1) := by decide +kernel
theorem dX10_allOn_3 : decode cX10_allOn 3 = .ok (.istore_n 3, 1) := by decide +kernel
theorem dX10_allOn_4 : decode cX10_allOn 4 = .ok (.iload_n 3, 1) := by decide +kernel
theorem dX10_allOn_5 : decode cX10_allOn 5 = .ok (.bipush 6, 2) := by decide +kernel
theorem dX10_allOn_7 : decode cX10_allOn 7 = .ok (.if_icmp .ge 18, 3) := by decide +kernel
theorem dX10_allOn_10 : decode cX10_allOn 10 = .ok (.iload_n 2, 1) := by decide +kernel
theorem dX10_allOn_11 : decode cX10_allOn 11 = .ok (.aload_n 0, 1) := by decide +kernel
theorem dX10_allOn_12 : decode cX10_allOn 12 = .ok (.iload_n 1, 1) := by decide +kernel
theorem dX10_allOn_13 : decode cX10_allOn 13 = .ok (.iload_n 3, 1) := by decide +kernel
theorem dX10_allOn_14 : decode cX10_allOn 14 = .ok (.invokevirtual 128, 3) := by decide +kernel
theorem dX10_allOn_17 : decode cX10_allOn 17 = .ok (.iadd, 1) := by decide +kernel
theorem dX10_allOn_18 : decode cX10_allOn 18 = .ok (.istore_n 2, 1) := by decide +kernel
theorem dX10_allOn_19 : decode cX10_allOn 19 = .ok (.iinc 3 1, 3) := by decide +kernel
theorem dX10_allOn_22 : decode cX10_allOn 22 = .ok (.goto (-18), 3) := by decide +kernel
theorem dX10_allOn_25 : decode cX10_allOn 25 = .ok (.iload_n 2, 1) := by decide +kernel
theorem dX10_allOn_26 : decode cX10_allOn 26 = .ok (.ireturn, 1) := by decide +kernel
theorem v_X10_allOn : yX10_allOn.cls = RX10 ∧ yX10_allOn.cls ≠ "java/lang/invoke/MethodHandle" ∧ yX10_allOn.cls ≠ "java/lang/invoke/VarHandle" ∧ (parseMethodDescriptor yX10_allOn.desc).map (fun d => d.parameters.length) = some 1 := ⟨rfl, by decide +kernel, by decide +kernel, by decide +kernel⟩
noncomputable def k_X10_allOn_0 (κ : gb_K) : gb_C := (o_ci 0 (o_is 2 (o_ci 0 (o_is 3 (o_j [0, 1, 2, 3] (κ 4))))))
theorem l_X10_allOn_0 : gb_Li (fun κ => k_X10_allOn_0 κ) := (gb_li (q_ci 0) (gb_li (q_is 2) (gb_li (q_ci 0) (gb_li (q_is 3) (q_j [0, 1, 2, 3] 4)))))
theorem s_X10_allOn_0   {κ : gb_K} (hκ : ∀ q, gb_S RX10 cX10_allOn 4 (gb_rm 5 116) 1 q (κ q)) : gb_S RX10 cX10_allOn 4 (gb_rm 5 116) 1 0 (k_X10_allOn_0 κ) := (s_iconst (by decide +kernel) dX10_allOn_0 (s_isn 2 rfl (Nat.le_of_ble_eq_true rfl) dX10_allOn_1 (s_iconst (by decide +kernel) dX10_allOn_2 (s_isn 3 rfl (Nat.le_of_ble_eq_true rfl) dX10_allOn_3 (s_j (hκ 4))))))
noncomputable def k_X10_allOn_4 (κ : gb_K) : gb_C := (o_il 3 (o_ci 6 (o_cge (o_il 2 o_ri) (o_il 2 (o_al 0 (o_il 1 (o_il 3 (o_cv 2 10 1 f_X10_valueOn (o_ib (fun x y => x + y) (o_is 2 (o_inc 3 1 (o_j [0, 1, 2, 3] (κ 4)))))))))))))
theorem l_X10_allOn_4 : gb_Li (fun κ => k_X10_allOn_4 κ) := (gb_li (q_il 3) (gb_li (q_ci 6) (q_cge (gb_li (q_il 2) (gb_li0 _)) (gb_li (q_il 2) (gb_li (q_al 0) (gb_li (q_il 1) (gb_li (q_il 3) (gb_li (q_cv 2 10 1 f_X10_valueOn) (gb_li (q_ib _) (gb_li (q_is 2) (gb_li (q_inc 3 1) (q_j [0, 1, 2, 3] 4))))))))))))
theorem s_X10_allOn_4   {κ : gb_K} (hκ : ∀ q, gb_S RX10 cX10_allOn 4 (gb_rm 5 116) 1 q (κ q)) : gb_S RX10 cX10_allOn 4 (gb_rm 5 116) 1 4 (k_X10_allOn_4 κ) := (s_iln 3 rfl dX10_allOn_4 (s_bipush (by decide +kernel) dX10_allOn_5 (s_cge (tgt := 25) (by decide +kernel) dX10_allOn_7 (s_iln 2 rfl dX10_allOn_25 (s_ri rfl dX10_allOn_26)) (s_iln 2 rfl dX10_allOn_10 (s_aln 0 rfl dX10_allOn_11 (s_iln 1 rfl dX10_allOn_12 (s_iln 3 rfl dX10_allOn_13 (s_cv (C := RX10) c_X10_valueOn rfl (gb_l5 gw_602 gw_603 gw_604 gw_553 gw_605) v_X10_valueOn ⟨rfl, rfl⟩ ⟨Nat.le_of_ble_eq_true rfl, Nat.le_of_ble_eq_true rfl⟩ dX10_allOn_14 (s_iadd dX10_allOn_17 (s_isn 2 rfl (Nat.le_of_ble_eq_true rfl) dX10_allOn_18 (s_inc (by decide +kernel) (Nat.le_of_ble_eq_true rfl) dX10_allOn_19 (s_goto (tgt := 4) (by decide +kernel) dX10_allOn_22 (s_j (hκ 4))))))))))))))
noncomputable def B_X10_allOn : List (Nat × (gb_K → gb_C)) := [(4, fun κ => k_X10_allOn_4 κ)]
noncomputable def K_X10_allOn : gb_K := gb_fx (gb_tb (B_X10_allOn))
theorem L_X10_allOn : ∀ q, gb_Li (fun κ => gb_tb (B_X10_allOn) κ q) := gb_tb_li (List.forall_mem_cons.mpr ⟨l_X10_allOn_4, (fun _ h => absurd h List.not_mem_nil)⟩)
theorem S_X10_allOn   : ∀ q, gb_S RX10 cX10_allOn 4 (gb_rm 5 116) 1 q (K_X10_allOn q) := fun q => gb_fx_S (L_X10_allOn) (gb_tb_S (List.forall_mem_cons.mpr ⟨fun κ hκ => s_X10_allOn_4 hκ, (fun _ h => absurd h List.not_mem_nil)⟩)) q
noncomputable def f_X10_allOn : gb_F := gb_hide (gb_mf 4 (k_X10_allOn_0 (K_X10_allOn)))
theorem c_X10_allOn : ∀ l, gb_Met l yX10_allOn cX10_allOn 4 (some .int) 1 (gb_rm 5 116) f_X10_allOn := gb_hide_c (gb_met (own := RX10) (rk := 1) rfl (by decide +kernel) ⟨rfl, rfl⟩ (s_X10_allOn_0 (S_X10_allOn)))
theorem dX10_allNow_0 : decode cX10_allNow 0 = .ok (.aload_n 0, 1) := by decide +kernel
theorem dX10_allNow_1 : decode cX10_allNow 1 = .ok (.aload_n 0, 1) := by decide +kernel
theorem dX10_allNow_2 : decode cX10_allNow 2 = .ok (.getfield 7, 3) := by decide +kernel
theorem dX10_allNow_5 : decode cX10_allNow 5 = .ok (.sipush 174, 3) := by decide +kernel
theorem dX10_allNow_8 : decode cX10_allNow 8 = .ok (.iaload, 1) := by decide +kernel
theorem dX10_allNow_9 : decode cX10_allNow 9 = .ok (.invokevirtual 131, 3) := by decide +kernel
theorem dX10_allNow_12 : decode cX10_allNow 12 = .ok (.ireturn, 1) := by decide +kernel
theorem v_X10_allNow : yX10_allNow.cls = RX10 ∧ yX10_allNow.cls ≠ "java/lang/invoke/MethodHandle" ∧ yX10_allNow.cls ≠ "java/lang/invoke/VarHandle" ∧ (parseMethodDescriptor yX10_allNow.desc).map (fun d => d.parameters.length) = some 0 := ⟨rfl, by decide +kernel, by decide +kernel, by decide +kernel⟩
noncomputable def k_X10_allNow_0 (κ : gb_K) : gb_C := (o_al 0 (o_al 0 (o_gf 10 0 (o_ci 174 (o_iald (o_cv 1 10 1 f_X10_allOn o_ri))))))
theorem l_X10_allNow_0 : gb_Li (fun κ => k_X10_allNow_0 κ) := (gb_li (q_al 0) (gb_li (q_al 0) (gb_li (q_gf 10 0) (gb_li (q_ci 174) (gb_li q_iald (gb_li (q_cv 1 10 1 f_X10_allOn) (gb_li0 _)))))))
theorem s_X10_allNow_0   {κ : gb_K} (hκ : ∀ q, gb_S RX10 cX10_allNow 1 (gb_rm 6 139) 1 q (κ q)) : gb_S RX10 cX10_allNow 1 (gb_rm 6 139) 1 0 (k_X10_allNow_0 κ) := (s_aln 0 rfl dX10_allNow_0 (s_aln 0 rfl dX10_allNow_1 (s_gf (T := TX10) winX10 rfl (Nat.le_of_ble_eq_true rfl) gw_545 rfl dX10_allNow_2 (s_sipush (by decide +kernel) dX10_allNow_5 (s_iald dX10_allNow_8 (s_cv (C := RX10) c_X10_allOn rfl (gb_l5 gw_606 gw_607 gw_608 gw_553 gw_609) v_X10_allOn ⟨rfl, rfl⟩ ⟨Nat.le_of_ble_eq_true rfl, Nat.le_of_ble_eq_true rfl⟩ dX10_allNow_9 (s_ri rfl dX10_allNow_12)))))))
noncomputable def f_X10_allNow : gb_F := gb_hide (gb_mf 1 (k_X10_allNow_0 gb_n))
theorem c_X10_allNow : ∀ l, gb_Met l yX10_allNow cX10_allNow 1 (some .int) 1 (gb_rm 6 139) f_X10_allNow := gb_hide_c (gb_met (own := RX10) (rk := 1) rfl (by decide +kernel) ⟨rfl, rfl⟩ (s_X10_allNow_0 gb_S_n))
theorem dX10_mayMix_0 : decode cX10_mayMix 0 = .ok (.iconst 0, 1) := by decide +kernel
theorem dX10_mayMix_1 : decode cX10_mayMix 1 = .ok (.istore_n 3, 1) := by decide +kernel
theorem dX10_mayMix_2 : decode cX10_mayMix 2 = .ok (.iload_n 3, 1) := by decide +kernel
theorem dX10_mayMix_3 : decode cX10_mayMix 3 = .ok (.aload_n 0, 1) := by decide +kernel
theorem dX10_mayMix_4 : decode cX10_mayMix 4 = .ok (.iload_n 1, 1) := by decide +kernel
theorem dX10_mayMix_5 : decode cX10_mayMix 5 = .ok (.invokevirtual 84, 3) := by decide +kernel
theorem dX10_mayMix_8 : decode cX10_mayMix 8 = .ok (.if_icmp .ge 26, 3) := by decide +kernel
theorem dX10_mayMix_11 : decode cX10_mayMix 11 = .ok (.aload_n 0, 1) := by decide +kernel
theorem dX10_mayMix_12 : decode cX10_mayMix 12 = .ok (.iload_n 2, 1) := by decide +kernel
theorem dX10_mayMix_13 : decode cX10_mayMix 13 = .ok (.aload_n 0, 1) := by decide +kernel
theorem dX10_mayMix_14 : decode cX10_mayMix 14 = .ok (.iload_n 1, 1) := by decide +kernel
theorem dX10_mayMix_15 : decode cX10_mayMix 15 = .ok (.iload_n 3, 1) := by decide +kernel
theorem dX10_mayMix_16 : decode cX10_mayMix 16 = .ok (.iconst 0, 1) := by decide +kernel
theorem dX10_mayMix_17 : decode cX10_mayMix 17 = .ok (.invokevirtual 88, 3) := by decide +kernel
theorem dX10_mayMix_20 : decode cX10_mayMix 20 = .ok (.invokevirtual 110, 3) := by decide +kernel
theorem dX10_mayMix_23 : decode cX10_mayMix 23 = .ok (.ifCond .ge 5, 3) := by decide +kernel
theorem dX10_mayMix_26 : decode cX10_mayMix 26 = .ok (.iconst 0, 1) := by decide +kernel
theorem dX10_mayMix_27 : decode cX10_mayMix 27 = .ok (.ireturn, 1) := by decide +kernel
theorem dX10_mayMix_28 : decode cX10_mayMix 28 = .ok (.iinc 3 1, 3) := by decide +kernel
theorem dX10_mayMix_31 : decode cX10_mayMix 31 = .ok (.goto (-29), 3) := by decide +kernel
theorem dX10_mayMix_34 : decode cX10_mayMix 34 = .ok (.iconst 1, 1) := by decide +kernel
theorem dX10_mayMix_35 : decode cX10_mayMix 35 = .ok (.ireturn, 1) := by decide +kernel
theorem v_X10_mayMix : yX10_mayMix.cls = RX10 ∧ yX10_mayMix.cls ≠ "java/lang/invoke/MethodHandle" ∧ yX10_mayMix.cls ≠ "java/lang/invoke/VarHandle" ∧ (parseMethodDescriptor yX10_mayMix.desc).map (fun d => d.parameters.length) = some 2 := ⟨rfl, by decide +kernel, by decide +kernel, by decide +kernel⟩
noncomputable def k_X10_mayMix_0 (κ : gb_K) : gb_C := (o_ci 0 (o_is 3 (o_j [0, 1, 2, 3] (κ 2))))
theorem l_X10_mayMix_0 : gb_Li (fun κ => k_X10_mayMix_0 κ) := (gb_li (q_ci 0) (gb_li (q_is 3) (q_j [0, 1, 2, 3] 2)))
theorem s_X10_mayMix_0   {κ : gb_K} (hκ : ∀ q, gb_S RX10 cX10_mayMix 4 (gb_rm 1 23) 2 q (κ q)) : gb_S RX10 cX10_mayMix 4 (gb_rm 1 23) 2 0 (k_X10_mayMix_0 κ) := (s_iconst (by decide +kernel) dX10_mayMix_0 (s_isn 3 rfl (Nat.le_of_ble_eq_true rfl) dX10_mayMix_1 (s_j (hκ 2))))
noncomputable def k_X10_mayMix_2 (κ : gb_K) : gb_C := (o_il 3 (o_al 0 (o_il 1 (o_cv 1 10 1 f_X10_many (o_cge (o_ci 1 o_rz) (o_al 0 (o_il 2 (o_al 0 (o_il 1 (o_il 3 (o_ci 0 (o_cv 3 10 1 f_X10_layerOf (o_cv 2 10 1 f_X10_loss (o_zge (o_inc 3 1 (o_j [0, 1, 2, 3] (κ 2))) (o_ci 0 o_rz)))))))))))))))
theorem l_X10_mayMix_2 : gb_Li (fun κ => k_X10_mayMix_2 κ) := (gb_li (q_il 3) (gb_li (q_al 0) (gb_li (q_il 1) (gb_li (q_cv 1 10 1 f_X10_many) (q_cge (gb_li (q_ci 1) (gb_li0 _)) (gb_li (q_al 0) (gb_li (q_il 2) (gb_li (q_al 0) (gb_li (q_il 1) (gb_li (q_il 3) (gb_li (q_ci 0) (gb_li (q_cv 3 10 1 f_X10_layerOf) (gb_li (q_cv 2 10 1 f_X10_loss) (q_zge (gb_li (q_inc 3 1) (q_j [0, 1, 2, 3] 2)) (gb_li (q_ci 0) (gb_li0 _))))))))))))))))
theorem s_X10_mayMix_2   {κ : gb_K} (hκ : ∀ q, gb_S RX10 cX10_mayMix 4 (gb_rm 1 23) 2 q (κ q)) : gb_S RX10 cX10_mayMix 4 (gb_rm 1 23) 2 2 (k_X10_mayMix_2 κ) := (s_iln 3 rfl dX10_mayMix_2 (s_aln 0 rfl dX10_mayMix_3 (s_iln 1 rfl dX10_mayMix_4 (s_cv (C := RX10) c_X10_many rfl (gb_l5 gw_557 gw_558 gw_559 gw_553 gw_560) v_X10_many ⟨rfl, rfl⟩ ⟨Nat.le_of_ble_eq_true rfl, Nat.le_of_ble_eq_true rfl⟩ dX10_mayMix_5 (s_cge (tgt := 34) (by decide +kernel) dX10_mayMix_8 (s_iconst (by decide +kernel) dX10_mayMix_34 (s_rz rfl dX10_mayMix_35)) (s_aln 0 rfl dX10_mayMix_11 (s_iln 2 rfl dX10_mayMix_12 (s_aln 0 rfl dX10_mayMix_13 (s_iln 1 rfl dX10_mayMix_14 (s_iln 3 rfl dX10_mayMix_15 (s_iconst (by decide +kernel) dX10_mayMix_16 (s_cv (C := RX10) c_X10_layerOf rfl (gb_l5 gw_561 gw_562 gw_563 gw_553 gw_564) v_X10_layerOf ⟨rfl, rfl⟩ ⟨Nat.le_of_ble_eq_true rfl, Nat.le_of_ble_eq_true rfl⟩ dX10_mayMix_17 (s_cv (C := RX10) c_X10_loss rfl (gb_l5 gw_581 gw_582 gw_583 gw_553 gw_584) v_X10_loss ⟨rfl, rfl⟩ ⟨Nat.le_of_ble_eq_true rfl, Nat.le_of_ble_eq_true rfl⟩ dX10_mayMix_20 (s_zge (tgt := 28) (by decide +kernel) dX10_mayMix_23 (s_inc (by decide +kernel) (Nat.le_of_ble_eq_true rfl) dX10_mayMix_28 (s_goto (tgt := 2) (by decide +kernel) dX10_mayMix_31 (s_j (hκ 2)))) (s_iconst (by decide +kernel) dX10_mayMix_26 (s_rz rfl dX10_mayMix_27))))))))))))))))
noncomputable def B_X10_mayMix : List (Nat × (gb_K → gb_C)) := [(2, fun κ => k_X10_mayMix_2 κ)]
noncomputable def K_X10_mayMix : gb_K := gb_fx (gb_tb (B_X10_mayMix))
theorem L_X10_mayMix : ∀ q, gb_Li (fun κ => gb_tb (B_X10_mayMix) κ q) := gb_tb_li (List.forall_mem_cons.mpr ⟨l_X10_mayMix_2, (fun _ h => absurd h List.not_mem_nil)⟩)
theorem S_X10_mayMix   : ∀ q, gb_S RX10 cX10_mayMix 4 (gb_rm 1 23) 2 q (K_X10_mayMix q) := fun q => gb_fx_S (L_X10_mayMix) (gb_tb_S (List.forall_mem_cons.mpr ⟨fun κ hκ => s_X10_mayMix_2 hκ, (fun _ h => absurd h List.not_mem_nil)⟩)) q
noncomputable def f_X10_mayMix : gb_F := gb_hide (gb_mf 4 (k_X10_mayMix_0 (K_X10_mayMix)))
theorem c_X10_mayMix : ∀ l, gb_Met l yX10_mayMix cX10_mayMix 4 (some .boolean) 2 (gb_rm 1 23) f_X10_mayMix := gb_hide_c (gb_met (own := RX10) (rk := 2) rfl (by decide +kernel) ⟨rfl, rfl⟩ (s_X10_mayMix_0 (S_X10_mayMix)))
theorem dX10_isOnTop_0 : decode cX10_isOnTop 0 = .ok (.aload_n 0, 1) := by decide +kernel
theorem dX10_isOnTop_1 : decode cX10_isOnTop 1 = .ok (.iload_n 1, 1) := by decide +kernel
theorem dX10_isOnTop_2 : decode cX10_isOnTop 2 = .ok (.invokevirtual 84, 3) := by decide +kernel
theorem dX10_isOnTop_5 : decode cX10_isOnTop 5 = .ok (.iconst 1, 1) := by decide +kernel
theorem dX10_isOnTop_6 : decode cX10_isOnTop 6 = .ok (.isub, 1) := by decide +kernel
theorem dX10_isOnTop_7 : decode cX10_isOnTop 7 = .ok (.istore 4, 2) := by decide +kernel
theorem dX10_isOnTop_9 : decode cX10_isOnTop 9 = .ok (.iload 4, 2) := by decide +kernel
theorem dX10_isOnTop_11 : decode cX10_isOnTop 11 = .ok (.ifCond .lt 31, 3) := by decide +kernel
theorem dX10_isOnTop_14 : decode cX10_isOnTop 14 = .ok (.aload_n 0, 1) := by decide +kernel
theorem dX10_isOnTop_15 : decode cX10_isOnTop 15 = .ok (.iload_n 1, 1) := by decide +kernel
theorem dX10_isOnTop_16 : decode cX10_isOnTop 16 = .ok (.iload 4, 2) := by decide +kernel
theorem dX10_isOnTop_18 : decode cX10_isOnTop 18 = .ok (.iconst 0, 1) := by decide +kernel
theorem dX10_isOnTop_19 : decode cX10_isOnTop 19 = .ok (.invokevirtual 88, 3) := by decide +kernel
theorem dX10_isOnTop_22 : decode cX10_isOnTop 22 = .ok (.iload_n 2, 1) := by decide +kernel
theorem dX10_isOnTop_23 : decode cX10_isOnTop 23 = .ok (.if_icmp .ne 19, 3) := by decide +kernel
theorem dX10_isOnTop_26 : decode cX10_isOnTop 26 = .ok (.aload_n 0, 1) := by decide +kernel
theorem dX10_isOnTop_27 : decode cX10_isOnTop 27 = .ok (.iload_n 1, 1) := by decide +kernel
theorem dX10_isOnTop_28 : decode cX10_isOnTop 28 = .ok (.iload 4, 2) := by decide +kernel
theorem dX10_isOnTop_30 : decode cX10_isOnTop 30 = .ok (.iconst 2, 1) := by decide +kernel
theorem dX10_isOnTop_31 : decode cX10_isOnTop 31 = .ok (.invokevirtual 88, 3) := by decide +kernel
theorem dX10_isOnTop_34 : decode cX10_isOnTop 34 = .ok (.iload_n 3, 1) := by decide +kernel
theorem dX10_isOnTop_35 : decode cX10_isOnTop 35 = .ok (.if_icmp .ne 7, 3) := by decide +kernel
theorem dX10_isOnTop_38 : decode cX10_isOnTop 38 = .ok (.iconst 1, 1) := by decide +kernel
theorem dX10_isOnTop_39 : decode cX10_isOnTop 39 = .ok (.goto 4, 3) := by decide +kernel
theorem dX10_isOnTop_42 : decode cX10_isOnTop 42 = .ok (.iconst 0, 1) := by decide +kernel
theorem dX10_isOnTop_43 : decode cX10_isOnTop 43 = .ok (.ireturn, 1) := by decide +kernel
theorem v_X10_isOnTop : yX10_isOnTop.cls = RX10 ∧ yX10_isOnTop.cls ≠ "java/lang/invoke/MethodHandle" ∧ yX10_isOnTop.cls ≠ "java/lang/invoke/VarHandle" ∧ (parseMethodDescriptor yX10_isOnTop.desc).map (fun d => d.parameters.length) = some 3 := ⟨rfl, by decide +kernel, by decide +kernel, by decide +kernel⟩
noncomputable def k_X10_isOnTop_43 (κ : gb_K) : gb_C := o_rz
theorem l_X10_isOnTop_43 : gb_Li (fun κ => k_X10_isOnTop_43 κ) := (gb_li0 _)
theorem s_X10_isOnTop_43   {κ : gb_K} (hκ : ∀ q, gb_S RX10 cX10_isOnTop 5 (gb_rm 1 23) 2 q (κ q)) : gb_S RX10 cX10_isOnTop 5 (gb_rm 1 23) 2 43 (k_X10_isOnTop_43 κ) := (s_rz rfl dX10_isOnTop_43)
noncomputable def k_X10_isOnTop_42 (κ : gb_K) : gb_C := (o_ci 0 (k_X10_isOnTop_43 κ))
theorem l_X10_isOnTop_42 : gb_Li (fun κ => k_X10_isOnTop_42 κ) := (gb_li (q_ci 0) (l_X10_isOnTop_43))
theorem s_X10_isOnTop_42   {κ : gb_K} (hκ : ∀ q, gb_S RX10 cX10_isOnTop 5 (gb_rm 1 23) 2 q (κ q)) : gb_S RX10 cX10_isOnTop 5 (gb_rm 1 23) 2 42 (k_X10_isOnTop_42 κ) := (s_iconst (by decide +kernel) dX10_isOnTop_42 (s_X10_isOnTop_43 hκ))
noncomputable def k_X10_isOnTop_0 (κ : gb_K) : gb_C := (o_al 0 (o_il 1 (o_cv 1 10 1 f_X10_many (o_ci 1 (o_ib (fun x y => x - y) (o_is 4 (o_il 4 (o_zlt (k_X10_isOnTop_42 κ) (o_al 0 (o_il 1 (o_il 4 (o_ci 0 (o_cv 3 10 1 f_X10_layerOf (o_il 2 (o_ceq (o_al 0 (o_il 1 (o_il 4 (o_ci 2 (o_cv 3 10 1 f_X10_layerOf (o_il 3 (o_ceq (o_ci 1 (k_X10_isOnTop_43 κ)) (k_X10_isOnTop_42 κ)))))))) (k_X10_isOnTop_42 κ))))))))))))))))
theorem l_X10_isOnTop_0 : gb_Li (fun κ => k_X10_isOnTop_0 κ) := (gb_li (q_al 0) (gb_li (q_il 1) (gb_li (q_cv 1 10 1 f_X10_many) (gb_li (q_ci 1) (gb_li (q_ib _) (gb_li (q_is 4) (gb_li (q_il 4) (q_zlt (l_X10_isOnTop_42) (gb_li (q_al 0) (gb_li (q_il 1) (gb_li (q_il 4) (gb_li (q_ci 0) (gb_li (q_cv 3 10 1 f_X10_layerOf) (gb_li (q_il 2) (q_ceq (gb_li (q_al 0) (gb_li (q_il 1) (gb_li (q_il 4) (gb_li (q_ci 2) (gb_li (q_cv 3 10 1 f_X10_layerOf) (gb_li (q_il 3) (q_ceq (gb_li (q_ci 1) (l_X10_isOnTop_43)) (l_X10_isOnTop_42)))))))) (l_X10_isOnTop_42))))))))))))))))
theorem s_X10_isOnTop_0   {κ : gb_K} (hκ : ∀ q, gb_S RX10 cX10_isOnTop 5 (gb_rm 1 23) 2 q (κ q)) : gb_S RX10 cX10_isOnTop 5 (gb_rm 1 23) 2 0 (k_X10_isOnTop_0 κ) := (s_aln 0 rfl dX10_isOnTop_0 (s_iln 1 rfl dX10_isOnTop_1 (s_cv (C := RX10) c_X10_many rfl (gb_l5 gw_557 gw_558 gw_559 gw_553 gw_560) v_X10_many ⟨rfl, rfl⟩ ⟨Nat.le_of_ble_eq_true rfl, Nat.le_of_ble_eq_true rfl⟩ dX10_isOnTop_2 (s_iconst (by decide +kernel) dX10_isOnTop_5 (s_isub dX10_isOnTop_6 (s_is (Nat.le_of_ble_eq_true rfl) dX10_isOnTop_7 (s_il dX10_isOnTop_9 (s_zlt (tgt := 42) (by decide +kernel) dX10_isOnTop_11 (s_X10_isOnTop_42 hκ) (s_aln 0 rfl dX10_isOnTop_14 (s_iln 1 rfl dX10_isOnTop_15 (s_il dX10_isOnTop_16 (s_iconst (by decide +kernel) dX10_isOnTop_18 (s_cv (C := RX10) c_X10_layerOf rfl (gb_l5 gw_561 gw_562 gw_563 gw_553 gw_564) v_X10_layerOf ⟨rfl, rfl⟩ ⟨Nat.le_of_ble_eq_true rfl, Nat.le_of_ble_eq_true rfl⟩ dX10_isOnTop_19 (s_iln 2 rfl dX10_isOnTop_22 (s_cne (tgt := 42) (by decide +kernel) dX10_isOnTop_23 (s_X10_isOnTop_42 hκ) (s_aln 0 rfl dX10_isOnTop_26 (s_iln 1 rfl dX10_isOnTop_27 (s_il dX10_isOnTop_28 (s_iconst (by decide +kernel) dX10_isOnTop_30 (s_cv (C := RX10) c_X10_layerOf rfl (gb_l5 gw_561 gw_562 gw_563 gw_553 gw_564) v_X10_layerOf ⟨rfl, rfl⟩ ⟨Nat.le_of_ble_eq_true rfl, Nat.le_of_ble_eq_true rfl⟩ dX10_isOnTop_31 (s_iln 3 rfl dX10_isOnTop_34 (s_cne (tgt := 42) (by decide +kernel) dX10_isOnTop_35 (s_X10_isOnTop_42 hκ) (s_iconst (by decide +kernel) dX10_isOnTop_38 (s_goto (tgt := 43) (by decide +kernel) dX10_isOnTop_39 (s_X10_isOnTop_43 hκ)))))))))))))))))))))))))
noncomputable def f_X10_isOnTop : gb_F := gb_hide (gb_mf 5 (k_X10_isOnTop_0 gb_n))
theorem c_X10_isOnTop : ∀ l, gb_Met l yX10_isOnTop cX10_isOnTop 5 (some .boolean) 2 (gb_rm 1 23) f_X10_isOnTop := gb_hide_c (gb_met (own := RX10) (rk := 2) rfl (by decide +kernel) ⟨rfl, rfl⟩ (s_X10_isOnTop_0 gb_S_n))
theorem dX10_whyNot_0 : decode cX10_whyNot 0 = .ok (.aload_n 0, 1) := by decide +kernel
theorem dX10_whyNot_1 : decode cX10_whyNot 1 = .ok (.iload_n 1, 1) := by decide +kernel
theorem dX10_whyNot_2 : decode cX10_whyNot 2 = .ok (.invokevirtual 134, 3) := by decide +kernel
theorem dX10_whyNot_5 : decode cX10_whyNot 5 = .ok (.ifCond .eq 6, 3) := by decide +kernel
theorem dX10_whyNot_8 : decode cX10_whyNot 8 = .ok (.bipush (-2), 2) := by decide +kernel
theorem dX10_whyNot_10 : decode cX10_whyNot 10 = .ok (.ireturn, 1) := by decide +kernel
theorem dX10_whyNot_11 : decode cX10_whyNot 11 = .ok (.aload_n 0, 1) := by decide +kernel
theorem dX10_whyNot_12 : decode cX10_whyNot 12 = .ok (.iload_n 1, 1) := by decide +kernel
theorem dX10_whyNot_13 : decode cX10_whyNot 13 = .ok (.invokevirtual 138, 3) := by decide +kernel
theorem dX10_whyNot_16 : decode cX10_whyNot 16 = .ok (.iload_n 3, 1) := by decide +kernel
theorem dX10_whyNot_17 : decode cX10_whyNot 17 = .ok (.iadd, 1) := by decide +kernel
theorem dX10_whyNot_18 : decode cX10_whyNot 18 = .ok (.aload_n 0, 1) := by decide +kernel
theorem dX10_whyNot_19 : decode cX10_whyNot 19 = .ok (.getfield 7, 3) := by decide +kernel
theorem dX10_whyNot_22 : decode cX10_whyNot 22 = .ok (.bipush 48, 2) := by decide +kernel
theorem dX10_whyNot_24 : decode cX10_whyNot 24 = .ok (.iload_n 1, 1) := by decide +kernel
theorem dX10_whyNot_25 : decode cX10_whyNot 25 = .ok (.iadd, 1) := by decide +kernel
theorem dX10_whyNot_26 : decode cX10_whyNot 26 = .ok (.iaload, 1) := by decide +kernel
theorem dX10_whyNot_27 : decode cX10_whyNot 27 = .ok (.if_icmp .le 6, 3) := by decide +kernel
theorem dX10_whyNot_30 : decode cX10_whyNot 30 = .ok (.bipush (-4), 2) := by decide +kernel
theorem dX10_whyNot_32 : decode cX10_whyNot 32 = .ok (.ireturn, 1) := by decide +kernel
theorem dX10_whyNot_33 : decode cX10_whyNot 33 = .ok (.aload_n 0, 1) := by decide +kernel
theorem dX10_whyNot_34 : decode cX10_whyNot 34 = .ok (.iload_n 1, 1) := by decide +kernel
theorem dX10_whyNot_35 : decode cX10_whyNot 35 = .ok (.iload_n 2, 1) := by decide +kernel
theorem dX10_whyNot_36 : decode cX10_whyNot 36 = .ok (.invokevirtual 141, 3) := by decide +kernel
theorem dX10_whyNot_39 : decode cX10_whyNot 39 = .ok (.ifCond .ne 6, 3) := by decide +kernel
theorem dX10_whyNot_42 : decode cX10_whyNot 42 = .ok (.bipush (-5), 2) := by decide +kernel
theorem dX10_whyNot_44 : decode cX10_whyNot 44 = .ok (.ireturn, 1) := by decide +kernel
theorem dX10_whyNot_45 : decode cX10_whyNot 45 = .ok (.aload_n 0, 1) := by decide +kernel
theorem dX10_whyNot_46 : decode cX10_whyNot 46 = .ok (.iload_n 1, 1) := by decide +kernel
theorem dX10_whyNot_47 : decode cX10_whyNot 47 = .ok (.invokevirtual 84, 3) := by decide +kernel
theorem dX10_whyNot_50 : decode cX10_whyNot 50 = .ok (.bipush 6, 2) := by decide +kernel
theorem dX10_whyNot_52 : decode cX10_whyNot 52 = .ok (.if_icmp .ne 19, 3) := by decide +kernel
theorem dX10_whyNot_55 : decode cX10_whyNot 55 = .ok (.aload_n 0, 1) := by decide +kernel
theorem dX10_whyNot_56 : decode cX10_whyNot 56 = .ok (.iload_n 1, 1) := by decide +kernel
theorem dX10_whyNot_57 : decode cX10_whyNot 57 = .ok (.iload_n 2, 1) := by decide +kernel
theorem dX10_whyNot_58 : decode cX10_whyNot 58 = .ok (.iload 4, 2) := by decide +kernel
theorem dX10_whyNot_60 : decode cX10_whyNot 60 = .ok (.invokevirtual 145, 3) := by decide +kernel
theorem dX10_whyNot_63 : decode cX10_whyNot 63 = .ok (.ifCond .ne 8, 3) := by decide +kernel
theorem dX10_whyNot_66 : decode cX10_whyNot 66 = .ok (.bipush (-6), 2) := by decide +kernel
theorem dX10_whyNot_68 : decode cX10_whyNot 68 = .ok (.goto 4, 3) := by decide +kernel
theorem dX10_whyNot_71 : decode cX10_whyNot 71 = .ok (.iconst 0, 1) := by decide +kernel
theorem dX10_whyNot_72 : decode cX10_whyNot 72 = .ok (.ireturn, 1) := by decide +kernel
theorem v_X10_whyNot : yX10_whyNot.cls = RX10 ∧ yX10_whyNot.cls ≠ "java/lang/invoke/MethodHandle" ∧ yX10_whyNot.cls ≠ "java/lang/invoke/VarHandle" ∧ (parseMethodDescriptor yX10_whyNot.desc).map (fun d => d.parameters.length) = some 4 := ⟨rfl, by decide +kernel, by decide +kernel, by decide +kernel⟩
noncomputable def k_X10_whyNot_72 (κ : gb_K) : gb_C := o_ri
theorem l_X10_whyNot_72 : gb_Li (fun κ => k_X10_whyNot_72 κ) := (gb_li0 _)
theorem s_X10_whyNot_72   {κ : gb_K} (hκ : ∀ q, gb_S RX10 cX10_whyNot 5 (gb_rm 2 47) 1 q (κ q)) : gb_S RX10 cX10_whyNot 5 (gb_rm 2 47) 1 72 (k_X10_whyNot_72 κ) := (s_ri rfl dX10_whyNot_72)
noncomputable def k_X10_whyNot_71 (κ : gb_K) : gb_C := (o_ci 0 (k_X10_whyNot_72 κ))
theorem l_X10_whyNot_71 : gb_Li (fun κ => k_X10_whyNot_71 κ) := (gb_li (q_ci 0) (l_X10_whyNot_72))
theorem s_X10_whyNot_71   {κ : gb_K} (hκ : ∀ q, gb_S RX10 cX10_whyNot 5 (gb_rm 2 47) 1 q (κ q)) : gb_S RX10 cX10_whyNot 5 (gb_rm 2 47) 1 71 (k_X10_whyNot_71 κ) := (s_iconst (by decide +kernel) dX10_whyNot_71 (s_X10_whyNot_72 hκ))
noncomputable def k_X10_whyNot_60 (κ : gb_K) : gb_C := (o_cv 3 10 2 f_X10_isOnTop (o_zeq (o_ci (-6) (k_X10_whyNot_72 κ)) (k_X10_whyNot_71 κ)))
theorem l_X10_whyNot_60 : gb_Li (fun κ => k_X10_whyNot_60 κ) := (gb_li (q_cv 3 10 2 f_X10_isOnTop) (q_zeq (gb_li (q_ci (-6)) (l_X10_whyNot_72)) (l_X10_whyNot_71)))
theorem s_X10_whyNot_60   {κ : gb_K} (hκ : ∀ q, gb_S RX10 cX10_whyNot 5 (gb_rm 2 47) 1 q (κ q)) : gb_S RX10 cX10_whyNot 5 (gb_rm 2 47) 1 60 (k_X10_whyNot_60 κ) := (s_cv (C := RX10) c_X10_isOnTop rfl (gb_l5 gw_610 gw_611 gw_612 gw_553 gw_613) v_X10_isOnTop ⟨rfl, rfl⟩ ⟨Nat.le_of_ble_eq_true rfl, Nat.le_of_ble_eq_true rfl⟩ dX10_whyNot_60 (s_zne (tgt := 71) (by decide +kernel) dX10_whyNot_63 (s_X10_whyNot_71 hκ) (s_bipush (by decide +kernel) dX10_whyNot_66 (s_goto (tgt := 72) (by decide +kernel) dX10_whyNot_68 (s_X10_whyNot_72 hκ)))))
noncomputable def k_X10_whyNot_0 (κ : gb_K) : gb_C := (o_al 0 (o_il 1 (o_cv 1 10 2 f_X10_isClosed (o_zeq (o_al 0 (o_il 1 (o_cv 1 10 1 f_X10_tonsIn (o_il 3 (o_ib (fun x y => x + y) (o_al 0 (o_gf 10 0 (o_ci 48 (o_il 1 (o_ib (fun x y => x + y) (o_iald (o_cle (o_al 0 (o_il 1 (o_il 2 (o_cv 2 10 2 f_X10_mayMix (o_zeq (o_ci (-5) o_ri) (o_al 0 (o_il 1 (o_cv 1 10 1 f_X10_many (o_ci 6 (o_ceq (o_al 0 (o_il 1 (o_il 2 (o_il 4 (k_X10_whyNot_60 κ))))) (k_X10_whyNot_71 κ))))))))))) (o_ci (-4) o_ri))))))))))))) (o_ci (-2) o_ri)))))
theorem l_X10_whyNot_0 : gb_Li (fun κ => k_X10_whyNot_0 κ) := (gb_li (q_al 0) (gb_li (q_il 1) (gb_li (q_cv 1 10 2 f_X10_isClosed) (q_zeq (gb_li (q_al 0) (gb_li (q_il 1) (gb_li (q_cv 1 10 1 f_X10_tonsIn) (gb_li (q_il 3) (gb_li (q_ib _) (gb_li (q_al 0) (gb_li (q_gf 10 0) (gb_li (q_ci 48) (gb_li (q_il 1) (gb_li (q_ib _) (gb_li q_iald (q_cle (gb_li (q_al 0) (gb_li (q_il 1) (gb_li (q_il 2) (gb_li (q_cv 2 10 2 f_X10_mayMix) (q_zeq (gb_li (q_ci (-5)) (gb_li0 _)) (gb_li (q_al 0) (gb_li (q_il 1) (gb_li (q_cv 1 10 1 f_X10_many) (gb_li (q_ci 6) (q_ceq (gb_li (q_al 0) (gb_li (q_il 1) (gb_li (q_il 2) (gb_li (q_il 4) (l_X10_whyNot_60))))) (l_X10_whyNot_71))))))))))) (gb_li (q_ci (-4)) (gb_li0 _)))))))))))))) (gb_li (q_ci (-2)) (gb_li0 _))))))
theorem s_X10_whyNot_0   {κ : gb_K} (hκ : ∀ q, gb_S RX10 cX10_whyNot 5 (gb_rm 2 47) 1 q (κ q)) : gb_S RX10 cX10_whyNot 5 (gb_rm 2 47) 1 0 (k_X10_whyNot_0 κ) := (s_aln 0 rfl dX10_whyNot_0 (s_iln 1 rfl dX10_whyNot_1 (s_cv (C := RX10) c_X10_isClosed rfl (gb_l5 gw_614 gw_615 gw_616 gw_553 gw_617) v_X10_isClosed ⟨rfl, rfl⟩ ⟨Nat.le_of_ble_eq_true rfl, Nat.le_of_ble_eq_true rfl⟩ dX10_whyNot_2 (s_zeq (tgt := 11) (by decide +kernel) dX10_whyNot_5 (s_aln 0 rfl dX10_whyNot_11 (s_iln 1 rfl dX10_whyNot_12 (s_cv (C := RX10) c_X10_tonsIn rfl (gb_l5 gw_618 gw_619 gw_620 gw_553 gw_621) v_X10_tonsIn ⟨rfl, rfl⟩ ⟨Nat.le_of_ble_eq_true rfl, Nat.le_of_ble_eq_true rfl⟩ dX10_whyNot_13 (s_iln 3 rfl dX10_whyNot_16 (s_iadd dX10_whyNot_17 (s_aln 0 rfl dX10_whyNot_18 (s_gf (T := TX10) winX10 rfl (Nat.le_of_ble_eq_true rfl) gw_545 rfl dX10_whyNot_19 (s_bipush (by decide +kernel) dX10_whyNot_22 (s_iln 1 rfl dX10_whyNot_24 (s_iadd dX10_whyNot_25 (s_iald dX10_whyNot_26 (s_cle (tgt := 33) (by decide +kernel) dX10_whyNot_27 (s_aln 0 rfl dX10_whyNot_33 (s_iln 1 rfl dX10_whyNot_34 (s_iln 2 rfl dX10_whyNot_35 (s_cv (C := RX10) c_X10_mayMix rfl (gb_l5 gw_622 gw_623 gw_624 gw_553 gw_625) v_X10_mayMix ⟨rfl, rfl⟩ ⟨Nat.le_of_ble_eq_true rfl, Nat.le_of_ble_eq_true rfl⟩ dX10_whyNot_36 (s_zne (tgt := 45) (by decide +kernel) dX10_whyNot_39 (s_aln 0 rfl dX10_whyNot_45 (s_iln 1 rfl dX10_whyNot_46 (s_cv (C := RX10) c_X10_many rfl (gb_l5 gw_557 gw_558 gw_559 gw_553 gw_560) v_X10_many ⟨rfl, rfl⟩ ⟨Nat.le_of_ble_eq_true rfl, Nat.le_of_ble_eq_true rfl⟩ dX10_whyNot_47 (s_bipush (by decide +kernel) dX10_whyNot_50 (s_cne (tgt := 71) (by decide +kernel) dX10_whyNot_52 (s_X10_whyNot_71 hκ) (s_aln 0 rfl dX10_whyNot_55 (s_iln 1 rfl dX10_whyNot_56 (s_iln 2 rfl dX10_whyNot_57 (s_il dX10_whyNot_58 (s_X10_whyNot_60 hκ)))))))))) (s_bipush (by decide +kernel) dX10_whyNot_42 (s_ri rfl dX10_whyNot_44))))))) (s_bipush (by decide +kernel) dX10_whyNot_30 (s_ri rfl dX10_whyNot_32)))))))))))))) (s_bipush (by decide +kernel) dX10_whyNot_8 (s_ri rfl dX10_whyNot_10))))))
noncomputable def f_X10_whyNot : gb_F := gb_hide (gb_mf 5 (k_X10_whyNot_0 gb_n))
theorem c_X10_whyNot : ∀ l, gb_Met l yX10_whyNot cX10_whyNot 5 (some .int) 1 (gb_rm 2 47) f_X10_whyNot := gb_hide_c (gb_met (own := RX10) (rk := 1) rfl (by decide +kernel) ⟨rfl, rfl⟩ (s_X10_whyNot_0 gb_S_n))
theorem dX10_lies_0 : decode cX10_lies 0 = .ok (.aload_n 0, 1) := by decide +kernel
theorem dX10_lies_1 : decode cX10_lies 1 = .ok (.iload_n 1, 1) := by decide +kernel
theorem dX10_lies_2 : decode cX10_lies 2 = .ok (.iload_n 2, 1) := by decide +kernel
theorem dX10_lies_3 : decode cX10_lies 3 = .ok (.iload 4, 2) := by decide +kernel
theorem dX10_lies_5 : decode cX10_lies 5 = .ok (.invokevirtual 145, 3) := by decide +kernel
theorem dX10_lies_8 : decode cX10_lies 8 = .ok (.ifCond .eq 34, 3) := by decide +kernel
theorem dX10_lies_11 : decode cX10_lies 11 = .ok (.aload_n 0, 1) := by decide +kernel
theorem dX10_lies_12 : decode cX10_lies 12 = .ok (.iload_n 1, 1) := by decide +kernel
theorem dX10_lies_13 : decode cX10_lies 13 = .ok (.aload_n 0, 1) := by decide +kernel
theorem dX10_lies_14 : decode cX10_lies 14 = .ok (.iload_n 1, 1) := by decide +kernel
theorem dX10_lies_15 : decode cX10_lies 15 = .ok (.invokevirtual 84, 3) := by decide +kernel
theorem dX10_lies_18 : decode cX10_lies 18 = .ok (.iconst 1, 1) := by decide +kernel
theorem dX10_lies_19 : decode cX10_lies 19 = .ok (.isub, 1) := by decide +kernel
theorem dX10_lies_20 : decode cX10_lies 20 = .ok (.iload_n 2, 1) := by decide +kernel
theorem dX10_lies_21 : decode cX10_lies 21 = .ok (.aload_n 0, 1) := by decide +kernel
theorem dX10_lies_22 : decode cX10_lies 22 = .ok (.iload_n 1, 1) := by decide +kernel
theorem dX10_lies_23 : decode cX10_lies 23 = .ok (.aload_n 0, 1) := by decide +kernel
theorem dX10_lies_24 : decode cX10_lies 24 = .ok (.iload_n 1, 1) := by decide +kernel
theorem dX10_lies_25 : decode cX10_lies 25 = .ok (.invokevirtual 84, 3) := by decide +kernel
theorem dX10_lies_28 : decode cX10_lies 28 = .ok (.iconst 1, 1) := by decide +kernel
theorem dX10_lies_29 : decode cX10_lies 29 = .ok (.isub, 1) := by decide +kernel
theorem dX10_lies_30 : decode cX10_lies 30 = .ok (.iconst 1, 1) := by decide +kernel
theorem dX10_lies_31 : decode cX10_lies 31 = .ok (.invokevirtual 88, 3) := by decide +kernel
theorem dX10_lies_34 : decode cX10_lies 34 = .ok (.iload_n 3, 1) := by decide +kernel
theorem dX10_lies_35 : decode cX10_lies 35 = .ok (.iadd, 1) := by decide +kernel
theorem dX10_lies_36 : decode cX10_lies 36 = .ok (.iload 4, 2) := by decide +kernel
theorem dX10_lies_38 : decode cX10_lies 38 = .ok (.invokevirtual 149, 3) := by decide +kernel
theorem dX10_lies_41 : decode cX10_lies 41 = .ok (.return_, 1) := by decide +kernel
theorem dX10_lies_42 : decode cX10_lies 42 = .ok (.aload_n 0, 1) := by decide +kernel
theorem dX10_lies_43 : decode cX10_lies 43 = .ok (.iload_n 1, 1) := by decide +kernel
theorem dX10_lies_44 : decode cX10_lies 44 = .ok (.aload_n 0, 1) := by decide +kernel
theorem dX10_lies_45 : decode cX10_lies 45 = .ok (.iload_n 1, 1) := by decide +kernel
theorem dX10_lies_46 : decode cX10_lies 46 = .ok (.invokevirtual 84, 3) := by decide +kernel
theorem dX10_lies_49 : decode cX10_lies 49 = .ok (.iload_n 2, 1) := by decide +kernel
theorem dX10_lies_50 : decode cX10_lies 50 = .ok (.iload_n 3, 1) := by decide +kernel
theorem dX10_lies_51 : decode cX10_lies 51 = .ok (.iload 4, 2) := by decide +kernel
theorem dX10_lies_53 : decode cX10_lies 53 = .ok (.invokevirtual 149, 3) := by decide +kernel
theorem dX10_lies_56 : decode cX10_lies 56 = .ok (.aload_n 0, 1) := by decide +kernel
theorem dX10_lies_57 : decode cX10_lies 57 = .ok (.getfield 7, 3) := by decide +kernel
theorem dX10_lies_60 : decode cX10_lies 60 = .ok (.bipush 60, 2) := by decide +kernel
theorem dX10_lies_62 : decode cX10_lies 62 = .ok (.iload_n 1, 1) := by decide +kernel
theorem dX10_lies_63 : decode cX10_lies 63 = .ok (.iadd, 1) := by decide +kernel
theorem dX10_lies_64 : decode cX10_lies 64 = .ok (.dup2, 1) := by decide +kernel
theorem dX10_lies_65 : decode cX10_lies 65 = .ok (.iaload, 1) := by decide +kernel
theorem dX10_lies_66 : decode cX10_lies 66 = .ok (.iconst 1, 1) := by decide +kernel
theorem dX10_lies_67 : decode cX10_lies 67 = .ok (.iadd, 1) := by decide +kernel
theorem dX10_lies_68 : decode cX10_lies 68 = .ok (.iastore, 1) := by decide +kernel
theorem dX10_lies_69 : decode cX10_lies 69 = .ok (.return_, 1) := by decide +kernel
theorem v_X10_lies : yX10_lies.cls = RX10 ∧ yX10_lies.cls ≠ "java/lang/invoke/MethodHandle" ∧ yX10_lies.cls ≠ "java/lang/invoke/VarHandle" ∧ (parseMethodDescriptor yX10_lies.desc).map (fun d => d.parameters.length) = some 4 := ⟨rfl, by decide +kernel, by decide +kernel, by decide +kernel⟩
noncomputable def k_X10_lies_0 (κ : gb_K) : gb_C := (o_al 0 (o_il 1 (o_il 2 (o_il 4 (o_cv 3 10 2 f_X10_isOnTop (o_zeq (o_al 0 (o_il 1 (o_al 0 (o_il 1 (o_cv 1 10 1 f_X10_many (o_il 2 (o_il 3 (o_il 4 (o_cv 5 10 0 f_X10_sets (o_al 0 (o_gf 10 0 (o_ci 60 (o_il 1 (o_ib (fun x y => x + y) (o_dup2 (o_iald (o_ci 1 (o_ib (fun x y => x + y) (o_iast o_rv))))))))))))))))))) (o_al 0 (o_il 1 (o_al 0 (o_il 1 (o_cv 1 10 1 f_X10_many (o_ci 1 (o_ib (fun x y => x - y) (o_il 2 (o_al 0 (o_il 1 (o_al 0 (o_il 1 (o_cv 1 10 1 f_X10_many (o_ci 1 (o_ib (fun x y => x - y) (o_ci 1 (o_cv 3 10 1 f_X10_layerOf (o_il 3 (o_ib (fun x y => x + y) (o_il 4 (o_cv 5 10 0 f_X10_sets o_rv)))))))))))))))))))))))))))
theorem l_X10_lies_0 : gb_Li (fun κ => k_X10_lies_0 κ) := (gb_li (q_al 0) (gb_li (q_il 1) (gb_li (q_il 2) (gb_li (q_il 4) (gb_li (q_cv 3 10 2 f_X10_isOnTop) (q_zeq (gb_li (q_al 0) (gb_li (q_il 1) (gb_li (q_al 0) (gb_li (q_il 1) (gb_li (q_cv 1 10 1 f_X10_many) (gb_li (q_il 2) (gb_li (q_il 3) (gb_li (q_il 4) (gb_li (q_cv 5 10 0 f_X10_sets) (gb_li (q_al 0) (gb_li (q_gf 10 0) (gb_li (q_ci 60) (gb_li (q_il 1) (gb_li (q_ib _) (gb_li q_dup2 (gb_li q_iald (gb_li (q_ci 1) (gb_li (q_ib _) (gb_li q_iast (gb_li0 _)))))))))))))))))))) (gb_li (q_al 0) (gb_li (q_il 1) (gb_li (q_al 0) (gb_li (q_il 1) (gb_li (q_cv 1 10 1 f_X10_many) (gb_li (q_ci 1) (gb_li (q_ib _) (gb_li (q_il 2) (gb_li (q_al 0) (gb_li (q_il 1) (gb_li (q_al 0) (gb_li (q_il 1) (gb_li (q_cv 1 10 1 f_X10_many) (gb_li (q_ci 1) (gb_li (q_ib _) (gb_li (q_ci 1) (gb_li (q_cv 3 10 1 f_X10_layerOf) (gb_li (q_il 3) (gb_li (q_ib _) (gb_li (q_il 4) (gb_li (q_cv 5 10 0 f_X10_sets) (gb_li0 _))))))))))))))))))))))))))))
theorem s_X10_lies_0   {κ : gb_K} (hκ : ∀ q, gb_S RX10 cX10_lies 5 (gb_rm 2 47) 0 q (κ q)) : gb_S RX10 cX10_lies 5 (gb_rm 2 47) 0 0 (k_X10_lies_0 κ) := (s_aln 0 rfl dX10_lies_0 (s_iln 1 rfl dX10_lies_1 (s_iln 2 rfl dX10_lies_2 (s_il dX10_lies_3 (s_cv (C := RX10) c_X10_isOnTop rfl (gb_l5 gw_610 gw_611 gw_612 gw_553 gw_613) v_X10_isOnTop ⟨rfl, rfl⟩ ⟨Nat.le_of_ble_eq_true rfl, Nat.le_of_ble_eq_true rfl⟩ dX10_lies_5 (s_zeq (tgt := 42) (by decide +kernel) dX10_lies_8 (s_aln 0 rfl dX10_lies_42 (s_iln 1 rfl dX10_lies_43 (s_aln 0 rfl dX10_lies_44 (s_iln 1 rfl dX10_lies_45 (s_cv (C := RX10) c_X10_many rfl (gb_l5 gw_557 gw_558 gw_559 gw_553 gw_560) v_X10_many ⟨rfl, rfl⟩ ⟨Nat.le_of_ble_eq_true rfl, Nat.le_of_ble_eq_true rfl⟩ dX10_lies_46 (s_iln 2 rfl dX10_lies_49 (s_iln 3 rfl dX10_lies_50 (s_il dX10_lies_51 (s_cv (C := RX10) c_X10_sets rfl (gb_l5 gw_626 gw_627 gw_628 gw_553 gw_629) v_X10_sets ⟨rfl, rfl⟩ ⟨Nat.le_of_ble_eq_true rfl, Nat.le_of_ble_eq_true rfl⟩ dX10_lies_53 (s_aln 0 rfl dX10_lies_56 (s_gf (T := TX10) winX10 rfl (Nat.le_of_ble_eq_true rfl) gw_545 rfl dX10_lies_57 (s_bipush (by decide +kernel) dX10_lies_60 (s_iln 1 rfl dX10_lies_62 (s_iadd dX10_lies_63 (s_dup2 dX10_lies_64 (s_iald dX10_lies_65 (s_iconst (by decide +kernel) dX10_lies_66 (s_iadd dX10_lies_67 (s_iast dX10_lies_68 (s_rv rfl dX10_lies_69)))))))))))))))))))) (s_aln 0 rfl dX10_lies_11 (s_iln 1 rfl dX10_lies_12 (s_aln 0 rfl dX10_lies_13 (s_iln 1 rfl dX10_lies_14 (s_cv (C := RX10) c_X10_many rfl (gb_l5 gw_557 gw_558 gw_559 gw_553 gw_560) v_X10_many ⟨rfl, rfl⟩ ⟨Nat.le_of_ble_eq_true rfl, Nat.le_of_ble_eq_true rfl⟩ dX10_lies_15 (s_iconst (by decide +kernel) dX10_lies_18 (s_isub dX10_lies_19 (s_iln 2 rfl dX10_lies_20 (s_aln 0 rfl dX10_lies_21 (s_iln 1 rfl dX10_lies_22 (s_aln 0 rfl dX10_lies_23 (s_iln 1 rfl dX10_lies_24 (s_cv (C := RX10) c_X10_many rfl (gb_l5 gw_557 gw_558 gw_559 gw_553 gw_560) v_X10_many ⟨rfl, rfl⟩ ⟨Nat.le_of_ble_eq_true rfl, Nat.le_of_ble_eq_true rfl⟩ dX10_lies_25 (s_iconst (by decide +kernel) dX10_lies_28 (s_isub dX10_lies_29 (s_iconst (by decide +kernel) dX10_lies_30 (s_cv (C := RX10) c_X10_layerOf rfl (gb_l5 gw_561 gw_562 gw_563 gw_553 gw_564) v_X10_layerOf ⟨rfl, rfl⟩ ⟨Nat.le_of_ble_eq_true rfl, Nat.le_of_ble_eq_true rfl⟩ dX10_lies_31 (s_iln 3 rfl dX10_lies_34 (s_iadd dX10_lies_35 (s_il dX10_lies_36 (s_cv (C := RX10) c_X10_sets rfl (gb_l5 gw_626 gw_627 gw_628 gw_553 gw_629) v_X10_sets ⟨rfl, rfl⟩ ⟨Nat.le_of_ble_eq_true rfl, Nat.le_of_ble_eq_true rfl⟩ dX10_lies_38 (s_rv rfl dX10_lies_41))))))))))))))))))))))))))))
noncomputable def f_X10_lies : gb_F := gb_hide (gb_mf 5 (k_X10_lies_0 gb_n))
theorem c_X10_lies : ∀ l, gb_Met l yX10_lies cX10_lies 5 none 0 (gb_rm 2 47) f_X10_lies := gb_hide_c (gb_met (own := RX10) (rk := 0) rfl (by decide +kernel) ⟨rfl, rfl⟩ (s_X10_lies_0 gb_S_n))
theorem dX10_goes_0 : decode cX10_goes 0 = .ok (.iload_n 2, 1) := by decide +kernel
theorem dX10_goes_1 : decode cX10_goes 1 = .ok (.istore_n 3, 1) := by decide +kernel
theorem dX10_goes_2 : decode cX10_goes 2 = .ok (.aload_n 0, 1) := by decide +kernel
theorem dX10_goes_3 : decode cX10_goes 3 = .ok (.iconst 0, 1) := by decide +kernel
theorem dX10_goes_4 : decode cX10_goes 4 = .ok (.putfield 153, 3) := by decide +kernel
theorem dX10_goes_7 : decode cX10_goes 7 = .ok (.aload_n 0, 1) := by decide +kernel
theorem dX10_goes_8 : decode cX10_goes 8 = .ok (.iconst 0, 1) := by decide +kernel
theorem dX10_goes_9 : decode cX10_goes 9 = .ok (.putfield 156, 3) := by decide +kernel
theorem dX10_goes_12 : decode cX10_goes 12 = .ok (.iload_n 3, 1) := by decide +kernel
theorem dX10_goes_13 : decode cX10_goes 13 = .ok (.ifCond .le 224, 3) := by decide +kernel
theorem dX10_goes_16 : decode cX10_goes 16 = .ok (.iload_n 3, 1) := by decide +kernel
theorem dX10_goes_17 : decode cX10_goes 17 = .ok (.aload_n 0, 1) := by decide +kernel
theorem dX10_goes_18 : decode cX10_goes 18 = .ok (.iload_n 1, 1) := by decide +kernel
theorem dX10_goes_19 : decode cX10_goes 19 = .ok (.iconst 0, 1) := by decide +kernel
theorem dX10_goes_20 : decode cX10_goes 20 = .ok (.iconst 1, 1) := by decide +kernel
theorem dX10_goes_21 : decode cX10_goes 21 = .ok (.invokevirtual 88, 3) := by decide +kernel
theorem dX10_goes_24 : decode cX10_goes 24 = .ok (.invokestatic 116, 3) := by decide +kernel
theorem dX10_goes_27 : decode cX10_goes 27 = .ok (.istore 4, 2) := by decide +kernel
theorem dX10_goes_29 : decode cX10_goes 29 = .ok (.aload_n 0, 1) := by decide +kernel
theorem dX10_goes_30 : decode cX10_goes 30 = .ok (.iload_n 1, 1) := by decide +kernel
theorem dX10_goes_31 : decode cX10_goes 31 = .ok (.iconst 0, 1) := by decide +kernel
theorem dX10_goes_32 : decode cX10_goes 32 = .ok (.invokevirtual 159, 3) := by decide +kernel
theorem dX10_goes_35 : decode cX10_goes 35 = .ok (.istore 5, 2) := by decide +kernel
theorem dX10_goes_37 : decode cX10_goes 37 = .ok (.aload_n 0, 1) := by decide +kernel
theorem dX10_goes_38 : decode cX10_goes 38 = .ok (.aload_n 0, 1) := by decide +kernel
theorem dX10_goes_39 : decode cX10_goes 39 = .ok (.getfield 153, 3) := by decide +kernel
theorem dX10_goes_42 : decode cX10_goes 42 = .ok (.ifCond .ne 8, 3) := by decide +kernel
theorem dX10_goes_45 : decode cX10_goes 45 = .ok (.iload 5, 2) := by decide +kernel
theorem dX10_goes_47 : decode cX10_goes 47 = .ok (.goto 12, 3) := by decide +kernel
theorem dX10_goes_50 : decode cX10_goes 50 = .ok (.aload_n 0, 1) := by decide +kernel
theorem dX10_goes_51 : decode cX10_goes 51 = .ok (.getfield 156, 3) := by decide +kernel
theorem dX10_goes_54 : decode cX10_goes 54 = .ok (.iload 5, 2) := by decide +kernel
theorem dX10_goes_56 : decode cX10_goes 56 = .ok (.invokestatic 116, 3) := by decide +kernel
theorem dX10_goes_59 : decode cX10_goes 59 = .ok (.putfield 156, 3) := by decide +kernel
theorem dX10_goes_62 : decode cX10_goes 62 = .ok (.aload_n 0, 1) := by decide +kernel
theorem dX10_goes_63 : decode cX10_goes 63 = .ok (.getfield 30, 3) := by decide +kernel
theorem dX10_goes_66 : decode cX10_goes 66 = .ok (.aload_n 0, 1) := by decide +kernel
theorem dX10_goes_67 : decode cX10_goes 67 = .ok (.getfield 153, 3) := by decide +kernel
theorem dX10_goes_70 : decode cX10_goes 70 = .ok (.aload_n 0, 1) := by decide +kernel
theorem dX10_goes_71 : decode cX10_goes 71 = .ok (.iload_n 1, 1) := by decide +kernel
theorem dX10_goes_72 : decode cX10_goes 72 = .ok (.iconst 0, 1) := by decide +kernel
theorem dX10_goes_73 : decode cX10_goes 73 = .ok (.iconst 0, 1) := by decide +kernel
theorem dX10_goes_74 : decode cX10_goes 74 = .ok (.invokevirtual 88, 3) := by decide +kernel
theorem dX10_goes_77 : decode cX10_goes 77 = .ok (.iastore, 1) := by decide +kernel
theorem dX10_goes_78 : decode cX10_goes 78 = .ok (.aload_n 0, 1) := by decide +kernel
theorem dX10_goes_79 : decode cX10_goes 79 = .ok (.getfield 33, 3) := by decide +kernel
theorem dX10_goes_82 : decode cX10_goes 82 = .ok (.aload_n 0, 1) := by decide +kernel
theorem dX10_goes_83 : decode cX10_goes 83 = .ok (.getfield 153, 3) := by decide +kernel
theorem dX10_goes_86 : decode cX10_goes 86 = .ok (.iload 4, 2) := by decide +kernel
theorem dX10_goes_88 : decode cX10_goes 88 = .ok (.iastore, 1) := by decide +kernel
theorem dX10_goes_89 : decode cX10_goes 89 = .ok (.aload_n 0, 1) := by decide +kernel
theorem dX10_goes_90 : decode cX10_goes 90 = .ok (.getfield 36, 3) := by decide +kernel
theorem dX10_goes_93 : decode cX10_goes 93 = .ok (.aload_n 0, 1) := by decide +kernel
theorem dX10_goes_94 : decode cX10_goes 94 = .ok (.getfield 153, 3) := by decide +kernel
theorem dX10_goes_97 : decode cX10_goes 97 = .ok (.aload_n 0, 1) := by decide +kernel
theorem dX10_goes_98 : decode cX10_goes 98 = .ok (.iload_n 1, 1) := by decide +kernel
theorem dX10_goes_99 : decode cX10_goes 99 = .ok (.iconst 0, 1) := by decide +kernel
theorem dX10_goes_100 : decode cX10_goes 100 = .ok (.iconst 2, 1) := by decide +kernel
theorem dX10_goes_101 : decode cX10_goes 101 = .ok (.invokevirtual 88, 3) := by decide +kernel
theorem dX10_goes_104 : decode cX10_goes 104 = .ok (.iastore, 1) := by decide +kernel
theorem dX10_goes_105 : decode cX10_goes 105 = .ok (.aload_n 0, 1) := by decide +kernel
theorem dX10_goes_106 : decode cX10_goes 106 = .ok (.dup, 1) := by decide +kernel
theorem dX10_goes_107 : decode cX10_goes 107 = .ok (.getfield 153, 3) := by decide +kernel
theorem dX10_goes_110 : decode cX10_goes 110 = .ok (.iconst 1, 1) := by decide +kernel
theorem dX10_goes_111 : decode cX10_goes 111 = .ok (.iadd, 1) := by decide +kernel
theorem dX10_goes_112 : decode cX10_goes 112 = .ok (.putfield 153, 3) := by decide +kernel
theorem dX10_goes_115 : decode cX10_goes 115 = .ok (.iload_n 3, 1) := by decide +kernel
theorem dX10_goes_116 : decode cX10_goes 116 = .ok (.iload 4, 2) := by decide +kernel
theorem dX10_goes_118 : decode cX10_goes 118 = .ok (.isub, 1) := by decide +kernel
theorem dX10_goes_119 : decode cX10_goes 119 = .ok (.istore_n 3, 1) := by decide +kernel
theorem dX10_goes_120 : decode cX10_goes 120 = .ok (.iload 4, 2) := by decide +kernel
theorem dX10_goes_122 : decode cX10_goes 122 = .ok (.aload_n 0, 1) := by decide +kernel
theorem dX10_goes_123 : decode cX10_goes 123 = .ok (.iload_n 1, 1) := by decide +kernel
theorem dX10_goes_124 : decode cX10_goes 124 = .ok (.iconst 0, 1) := by decide +kernel
theorem dX10_goes_125 : decode cX10_goes 125 = .ok (.iconst 1, 1) := by decide +kernel
theorem dX10_goes_126 : decode cX10_goes 126 = .ok (.invokevirtual 88, 3) := by decide +kernel
theorem dX10_goes_129 : decode cX10_goes 129 = .ok (.if_icmp .ge 36, 3) := by decide +kernel
theorem dX10_goes_132 : decode cX10_goes 132 = .ok (.aload_n 0, 1) := by decide +kernel
theorem dX10_goes_133 : decode cX10_goes 133 = .ok (.iload_n 1, 1) := by decide +kernel
theorem dX10_goes_134 : decode cX10_goes 134 = .ok (.iconst 0, 1) := by decide +kernel
theorem dX10_goes_135 : decode cX10_goes 135 = .ok (.aload_n 0, 1) := by decide +kernel
theorem dX10_goes_136 : decode cX10_goes 136 = .ok (.iload_n 1, 1) := by decide +kernel
theorem dX10_goes_137 : decode cX10_goes 137 = .ok (.iconst 0, 1) := by decide +kernel
theorem dX10_goes_138 : decode cX10_goes 138 = .ok (.iconst 0, 1) := by decide +kernel
theorem dX10_goes_139 : decode cX10_goes 139 = .ok (.invokevirtual 88, 3) := by decide +kernel
theorem dX10_goes_142 : decode cX10_goes 142 = .ok (.aload_n 0, 1) := by decide +kernel
theorem dX10_goes_143 : decode cX10_goes 143 = .ok (.iload_n 1, 1) := by decide +kernel
theorem dX10_goes_144 : decode cX10_goes 144 = .ok (.iconst 0, 1) := by decide +kernel
theorem dX10_goes_145 : decode cX10_goes 145 = .ok (.iconst 1, 1) := by decide +kernel
theorem dX10_goes_146 : decode cX10_goes 146 = .ok (.invokevirtual 88, 3) := by decide +kernel
theorem dX10_goes_149 : decode cX10_goes 149 = .ok (.iload 4, 2) := by decide +kernel
theorem dX10_goes_151 : decode cX10_goes 151 = .ok (.isub, 1) := by decide +kernel
theorem dX10_goes_152 : decode cX10_goes 152 = .ok (.aload_n 0, 1) := by decide +kernel
theorem dX10_goes_153 : decode cX10_goes 153 = .ok (.iload_n 1, 1) := by decide +kernel
theorem dX10_goes_154 : decode cX10_goes 154 = .ok (.iconst 0, 1) := by decide +kernel
theorem dX10_goes_155 : decode cX10_goes 155 = .ok (.iconst 2, 1) := by decide +kernel
theorem dX10_goes_156 : decode cX10_goes 156 = .ok (.invokevirtual 88, 3) := by decide +kernel
theorem dX10_goes_159 : decode cX10_goes 159 = .ok (.invokevirtual 149, 3) := by decide +kernel
theorem dX10_goes_162 : decode cX10_goes 162 = .ok (.goto (-150), 3) := by decide +kernel
theorem dX10_goes_165 : decode cX10_goes 165 = .ok (.aload_n 0, 1) := by decide +kernel
theorem dX10_goes_166 : decode cX10_goes 166 = .ok (.getfield 7, 3) := by decide +kernel
theorem dX10_goes_169 : decode cX10_goes 169 = .ok (.bipush 60, 2) := by decide +kernel
theorem dX10_goes_171 : decode cX10_goes 171 = .ok (.iload_n 1, 1) := by decide +kernel
theorem dX10_goes_172 : decode cX10_goes 172 = .ok (.iadd, 1) := by decide +kernel
theorem dX10_goes_173 : decode cX10_goes 173 = .ok (.dup2, 1) := by decide +kernel
theorem dX10_goes_174 : decode cX10_goes 174 = .ok (.iaload, 1) := by decide +kernel
theorem dX10_goes_175 : decode cX10_goes 175 = .ok (.iconst 1, 1) := by decide +kernel
theorem dX10_goes_176 : decode cX10_goes 176 = .ok (.isub, 1) := by decide +kernel
theorem dX10_goes_177 : decode cX10_goes 177 = .ok (.iastore, 1) := by decide +kernel
theorem dX10_goes_178 : decode cX10_goes 178 = .ok (.iconst 0, 1) := by decide +kernel
theorem dX10_goes_179 : decode cX10_goes 179 = .ok (.istore 6, 2) := by decide +kernel
theorem dX10_goes_181 : decode cX10_goes 181 = .ok (.iload 6, 2) := by decide +kernel
theorem dX10_goes_183 : decode cX10_goes 183 = .ok (.aload_n 0, 1) := by decide +kernel
theorem dX10_goes_184 : decode cX10_goes 184 = .ok (.iload_n 1, 1) := by decide +kernel
theorem dX10_goes_185 : decode cX10_goes 185 = .ok (.invokevirtual 84, 3) := by decide +kernel
theorem dX10_goes_188 : decode cX10_goes 188 = .ok (.if_icmp .ge 46, 3) := by decide +kernel
theorem dX10_goes_191 : decode cX10_goes 191 = .ok (.aload_n 0, 1) := by decide +kernel
theorem dX10_goes_192 : decode cX10_goes 192 = .ok (.iload_n 1, 1) := by decide +kernel
theorem dX10_goes_193 : decode cX10_goes 193 = .ok (.iload 6, 2) := by decide +kernel
theorem dX10_goes_195 : decode cX10_goes 195 = .ok (.aload_n 0, 1) := by decide +kernel
theorem dX10_goes_196 : decode cX10_goes 196 = .ok (.iload_n 1, 1) := by decide +kernel
theorem dX10_goes_197 : decode cX10_goes 197 = .ok (.iload 6, 2) := by decide +kernel
theorem dX10_goes_199 : decode cX10_goes 199 = .ok (.iconst 1, 1) := by decide +kernel
theorem dX10_goes_200 : decode cX10_goes 200 = .ok (.iadd, 1) := by decide +kernel
theorem dX10_goes_201 : decode cX10_goes 201 = .ok (.iconst 0, 1) := by decide +kernel
theorem dX10_goes_202 : decode cX10_goes 202 = .ok (.invokevirtual 88, 3) := by decide +kernel
theorem dX10_goes_205 : decode cX10_goes 205 = .ok (.aload_n 0, 1) := by decide +kernel
theorem dX10_goes_206 : decode cX10_goes 206 = .ok (.iload_n 1, 1) := by decide +kernel
theorem dX10_goes_207 : decode cX10_goes 207 = .ok (.iload 6, 2) := by decide +kernel
theorem dX10_goes_209 : decode cX10_goes 209 = .ok (.iconst 1, 1) := by decide +kernel
theorem dX10_goes_210 : decode cX10_goes 210 = .ok (.iadd, 1) := by decide +kernel
theorem dX10_goes_211 : decode cX10_goes 211 = .ok (.iconst 1, 1) := by decide +kernel
theorem dX10_goes_212 : decode cX10_goes 212 = .ok (.invokevirtual 88, 3) := by decide +kernel
theorem dX10_goes_215 : decode cX10_goes 215 = .ok (.aload_n 0, 1) := by decide +kernel
theorem dX10_goes_216 : decode cX10_goes 216 = .ok (.iload_n 1, 1) := by decide +kernel
theorem dX10_goes_217 : decode cX10_goes 217 = .ok (.iload 6, 2) := by decide +kernel
theorem dX10_goes_219 : decode cX10_goes 219 = .ok (.iconst 1, 1) := by decide +kernel
theorem dX10_goes_220 : decode cX10_goes 220 = .ok (.iadd, 1) := by decide +kernel
theorem dX10_goes_221 : decode cX10_goes 221 = .ok (.iconst 2, 1) := by decide +kernel
theorem dX10_goes_222 : decode cX10_goes 222 = .ok (.invokevirtual 88, 3) := by decide +kernel
theorem dX10_goes_225 : decode cX10_goes 225 = .ok (.invokevirtual 149, 3) := by decide +kernel
theorem dX10_goes_228 : decode cX10_goes 228 = .ok (.iinc 6 1, 3) := by decide +kernel
theorem dX10_goes_231 : decode cX10_goes 231 = .ok (.goto (-50), 3) := by decide +kernel
theorem dX10_goes_234 : decode cX10_goes 234 = .ok (.goto (-222), 3) := by decide +kernel
theorem dX10_goes_237 : decode cX10_goes 237 = .ok (.return_, 1) := by decide +kernel
theorem v_X10_goes : yX10_goes.cls = RX10 ∧ yX10_goes.cls ≠ "java/lang/invoke/MethodHandle" ∧ yX10_goes.cls ≠ "java/lang/invoke/VarHandle" ∧ (parseMethodDescriptor yX10_goes.desc).map (fun d => d.parameters.length) = some 2 := ⟨rfl, by decide +kernel, by decide +kernel, by decide +kernel⟩
noncomputable def k_X10_goes_0 (κ : gb_K) : gb_C := (o_il 2 (o_is 3 (o_al 0 (o_ci 0 (o_pf 10 14 (o_al 0 (o_ci 0 (o_pf 10 15 (o_j [0, 1, 3] (κ 12))))))))))
theorem l_X10_goes_0 : gb_Li (fun κ => k_X10_goes_0 κ) := (gb_li (q_il 2) (gb_li (q_is 3) (gb_li (q_al 0) (gb_li (q_ci 0) (gb_li (q_pf 10 14) (gb_li (q_al 0) (gb_li (q_ci 0) (gb_li (q_pf 10 15) (q_j [0, 1, 3] 12)))))))))
theorem s_X10_goes_0   {κ : gb_K} (hκ : ∀ q, gb_S RX10 cX10_goes 7 (gb_rm 3 70) 0 q (κ q)) : gb_S RX10 cX10_goes 7 (gb_rm 3 70) 0 0 (k_X10_goes_0 κ) := (s_iln 2 rfl dX10_goes_0 (s_isn 3 rfl (Nat.le_of_ble_eq_true rfl) dX10_goes_1 (s_aln 0 rfl dX10_goes_2 (s_iconst (by decide +kernel) dX10_goes_3 (s_pf (T := TX10) winX10 rfl (Nat.le_of_ble_eq_true rfl) tyX10_ok nmX10 rfl (by decide +kernel) gw_630 rfl dX10_goes_4 (s_aln 0 rfl dX10_goes_7 (s_iconst (by decide +kernel) dX10_goes_8 (s_pf (T := TX10) winX10 rfl (Nat.le_of_ble_eq_true rfl) tyX10_ok nmX10 rfl (by decide +kernel) gw_631 rfl dX10_goes_9 (s_j (hκ 12))))))))))
noncomputable def k_X10_goes_153 (κ : gb_K) : gb_C := (o_il 1 (o_ci 0 (o_ci 2 (o_cv 3 10 1 f_X10_layerOf (o_cv 5 10 0 f_X10_sets (o_j [0, 1, 3] (κ 12)))))))
theorem l_X10_goes_153 : gb_Li (fun κ => k_X10_goes_153 κ) := (gb_li (q_il 1) (gb_li (q_ci 0) (gb_li (q_ci 2) (gb_li (q_cv 3 10 1 f_X10_layerOf) (gb_li (q_cv 5 10 0 f_X10_sets) (q_j [0, 1, 3] 12))))))
theorem s_X10_goes_153   {κ : gb_K} (hκ : ∀ q, gb_S RX10 cX10_goes 7 (gb_rm 3 70) 0 q (κ q)) : gb_S RX10 cX10_goes 7 (gb_rm 3 70) 0 153 (k_X10_goes_153 κ) := (s_iln 1 rfl dX10_goes_153 (s_iconst (by decide +kernel) dX10_goes_154 (s_iconst (by decide +kernel) dX10_goes_155 (s_cv (C := RX10) c_X10_layerOf rfl (gb_l5 gw_561 gw_562 gw_563 gw_553 gw_564) v_X10_layerOf ⟨rfl, rfl⟩ ⟨Nat.le_of_ble_eq_true rfl, Nat.le_of_ble_eq_true rfl⟩ dX10_goes_156 (s_cv (C := RX10) c_X10_sets rfl (gb_l5 gw_626 gw_627 gw_628 gw_553 gw_629) v_X10_sets ⟨rfl, rfl⟩ ⟨Nat.le_of_ble_eq_true rfl, Nat.le_of_ble_eq_true rfl⟩ dX10_goes_159 (s_goto (tgt := 12) (by decide +kernel) dX10_goes_162 (s_j (hκ 12))))))))
noncomputable def k_X10_goes_110 (κ : gb_K) : gb_C := (o_ci 1 (o_ib (fun x y => x + y) (o_pf 10 14 (o_il 3 (o_il 4 (o_ib (fun x y => x - y) (o_is 3 (o_il 4 (o_al 0 (o_il 1 (o_ci 0 (o_ci 1 (o_cv 3 10 1 f_X10_layerOf (o_cge (o_al 0 (o_gf 10 0 (o_ci 60 (o_il 1 (o_ib (fun x y => x + y) (o_dup2 (o_iald (o_ci 1 (o_ib (fun x y => x - y) (o_iast (o_ci 0 (o_is 6 (o_j [0, 1, 3, 6] (κ 181)))))))))))))) (o_al 0 (o_il 1 (o_ci 0 (o_al 0 (o_il 1 (o_ci 0 (o_ci 0 (o_cv 3 10 1 f_X10_layerOf (o_al 0 (o_il 1 (o_ci 0 (o_ci 1 (o_cv 3 10 1 f_X10_layerOf (o_il 4 (o_ib (fun x y => x - y) (o_al 0 (k_X10_goes_153 κ)))))))))))))))))))))))))))))))
theorem l_X10_goes_110 : gb_Li (fun κ => k_X10_goes_110 κ) := (gb_li (q_ci 1) (gb_li (q_ib _) (gb_li (q_pf 10 14) (gb_li (q_il 3) (gb_li (q_il 4) (gb_li (q_ib _) (gb_li (q_is 3) (gb_li (q_il 4) (gb_li (q_al 0) (gb_li (q_il 1) (gb_li (q_ci 0) (gb_li (q_ci 1) (gb_li (q_cv 3 10 1 f_X10_layerOf) (q_cge (gb_li (q_al 0) (gb_li (q_gf 10 0) (gb_li (q_ci 60) (gb_li (q_il 1) (gb_li (q_ib _) (gb_li q_dup2 (gb_li q_iald (gb_li (q_ci 1) (gb_li (q_ib _) (gb_li q_iast (gb_li (q_ci 0) (gb_li (q_is 6) (q_j [0, 1, 3, 6] 181))))))))))))) (gb_li (q_al 0) (gb_li (q_il 1) (gb_li (q_ci 0) (gb_li (q_al 0) (gb_li (q_il 1) (gb_li (q_ci 0) (gb_li (q_ci 0) (gb_li (q_cv 3 10 1 f_X10_layerOf) (gb_li (q_al 0) (gb_li (q_il 1) (gb_li (q_ci 0) (gb_li (q_ci 1) (gb_li (q_cv 3 10 1 f_X10_layerOf) (gb_li (q_il 4) (gb_li (q_ib _) (gb_li (q_al 0) (l_X10_goes_153)))))))))))))))))))))))))))))))
theorem s_X10_goes_110   {κ : gb_K} (hκ : ∀ q, gb_S RX10 cX10_goes 7 (gb_rm 3 70) 0 q (κ q)) : gb_S RX10 cX10_goes 7 (gb_rm 3 70) 0 110 (k_X10_goes_110 κ) := (s_iconst (by decide +kernel) dX10_goes_110 (s_iadd dX10_goes_111 (s_pf (T := TX10) winX10 rfl (Nat.le_of_ble_eq_true rfl) tyX10_ok nmX10 rfl (by decide +kernel) gw_630 rfl dX10_goes_112 (s_iln 3 rfl dX10_goes_115 (s_il dX10_goes_116 (s_isub dX10_goes_118 (s_isn 3 rfl (Nat.le_of_ble_eq_true rfl) dX10_goes_119 (s_il dX10_goes_120 (s_aln 0 rfl dX10_goes_122 (s_iln 1 rfl dX10_goes_123 (s_iconst (by decide +kernel) dX10_goes_124 (s_iconst (by decide +kernel) dX10_goes_125 (s_cv (C := RX10) c_X10_layerOf rfl (gb_l5 gw_561 gw_562 gw_563 gw_553 gw_564) v_X10_layerOf ⟨rfl, rfl⟩ ⟨Nat.le_of_ble_eq_true rfl, Nat.le_of_ble_eq_true rfl⟩ dX10_goes_126 (s_cge (tgt := 165) (by decide +kernel) dX10_goes_129 (s_aln 0 rfl dX10_goes_165 (s_gf (T := TX10) winX10 rfl (Nat.le_of_ble_eq_true rfl) gw_545 rfl dX10_goes_166 (s_bipush (by decide +kernel) dX10_goes_169 (s_iln 1 rfl dX10_goes_171 (s_iadd dX10_goes_172 (s_dup2 dX10_goes_173 (s_iald dX10_goes_174 (s_iconst (by decide +kernel) dX10_goes_175 (s_isub dX10_goes_176 (s_iast dX10_goes_177 (s_iconst (by decide +kernel) dX10_goes_178 (s_is (Nat.le_of_ble_eq_true rfl) dX10_goes_179 (s_j (hκ 181)))))))))))))) (s_aln 0 rfl dX10_goes_132 (s_iln 1 rfl dX10_goes_133 (s_iconst (by decide +kernel) dX10_goes_134 (s_aln 0 rfl dX10_goes_135 (s_iln 1 rfl dX10_goes_136 (s_iconst (by decide +kernel) dX10_goes_137 (s_iconst (by decide +kernel) dX10_goes_138 (s_cv (C := RX10) c_X10_layerOf rfl (gb_l5 gw_561 gw_562 gw_563 gw_553 gw_564) v_X10_layerOf ⟨rfl, rfl⟩ ⟨Nat.le_of_ble_eq_true rfl, Nat.le_of_ble_eq_true rfl⟩ dX10_goes_139 (s_aln 0 rfl dX10_goes_142 (s_iln 1 rfl dX10_goes_143 (s_iconst (by decide +kernel) dX10_goes_144 (s_iconst (by decide +kernel) dX10_goes_145 (s_cv (C := RX10) c_X10_layerOf rfl (gb_l5 gw_561 gw_562 gw_563 gw_553 gw_564) v_X10_layerOf ⟨rfl, rfl⟩ ⟨Nat.le_of_ble_eq_true rfl, Nat.le_of_ble_eq_true rfl⟩ dX10_goes_146 (s_il dX10_goes_149 (s_isub dX10_goes_151 (s_aln 0 rfl dX10_goes_152 (s_X10_goes_153 hκ)))))))))))))))))))))))))))))))
noncomputable def k_X10_goes_59 (κ : gb_K) : gb_C := (o_pf 10 15 (o_al 0 (o_gf 10 11 (o_al 0 (o_gf 10 14 (o_al 0 (o_il 1 (o_ci 0 (o_ci 0 (o_cv 3 10 1 f_X10_layerOf (o_iast (o_al 0 (o_gf 10 12 (o_al 0 (o_gf 10 14 (o_il 4 (o_iast (o_al 0 (o_gf 10 13 (o_al 0 (o_gf 10 14 (o_al 0 (o_il 1 (o_ci 0 (o_ci 2 (o_cv 3 10 1 f_X10_layerOf (o_iast (o_al 0 (o_dup (o_gf 10 14 (k_X10_goes_110 κ)))))))))))))))))))))))))))))))
theorem l_X10_goes_59 : gb_Li (fun κ => k_X10_goes_59 κ) := (gb_li (q_pf 10 15) (gb_li (q_al 0) (gb_li (q_gf 10 11) (gb_li (q_al 0) (gb_li (q_gf 10 14) (gb_li (q_al 0) (gb_li (q_il 1) (gb_li (q_ci 0) (gb_li (q_ci 0) (gb_li (q_cv 3 10 1 f_X10_layerOf) (gb_li q_iast (gb_li (q_al 0) (gb_li (q_gf 10 12) (gb_li (q_al 0) (gb_li (q_gf 10 14) (gb_li (q_il 4) (gb_li q_iast (gb_li (q_al 0) (gb_li (q_gf 10 13) (gb_li (q_al 0) (gb_li (q_gf 10 14) (gb_li (q_al 0) (gb_li (q_il 1) (gb_li (q_ci 0) (gb_li (q_ci 2) (gb_li (q_cv 3 10 1 f_X10_layerOf) (gb_li q_iast (gb_li (q_al 0) (gb_li q_dup (gb_li (q_gf 10 14) (l_X10_goes_110)))))))))))))))))))))))))))))))
theorem s_X10_goes_59   {κ : gb_K} (hκ : ∀ q, gb_S RX10 cX10_goes 7 (gb_rm 3 70) 0 q (κ q)) : gb_S RX10 cX10_goes 7 (gb_rm 3 70) 0 59 (k_X10_goes_59 κ) := (s_pf (T := TX10) winX10 rfl (Nat.le_of_ble_eq_true rfl) tyX10_ok nmX10 rfl (by decide +kernel) gw_631 rfl dX10_goes_59 (s_aln 0 rfl dX10_goes_62 (s_gf (T := TX10) winX10 rfl (Nat.le_of_ble_eq_true rfl) gw_632 rfl dX10_goes_63 (s_aln 0 rfl dX10_goes_66 (s_gf (T := TX10) winX10 rfl (Nat.le_of_ble_eq_true rfl) gw_630 rfl dX10_goes_67 (s_aln 0 rfl dX10_goes_70 (s_iln 1 rfl dX10_goes_71 (s_iconst (by decide +kernel) dX10_goes_72 (s_iconst (by decide +kernel) dX10_goes_73 (s_cv (C := RX10) c_X10_layerOf rfl (gb_l5 gw_561 gw_562 gw_563 gw_553 gw_564) v_X10_layerOf ⟨rfl, rfl⟩ ⟨Nat.le_of_ble_eq_true rfl, Nat.le_of_ble_eq_true rfl⟩ dX10_goes_74 (s_iast dX10_goes_77 (s_aln 0 rfl dX10_goes_78 (s_gf (T := TX10) winX10 rfl (Nat.le_of_ble_eq_true rfl) gw_633 rfl dX10_goes_79 (s_aln 0 rfl dX10_goes_82 (s_gf (T := TX10) winX10 rfl (Nat.le_of_ble_eq_true rfl) gw_630 rfl dX10_goes_83 (s_il dX10_goes_86 (s_iast dX10_goes_88 (s_aln 0 rfl dX10_goes_89 (s_gf (T := TX10) winX10 rfl (Nat.le_of_ble_eq_true rfl) gw_634 rfl dX10_goes_90 (s_aln 0 rfl dX10_goes_93 (s_gf (T := TX10) winX10 rfl (Nat.le_of_ble_eq_true rfl) gw_630 rfl dX10_goes_94 (s_aln 0 rfl dX10_goes_97 (s_iln 1 rfl dX10_goes_98 (s_iconst (by decide +kernel) dX10_goes_99 (s_iconst (by decide +kernel) dX10_goes_100 (s_cv (C := RX10) c_X10_layerOf rfl (gb_l5 gw_561 gw_562 gw_563 gw_553 gw_564) v_X10_layerOf ⟨rfl, rfl⟩ ⟨Nat.le_of_ble_eq_true rfl, Nat.le_of_ble_eq_true rfl⟩ dX10_goes_101 (s_iast dX10_goes_104 (s_aln 0 rfl dX10_goes_105 (s_dup dX10_goes_106 (s_gf (T := TX10) winX10 rfl (Nat.le_of_ble_eq_true rfl) gw_630 rfl dX10_goes_107 (s_X10_goes_110 hκ)))))))))))))))))))))))))))))))
noncomputable def k_X10_goes_12 (κ : gb_K) : gb_C := (o_il 3 (o_zle o_rv (o_il 3 (o_al 0 (o_il 1 (o_ci 0 (o_ci 1 (o_cv 3 10 1 f_X10_layerOf (o_mmin (o_is 4 (o_al 0 (o_il 1 (o_ci 0 (o_cv 2 10 1 f_X10_unit (o_is 5 (o_al 0 (o_al 0 (o_gf 10 14 (o_zeq (o_il 5 (k_X10_goes_59 κ)) (o_al 0 (o_gf 10 15 (o_il 5 (o_mmin (k_X10_goes_59 κ))))))))))))))))))))))))
theorem l_X10_goes_12 : gb_Li (fun κ => k_X10_goes_12 κ) := (gb_li (q_il 3) (q_zle (gb_li0 _) (gb_li (q_il 3) (gb_li (q_al 0) (gb_li (q_il 1) (gb_li (q_ci 0) (gb_li (q_ci 1) (gb_li (q_cv 3 10 1 f_X10_layerOf) (gb_li q_mmin (gb_li (q_is 4) (gb_li (q_al 0) (gb_li (q_il 1) (gb_li (q_ci 0) (gb_li (q_cv 2 10 1 f_X10_unit) (gb_li (q_is 5) (gb_li (q_al 0) (gb_li (q_al 0) (gb_li (q_gf 10 14) (q_zeq (gb_li (q_il 5) (l_X10_goes_59)) (gb_li (q_al 0) (gb_li (q_gf 10 15) (gb_li (q_il 5) (gb_li q_mmin (l_X10_goes_59))))))))))))))))))))))))
theorem s_X10_goes_12   {κ : gb_K} (hκ : ∀ q, gb_S RX10 cX10_goes 7 (gb_rm 3 70) 0 q (κ q)) : gb_S RX10 cX10_goes 7 (gb_rm 3 70) 0 12 (k_X10_goes_12 κ) := (s_iln 3 rfl dX10_goes_12 (s_zle (tgt := 237) (by decide +kernel) dX10_goes_13 (s_rv rfl dX10_goes_237) (s_iln 3 rfl dX10_goes_16 (s_aln 0 rfl dX10_goes_17 (s_iln 1 rfl dX10_goes_18 (s_iconst (by decide +kernel) dX10_goes_19 (s_iconst (by decide +kernel) dX10_goes_20 (s_cv (C := RX10) c_X10_layerOf rfl (gb_l5 gw_561 gw_562 gw_563 gw_553 gw_564) v_X10_layerOf ⟨rfl, rfl⟩ ⟨Nat.le_of_ble_eq_true rfl, Nat.le_of_ble_eq_true rfl⟩ dX10_goes_21 (s_mmin ⟨Nat.le_of_ble_eq_true rfl, Nat.le_of_ble_eq_true rfl⟩ (gb_l4 gw_589 gw_95 gw_17 gw_96) dX10_goes_24 (s_is (Nat.le_of_ble_eq_true rfl) dX10_goes_27 (s_aln 0 rfl dX10_goes_29 (s_iln 1 rfl dX10_goes_30 (s_iconst (by decide +kernel) dX10_goes_31 (s_cv (C := RX10) c_X10_unit rfl (gb_l5 gw_635 gw_636 gw_637 gw_553 gw_638) v_X10_unit ⟨rfl, rfl⟩ ⟨Nat.le_of_ble_eq_true rfl, Nat.le_of_ble_eq_true rfl⟩ dX10_goes_32 (s_is (Nat.le_of_ble_eq_true rfl) dX10_goes_35 (s_aln 0 rfl dX10_goes_37 (s_aln 0 rfl dX10_goes_38 (s_gf (T := TX10) winX10 rfl (Nat.le_of_ble_eq_true rfl) gw_630 rfl dX10_goes_39 (s_zne (tgt := 50) (by decide +kernel) dX10_goes_42 (s_aln 0 rfl dX10_goes_50 (s_gf (T := TX10) winX10 rfl (Nat.le_of_ble_eq_true rfl) gw_631 rfl dX10_goes_51 (s_il dX10_goes_54 (s_mmin ⟨Nat.le_of_ble_eq_true rfl, Nat.le_of_ble_eq_true rfl⟩ (gb_l4 gw_589 gw_95 gw_17 gw_96) dX10_goes_56 (s_X10_goes_59 hκ))))) (s_il dX10_goes_45 (s_goto (tgt := 59) (by decide +kernel) dX10_goes_47 (s_X10_goes_59 hκ))))))))))))))))))))))
noncomputable def k_X10_goes_228 (κ : gb_K) : gb_C := (o_inc 6 1 (o_j [0, 1, 3, 6] (κ 181)))
theorem l_X10_goes_228 : gb_Li (fun κ => k_X10_goes_228 κ) := (gb_li (q_inc 6 1) (q_j [0, 1, 3, 6] 181))
theorem s_X10_goes_228   {κ : gb_K} (hκ : ∀ q, gb_S RX10 cX10_goes 7 (gb_rm 3 70) 0 q (κ q)) : gb_S RX10 cX10_goes 7 (gb_rm 3 70) 0 228 (k_X10_goes_228 κ) := (s_inc (by decide +kernel) (Nat.le_of_ble_eq_true rfl) dX10_goes_228 (s_goto (tgt := 181) (by decide +kernel) dX10_goes_231 (s_j (hκ 181))))
noncomputable def k_X10_goes_181 (κ : gb_K) : gb_C := (o_il 6 (o_al 0 (o_il 1 (o_cv 1 10 1 f_X10_many (o_cge (o_j [0, 1, 3] (κ 12)) (o_al 0 (o_il 1 (o_il 6 (o_al 0 (o_il 1 (o_il 6 (o_ci 1 (o_ib (fun x y => x + y) (o_ci 0 (o_cv 3 10 1 f_X10_layerOf (o_al 0 (o_il 1 (o_il 6 (o_ci 1 (o_ib (fun x y => x + y) (o_ci 1 (o_cv 3 10 1 f_X10_layerOf (o_al 0 (o_il 1 (o_il 6 (o_ci 1 (o_ib (fun x y => x + y) (o_ci 2 (o_cv 3 10 1 f_X10_layerOf (o_cv 5 10 0 f_X10_sets (k_X10_goes_228 κ)))))))))))))))))))))))))))))))
theorem l_X10_goes_181 : gb_Li (fun κ => k_X10_goes_181 κ) := (gb_li (q_il 6) (gb_li (q_al 0) (gb_li (q_il 1) (gb_li (q_cv 1 10 1 f_X10_many) (q_cge (q_j [0, 1, 3] 12) (gb_li (q_al 0) (gb_li (q_il 1) (gb_li (q_il 6) (gb_li (q_al 0) (gb_li (q_il 1) (gb_li (q_il 6) (gb_li (q_ci 1) (gb_li (q_ib _) (gb_li (q_ci 0) (gb_li (q_cv 3 10 1 f_X10_layerOf) (gb_li (q_al 0) (gb_li (q_il 1) (gb_li (q_il 6) (gb_li (q_ci 1) (gb_li (q_ib _) (gb_li (q_ci 1) (gb_li (q_cv 3 10 1 f_X10_layerOf) (gb_li (q_al 0) (gb_li (q_il 1) (gb_li (q_il 6) (gb_li (q_ci 1) (gb_li (q_ib _) (gb_li (q_ci 2) (gb_li (q_cv 3 10 1 f_X10_layerOf) (gb_li (q_cv 5 10 0 f_X10_sets) (l_X10_goes_228)))))))))))))))))))))))))))))))
theorem s_X10_goes_181   {κ : gb_K} (hκ : ∀ q, gb_S RX10 cX10_goes 7 (gb_rm 3 70) 0 q (κ q)) : gb_S RX10 cX10_goes 7 (gb_rm 3 70) 0 181 (k_X10_goes_181 κ) := (s_il dX10_goes_181 (s_aln 0 rfl dX10_goes_183 (s_iln 1 rfl dX10_goes_184 (s_cv (C := RX10) c_X10_many rfl (gb_l5 gw_557 gw_558 gw_559 gw_553 gw_560) v_X10_many ⟨rfl, rfl⟩ ⟨Nat.le_of_ble_eq_true rfl, Nat.le_of_ble_eq_true rfl⟩ dX10_goes_185 (s_cge (tgt := 234) (by decide +kernel) dX10_goes_188 (s_goto (tgt := 12) (by decide +kernel) dX10_goes_234 (s_j (hκ 12))) (s_aln 0 rfl dX10_goes_191 (s_iln 1 rfl dX10_goes_192 (s_il dX10_goes_193 (s_aln 0 rfl dX10_goes_195 (s_iln 1 rfl dX10_goes_196 (s_il dX10_goes_197 (s_iconst (by decide +kernel) dX10_goes_199 (s_iadd dX10_goes_200 (s_iconst (by decide +kernel) dX10_goes_201 (s_cv (C := RX10) c_X10_layerOf rfl (gb_l5 gw_561 gw_562 gw_563 gw_553 gw_564) v_X10_layerOf ⟨rfl, rfl⟩ ⟨Nat.le_of_ble_eq_true rfl, Nat.le_of_ble_eq_true rfl⟩ dX10_goes_202 (s_aln 0 rfl dX10_goes_205 (s_iln 1 rfl dX10_goes_206 (s_il dX10_goes_207 (s_iconst (by decide +kernel) dX10_goes_209 (s_iadd dX10_goes_210 (s_iconst (by decide +kernel) dX10_goes_211 (s_cv (C := RX10) c_X10_layerOf rfl (gb_l5 gw_561 gw_562 gw_563 gw_553 gw_564) v_X10_layerOf ⟨rfl, rfl⟩ ⟨Nat.le_of_ble_eq_true rfl, Nat.le_of_ble_eq_true rfl⟩ dX10_goes_212 (s_aln 0 rfl dX10_goes_215 (s_iln 1 rfl dX10_goes_216 (s_il dX10_goes_217 (s_iconst (by decide +kernel) dX10_goes_219 (s_iadd dX10_goes_220 (s_iconst (by decide +kernel) dX10_goes_221 (s_cv (C := RX10) c_X10_layerOf rfl (gb_l5 gw_561 gw_562 gw_563 gw_553 gw_564) v_X10_layerOf ⟨rfl, rfl⟩ ⟨Nat.le_of_ble_eq_true rfl, Nat.le_of_ble_eq_true rfl⟩ dX10_goes_222 (s_cv (C := RX10) c_X10_sets rfl (gb_l5 gw_626 gw_627 gw_628 gw_553 gw_629) v_X10_sets ⟨rfl, rfl⟩ ⟨Nat.le_of_ble_eq_true rfl, Nat.le_of_ble_eq_true rfl⟩ dX10_goes_225 (s_X10_goes_228 hκ)))))))))))))))))))))))))))))))
noncomputable def B_X10_goes : List (Nat × (gb_K → gb_C)) := [(12, fun κ => k_X10_goes_12 κ), (181, fun κ => k_X10_goes_181 κ)]
noncomputable def K_X10_goes : gb_K := gb_fx (gb_tb (B_X10_goes))
theorem L_X10_goes : ∀ q, gb_Li (fun κ => gb_tb (B_X10_goes) κ q) := gb_tb_li (List.forall_mem_cons.mpr ⟨l_X10_goes_12, List.forall_mem_cons.mpr ⟨l_X10_goes_181, (fun _ h => absurd h List.not_mem_nil)⟩⟩)
theorem S_X10_goes   : ∀ q, gb_S RX10 cX10_goes 7 (gb_rm 3 70) 0 q (K_X10_goes q) := fun q => gb_fx_S (L_X10_goes) (gb_tb_S (List.forall_mem_cons.mpr ⟨fun κ hκ => s_X10_goes_12 hκ, List.forall_mem_cons.mpr ⟨fun κ hκ => s_X10_goes_181 hκ, (fun _ h => absurd h List.not_mem_nil)⟩⟩)) q
noncomputable def f_X10_goes : gb_F := gb_hide (gb_mf 7 (k_X10_goes_0 (K_X10_goes)))
theorem c_X10_goes : ∀ l, gb_Met l yX10_goes cX10_goes 7 none 0 (gb_rm 3 70) f_X10_goes := gb_hide_c (gb_met (own := RX10) (rk := 0) rfl (by decide +kernel) ⟨rfl, rfl⟩ (s_X10_goes_0 (S_X10_goes)))
theorem dX10_counts_0 : decode cX10_counts 0 = .ok (.aload_n 0, 1) := by decide +kernel
theorem dX10_counts_1 : decode cX10_counts 1 = .ok (.getfield 7, 3) := by decide +kernel
theorem dX10_counts_4 : decode cX10_counts 4 = .ok (.sipush 175, 3) := by decide +kernel
theorem dX10_counts_7 : decode cX10_counts 7 = .ok (.ldc2_w 162, 3) := by decide +kernel
theorem dX10_counts_10 : decode cX10_counts 10 = .ok (.aload_n 0, 1) := by decide +kernel
theorem dX10_counts_11 : decode cX10_counts 11 = .ok (.getfield 7, 3) := by decide +kernel
theorem dX10_counts_14 : decode cX10_counts 14 = .ok (.sipush 175, 3) := by decide +kernel
theorem dX10_counts_17 : decode cX10_counts 17 = .ok (.iaload, 1) := by decide +kernel
theorem dX10_counts_18 : decode cX10_counts 18 = .ok (.i2l, 1) := by decide +kernel
theorem dX10_counts_19 : decode cX10_counts 19 = .ok (.iload_n 1, 1) := by decide +kernel
theorem dX10_counts_20 : decode cX10_counts 20 = .ok (.i2l, 1) := by decide +kernel
theorem dX10_counts_21 : decode cX10_counts 21 = .ok (.ladd, 1) := by decide +kernel
theorem dX10_counts_22 : decode cX10_counts 22 = .ok (.invokestatic 164, 3) := by decide +kernel
theorem dX10_counts_25 : decode cX10_counts 25 = .ok (.l2i, 1) := by decide +kernel
theorem dX10_counts_26 : decode cX10_counts 26 = .ok (.iastore, 1) := by decide +kernel
theorem dX10_counts_27 : decode cX10_counts 27 = .ok (.return_, 1) := by decide +kernel
theorem v_X10_counts : yX10_counts.cls = RX10 ∧ yX10_counts.cls ≠ "java/lang/invoke/MethodHandle" ∧ yX10_counts.cls ≠ "java/lang/invoke/VarHandle" ∧ (parseMethodDescriptor yX10_counts.desc).map (fun d => d.parameters.length) = some 1 := ⟨rfl, by decide +kernel, by decide +kernel, by decide +kernel⟩
noncomputable def k_X10_counts_0 (κ : gb_K) : gb_C := (o_al 0 (o_gf 10 0 (o_ci 175 (o_cl 2000000000 (o_al 0 (o_gf 10 0 (o_ci 175 (o_iald (o_i2l (o_il 1 (o_i2l (o_lb (fun x y => x + y) (o_mminl (o_l2i (o_iast o_rv)))))))))))))))
theorem l_X10_counts_0 : gb_Li (fun κ => k_X10_counts_0 κ) := (gb_li (q_al 0) (gb_li (q_gf 10 0) (gb_li (q_ci 175) (gb_li (q_cl 2000000000) (gb_li (q_al 0) (gb_li (q_gf 10 0) (gb_li (q_ci 175) (gb_li q_iald (gb_li q_i2l (gb_li (q_il 1) (gb_li q_i2l (gb_li (q_lb _) (gb_li q_mminl (gb_li q_l2i (gb_li q_iast (gb_li0 _))))))))))))))))
theorem s_X10_counts_0   {κ : gb_K} (hκ : ∀ q, gb_S RX10 cX10_counts 2 (gb_rm 1 23) 0 q (κ q)) : gb_S RX10 cX10_counts 2 (gb_rm 1 23) 0 0 (k_X10_counts_0 κ) := (s_aln 0 rfl dX10_counts_0 (s_gf (T := TX10) winX10 rfl (Nat.le_of_ble_eq_true rfl) gw_545 rfl dX10_counts_1 (s_sipush (by decide +kernel) dX10_counts_4 (s_ldc2 gw_639 dX10_counts_7 (s_aln 0 rfl dX10_counts_10 (s_gf (T := TX10) winX10 rfl (Nat.le_of_ble_eq_true rfl) gw_545 rfl dX10_counts_11 (s_sipush (by decide +kernel) dX10_counts_14 (s_iald dX10_counts_17 (s_i2l dX10_counts_18 (s_iln 1 rfl dX10_counts_19 (s_i2l dX10_counts_20 (s_ladd dX10_counts_21 (s_mminl ⟨Nat.le_of_ble_eq_true rfl, Nat.le_of_ble_eq_true rfl⟩ (gb_l4 gw_640 gw_641 gw_17 gw_642) dX10_counts_22 (s_l2i dX10_counts_25 (s_iast dX10_counts_26 (s_rv rfl dX10_counts_27))))))))))))))))
noncomputable def f_X10_counts : gb_F := gb_hide (gb_mf 2 (k_X10_counts_0 gb_n))
theorem c_X10_counts : ∀ l, gb_Met l yX10_counts cX10_counts 2 none 0 (gb_rm 1 23) f_X10_counts := gb_hide_c (gb_met (own := RX10) (rk := 0) rfl (by decide +kernel) ⟨rfl, rfl⟩ (s_X10_counts_0 gb_S_n))
theorem dX10_begin_0 : decode cX10_begin 0 = .ok (.aload_n 0, 1) := by decide +kernel
theorem dX10_begin_1 : decode cX10_begin 1 = .ok (.aload_n 0, 1) := by decide +kernel
theorem dX10_begin_2 : decode cX10_begin 2 = .ok (.getfield 73, 3) := by decide +kernel
theorem dX10_begin_5 : decode cX10_begin 5 = .ok (.putfield 167, 3) := by decide +kernel
theorem dX10_begin_8 : decode cX10_begin 8 = .ok (.aload_n 0, 1) := by decide +kernel
theorem dX10_begin_9 : decode cX10_begin 9 = .ok (.iconst 0, 1) := by decide +kernel
theorem dX10_begin_10 : decode cX10_begin 10 = .ok (.putfield 73, 3) := by decide +kernel
theorem dX10_begin_13 : decode cX10_begin 13 = .ok (.aload_n 0, 1) := by decide +kernel
theorem dX10_begin_14 : decode cX10_begin 14 = .ok (.iconst 0, 1) := by decide +kernel
theorem dX10_begin_15 : decode cX10_begin 15 = .ok (.putfield 170, 3) := by decide +kernel
theorem dX10_begin_18 : decode cX10_begin 18 = .ok (.aload_n 0, 1) := by decide +kernel
theorem dX10_begin_19 : decode cX10_begin 19 = .ok (.iconst (-1), 1) := by decide +kernel
theorem dX10_begin_20 : decode cX10_begin 20 = .ok (.putfield 173, 3) := by decide +kernel
theorem dX10_begin_23 : decode cX10_begin 23 = .ok (.return_, 1) := by decide +kernel
theorem v_X10_begin : yX10_begin.cls = RX10 ∧ yX10_begin.cls ≠ "java/lang/invoke/MethodHandle" ∧ yX10_begin.cls ≠ "java/lang/invoke/VarHandle" ∧ (parseMethodDescriptor yX10_begin.desc).map (fun d => d.parameters.length) = some 0 := ⟨rfl, by decide +kernel, by decide +kernel, by decide +kernel⟩
noncomputable def k_X10_begin_0 (κ : gb_K) : gb_C := (o_al 0 (o_al 0 (o_gf 10 7 (o_pf 10 16 (o_al 0 (o_ci 0 (o_pf 10 7 (o_al 0 (o_ci 0 (o_pf 10 17 (o_al 0 (o_ci (-1) (o_pf 10 18 o_rv)))))))))))))
theorem l_X10_begin_0 : gb_Li (fun κ => k_X10_begin_0 κ) := (gb_li (q_al 0) (gb_li (q_al 0) (gb_li (q_gf 10 7) (gb_li (q_pf 10 16) (gb_li (q_al 0) (gb_li (q_ci 0) (gb_li (q_pf 10 7) (gb_li (q_al 0) (gb_li (q_ci 0) (gb_li (q_pf 10 17) (gb_li (q_al 0) (gb_li (q_ci (-1)) (gb_li (q_pf 10 18) (gb_li0 _))))))))))))))
theorem s_X10_begin_0   {κ : gb_K} (hκ : ∀ q, gb_S RX10 cX10_begin 1 (gb_rm 0 0) 0 q (κ q)) : gb_S RX10 cX10_begin 1 (gb_rm 0 0) 0 0 (k_X10_begin_0 κ) := (s_aln 0 rfl dX10_begin_0 (s_aln 0 rfl dX10_begin_1 (s_gf (T := TX10) winX10 rfl (Nat.le_of_ble_eq_true rfl) gw_549 rfl dX10_begin_2 (s_pf (T := TX10) winX10 rfl (Nat.le_of_ble_eq_true rfl) tyX10_ok nmX10 rfl (by decide +kernel) gw_643 rfl dX10_begin_5 (s_aln 0 rfl dX10_begin_8 (s_iconst (by decide +kernel) dX10_begin_9 (s_pf (T := TX10) winX10 rfl (Nat.le_of_ble_eq_true rfl) tyX10_ok nmX10 rfl (by decide +kernel) gw_549 rfl dX10_begin_10 (s_aln 0 rfl dX10_begin_13 (s_iconst (by decide +kernel) dX10_begin_14 (s_pf (T := TX10) winX10 rfl (Nat.le_of_ble_eq_true rfl) tyX10_ok nmX10 rfl (by decide +kernel) gw_644 rfl dX10_begin_15 (s_aln 0 rfl dX10_begin_18 (s_iconst (by decide +kernel) dX10_begin_19 (s_pf (T := TX10) winX10 rfl (Nat.le_of_ble_eq_true rfl) tyX10_ok nmX10 rfl (by decide +kernel) gw_645 rfl dX10_begin_20 (s_rv rfl dX10_begin_23))))))))))))))
noncomputable def f_X10_begin : gb_F := gb_hide (gb_mf 1 (k_X10_begin_0 gb_n))
theorem c_X10_begin : ∀ l, gb_Met l yX10_begin cX10_begin 1 none 0 (gb_rm 0 0) f_X10_begin := gb_hide_c (gb_met (own := RX10) (rk := 0) rfl (by decide +kernel) ⟨rfl, rfl⟩ (s_X10_begin_0 gb_S_n))
theorem dX10_sees_0 : decode cX10_sees 0 = .ok (.aload_n 0, 1) := by decide +kernel
theorem dX10_sees_1 : decode cX10_sees 1 = .ok (.getfield 170, 3) := by decide +kernel
theorem dX10_sees_4 : decode cX10_sees 4 = .ok (.aload_n 0, 1) := by decide +kernel
theorem dX10_sees_5 : decode cX10_sees 5 = .ok (.getfield 167, 3) := by decide +kernel
theorem dX10_sees_8 : decode cX10_sees 8 = .ok (.if_icmp .ge 19, 3) := by decide +kernel
theorem dX10_sees_11 : decode cX10_sees 11 = .ok (.aload_n 0, 1) := by decide +kernel
theorem dX10_sees_12 : decode cX10_sees 12 = .ok (.getfield 22, 3) := by decide +kernel
theorem dX10_sees_15 : decode cX10_sees 15 = .ok (.aload_n 0, 1) := by decide +kernel
theorem dX10_sees_16 : decode cX10_sees 16 = .ok (.getfield 170, 3) := by decide +kernel
theorem dX10_sees_19 : decode cX10_sees 19 = .ok (.baload, 1) := by decide +kernel
theorem dX10_sees_20 : decode cX10_sees 20 = .ok (.sipush 255, 3) := by decide +kernel
theorem dX10_sees_23 : decode cX10_sees 23 = .ok (.iand, 1) := by decide +kernel
theorem dX10_sees_24 : decode cX10_sees 24 = .ok (.goto 4, 3) := by decide +kernel
theorem dX10_sees_27 : decode cX10_sees 27 = .ok (.iconst (-1), 1) := by decide +kernel
theorem dX10_sees_28 : decode cX10_sees 28 = .ok (.ireturn, 1) := by decide +kernel
theorem v_X10_sees : yX10_sees.cls = RX10 ∧ yX10_sees.cls ≠ "java/lang/invoke/MethodHandle" ∧ yX10_sees.cls ≠ "java/lang/invoke/VarHandle" ∧ (parseMethodDescriptor yX10_sees.desc).map (fun d => d.parameters.length) = some 0 := ⟨rfl, by decide +kernel, by decide +kernel, by decide +kernel⟩
noncomputable def k_X10_sees_28 (κ : gb_K) : gb_C := o_ri
theorem l_X10_sees_28 : gb_Li (fun κ => k_X10_sees_28 κ) := (gb_li0 _)
theorem s_X10_sees_28   {κ : gb_K} (hκ : ∀ q, gb_S RX10 cX10_sees 1 (gb_rm 0 0) 1 q (κ q)) : gb_S RX10 cX10_sees 1 (gb_rm 0 0) 1 28 (k_X10_sees_28 κ) := (s_ri rfl dX10_sees_28)
noncomputable def k_X10_sees_0 (κ : gb_K) : gb_C := (o_al 0 (o_gf 10 17 (o_al 0 (o_gf 10 16 (o_cge (o_ci (-1) (k_X10_sees_28 κ)) (o_al 0 (o_gf 10 6 (o_al 0 (o_gf 10 17 (o_bald (o_ci 255 (o_ib (fun x y => x &&& y) (k_X10_sees_28 κ)))))))))))))
theorem l_X10_sees_0 : gb_Li (fun κ => k_X10_sees_0 κ) := (gb_li (q_al 0) (gb_li (q_gf 10 17) (gb_li (q_al 0) (gb_li (q_gf 10 16) (q_cge (gb_li (q_ci (-1)) (l_X10_sees_28)) (gb_li (q_al 0) (gb_li (q_gf 10 6) (gb_li (q_al 0) (gb_li (q_gf 10 17) (gb_li q_bald (gb_li (q_ci 255) (gb_li (q_ib _) (l_X10_sees_28)))))))))))))
theorem s_X10_sees_0   {κ : gb_K} (hκ : ∀ q, gb_S RX10 cX10_sees 1 (gb_rm 0 0) 1 q (κ q)) : gb_S RX10 cX10_sees 1 (gb_rm 0 0) 1 0 (k_X10_sees_0 κ) := (s_aln 0 rfl dX10_sees_0 (s_gf (T := TX10) winX10 rfl (Nat.le_of_ble_eq_true rfl) gw_644 rfl dX10_sees_1 (s_aln 0 rfl dX10_sees_4 (s_gf (T := TX10) winX10 rfl (Nat.le_of_ble_eq_true rfl) gw_643 rfl dX10_sees_5 (s_cge (tgt := 27) (by decide +kernel) dX10_sees_8 (s_iconst (by decide +kernel) dX10_sees_27 (s_X10_sees_28 hκ)) (s_aln 0 rfl dX10_sees_11 (s_gf (T := TX10) winX10 rfl (Nat.le_of_ble_eq_true rfl) gw_550 rfl dX10_sees_12 (s_aln 0 rfl dX10_sees_15 (s_gf (T := TX10) winX10 rfl (Nat.le_of_ble_eq_true rfl) gw_644 rfl dX10_sees_16 (s_bald dX10_sees_19 (s_sipush (by decide +kernel) dX10_sees_20 (s_iand dX10_sees_23 (s_goto (tgt := 28) (by decide +kernel) dX10_sees_24 (s_X10_sees_28 hκ))))))))))))))
noncomputable def f_X10_sees : gb_F := gb_hide (gb_mf 1 (k_X10_sees_0 gb_n))
theorem c_X10_sees : ∀ l, gb_Met l yX10_sees cX10_sees 1 (some .int) 1 (gb_rm 0 0) f_X10_sees := gb_hide_c (gb_met (own := RX10) (rk := 1) rfl (by decide +kernel) ⟨rfl, rfl⟩ (s_X10_sees_0 gb_S_n))
theorem dX10_fault_0 : decode cX10_fault 0 = .ok (.aload_n 0, 1) := by decide +kernel
theorem dX10_fault_1 : decode cX10_fault 1 = .ok (.getfield 173, 3) := by decide +kernel
theorem dX10_fault_4 : decode cX10_fault 4 = .ok (.iconst (-1), 1) := by decide +kernel
theorem dX10_fault_5 : decode cX10_fault 5 = .ok (.if_icmp .ne 8, 3) := by decide +kernel
theorem dX10_fault_8 : decode cX10_fault 8 = .ok (.aload_n 0, 1) := by decide +kernel
theorem dX10_fault_9 : decode cX10_fault 9 = .ok (.iload_n 1, 1) := by decide +kernel
theorem dX10_fault_10 : decode cX10_fault 10 = .ok (.putfield 173, 3) := by decide +kernel
theorem dX10_fault_13 : decode cX10_fault 13 = .ok (.return_, 1) := by decide +kernel
theorem v_X10_fault : yX10_fault.cls = RX10 ∧ yX10_fault.cls ≠ "java/lang/invoke/MethodHandle" ∧ yX10_fault.cls ≠ "java/lang/invoke/VarHandle" ∧ (parseMethodDescriptor yX10_fault.desc).map (fun d => d.parameters.length) = some 1 := ⟨rfl, by decide +kernel, by decide +kernel, by decide +kernel⟩
noncomputable def k_X10_fault_13 (κ : gb_K) : gb_C := o_rv
theorem l_X10_fault_13 : gb_Li (fun κ => k_X10_fault_13 κ) := (gb_li0 _)
theorem s_X10_fault_13   {κ : gb_K} (hκ : ∀ q, gb_S RX10 cX10_fault 2 (gb_rm 0 0) 0 q (κ q)) : gb_S RX10 cX10_fault 2 (gb_rm 0 0) 0 13 (k_X10_fault_13 κ) := (s_rv rfl dX10_fault_13)
noncomputable def k_X10_fault_0 (κ : gb_K) : gb_C := (o_al 0 (o_gf 10 18 (o_ci (-1) (o_ceq (o_al 0 (o_il 1 (o_pf 10 18 (k_X10_fault_13 κ)))) (k_X10_fault_13 κ)))))
theorem l_X10_fault_0 : gb_Li (fun κ => k_X10_fault_0 κ) := (gb_li (q_al 0) (gb_li (q_gf 10 18) (gb_li (q_ci (-1)) (q_ceq (gb_li (q_al 0) (gb_li (q_il 1) (gb_li (q_pf 10 18) (l_X10_fault_13)))) (l_X10_fault_13)))))
theorem s_X10_fault_0   {κ : gb_K} (hκ : ∀ q, gb_S RX10 cX10_fault 2 (gb_rm 0 0) 0 q (κ q)) : gb_S RX10 cX10_fault 2 (gb_rm 0 0) 0 0 (k_X10_fault_0 κ) := (s_aln 0 rfl dX10_fault_0 (s_gf (T := TX10) winX10 rfl (Nat.le_of_ble_eq_true rfl) gw_645 rfl dX10_fault_1 (s_iconst (by decide +kernel) dX10_fault_4 (s_cne (tgt := 13) (by decide +kernel) dX10_fault_5 (s_X10_fault_13 hκ) (s_aln 0 rfl dX10_fault_8 (s_iln 1 rfl dX10_fault_9 (s_pf (T := TX10) winX10 rfl (Nat.le_of_ble_eq_true rfl) tyX10_ok nmX10 rfl (by decide +kernel) gw_645 rfl dX10_fault_10 (s_X10_fault_13 hκ))))))))
noncomputable def f_X10_fault : gb_F := gb_hide (gb_mf 2 (k_X10_fault_0 gb_n))
theorem c_X10_fault : ∀ l, gb_Met l yX10_fault cX10_fault 2 none 0 (gb_rm 0 0) f_X10_fault := gb_hide_c (gb_met (own := RX10) (rk := 0) rfl (by decide +kernel) ⟨rfl, rfl⟩ (s_X10_fault_0 gb_S_n))
theorem dX10_expect_0 : decode cX10_expect 0 = .ok (.aload_n 0, 1) := by decide +kernel
theorem dX10_expect_1 : decode cX10_expect 1 = .ok (.getfield 173, 3) := by decide +kernel
theorem dX10_expect_4 : decode cX10_expect 4 = .ok (.iconst (-1), 1) := by decide +kernel
theorem dX10_expect_5 : decode cX10_expect 5 = .ok (.if_icmp .eq 4, 3) := by decide +kernel
theorem dX10_expect_8 : decode cX10_expect 8 = .ok (.return_, 1) := by decide +kernel
theorem dX10_expect_9 : decode cX10_expect 9 = .ok (.aload_n 0, 1) := by decide +kernel
theorem dX10_expect_10 : decode cX10_expect 10 = .ok (.invokevirtual 176, 3) := by decide +kernel
theorem dX10_expect_13 : decode cX10_expect 13 = .ok (.iload_n 1, 1) := by decide +kernel
theorem dX10_expect_14 : decode cX10_expect 14 = .ok (.if_icmp .ne 16, 3) := by decide +kernel
theorem dX10_expect_17 : decode cX10_expect 17 = .ok (.aload_n 0, 1) := by decide +kernel
theorem dX10_expect_18 : decode cX10_expect 18 = .ok (.dup, 1) := by decide +kernel
theorem dX10_expect_19 : decode cX10_expect 19 = .ok (.getfield 170, 3) := by decide +kernel
theorem dX10_expect_22 : decode cX10_expect 22 = .ok (.iconst 1, 1) := by decide +kernel
theorem dX10_expect_23 : decode cX10_expect 23 = .ok (.iadd, 1) := by decide +kernel
theorem dX10_expect_24 : decode cX10_expect 24 = .ok (.putfield 170, 3) := by decide +kernel
theorem dX10_expect_27 : decode cX10_expect 27 = .ok (.goto 11, 3) := by decide +kernel
theorem dX10_expect_30 : decode cX10_expect 30 = .ok (.aload_n 0, 1) := by decide +kernel
theorem dX10_expect_31 : decode cX10_expect 31 = .ok (.aload_n 0, 1) := by decide +kernel
theorem dX10_expect_32 : decode cX10_expect 32 = .ok (.getfield 170, 3) := by decide +kernel
theorem dX10_expect_35 : decode cX10_expect 35 = .ok (.invokevirtual 180, 3) := by decide +kernel
theorem dX10_expect_38 : decode cX10_expect 38 = .ok (.return_, 1) := by decide +kernel
theorem v_X10_expect : yX10_expect.cls = RX10 ∧ yX10_expect.cls ≠ "java/lang/invoke/MethodHandle" ∧ yX10_expect.cls ≠ "java/lang/invoke/VarHandle" ∧ (parseMethodDescriptor yX10_expect.desc).map (fun d => d.parameters.length) = some 1 := ⟨rfl, by decide +kernel, by decide +kernel, by decide +kernel⟩
noncomputable def k_X10_expect_38 (κ : gb_K) : gb_C := o_rv
theorem l_X10_expect_38 : gb_Li (fun κ => k_X10_expect_38 κ) := (gb_li0 _)
theorem s_X10_expect_38   {κ : gb_K} (hκ : ∀ q, gb_S RX10 cX10_expect 2 (gb_rm 1 21) 0 q (κ q)) : gb_S RX10 cX10_expect 2 (gb_rm 1 21) 0 38 (k_X10_expect_38 κ) := (s_rv rfl dX10_expect_38)
noncomputable def k_X10_expect_0 (κ : gb_K) : gb_C := (o_al 0 (o_gf 10 18 (o_ci (-1) (o_ceq (o_al 0 (o_cv 0 10 1 f_X10_sees (o_il 1 (o_ceq (o_al 0 (o_dup (o_gf 10 17 (o_ci 1 (o_ib (fun x y => x + y) (o_pf 10 17 (k_X10_expect_38 κ))))))) (o_al 0 (o_al 0 (o_gf 10 17 (o_cv 1 10 0 f_X10_fault (k_X10_expect_38 κ))))))))) o_rv))))
theorem l_X10_expect_0 : gb_Li (fun κ => k_X10_expect_0 κ) := (gb_li (q_al 0) (gb_li (q_gf 10 18) (gb_li (q_ci (-1)) (q_ceq (gb_li (q_al 0) (gb_li (q_cv 0 10 1 f_X10_sees) (gb_li (q_il 1) (q_ceq (gb_li (q_al 0) (gb_li q_dup (gb_li (q_gf 10 17) (gb_li (q_ci 1) (gb_li (q_ib _) (gb_li (q_pf 10 17) (l_X10_expect_38))))))) (gb_li (q_al 0) (gb_li (q_al 0) (gb_li (q_gf 10 17) (gb_li (q_cv 1 10 0 f_X10_fault) (l_X10_expect_38))))))))) (gb_li0 _)))))
theorem s_X10_expect_0   {κ : gb_K} (hκ : ∀ q, gb_S RX10 cX10_expect 2 (gb_rm 1 21) 0 q (κ q)) : gb_S RX10 cX10_expect 2 (gb_rm 1 21) 0 0 (k_X10_expect_0 κ) := (s_aln 0 rfl dX10_expect_0 (s_gf (T := TX10) winX10 rfl (Nat.le_of_ble_eq_true rfl) gw_645 rfl dX10_expect_1 (s_iconst (by decide +kernel) dX10_expect_4 (s_ceq (tgt := 9) (by decide +kernel) dX10_expect_5 (s_aln 0 rfl dX10_expect_9 (s_cv (C := RX10) c_X10_sees rfl (gb_l5 gw_646 gw_647 gw_648 gw_553 gw_649) v_X10_sees ⟨rfl, rfl⟩ ⟨Nat.le_of_ble_eq_true rfl, Nat.le_of_ble_eq_true rfl⟩ dX10_expect_10 (s_iln 1 rfl dX10_expect_13 (s_cne (tgt := 30) (by decide +kernel) dX10_expect_14 (s_aln 0 rfl dX10_expect_30 (s_aln 0 rfl dX10_expect_31 (s_gf (T := TX10) winX10 rfl (Nat.le_of_ble_eq_true rfl) gw_644 rfl dX10_expect_32 (s_cv (C := RX10) c_X10_fault rfl (gb_l5 gw_650 gw_651 gw_652 gw_553 gw_653) v_X10_fault ⟨rfl, rfl⟩ ⟨Nat.le_of_ble_eq_true rfl, Nat.le_of_ble_eq_true rfl⟩ dX10_expect_35 (s_X10_expect_38 hκ))))) (s_aln 0 rfl dX10_expect_17 (s_dup dX10_expect_18 (s_gf (T := TX10) winX10 rfl (Nat.le_of_ble_eq_true rfl) gw_644 rfl dX10_expect_19 (s_iconst (by decide +kernel) dX10_expect_22 (s_iadd dX10_expect_23 (s_pf (T := TX10) winX10 rfl (Nat.le_of_ble_eq_true rfl) tyX10_ok nmX10 rfl (by decide +kernel) gw_644 rfl dX10_expect_24 (s_goto (tgt := 38) (by decide +kernel) dX10_expect_27 (s_X10_expect_38 hκ)))))))))))) (s_rv rfl dX10_expect_8)))))
noncomputable def f_X10_expect : gb_F := gb_hide (gb_mf 2 (k_X10_expect_0 gb_n))
theorem c_X10_expect : ∀ l, gb_Met l yX10_expect cX10_expect 2 none 0 (gb_rm 1 21) f_X10_expect := gb_hide_c (gb_met (own := RX10) (rk := 0) rfl (by decide +kernel) ⟨rfl, rfl⟩ (s_X10_expect_0 gb_S_n))
theorem dX10_gradeSign_0 : decode cX10_gradeSign 0 = .ok (.aload_n 0, 1) := by decide +kernel
theorem dX10_gradeSign_1 : decode cX10_gradeSign 1 = .ok (.getfield 173, 3) := by decide +kernel
theorem dX10_gradeSign_4 : decode cX10_gradeSign 4 = .ok (.iconst (-1), 1) := by decide +kernel
theorem dX10_gradeSign_5 : decode cX10_gradeSign 5 = .ok (.if_icmp .eq 5, 3) := by decide +kernel
theorem dX10_gradeSign_8 : decode cX10_gradeSign 8 = .ok (.iconst 0, 1) := by decide +kernel
theorem dX10_gradeSign_9 : decode cX10_gradeSign 9 = .ok (.ireturn, 1) := by decide +kernel
theorem dX10_gradeSign_10 : decode cX10_gradeSign 10 = .ok (.aload_n 0, 1) := by decide +kernel
theorem dX10_gradeSign_11 : decode cX10_gradeSign 11 = .ok (.invokevirtual 176, 3) := by decide +kernel
theorem dX10_gradeSign_14 : decode cX10_gradeSign 14 = .ok (.i2l, 1) := by decide +kernel
theorem dX10_gradeSign_15 : decode cX10_gradeSign 15 = .ok (.ldc2_w 184, 3) := by decide +kernel
theorem dX10_gradeSign_18 : decode cX10_gradeSign 18 = .ok (.ldc2_w 186, 3) := by decide +kernel
theorem dX10_gradeSign_21 : decode cX10_gradeSign 21 = .ok (.invokestatic 76, 3) := by decide +kernel
theorem dX10_gradeSign_24 : decode cX10_gradeSign 24 = .ok (.ifCond .ne 13, 3) := by decide +kernel
theorem dX10_gradeSign_27 : decode cX10_gradeSign 27 = .ok (.aload_n 0, 1) := by decide +kernel
theorem dX10_gradeSign_28 : decode cX10_gradeSign 28 = .ok (.aload_n 0, 1) := by decide +kernel
theorem dX10_gradeSign_29 : decode cX10_gradeSign 29 = .ok (.getfield 170, 3) := by decide +kernel
theorem dX10_gradeSign_32 : decode cX10_gradeSign 32 = .ok (.invokevirtual 180, 3) := by decide +kernel
theorem dX10_gradeSign_35 : decode cX10_gradeSign 35 = .ok (.iconst 0, 1) := by decide +kernel
theorem dX10_gradeSign_36 : decode cX10_gradeSign 36 = .ok (.ireturn, 1) := by decide +kernel
theorem dX10_gradeSign_37 : decode cX10_gradeSign 37 = .ok (.aload_n 0, 1) := by decide +kernel
theorem dX10_gradeSign_38 : decode cX10_gradeSign 38 = .ok (.dup, 1) := by decide +kernel
theorem dX10_gradeSign_39 : decode cX10_gradeSign 39 = .ok (.getfield 170, 3) := by decide +kernel
theorem dX10_gradeSign_42 : decode cX10_gradeSign 42 = .ok (.iconst 1, 1) := by decide +kernel
theorem dX10_gradeSign_43 : decode cX10_gradeSign 43 = .ok (.iadd, 1) := by decide +kernel
theorem dX10_gradeSign_44 : decode cX10_gradeSign 44 = .ok (.putfield 170, 3) := by decide +kernel
theorem dX10_gradeSign_47 : decode cX10_gradeSign 47 = .ok (.aload_n 0, 1) := by decide +kernel
theorem dX10_gradeSign_48 : decode cX10_gradeSign 48 = .ok (.getfield 22, 3) := by decide +kernel
theorem dX10_gradeSign_51 : decode cX10_gradeSign 51 = .ok (.aload_n 0, 1) := by decide +kernel
theorem dX10_gradeSign_52 : decode cX10_gradeSign 52 = .ok (.getfield 170, 3) := by decide +kernel
theorem dX10_gradeSign_55 : decode cX10_gradeSign 55 = .ok (.iconst 1, 1) := by decide +kernel
theorem dX10_gradeSign_56 : decode cX10_gradeSign 56 = .ok (.isub, 1) := by decide +kernel
theorem dX10_gradeSign_57 : decode cX10_gradeSign 57 = .ok (.baload, 1) := by decide +kernel
theorem dX10_gradeSign_58 : decode cX10_gradeSign 58 = .ok (.bipush 48, 2) := by decide +kernel
theorem dX10_gradeSign_60 : decode cX10_gradeSign 60 = .ok (.isub, 1) := by decide +kernel
theorem dX10_gradeSign_61 : decode cX10_gradeSign 61 = .ok (.ireturn, 1) := by decide +kernel
theorem v_X10_gradeSign : yX10_gradeSign.cls = RX10 ∧ yX10_gradeSign.cls ≠ "java/lang/invoke/MethodHandle" ∧ yX10_gradeSign.cls ≠ "java/lang/invoke/VarHandle" ∧ (parseMethodDescriptor yX10_gradeSign.desc).map (fun d => d.parameters.length) = some 0 := ⟨rfl, by decide +kernel, by decide +kernel, by decide +kernel⟩
noncomputable def k_X10_gradeSign_0 (κ : gb_K) : gb_C := (o_al 0 (o_gf 10 18 (o_ci (-1) (o_ceq (o_al 0 (o_cv 0 10 1 f_X10_sees (o_i2l (o_cl 48 (o_cl 53 (o_cs 3 2 f_X10_in (o_zeq (o_al 0 (o_al 0 (o_gf 10 17 (o_cv 1 10 0 f_X10_fault (o_ci 0 o_ri))))) (o_al 0 (o_dup (o_gf 10 17 (o_ci 1 (o_ib (fun x y => x + y) (o_pf 10 17 (o_al 0 (o_gf 10 6 (o_al 0 (o_gf 10 17 (o_ci 1 (o_ib (fun x y => x - y) (o_bald (o_ci 48 (o_ib (fun x y => x - y) o_ri)))))))))))))))))))))) (o_ci 0 o_ri)))))
theorem l_X10_gradeSign_0 : gb_Li (fun κ => k_X10_gradeSign_0 κ) := (gb_li (q_al 0) (gb_li (q_gf 10 18) (gb_li (q_ci (-1)) (q_ceq (gb_li (q_al 0) (gb_li (q_cv 0 10 1 f_X10_sees) (gb_li q_i2l (gb_li (q_cl 48) (gb_li (q_cl 53) (gb_li (q_cs 3 2 f_X10_in) (q_zeq (gb_li (q_al 0) (gb_li (q_al 0) (gb_li (q_gf 10 17) (gb_li (q_cv 1 10 0 f_X10_fault) (gb_li (q_ci 0) (gb_li0 _)))))) (gb_li (q_al 0) (gb_li q_dup (gb_li (q_gf 10 17) (gb_li (q_ci 1) (gb_li (q_ib _) (gb_li (q_pf 10 17) (gb_li (q_al 0) (gb_li (q_gf 10 6) (gb_li (q_al 0) (gb_li (q_gf 10 17) (gb_li (q_ci 1) (gb_li (q_ib _) (gb_li q_bald (gb_li (q_ci 48) (gb_li (q_ib _) (gb_li0 _))))))))))))))))))))))) (gb_li (q_ci 0) (gb_li0 _))))))
theorem s_X10_gradeSign_0   {κ : gb_K} (hκ : ∀ q, gb_S RX10 cX10_gradeSign 1 (gb_rm 1 25) 1 q (κ q)) : gb_S RX10 cX10_gradeSign 1 (gb_rm 1 25) 1 0 (k_X10_gradeSign_0 κ) := (s_aln 0 rfl dX10_gradeSign_0 (s_gf (T := TX10) winX10 rfl (Nat.le_of_ble_eq_true rfl) gw_645 rfl dX10_gradeSign_1 (s_iconst (by decide +kernel) dX10_gradeSign_4 (s_ceq (tgt := 10) (by decide +kernel) dX10_gradeSign_5 (s_aln 0 rfl dX10_gradeSign_10 (s_cv (C := RX10) c_X10_sees rfl (gb_l5 gw_646 gw_647 gw_648 gw_553 gw_649) v_X10_sees ⟨rfl, rfl⟩ ⟨Nat.le_of_ble_eq_true rfl, Nat.le_of_ble_eq_true rfl⟩ dX10_gradeSign_11 (s_i2l dX10_gradeSign_14 (s_ldc2 gw_654 dX10_gradeSign_15 (s_ldc2 gw_655 dX10_gradeSign_18 (s_cs c_X10_in (gb_l4 gw_551 gw_552 gw_553 gw_554) v_X10_in.2 ⟨rfl, rfl⟩ ⟨Nat.le_of_ble_eq_true rfl, Nat.le_of_ble_eq_true rfl⟩ dX10_gradeSign_21 (s_zne (tgt := 37) (by decide +kernel) dX10_gradeSign_24 (s_aln 0 rfl dX10_gradeSign_37 (s_dup dX10_gradeSign_38 (s_gf (T := TX10) winX10 rfl (Nat.le_of_ble_eq_true rfl) gw_644 rfl dX10_gradeSign_39 (s_iconst (by decide +kernel) dX10_gradeSign_42 (s_iadd dX10_gradeSign_43 (s_pf (T := TX10) winX10 rfl (Nat.le_of_ble_eq_true rfl) tyX10_ok nmX10 rfl (by decide +kernel) gw_644 rfl dX10_gradeSign_44 (s_aln 0 rfl dX10_gradeSign_47 (s_gf (T := TX10) winX10 rfl (Nat.le_of_ble_eq_true rfl) gw_550 rfl dX10_gradeSign_48 (s_aln 0 rfl dX10_gradeSign_51 (s_gf (T := TX10) winX10 rfl (Nat.le_of_ble_eq_true rfl) gw_644 rfl dX10_gradeSign_52 (s_iconst (by decide +kernel) dX10_gradeSign_55 (s_isub dX10_gradeSign_56 (s_bald dX10_gradeSign_57 (s_bipush (by decide +kernel) dX10_gradeSign_58 (s_isub dX10_gradeSign_60 (s_ri rfl dX10_gradeSign_61)))))))))))))))) (s_aln 0 rfl dX10_gradeSign_27 (s_aln 0 rfl dX10_gradeSign_28 (s_gf (T := TX10) winX10 rfl (Nat.le_of_ble_eq_true rfl) gw_644 rfl dX10_gradeSign_29 (s_cv (C := RX10) c_X10_fault rfl (gb_l5 gw_650 gw_651 gw_652 gw_553 gw_653) v_X10_fault ⟨rfl, rfl⟩ ⟨Nat.le_of_ble_eq_true rfl, Nat.le_of_ble_eq_true rfl⟩ dX10_gradeSign_32 (s_iconst (by decide +kernel) dX10_gradeSign_35 (s_ri rfl dX10_gradeSign_36))))))))))))) (s_iconst (by decide +kernel) dX10_gradeSign_8 (s_ri rfl dX10_gradeSign_9))))))
noncomputable def f_X10_gradeSign : gb_F := gb_hide (gb_mf 1 (k_X10_gradeSign_0 gb_n))
theorem c_X10_gradeSign : ∀ l, gb_Met l yX10_gradeSign cX10_gradeSign 1 (some .int) 1 (gb_rm 1 25) f_X10_gradeSign := gb_hide_c (gb_met (own := RX10) (rk := 1) rfl (by decide +kernel) ⟨rfl, rfl⟩ (s_X10_gradeSign_0 gb_S_n))
