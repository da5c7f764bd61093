/-! CODE: printed by wip/p44/gen.py -/
theorem dX7_runEnd_0 : decode cX7_runEnd 0 = .ok (.iload_n 2, 1) := by decide +kernel
theorem dX7_runEnd_1 : decode cX7_runEnd 1 = .ok (.iconst 1, 1) := by decide +kernel
theorem dX7_runEnd_2 : decode cX7_runEnd 2 = .ok (.iadd, 1) := by decide +kernel
theorem dX7_runEnd_3 : decode cX7_runEnd 3 = .ok (.istore_n 3, 1) := by decide +kernel
theorem dX7_runEnd_4 : decode cX7_runEnd 4 = .ok (.iload_n 2, 1) := by decide +kernel
theorem dX7_runEnd_5 : decode cX7_runEnd 5 = .ok (.iconst 1, 1) := by decide +kernel
theorem dX7_runEnd_6 : decode cX7_runEnd 6 = .ok (.iadd, 1) := by decide +kernel
theorem dX7_runEnd_7 : decode cX7_runEnd 7 = .ok (.istore 4, 2) := by decide +kernel
theorem dX7_runEnd_9 : decode cX7_runEnd 9 = .ok (.iload 4, 2) := by decide +kernel
theorem dX7_runEnd_11 : decode cX7_runEnd 11 = .ok (.aload_n 0, 1) := by decide +kernel
theorem dX7_runEnd_12 : decode cX7_runEnd 12 = .ok (.getfield 18, 3) := by decide +kernel
theorem dX7_runEnd_15 : decode cX7_runEnd 15 = .ok (.iload_n 1, 1) := by decide +kernel
theorem dX7_runEnd_16 : decode cX7_runEnd 16 = .ok (.iaload, 1) := by decide +kernel
theorem dX7_runEnd_17 : decode cX7_runEnd 17 = .ok (.if_icmp .ge 38, 3) := by decide +kernel
theorem dX7_runEnd_20 : decode cX7_runEnd 20 = .ok (.aload_n 0, 1) := by decide +kernel
theorem dX7_runEnd_21 : decode cX7_runEnd 21 = .ok (.getfield 24, 3) := by decide +kernel
theorem dX7_runEnd_24 : decode cX7_runEnd 24 = .ok (.iload_n 1, 1) := by decide +kernel
theorem dX7_runEnd_25 : decode cX7_runEnd 25 = .ok (.iload 4, 2) := by decide +kernel
theorem dX7_runEnd_27 : decode cX7_runEnd 27 = .ok (.invokestatic 51, 3) := by decide +kernel
theorem dX7_runEnd_30 : decode cX7_runEnd 30 = .ok (.iaload, 1) := by decide +kernel
theorem dX7_runEnd_31 : decode cX7_runEnd 31 = .ok (.aload_n 0, 1) := by decide +kernel
theorem dX7_runEnd_32 : decode cX7_runEnd 32 = .ok (.getfield 24, 3) := by decide +kernel
theorem dX7_runEnd_35 : decode cX7_runEnd 35 = .ok (.iload_n 1, 1) := by decide +kernel
theorem dX7_runEnd_36 : decode cX7_runEnd 36 = .ok (.iload_n 2, 1) := by decide +kernel
theorem dX7_runEnd_37 : decode cX7_runEnd 37 = .ok (.invokestatic 51, 3) := by decide +kernel
theorem dX7_runEnd_40 : decode cX7_runEnd 40 = .ok (.iaload, 1) := by decide +kernel
theorem dX7_runEnd_41 : decode cX7_runEnd 41 = .ok (.if_icmp .ne 14, 3) := by decide +kernel
theorem dX7_runEnd_44 : decode cX7_runEnd 44 = .ok (.iload 4, 2) := by decide +kernel
theorem dX7_runEnd_46 : decode cX7_runEnd 46 = .ok (.iconst 1, 1) := by decide +kernel
theorem dX7_runEnd_47 : decode cX7_runEnd 47 = .ok (.iadd, 1) := by decide +kernel
theorem dX7_runEnd_48 : decode cX7_runEnd 48 = .ok (.istore_n 3, 1) := by decide +kernel
theorem dX7_runEnd_49 : decode cX7_runEnd 49 = .ok (.iinc 4 1, 3) := by decide +kernel
theorem dX7_runEnd_52 : decode cX7_runEnd 52 = .ok (.goto (-43), 3) := by decide +kernel
theorem dX7_runEnd_55 : decode cX7_runEnd 55 = .ok (.iload_n 3, 1) := by decide +kernel
theorem dX7_runEnd_56 : decode cX7_runEnd 56 = .ok (.ireturn, 1) := by decide +kernel
theorem v_X7_runEnd : yX7_runEnd.cls = RX7 ∧ yX7_runEnd.cls ≠ "java/lang/invoke/MethodHandle" ∧ yX7_runEnd.cls ≠ "java/lang/invoke/VarHandle" ∧ (parseMethodDescriptor yX7_runEnd.desc).map (fun d => d.parameters.length) = some 2 := ⟨rfl, by decide +kernel, by decide +kernel, by decide +kernel⟩
noncomputable def k_X7_runEnd_0 (κ : gb_K) : gb_C := (o_il 2 (o_ci 1 (o_ib (fun x y => x + y) (o_is 3 (o_il 2 (o_ci 1 (o_ib (fun x y => x + y) (o_is 4 (o_j [0, 1, 2, 3, 4] (κ 9))))))))))
theorem l_X7_runEnd_0 : gb_Li (fun κ => k_X7_runEnd_0 κ) := (gb_li (q_il 2) (gb_li (q_ci 1) (gb_li (q_ib _) (gb_li (q_is 3) (gb_li (q_il 2) (gb_li (q_ci 1) (gb_li (q_ib _) (gb_li (q_is 4) (q_j [0, 1, 2, 3, 4] 9)))))))))
theorem s_X7_runEnd_0   {κ : gb_K} (hκ : ∀ q, gb_S RX7 cX7_runEnd 5 (gb_rm 1 21) 1 q (κ q)) : gb_S RX7 cX7_runEnd 5 (gb_rm 1 21) 1 0 (k_X7_runEnd_0 κ) := (s_iln 2 rfl dX7_runEnd_0 (s_iconst (by decide +kernel) dX7_runEnd_1 (s_iadd dX7_runEnd_2 (s_isn 3 rfl (Nat.le_of_ble_eq_true rfl) dX7_runEnd_3 (s_iln 2 rfl dX7_runEnd_4 (s_iconst (by decide +kernel) dX7_runEnd_5 (s_iadd dX7_runEnd_6 (s_is (Nat.le_of_ble_eq_true rfl) dX7_runEnd_7 (s_j (hκ 9))))))))))
noncomputable def k_X7_runEnd_55 (κ : gb_K) : gb_C := (o_il 3 o_ri)
theorem l_X7_runEnd_55 : gb_Li (fun κ => k_X7_runEnd_55 κ) := (gb_li (q_il 3) (gb_li0 _))
theorem s_X7_runEnd_55   {κ : gb_K} (hκ : ∀ q, gb_S RX7 cX7_runEnd 5 (gb_rm 1 21) 1 q (κ q)) : gb_S RX7 cX7_runEnd 5 (gb_rm 1 21) 1 55 (k_X7_runEnd_55 κ) := (s_iln 3 rfl dX7_runEnd_55 (s_ri rfl dX7_runEnd_56))
noncomputable def k_X7_runEnd_9 (κ : gb_K) : gb_C := (o_il 4 (o_al 0 (o_gf 7 3 (o_il 1 (o_iald (o_cge (k_X7_runEnd_55 κ) (o_al 0 (o_gf 7 5 (o_il 1 (o_il 4 (o_cs 2 1 f_X7_place (o_iald (o_al 0 (o_gf 7 5 (o_il 1 (o_il 2 (o_cs 2 1 f_X7_place (o_iald (o_ceq (o_il 4 (o_ci 1 (o_ib (fun x y => x + y) (o_is 3 (o_inc 4 1 (o_j [0, 1, 2, 3, 4] (κ 9))))))) (k_X7_runEnd_55 κ))))))))))))))))))))
theorem l_X7_runEnd_9 : gb_Li (fun κ => k_X7_runEnd_9 κ) := (gb_li (q_il 4) (gb_li (q_al 0) (gb_li (q_gf 7 3) (gb_li (q_il 1) (gb_li q_iald (q_cge (l_X7_runEnd_55) (gb_li (q_al 0) (gb_li (q_gf 7 5) (gb_li (q_il 1) (gb_li (q_il 4) (gb_li (q_cs 2 1 f_X7_place) (gb_li q_iald (gb_li (q_al 0) (gb_li (q_gf 7 5) (gb_li (q_il 1) (gb_li (q_il 2) (gb_li (q_cs 2 1 f_X7_place) (gb_li q_iald (q_ceq (gb_li (q_il 4) (gb_li (q_ci 1) (gb_li (q_ib _) (gb_li (q_is 3) (gb_li (q_inc 4 1) (q_j [0, 1, 2, 3, 4] 9)))))) (l_X7_runEnd_55))))))))))))))))))))
theorem s_X7_runEnd_9   {κ : gb_K} (hκ : ∀ q, gb_S RX7 cX7_runEnd 5 (gb_rm 1 21) 1 q (κ q)) : gb_S RX7 cX7_runEnd 5 (gb_rm 1 21) 1 9 (k_X7_runEnd_9 κ) := (s_il dX7_runEnd_9 (s_aln 0 rfl dX7_runEnd_11 (s_gf (T := TX7) winX7 rfl (Nat.le_of_ble_eq_true rfl) gw_79 rfl dX7_runEnd_12 (s_iln 1 rfl dX7_runEnd_15 (s_iald dX7_runEnd_16 (s_cge (tgt := 55) (by decide +kernel) dX7_runEnd_17 (s_X7_runEnd_55 hκ) (s_aln 0 rfl dX7_runEnd_20 (s_gf (T := TX7) winX7 rfl (Nat.le_of_ble_eq_true rfl) gw_84 rfl dX7_runEnd_21 (s_iln 1 rfl dX7_runEnd_24 (s_il dX7_runEnd_25 (s_cs c_X7_place (gb_l4 gw_83 gw_23 gw_11 gw_24) v_X7_place.2 ⟨rfl, rfl⟩ ⟨Nat.le_of_ble_eq_true rfl, Nat.le_of_ble_eq_true rfl⟩ dX7_runEnd_27 (s_iald dX7_runEnd_30 (s_aln 0 rfl dX7_runEnd_31 (s_gf (T := TX7) winX7 rfl (Nat.le_of_ble_eq_true rfl) gw_84 rfl dX7_runEnd_32 (s_iln 1 rfl dX7_runEnd_35 (s_iln 2 rfl dX7_runEnd_36 (s_cs c_X7_place (gb_l4 gw_83 gw_23 gw_11 gw_24) v_X7_place.2 ⟨rfl, rfl⟩ ⟨Nat.le_of_ble_eq_true rfl, Nat.le_of_ble_eq_true rfl⟩ dX7_runEnd_37 (s_iald dX7_runEnd_40 (s_cne (tgt := 55) (by decide +kernel) dX7_runEnd_41 (s_X7_runEnd_55 hκ) (s_il dX7_runEnd_44 (s_iconst (by decide +kernel) dX7_runEnd_46 (s_iadd dX7_runEnd_47 (s_isn 3 rfl (Nat.le_of_ble_eq_true rfl) dX7_runEnd_48 (s_inc (by decide +kernel) (Nat.le_of_ble_eq_true rfl) dX7_runEnd_49 (s_goto (tgt := 9) (by decide +kernel) dX7_runEnd_52 (s_j (hκ 9)))))))))))))))))))))))))))
noncomputable def B_X7_runEnd : List (Nat × (gb_K → gb_C)) := [(9, fun κ => k_X7_runEnd_9 κ)]
noncomputable def K_X7_runEnd : gb_K := gb_fx (gb_tb (B_X7_runEnd))
theorem L_X7_runEnd : ∀ q, gb_Li (fun κ => gb_tb (B_X7_runEnd) κ q) := gb_tb_li (List.forall_mem_cons.mpr ⟨l_X7_runEnd_9, (fun _ h => absurd h List.not_mem_nil)⟩)
theorem S_X7_runEnd   : ∀ q, gb_S RX7 cX7_runEnd 5 (gb_rm 1 21) 1 q (K_X7_runEnd q) := fun q => gb_fx_S (L_X7_runEnd) (gb_tb_S (List.forall_mem_cons.mpr ⟨fun κ hκ => s_X7_runEnd_9 hκ, (fun _ h => absurd h List.not_mem_nil)⟩)) q
noncomputable def f_X7_runEnd : gb_F := gb_hide (gb_mf 5 (k_X7_runEnd_0 (K_X7_runEnd)))
theorem c_X7_runEnd : ∀ l, gb_Met l yX7_runEnd cX7_runEnd 5 (some .int) 1 (gb_rm 1 21) f_X7_runEnd := gb_hide_c (gb_met (own := RX7) (rk := 1) rfl (by decide +kernel) ⟨rfl, rfl⟩ (s_X7_runEnd_0 (S_X7_runEnd)))
theorem dX7_spoilt_0 : decode cX7_spoilt 0 = .ok (.aload_n 0, 1) := by decide +kernel
theorem dX7_spoilt_1 : decode cX7_spoilt 1 = .ok (.iload_n 1, 1) := by decide +kernel
theorem dX7_spoilt_2 : decode cX7_spoilt 2 = .ok (.iload_n 2, 1) := by decide +kernel
theorem dX7_spoilt_3 : decode cX7_spoilt 3 = .ok (.invokevirtual 93, 3) := by decide +kernel
theorem dX7_spoilt_6 : decode cX7_spoilt 6 = .ok (.aload_n 0, 1) := by decide +kernel
theorem dX7_spoilt_7 : decode cX7_spoilt 7 = .ok (.getfield 9, 3) := by decide +kernel
theorem dX7_spoilt_10 : decode cX7_spoilt 10 = .ok (.aload_n 0, 1) := by decide +kernel
theorem dX7_spoilt_11 : decode cX7_spoilt 11 = .ok (.getfield 24, 3) := by decide +kernel
theorem dX7_spoilt_14 : decode cX7_spoilt 14 = .ok (.iload_n 1, 1) := by decide +kernel
theorem dX7_spoilt_15 : decode cX7_spoilt 15 = .ok (.iaload, 1) := by decide +kernel
theorem dX7_spoilt_16 : decode cX7_spoilt 16 = .ok (.iaload, 1) := by decide +kernel
theorem dX7_spoilt_17 : decode cX7_spoilt 17 = .ok (.if_icmp .ge 7, 3) := by decide +kernel
theorem dX7_spoilt_20 : decode cX7_spoilt 20 = .ok (.iconst 1, 1) := by decide +kernel
theorem dX7_spoilt_21 : decode cX7_spoilt 21 = .ok (.goto 4, 3) := by decide +kernel
theorem dX7_spoilt_24 : decode cX7_spoilt 24 = .ok (.iconst 0, 1) := by decide +kernel
theorem dX7_spoilt_25 : decode cX7_spoilt 25 = .ok (.ireturn, 1) := by decide +kernel
theorem v_X7_spoilt : yX7_spoilt.cls = RX7 ∧ yX7_spoilt.cls ≠ "java/lang/invoke/MethodHandle" ∧ yX7_spoilt.cls ≠ "java/lang/invoke/VarHandle" ∧ (parseMethodDescriptor yX7_spoilt.desc).map (fun d => d.parameters.length) = some 2 := ⟨rfl, by decide +kernel, by decide +kernel, by decide +kernel⟩
noncomputable def k_X7_spoilt_25 (κ : gb_K) : gb_C := o_rz
theorem l_X7_spoilt_25 : gb_Li (fun κ => k_X7_spoilt_25 κ) := (gb_li0 _)
theorem s_X7_spoilt_25   {κ : gb_K} (hκ : ∀ q, gb_S RX7 cX7_spoilt 3 (gb_rm 2 45) 2 q (κ q)) : gb_S RX7 cX7_spoilt 3 (gb_rm 2 45) 2 25 (k_X7_spoilt_25 κ) := (s_rz rfl dX7_spoilt_25)
noncomputable def k_X7_spoilt_0 (κ : gb_K) : gb_C := (o_al 0 (o_il 1 (o_il 2 (o_cv 2 7 1 f_X7_unit (o_al 0 (o_gf 7 1 (o_al 0 (o_gf 7 5 (o_il 1 (o_iald (o_iald (o_cge (o_ci 0 (k_X7_spoilt_25 κ)) (o_ci 1 (k_X7_spoilt_25 κ))))))))))))))
theorem l_X7_spoilt_0 : gb_Li (fun κ => k_X7_spoilt_0 κ) := (gb_li (q_al 0) (gb_li (q_il 1) (gb_li (q_il 2) (gb_li (q_cv 2 7 1 f_X7_unit) (gb_li (q_al 0) (gb_li (q_gf 7 1) (gb_li (q_al 0) (gb_li (q_gf 7 5) (gb_li (q_il 1) (gb_li q_iald (gb_li q_iald (q_cge (gb_li (q_ci 0) (l_X7_spoilt_25)) (gb_li (q_ci 1) (l_X7_spoilt_25))))))))))))))
theorem s_X7_spoilt_0   {κ : gb_K} (hκ : ∀ q, gb_S RX7 cX7_spoilt 3 (gb_rm 2 45) 2 q (κ q)) : gb_S RX7 cX7_spoilt 3 (gb_rm 2 45) 2 0 (k_X7_spoilt_0 κ) := (s_aln 0 rfl dX7_spoilt_0 (s_iln 1 rfl dX7_spoilt_1 (s_iln 2 rfl dX7_spoilt_2 (s_cv (C := RX7) c_X7_unit rfl (gb_l5 gw_166 gw_167 gw_168 gw_11 gw_169) v_X7_unit ⟨rfl, rfl⟩ ⟨Nat.le_of_ble_eq_true rfl, Nat.le_of_ble_eq_true rfl⟩ dX7_spoilt_3 (s_aln 0 rfl dX7_spoilt_6 (s_gf (T := TX7) winX7 rfl (Nat.le_of_ble_eq_true rfl) gw_86 rfl dX7_spoilt_7 (s_aln 0 rfl dX7_spoilt_10 (s_gf (T := TX7) winX7 rfl (Nat.le_of_ble_eq_true rfl) gw_84 rfl dX7_spoilt_11 (s_iln 1 rfl dX7_spoilt_14 (s_iald dX7_spoilt_15 (s_iald dX7_spoilt_16 (s_cge (tgt := 24) (by decide +kernel) dX7_spoilt_17 (s_iconst (by decide +kernel) dX7_spoilt_24 (s_X7_spoilt_25 hκ)) (s_iconst (by decide +kernel) dX7_spoilt_20 (s_goto (tgt := 25) (by decide +kernel) dX7_spoilt_21 (s_X7_spoilt_25 hκ)))))))))))))))
noncomputable def f_X7_spoilt : gb_F := gb_hide (gb_mf 3 (k_X7_spoilt_0 gb_n))
theorem c_X7_spoilt : ∀ l, gb_Met l yX7_spoilt cX7_spoilt 3 (some .boolean) 2 (gb_rm 2 45) f_X7_spoilt := gb_hide_c (gb_met (own := RX7) (rk := 2) rfl (by decide +kernel) ⟨rfl, rfl⟩ (s_X7_spoilt_0 gb_S_n))
theorem dX7_spoiltGrades_0 : decode cX7_spoiltGrades 0 = .ok (.iconst 0, 1) := by decide +kernel
theorem dX7_spoiltGrades_1 : decode cX7_spoiltGrades 1 = .ok (.istore_n 2, 1) := by decide +kernel
theorem dX7_spoiltGrades_2 : decode cX7_spoiltGrades 2 = .ok (.iconst 0, 1) := by decide +kernel
theorem dX7_spoiltGrades_3 : decode cX7_spoiltGrades 3 = .ok (.istore_n 3, 1) := by decide +kernel
theorem dX7_spoiltGrades_4 : decode cX7_spoiltGrades 4 = .ok (.iload_n 3, 1) := by decide +kernel
theorem dX7_spoiltGrades_5 : decode cX7_spoiltGrades 5 = .ok (.bipush 6, 2) := by decide +kernel
theorem dX7_spoiltGrades_7 : decode cX7_spoiltGrades 7 = .ok (.if_icmp .ge 59, 3) := by decide +kernel
theorem dX7_spoiltGrades_10 : decode cX7_spoiltGrades 10 = .ok (.iconst 0, 1) := by decide +kernel
theorem dX7_spoiltGrades_11 : decode cX7_spoiltGrades 11 = .ok (.istore 4, 2) := by decide +kernel
theorem dX7_spoiltGrades_13 : decode cX7_spoiltGrades 13 = .ok (.iload 4, 2) := by decide +kernel
theorem dX7_spoiltGrades_15 : decode cX7_spoiltGrades 15 = .ok (.aload_n 0, 1) := by decide +kernel
theorem dX7_spoiltGrades_16 : decode cX7_spoiltGrades 16 = .ok (.getfield 18, 3) := by decide +kernel
theorem dX7_spoiltGrades_19 : decode cX7_spoiltGrades 19 = .ok (.iload_n 3, 1) := by decide +kernel
theorem dX7_spoiltGrades_20 : decode cX7_spoiltGrades 20 = .ok (.iaload, 1) := by decide +kernel
theorem dX7_spoiltGrades_21 : decode cX7_spoiltGrades 21 = .ok (.if_icmp .ge 39, 3) := by decide +kernel
theorem dX7_spoiltGrades_24 : decode cX7_spoiltGrades 24 = .ok (.iload_n 3, 1) := by decide +kernel
theorem dX7_spoiltGrades_25 : decode cX7_spoiltGrades 25 = .ok (.iload 4, 2) := by decide +kernel
theorem dX7_spoiltGrades_27 : decode cX7_spoiltGrades 27 = .ok (.invokestatic 51, 3) := by decide +kernel
theorem dX7_spoiltGrades_30 : decode cX7_spoiltGrades 30 = .ok (.istore 5, 2) := by decide +kernel
theorem dX7_spoiltGrades_32 : decode cX7_spoiltGrades 32 = .ok (.aload_n 0, 1) := by decide +kernel
theorem dX7_spoiltGrades_33 : decode cX7_spoiltGrades 33 = .ok (.iload 5, 2) := by decide +kernel
theorem dX7_spoiltGrades_35 : decode cX7_spoiltGrades 35 = .ok (.iload_n 1, 1) := by decide +kernel
theorem dX7_spoiltGrades_36 : decode cX7_spoiltGrades 36 = .ok (.invokevirtual 146, 3) := by decide +kernel
theorem dX7_spoiltGrades_39 : decode cX7_spoiltGrades 39 = .ok (.ifCond .eq 15, 3) := by decide +kernel
theorem dX7_spoiltGrades_42 : decode cX7_spoiltGrades 42 = .ok (.iload_n 2, 1) := by decide +kernel
theorem dX7_spoiltGrades_43 : decode cX7_spoiltGrades 43 = .ok (.iconst 1, 1) := by decide +kernel
theorem dX7_spoiltGrades_44 : decode cX7_spoiltGrades 44 = .ok (.aload_n 0, 1) := by decide +kernel
theorem dX7_spoiltGrades_45 : decode cX7_spoiltGrades 45 = .ok (.getfield 24, 3) := by decide +kernel
theorem dX7_spoiltGrades_48 : decode cX7_spoiltGrades 48 = .ok (.iload 5, 2) := by decide +kernel
theorem dX7_spoiltGrades_50 : decode cX7_spoiltGrades 50 = .ok (.iaload, 1) := by decide +kernel
theorem dX7_spoiltGrades_51 : decode cX7_spoiltGrades 51 = .ok (.ishl, 1) := by decide +kernel
theorem dX7_spoiltGrades_52 : decode cX7_spoiltGrades 52 = .ok (.ior, 1) := by decide +kernel
theorem dX7_spoiltGrades_53 : decode cX7_spoiltGrades 53 = .ok (.istore_n 2, 1) := by decide +kernel
theorem dX7_spoiltGrades_54 : decode cX7_spoiltGrades 54 = .ok (.iinc 4 1, 3) := by decide +kernel
theorem dX7_spoiltGrades_57 : decode cX7_spoiltGrades 57 = .ok (.goto (-44), 3) := by decide +kernel
theorem dX7_spoiltGrades_60 : decode cX7_spoiltGrades 60 = .ok (.iinc 3 1, 3) := by decide +kernel
theorem dX7_spoiltGrades_63 : decode cX7_spoiltGrades 63 = .ok (.goto (-59), 3) := by decide +kernel
theorem dX7_spoiltGrades_66 : decode cX7_spoiltGrades 66 = .ok (.iload_n 2, 1) := by decide +kernel
theorem dX7_spoiltGrades_67 : decode cX7_spoiltGrades 67 = .ok (.ireturn, 1) := by decide +kernel
theorem v_X7_spoiltGrades : yX7_spoiltGrades.cls = RX7 ∧ yX7_spoiltGrades.cls ≠ "java/lang/invoke/MethodHandle" ∧ yX7_spoiltGrades.cls ≠ "java/lang/invoke/VarHandle" ∧ (parseMethodDescriptor yX7_spoiltGrades.desc).map (fun d => d.parameters.length) = some 1 := ⟨rfl, by decide +kernel, by decide +kernel, by decide +kernel⟩
noncomputable def k_X7_spoiltGrades_0 (κ : gb_K) : gb_C := (o_ci 0 (o_is 2 (o_ci 0 (o_is 3 (o_j [0, 1, 2, 3] (κ 4))))))
theorem l_X7_spoiltGrades_0 : gb_Li (fun κ => k_X7_spoiltGrades_0 κ) := (gb_li (q_ci 0) (gb_li (q_is 2) (gb_li (q_ci 0) (gb_li (q_is 3) (q_j [0, 1, 2, 3] 4)))))
theorem s_X7_spoiltGrades_0   {κ : gb_K} (hκ : ∀ q, gb_S RX7 cX7_spoiltGrades 6 (gb_rm 3 67) 1 q (κ q)) : gb_S RX7 cX7_spoiltGrades 6 (gb_rm 3 67) 1 0 (k_X7_spoiltGrades_0 κ) := (s_iconst (by decide +kernel) dX7_spoiltGrades_0 (s_isn 2 rfl (Nat.le_of_ble_eq_true rfl) dX7_spoiltGrades_1 (s_iconst (by decide +kernel) dX7_spoiltGrades_2 (s_isn 3 rfl (Nat.le_of_ble_eq_true rfl) dX7_spoiltGrades_3 (s_j (hκ 4))))))
noncomputable def k_X7_spoiltGrades_4 (κ : gb_K) : gb_C := (o_il 3 (o_ci 6 (o_cge (o_il 2 o_ri) (o_ci 0 (o_is 4 (o_j [0, 1, 2, 3, 4] (κ 13)))))))
theorem l_X7_spoiltGrades_4 : gb_Li (fun κ => k_X7_spoiltGrades_4 κ) := (gb_li (q_il 3) (gb_li (q_ci 6) (q_cge (gb_li (q_il 2) (gb_li0 _)) (gb_li (q_ci 0) (gb_li (q_is 4) (q_j [0, 1, 2, 3, 4] 13))))))
theorem s_X7_spoiltGrades_4   {κ : gb_K} (hκ : ∀ q, gb_S RX7 cX7_spoiltGrades 6 (gb_rm 3 67) 1 q (κ q)) : gb_S RX7 cX7_spoiltGrades 6 (gb_rm 3 67) 1 4 (k_X7_spoiltGrades_4 κ) := (s_iln 3 rfl dX7_spoiltGrades_4 (s_bipush (by decide +kernel) dX7_spoiltGrades_5 (s_cge (tgt := 66) (by decide +kernel) dX7_spoiltGrades_7 (s_iln 2 rfl dX7_spoiltGrades_66 (s_ri rfl dX7_spoiltGrades_67)) (s_iconst (by decide +kernel) dX7_spoiltGrades_10 (s_is (Nat.le_of_ble_eq_true rfl) dX7_spoiltGrades_11 (s_j (hκ 13)))))))
noncomputable def k_X7_spoiltGrades_54 (κ : gb_K) : gb_C := (o_inc 4 1 (o_j [0, 1, 2, 3, 4] (κ 13)))
theorem l_X7_spoiltGrades_54 : gb_Li (fun κ => k_X7_spoiltGrades_54 κ) := (gb_li (q_inc 4 1) (q_j [0, 1, 2, 3, 4] 13))
theorem s_X7_spoiltGrades_54   {κ : gb_K} (hκ : ∀ q, gb_S RX7 cX7_spoiltGrades 6 (gb_rm 3 67) 1 q (κ q)) : gb_S RX7 cX7_spoiltGrades 6 (gb_rm 3 67) 1 54 (k_X7_spoiltGrades_54 κ) := (s_inc (by decide +kernel) (Nat.le_of_ble_eq_true rfl) dX7_spoiltGrades_54 (s_goto (tgt := 13) (by decide +kernel) dX7_spoiltGrades_57 (s_j (hκ 13))))
noncomputable def k_X7_spoiltGrades_13 (κ : gb_K) : gb_C := (o_il 4 (o_al 0 (o_gf 7 3 (o_il 3 (o_iald (o_cge (o_inc 3 1 (o_j [0, 1, 2, 3] (κ 4))) (o_il 3 (o_il 4 (o_cs 2 1 f_X7_place (o_is 5 (o_al 0 (o_il 5 (o_il 1 (o_cv 2 7 2 f_X7_spoilt (o_zeq (k_X7_spoiltGrades_54 κ) (o_il 2 (o_ci 1 (o_al 0 (o_gf 7 5 (o_il 5 (o_iald (o_ib (fun x y => x <<< (y &&& 31)) (o_ib (fun x y => x ||| y) (o_is 2 (k_X7_spoiltGrades_54 κ)))))))))))))))))))))))))
theorem l_X7_spoiltGrades_13 : gb_Li (fun κ => k_X7_spoiltGrades_13 κ) := (gb_li (q_il 4) (gb_li (q_al 0) (gb_li (q_gf 7 3) (gb_li (q_il 3) (gb_li q_iald (q_cge (gb_li (q_inc 3 1) (q_j [0, 1, 2, 3] 4)) (gb_li (q_il 3) (gb_li (q_il 4) (gb_li (q_cs 2 1 f_X7_place) (gb_li (q_is 5) (gb_li (q_al 0) (gb_li (q_il 5) (gb_li (q_il 1) (gb_li (q_cv 2 7 2 f_X7_spoilt) (q_zeq (l_X7_spoiltGrades_54) (gb_li (q_il 2) (gb_li (q_ci 1) (gb_li (q_al 0) (gb_li (q_gf 7 5) (gb_li (q_il 5) (gb_li q_iald (gb_li (q_ib _) (gb_li (q_ib _) (gb_li (q_is 2) (l_X7_spoiltGrades_54)))))))))))))))))))))))))
theorem s_X7_spoiltGrades_13   {κ : gb_K} (hκ : ∀ q, gb_S RX7 cX7_spoiltGrades 6 (gb_rm 3 67) 1 q (κ q)) : gb_S RX7 cX7_spoiltGrades 6 (gb_rm 3 67) 1 13 (k_X7_spoiltGrades_13 κ) := (s_il dX7_spoiltGrades_13 (s_aln 0 rfl dX7_spoiltGrades_15 (s_gf (T := TX7) winX7 rfl (Nat.le_of_ble_eq_true rfl) gw_79 rfl dX7_spoiltGrades_16 (s_iln 3 rfl dX7_spoiltGrades_19 (s_iald dX7_spoiltGrades_20 (s_cge (tgt := 60) (by decide +kernel) dX7_spoiltGrades_21 (s_inc (by decide +kernel) (Nat.le_of_ble_eq_true rfl) dX7_spoiltGrades_60 (s_goto (tgt := 4) (by decide +kernel) dX7_spoiltGrades_63 (s_j (hκ 4)))) (s_iln 3 rfl dX7_spoiltGrades_24 (s_il dX7_spoiltGrades_25 (s_cs c_X7_place (gb_l4 gw_83 gw_23 gw_11 gw_24) v_X7_place.2 ⟨rfl, rfl⟩ ⟨Nat.le_of_ble_eq_true rfl, Nat.le_of_ble_eq_true rfl⟩ dX7_spoiltGrades_27 (s_is (Nat.le_of_ble_eq_true rfl) dX7_spoiltGrades_30 (s_aln 0 rfl dX7_spoiltGrades_32 (s_il dX7_spoiltGrades_33 (s_iln 1 rfl dX7_spoiltGrades_35 (s_cv (C := RX7) c_X7_spoilt rfl (gb_l5 gw_206 gw_207 gw_208 gw_11 gw_209) v_X7_spoilt ⟨rfl, rfl⟩ ⟨Nat.le_of_ble_eq_true rfl, Nat.le_of_ble_eq_true rfl⟩ dX7_spoiltGrades_36 (s_zeq (tgt := 54) (by decide +kernel) dX7_spoiltGrades_39 (s_X7_spoiltGrades_54 hκ) (s_iln 2 rfl dX7_spoiltGrades_42 (s_iconst (by decide +kernel) dX7_spoiltGrades_43 (s_aln 0 rfl dX7_spoiltGrades_44 (s_gf (T := TX7) winX7 rfl (Nat.le_of_ble_eq_true rfl) gw_84 rfl dX7_spoiltGrades_45 (s_il dX7_spoiltGrades_48 (s_iald dX7_spoiltGrades_50 (s_ishl dX7_spoiltGrades_51 (s_ior dX7_spoiltGrades_52 (s_isn 2 rfl (Nat.le_of_ble_eq_true rfl) dX7_spoiltGrades_53 (s_X7_spoiltGrades_54 hκ)))))))))))))))))))))))))
noncomputable def B_X7_spoiltGrades : List (Nat × (gb_K → gb_C)) := [(4, fun κ => k_X7_spoiltGrades_4 κ), (13, fun κ => k_X7_spoiltGrades_13 κ)]
noncomputable def K_X7_spoiltGrades : gb_K := gb_fx (gb_tb (B_X7_spoiltGrades))
theorem L_X7_spoiltGrades : ∀ q, gb_Li (fun κ => gb_tb (B_X7_spoiltGrades) κ q) := gb_tb_li (List.forall_mem_cons.mpr ⟨l_X7_spoiltGrades_4, List.forall_mem_cons.mpr ⟨l_X7_spoiltGrades_13, (fun _ h => absurd h List.not_mem_nil)⟩⟩)
theorem S_X7_spoiltGrades   : ∀ q, gb_S RX7 cX7_spoiltGrades 6 (gb_rm 3 67) 1 q (K_X7_spoiltGrades q) := fun q => gb_fx_S (L_X7_spoiltGrades) (gb_tb_S (List.forall_mem_cons.mpr ⟨fun κ hκ => s_X7_spoiltGrades_4 hκ, List.forall_mem_cons.mpr ⟨fun κ hκ => s_X7_spoiltGrades_13 hκ, (fun _ h => absurd h List.not_mem_nil)⟩⟩)) q
noncomputable def f_X7_spoiltGrades : gb_F := gb_hide (gb_mf 6 (k_X7_spoiltGrades_0 (K_X7_spoiltGrades)))
theorem c_X7_spoiltGrades : ∀ l, gb_Met l yX7_spoiltGrades cX7_spoiltGrades 6 (some .int) 1 (gb_rm 3 67) f_X7_spoiltGrades := gb_hide_c (gb_met (own := RX7) (rk := 1) rfl (by decide +kernel) ⟨rfl, rfl⟩ (s_X7_spoiltGrades_0 (S_X7_spoiltGrades)))
theorem dX8_add_0 : decode cX8_add 0 = .ok (.aload_n 0, 1) := by decide +kernel
theorem dX8_add_1 : decode cX8_add 1 = .ok (.getfield 15, 3) := by decide +kernel
theorem dX8_add_4 : decode cX8_add 4 = .ok (.iconst 4, 1) := by decide +kernel
theorem dX8_add_5 : decode cX8_add 5 = .ok (.iadd, 1) := by decide +kernel
theorem dX8_add_6 : decode cX8_add 6 = .ok (.sipush 200, 3) := by decide +kernel
theorem dX8_add_9 : decode cX8_add 9 = .ok (.if_icmp .le 5, 3) := by decide +kernel
theorem dX8_add_12 : decode cX8_add 12 = .ok (.iconst 0, 1) := by decide +kernel
theorem dX8_add_13 : decode cX8_add 13 = .ok (.ireturn, 1) := by decide +kernel
theorem dX8_add_14 : decode cX8_add 14 = .ok (.bipush 24, 2) := by decide +kernel
theorem dX8_add_16 : decode cX8_add 16 = .ok (.istore_n 2, 1) := by decide +kernel
theorem dX8_add_17 : decode cX8_add 17 = .ok (.iload_n 2, 1) := by decide +kernel
theorem dX8_add_18 : decode cX8_add 18 = .ok (.ifCond .lt 35, 3) := by decide +kernel
theorem dX8_add_21 : decode cX8_add 21 = .ok (.aload_n 0, 1) := by decide +kernel
theorem dX8_add_22 : decode cX8_add 22 = .ok (.getfield 11, 3) := by decide +kernel
theorem dX8_add_25 : decode cX8_add 25 = .ok (.aload_n 0, 1) := by decide +kernel
theorem dX8_add_26 : decode cX8_add 26 = .ok (.getfield 15, 3) := by decide +kernel
theorem dX8_add_29 : decode cX8_add 29 = .ok (.iload_n 1, 1) := by decide +kernel
theorem dX8_add_30 : decode cX8_add 30 = .ok (.iload_n 2, 1) := by decide +kernel
theorem dX8_add_31 : decode cX8_add 31 = .ok (.iushr, 1) := by decide +kernel
theorem dX8_add_32 : decode cX8_add 32 = .ok (.sipush 255, 3) := by decide +kernel
theorem dX8_add_35 : decode cX8_add 35 = .ok (.iand, 1) := by decide +kernel
theorem dX8_add_36 : decode cX8_add 36 = .ok (.iastore, 1) := by decide +kernel
theorem dX8_add_37 : decode cX8_add 37 = .ok (.aload_n 0, 1) := by decide +kernel
theorem dX8_add_38 : decode cX8_add 38 = .ok (.dup, 1) := by decide +kernel
theorem dX8_add_39 : decode cX8_add 39 = .ok (.getfield 15, 3) := by decide +kernel
theorem dX8_add_42 : decode cX8_add 42 = .ok (.iconst 1, 1) := by decide +kernel
theorem dX8_add_43 : decode cX8_add 43 = .ok (.iadd, 1) := by decide +kernel
theorem dX8_add_44 : decode cX8_add 44 = .ok (.putfield 15, 3) := by decide +kernel
theorem dX8_add_47 : decode cX8_add 47 = .ok (.iinc 2 (-8), 3) := by decide +kernel
theorem dX8_add_50 : decode cX8_add 50 = .ok (.goto (-33), 3) := by decide +kernel
theorem dX8_add_53 : decode cX8_add 53 = .ok (.iconst 1, 1) := by decide +kernel
theorem dX8_add_54 : decode cX8_add 54 = .ok (.ireturn, 1) := by decide +kernel
theorem v_X8_add : yX8_add.cls = RX8 ∧ yX8_add.cls ≠ "java/lang/invoke/MethodHandle" ∧ yX8_add.cls ≠ "java/lang/invoke/VarHandle" ∧ (parseMethodDescriptor yX8_add.desc).map (fun d => d.parameters.length) = some 1 := ⟨rfl, by decide +kernel, by decide +kernel, by decide +kernel⟩
noncomputable def k_X8_add_0 (κ : gb_K) : gb_C := (o_al 0 (o_gf 8 1 (o_ci 4 (o_ib (fun x y => x + y) (o_ci 200 (o_cle (o_ci 24 (o_is 2 (o_j [0, 1, 2] (κ 17)))) (o_ci 0 o_rz)))))))
theorem l_X8_add_0 : gb_Li (fun κ => k_X8_add_0 κ) := (gb_li (q_al 0) (gb_li (q_gf 8 1) (gb_li (q_ci 4) (gb_li (q_ib _) (gb_li (q_ci 200) (q_cle (gb_li (q_ci 24) (gb_li (q_is 2) (q_j [0, 1, 2] 17))) (gb_li (q_ci 0) (gb_li0 _))))))))
theorem s_X8_add_0   {κ : gb_K} (hκ : ∀ q, gb_S RX8 cX8_add 3 (gb_rm 0 0) 2 q (κ q)) : gb_S RX8 cX8_add 3 (gb_rm 0 0) 2 0 (k_X8_add_0 κ) := (s_aln 0 rfl dX8_add_0 (s_gf (T := TX8) winX8 rfl (Nat.le_of_ble_eq_true rfl) gw_42 rfl dX8_add_1 (s_iconst (by decide +kernel) dX8_add_4 (s_iadd dX8_add_5 (s_sipush (by decide +kernel) dX8_add_6 (s_cle (tgt := 14) (by decide +kernel) dX8_add_9 (s_bipush (by decide +kernel) dX8_add_14 (s_isn 2 rfl (Nat.le_of_ble_eq_true rfl) dX8_add_16 (s_j (hκ 17)))) (s_iconst (by decide +kernel) dX8_add_12 (s_rz rfl dX8_add_13))))))))
noncomputable def k_X8_add_17 (κ : gb_K) : gb_C := (o_il 2 (o_zlt (o_ci 1 o_rz) (o_al 0 (o_gf 8 0 (o_al 0 (o_gf 8 1 (o_il 1 (o_il 2 (o_ib (fun x y => (x.toUInt32 >>> (y.toUInt32 &&& Int32.toUInt32 31)).toInt32) (o_ci 255 (o_ib (fun x y => x &&& y) (o_iast (o_al 0 (o_dup (o_gf 8 1 (o_ci 1 (o_ib (fun x y => x + y) (o_pf 8 1 (o_inc 2 (-8) (o_j [0, 1, 2] (κ 17)))))))))))))))))))))
theorem l_X8_add_17 : gb_Li (fun κ => k_X8_add_17 κ) := (gb_li (q_il 2) (q_zlt (gb_li (q_ci 1) (gb_li0 _)) (gb_li (q_al 0) (gb_li (q_gf 8 0) (gb_li (q_al 0) (gb_li (q_gf 8 1) (gb_li (q_il 1) (gb_li (q_il 2) (gb_li (q_ib _) (gb_li (q_ci 255) (gb_li (q_ib _) (gb_li q_iast (gb_li (q_al 0) (gb_li q_dup (gb_li (q_gf 8 1) (gb_li (q_ci 1) (gb_li (q_ib _) (gb_li (q_pf 8 1) (gb_li (q_inc 2 (-8)) (q_j [0, 1, 2] 17))))))))))))))))))))
theorem s_X8_add_17   {κ : gb_K} (hκ : ∀ q, gb_S RX8 cX8_add 3 (gb_rm 0 0) 2 q (κ q)) : gb_S RX8 cX8_add 3 (gb_rm 0 0) 2 17 (k_X8_add_17 κ) := (s_iln 2 rfl dX8_add_17 (s_zlt (tgt := 53) (by decide +kernel) dX8_add_18 (s_iconst (by decide +kernel) dX8_add_53 (s_rz rfl dX8_add_54)) (s_aln 0 rfl dX8_add_21 (s_gf (T := TX8) winX8 rfl (Nat.le_of_ble_eq_true rfl) gw_48 rfl dX8_add_22 (s_aln 0 rfl dX8_add_25 (s_gf (T := TX8) winX8 rfl (Nat.le_of_ble_eq_true rfl) gw_42 rfl dX8_add_26 (s_iln 1 rfl dX8_add_29 (s_iln 2 rfl dX8_add_30 (s_iushr dX8_add_31 (s_sipush (by decide +kernel) dX8_add_32 (s_iand dX8_add_35 (s_iast dX8_add_36 (s_aln 0 rfl dX8_add_37 (s_dup dX8_add_38 (s_gf (T := TX8) winX8 rfl (Nat.le_of_ble_eq_true rfl) gw_42 rfl dX8_add_39 (s_iconst (by decide +kernel) dX8_add_42 (s_iadd dX8_add_43 (s_pf (T := TX8) winX8 rfl (Nat.le_of_ble_eq_true rfl) tyX8_ok nmX8 rfl (by decide +kernel) gw_42 rfl dX8_add_44 (s_inc (by decide +kernel) (Nat.le_of_ble_eq_true rfl) dX8_add_47 (s_goto (tgt := 17) (by decide +kernel) dX8_add_50 (s_j (hκ 17))))))))))))))))))))))
noncomputable def B_X8_add : List (Nat × (gb_K → gb_C)) := [(17, fun κ => k_X8_add_17 κ)]
noncomputable def K_X8_add : gb_K := gb_fx (gb_tb (B_X8_add))
theorem L_X8_add : ∀ q, gb_Li (fun κ => gb_tb (B_X8_add) κ q) := gb_tb_li (List.forall_mem_cons.mpr ⟨l_X8_add_17, (fun _ h => absurd h List.not_mem_nil)⟩)
theorem S_X8_add   : ∀ q, gb_S RX8 cX8_add 3 (gb_rm 0 0) 2 q (K_X8_add q) := fun q => gb_fx_S (L_X8_add) (gb_tb_S (List.forall_mem_cons.mpr ⟨fun κ hκ => s_X8_add_17 hκ, (fun _ h => absurd h List.not_mem_nil)⟩)) q
noncomputable def f_X8_add : gb_F := gb_hide (gb_mf 3 (k_X8_add_0 (K_X8_add)))
theorem c_X8_add : ∀ l, gb_Met l yX8_add cX8_add 3 (some .boolean) 2 (gb_rm 0 0) f_X8_add := gb_hide_c (gb_met (own := RX8) (rk := 2) rfl (by decide +kernel) ⟨rfl, rfl⟩ (s_X8_add_0 (S_X8_add)))
theorem dX8_cut_0 : decode cX8_cut 0 = .ok (.iload_n 1, 1) := by decide +kernel
theorem dX8_cut_1 : decode cX8_cut 1 = .ok (.ifCond .lt 11, 3) := by decide +kernel
theorem dX8_cut_4 : decode cX8_cut 4 = .ok (.iload_n 1, 1) := by decide +kernel
theorem dX8_cut_5 : decode cX8_cut 5 = .ok (.aload_n 0, 1) := by decide +kernel
theorem dX8_cut_6 : decode cX8_cut 6 = .ok (.getfield 15, 3) := by decide +kernel
theorem dX8_cut_9 : decode cX8_cut 9 = .ok (.if_icmp .le 5, 3) := by decide +kernel
theorem dX8_cut_12 : decode cX8_cut 12 = .ok (.iconst 0, 1) := by decide +kernel
theorem dX8_cut_13 : decode cX8_cut 13 = .ok (.ireturn, 1) := by decide +kernel
theorem dX8_cut_14 : decode cX8_cut 14 = .ok (.aload_n 0, 1) := by decide +kernel
theorem dX8_cut_15 : decode cX8_cut 15 = .ok (.iload_n 1, 1) := by decide +kernel
theorem dX8_cut_16 : decode cX8_cut 16 = .ok (.putfield 15, 3) := by decide +kernel
theorem dX8_cut_19 : decode cX8_cut 19 = .ok (.iconst 1, 1) := by decide +kernel
theorem dX8_cut_20 : decode cX8_cut 20 = .ok (.ireturn, 1) := by decide +kernel
theorem v_X8_cut : yX8_cut.cls = RX8 ∧ yX8_cut.cls ≠ "java/lang/invoke/MethodHandle" ∧ yX8_cut.cls ≠ "java/lang/invoke/VarHandle" ∧ (parseMethodDescriptor yX8_cut.desc).map (fun d => d.parameters.length) = some 1 := ⟨rfl, by decide +kernel, by decide +kernel, by decide +kernel⟩
noncomputable def k_X8_cut_12 (κ : gb_K) : gb_C := (o_ci 0 o_rz)
theorem l_X8_cut_12 : gb_Li (fun κ => k_X8_cut_12 κ) := (gb_li (q_ci 0) (gb_li0 _))
theorem s_X8_cut_12   {κ : gb_K} (hκ : ∀ q, gb_S RX8 cX8_cut 2 (gb_rm 0 0) 2 q (κ q)) : gb_S RX8 cX8_cut 2 (gb_rm 0 0) 2 12 (k_X8_cut_12 κ) := (s_iconst (by decide +kernel) dX8_cut_12 (s_rz rfl dX8_cut_13))
noncomputable def k_X8_cut_0 (κ : gb_K) : gb_C := (o_il 1 (o_zlt (k_X8_cut_12 κ) (o_il 1 (o_al 0 (o_gf 8 1 (o_cle (o_al 0 (o_il 1 (o_pf 8 1 (o_ci 1 o_rz)))) (k_X8_cut_12 κ)))))))
theorem l_X8_cut_0 : gb_Li (fun κ => k_X8_cut_0 κ) := (gb_li (q_il 1) (q_zlt (l_X8_cut_12) (gb_li (q_il 1) (gb_li (q_al 0) (gb_li (q_gf 8 1) (q_cle (gb_li (q_al 0) (gb_li (q_il 1) (gb_li (q_pf 8 1) (gb_li (q_ci 1) (gb_li0 _))))) (l_X8_cut_12)))))))
theorem s_X8_cut_0   {κ : gb_K} (hκ : ∀ q, gb_S RX8 cX8_cut 2 (gb_rm 0 0) 2 q (κ q)) : gb_S RX8 cX8_cut 2 (gb_rm 0 0) 2 0 (k_X8_cut_0 κ) := (s_iln 1 rfl dX8_cut_0 (s_zlt (tgt := 12) (by decide +kernel) dX8_cut_1 (s_X8_cut_12 hκ) (s_iln 1 rfl dX8_cut_4 (s_aln 0 rfl dX8_cut_5 (s_gf (T := TX8) winX8 rfl (Nat.le_of_ble_eq_true rfl) gw_42 rfl dX8_cut_6 (s_cle (tgt := 14) (by decide +kernel) dX8_cut_9 (s_aln 0 rfl dX8_cut_14 (s_iln 1 rfl dX8_cut_15 (s_pf (T := TX8) winX8 rfl (Nat.le_of_ble_eq_true rfl) tyX8_ok nmX8 rfl (by decide +kernel) gw_42 rfl dX8_cut_16 (s_iconst (by decide +kernel) dX8_cut_19 (s_rz rfl dX8_cut_20))))) (s_X8_cut_12 hκ)))))))
noncomputable def f_X8_cut : gb_F := gb_hide (gb_mf 2 (k_X8_cut_0 gb_n))
theorem c_X8_cut : ∀ l, gb_Met l yX8_cut cX8_cut 2 (some .boolean) 2 (gb_rm 0 0) f_X8_cut := gb_hide_c (gb_met (own := RX8) (rk := 2) rfl (by decide +kernel) ⟨rfl, rfl⟩ (s_X8_cut_0 gb_S_n))
theorem dX8_clear_0 : decode cX8_clear 0 = .ok (.aload_n 0, 1) := by decide +kernel
theorem dX8_clear_1 : decode cX8_clear 1 = .ok (.iconst 0, 1) := by decide +kernel
theorem dX8_clear_2 : decode cX8_clear 2 = .ok (.putfield 15, 3) := by decide +kernel
theorem dX8_clear_5 : decode cX8_clear 5 = .ok (.return_, 1) := by decide +kernel
theorem v_X8_clear : yX8_clear.cls = RX8 ∧ yX8_clear.cls ≠ "java/lang/invoke/MethodHandle" ∧ yX8_clear.cls ≠ "java/lang/invoke/VarHandle" ∧ (parseMethodDescriptor yX8_clear.desc).map (fun d => d.parameters.length) = some 0 := ⟨rfl, by decide +kernel, by decide +kernel, by decide +kernel⟩
noncomputable def k_X8_clear_0 (κ : gb_K) : gb_C := (o_al 0 (o_ci 0 (o_pf 8 1 o_rv)))
theorem l_X8_clear_0 : gb_Li (fun κ => k_X8_clear_0 κ) := (gb_li (q_al 0) (gb_li (q_ci 0) (gb_li (q_pf 8 1) (gb_li0 _))))
theorem s_X8_clear_0   {κ : gb_K} (hκ : ∀ q, gb_S RX8 cX8_clear 1 (gb_rm 0 0) 0 q (κ q)) : gb_S RX8 cX8_clear 1 (gb_rm 0 0) 0 0 (k_X8_clear_0 κ) := (s_aln 0 rfl dX8_clear_0 (s_iconst (by decide +kernel) dX8_clear_1 (s_pf (T := TX8) winX8 rfl (Nat.le_of_ble_eq_true rfl) tyX8_ok nmX8 rfl (by decide +kernel) gw_42 rfl dX8_clear_2 (s_rv rfl dX8_clear_5))))
noncomputable def f_X8_clear : gb_F := gb_hide (gb_mf 1 (k_X8_clear_0 gb_n))
theorem c_X8_clear : ∀ l, gb_Met l yX8_clear cX8_clear 1 none 0 (gb_rm 0 0) f_X8_clear := gb_hide_c (gb_met (own := RX8) (rk := 0) rfl (by decide +kernel) ⟨rfl, rfl⟩ (s_X8_clear_0 gb_S_n))
theorem dX8_start_0 : decode cX8_start 0 = .ok (.aload_n 0, 1) := by decide +kernel
theorem dX8_start_1 : decode cX8_start 1 = .ok (.iconst 0, 1) := by decide +kernel
theorem dX8_start_2 : decode cX8_start 2 = .ok (.putfield 19, 3) := by decide +kernel
theorem dX8_start_5 : decode cX8_start 5 = .ok (.return_, 1) := by decide +kernel
theorem v_X8_start : yX8_start.cls = RX8 ∧ yX8_start.cls ≠ "java/lang/invoke/MethodHandle" ∧ yX8_start.cls ≠ "java/lang/invoke/VarHandle" ∧ (parseMethodDescriptor yX8_start.desc).map (fun d => d.parameters.length) = some 0 := ⟨rfl, by decide +kernel, by decide +kernel, by decide +kernel⟩
noncomputable def k_X8_start_0 (κ : gb_K) : gb_C := (o_al 0 (o_ci 0 (o_pf 8 2 o_rv)))
theorem l_X8_start_0 : gb_Li (fun κ => k_X8_start_0 κ) := (gb_li (q_al 0) (gb_li (q_ci 0) (gb_li (q_pf 8 2) (gb_li0 _))))
theorem s_X8_start_0   {κ : gb_K} (hκ : ∀ q, gb_S RX8 cX8_start 1 (gb_rm 0 0) 0 q (κ q)) : gb_S RX8 cX8_start 1 (gb_rm 0 0) 0 0 (k_X8_start_0 κ) := (s_aln 0 rfl dX8_start_0 (s_iconst (by decide +kernel) dX8_start_1 (s_pf (T := TX8) winX8 rfl (Nat.le_of_ble_eq_true rfl) tyX8_ok nmX8 rfl (by decide +kernel) gw_41 rfl dX8_start_2 (s_rv rfl dX8_start_5))))
noncomputable def f_X8_start : gb_F := gb_hide (gb_mf 1 (k_X8_start_0 gb_n))
theorem c_X8_start : ∀ l, gb_Met l yX8_start cX8_start 1 none 0 (gb_rm 0 0) f_X8_start := gb_hide_c (gb_met (own := RX8) (rk := 0) rfl (by decide +kernel) ⟨rfl, rfl⟩ (s_X8_start_0 gb_S_n))
theorem dX9_sign_0 : decode cX9_sign 0 = .ok (.aload_n 0, 1) := by decide +kernel
theorem dX9_sign_1 : decode cX9_sign 1 = .ok (.getfield 10, 3) := by decide +kernel
theorem dX9_sign_4 : decode cX9_sign 4 = .ok (.iload_n 1, 1) := by decide +kernel
theorem dX9_sign_5 : decode cX9_sign 5 = .ok (.invokevirtual 84, 3) := by decide +kernel
theorem dX9_sign_8 : decode cX9_sign 8 = .ok (.ifCond .eq 13, 3) := by decide +kernel
theorem dX9_sign_11 : decode cX9_sign 11 = .ok (.aload_n 0, 1) := by decide +kernel
theorem dX9_sign_12 : decode cX9_sign 12 = .ok (.getfield 10, 3) := by decide +kernel
theorem dX9_sign_15 : decode cX9_sign 15 = .ok (.getfield 88, 3) := by decide +kernel
theorem dX9_sign_18 : decode cX9_sign 18 = .ok (.goto 4, 3) := by decide +kernel
theorem dX9_sign_21 : decode cX9_sign 21 = .ok (.iconst (-1), 1) := by decide +kernel
theorem dX9_sign_22 : decode cX9_sign 22 = .ok (.ireturn, 1) := by decide +kernel
theorem v_X9_sign : yX9_sign.cls = RX9 ∧ yX9_sign.cls ≠ "java/lang/invoke/MethodHandle" ∧ yX9_sign.cls ≠ "java/lang/invoke/VarHandle" ∧ (parseMethodDescriptor yX9_sign.desc).map (fun d => d.parameters.length) = some 1 := ⟨rfl, by decide +kernel, by decide +kernel, by decide +kernel⟩
noncomputable def k_X9_sign_22 (κ : gb_K) : gb_C := o_ri
theorem l_X9_sign_22 : gb_Li (fun κ => k_X9_sign_22 κ) := (gb_li0 _)
theorem s_X9_sign_22   {κ : gb_K} (hκ : ∀ q, gb_S RX9 cX9_sign 2 (gb_rm 1 22) 1 q (κ q)) : gb_S RX9 cX9_sign 2 (gb_rm 1 22) 1 22 (k_X9_sign_22 κ) := (s_ri rfl dX9_sign_22)
noncomputable def k_X9_sign_0 (κ : gb_K) : gb_C := (o_al 0 (o_gf 9 0 (o_il 1 (o_cv 1 8 2 f_X8_add (o_zeq (o_ci (-1) (k_X9_sign_22 κ)) (o_al 0 (o_gf 9 0 (o_gf 8 1 (k_X9_sign_22 κ)))))))))
theorem l_X9_sign_0 : gb_Li (fun κ => k_X9_sign_0 κ) := (gb_li (q_al 0) (gb_li (q_gf 9 0) (gb_li (q_il 1) (gb_li (q_cv 1 8 2 f_X8_add) (q_zeq (gb_li (q_ci (-1)) (l_X9_sign_22)) (gb_li (q_al 0) (gb_li (q_gf 9 0) (gb_li (q_gf 8 1) (l_X9_sign_22)))))))))
theorem s_X9_sign_0   {κ : gb_K} (hκ : ∀ q, gb_S RX9 cX9_sign 2 (gb_rm 1 22) 1 q (κ q)) : gb_S RX9 cX9_sign 2 (gb_rm 1 22) 1 0 (k_X9_sign_0 κ) := (s_aln 0 rfl dX9_sign_0 (s_gf (T := TX9) winX9 rfl (Nat.le_of_ble_eq_true rfl) gw_210 rfl dX9_sign_1 (s_iln 1 rfl dX9_sign_4 (s_cv (C := RX8) c_X8_add rfl (gb_l5 gw_211 gw_212 gw_213 gw_46 gw_214) v_X8_add ⟨rfl, rfl⟩ ⟨Nat.le_of_ble_eq_true rfl, Nat.le_of_ble_eq_true rfl⟩ dX9_sign_5 (s_zeq (tgt := 21) (by decide +kernel) dX9_sign_8 (s_iconst (by decide +kernel) dX9_sign_21 (s_X9_sign_22 hκ)) (s_aln 0 rfl dX9_sign_11 (s_gf (T := TX9) winX9 rfl (Nat.le_of_ble_eq_true rfl) gw_210 rfl dX9_sign_12 (s_gf (T := TX8) winX8 rfl (Nat.le_of_ble_eq_true rfl) gw_215 rfl dX9_sign_15 (s_goto (tgt := 22) (by decide +kernel) dX9_sign_18 (s_X9_sign_22 hκ))))))))))
noncomputable def f_X9_sign : gb_F := gb_hide (gb_mf 2 (k_X9_sign_0 gb_n))
theorem c_X9_sign : ∀ l, gb_Met l yX9_sign cX9_sign 2 (some .int) 1 (gb_rm 1 22) f_X9_sign := gb_hide_c (gb_met (own := RX9) (rk := 1) rfl (by decide +kernel) ⟨rfl, rfl⟩ (s_X9_sign_0 gb_S_n))
theorem dX9_end_0 : decode cX9_end 0 = .ok (.aload_n 0, 1) := by decide +kernel
theorem dX9_end_1 : decode cX9_end 1 = .ok (.getfield 10, 3) := by decide +kernel
theorem dX9_end_4 : decode cX9_end 4 = .ok (.iload_n 1, 1) := by decide +kernel
theorem dX9_end_5 : decode cX9_end 5 = .ok (.invokevirtual 92, 3) := by decide +kernel
theorem dX9_end_8 : decode cX9_end 8 = .ok (.ireturn, 1) := by decide +kernel
theorem v_X9_end : yX9_end.cls = RX9 ∧ yX9_end.cls ≠ "java/lang/invoke/MethodHandle" ∧ yX9_end.cls ≠ "java/lang/invoke/VarHandle" ∧ (parseMethodDescriptor yX9_end.desc).map (fun d => d.parameters.length) = some 1 := ⟨rfl, by decide +kernel, by decide +kernel, by decide +kernel⟩
noncomputable def k_X9_end_0 (κ : gb_K) : gb_C := (o_al 0 (o_gf 9 0 (o_il 1 (o_cv 1 8 2 f_X8_cut o_rz))))
theorem l_X9_end_0 : gb_Li (fun κ => k_X9_end_0 κ) := (gb_li (q_al 0) (gb_li (q_gf 9 0) (gb_li (q_il 1) (gb_li (q_cv 1 8 2 f_X8_cut) (gb_li0 _)))))
theorem s_X9_end_0   {κ : gb_K} (hκ : ∀ q, gb_S RX9 cX9_end 2 (gb_rm 1 21) 2 q (κ q)) : gb_S RX9 cX9_end 2 (gb_rm 1 21) 2 0 (k_X9_end_0 κ) := (s_aln 0 rfl dX9_end_0 (s_gf (T := TX9) winX9 rfl (Nat.le_of_ble_eq_true rfl) gw_210 rfl dX9_end_1 (s_iln 1 rfl dX9_end_4 (s_cv (C := RX8) c_X8_cut rfl (gb_l5 gw_216 gw_217 gw_218 gw_46 gw_219) v_X8_cut ⟨rfl, rfl⟩ ⟨Nat.le_of_ble_eq_true rfl, Nat.le_of_ble_eq_true rfl⟩ dX9_end_5 (s_rz rfl dX9_end_8)))))
noncomputable def f_X9_end : gb_F := gb_hide (gb_mf 2 (k_X9_end_0 gb_n))
theorem c_X9_end : ∀ l, gb_Met l yX9_end cX9_end 2 (some .boolean) 2 (gb_rm 1 21) f_X9_end := gb_hide_c (gb_met (own := RX9) (rk := 2) rfl (by decide +kernel) ⟨rfl, rfl⟩ (s_X9_end_0 gb_S_n))
theorem dX9_land_0 : decode cX9_land 0 = .ok (.aload_n 0, 1) := by decide +kernel
theorem dX9_land_1 : decode cX9_land 1 = .ok (.getfield 10, 3) := by decide +kernel
theorem dX9_land_4 : decode cX9_land 4 = .ok (.invokevirtual 95, 3) := by decide +kernel
theorem dX9_land_7 : decode cX9_land 7 = .ok (.aload_n 0, 1) := by decide +kernel
theorem dX9_land_8 : decode cX9_land 8 = .ok (.getfield 23, 3) := by decide +kernel
theorem dX9_land_11 : decode cX9_land 11 = .ok (.aload_n 0, 1) := by decide +kernel
theorem dX9_land_12 : decode cX9_land 12 = .ok (.getfield 10, 3) := by decide +kernel
theorem dX9_land_15 : decode cX9_land 15 = .ok (.invokevirtual 98, 3) := by decide +kernel
theorem dX9_land_18 : decode cX9_land 18 = .ok (.istore_n 1, 1) := by decide +kernel
theorem dX9_land_19 : decode cX9_land 19 = .ok (.aload_n 0, 1) := by decide +kernel
theorem dX9_land_20 : decode cX9_land 20 = .ok (.getfield 10, 3) := by decide +kernel
theorem dX9_land_23 : decode cX9_land 23 = .ok (.invokevirtual 102, 3) := by decide +kernel
theorem dX9_land_26 : decode cX9_land 26 = .ok (.iload_n 1, 1) := by decide +kernel
theorem dX9_land_27 : decode cX9_land 27 = .ok (.ifCond .ge 5, 3) := by decide +kernel
theorem dX9_land_30 : decode cX9_land 30 = .ok (.iload_n 1, 1) := by decide +kernel
theorem dX9_land_31 : decode cX9_land 31 = .ok (.ireturn, 1) := by decide +kernel
theorem dX9_land_32 : decode cX9_land 32 = .ok (.aload_n 0, 1) := by decide +kernel
theorem dX9_land_33 : decode cX9_land 33 = .ok (.getfield 19, 3) := by decide +kernel
theorem dX9_land_36 : decode cX9_land 36 = .ok (.aload_n 0, 1) := by decide +kernel
theorem dX9_land_37 : decode cX9_land 37 = .ok (.getfield 23, 3) := by decide +kernel
theorem dX9_land_40 : decode cX9_land 40 = .ok (.invokevirtual 105, 3) := by decide +kernel
theorem dX9_land_43 : decode cX9_land 43 = .ok (.aload_n 0, 1) := by decide +kernel
theorem dX9_land_44 : decode cX9_land 44 = .ok (.getfield 31, 3) := by decide +kernel
theorem dX9_land_47 : decode cX9_land 47 = .ok (.invokevirtual 108, 3) := by decide +kernel
theorem dX9_land_50 : decode cX9_land 50 = .ok (.aload_n 0, 1) := by decide +kernel
theorem dX9_land_51 : decode cX9_land 51 = .ok (.getfield 41, 3) := by decide +kernel
theorem dX9_land_54 : decode cX9_land 54 = .ok (.invokevirtual 109, 3) := by decide +kernel
theorem dX9_land_57 : decode cX9_land 57 = .ok (.aload_n 0, 1) := by decide +kernel
theorem dX9_land_58 : decode cX9_land 58 = .ok (.iconst 0, 1) := by decide +kernel
theorem dX9_land_59 : decode cX9_land 59 = .ok (.putfield 110, 3) := by decide +kernel
theorem dX9_land_62 : decode cX9_land 62 = .ok (.iload_n 1, 1) := by decide +kernel
theorem dX9_land_63 : decode cX9_land 63 = .ok (.ireturn, 1) := by decide +kernel
theorem v_X9_land : yX9_land.cls = RX9 ∧ yX9_land.cls ≠ "java/lang/invoke/MethodHandle" ∧ yX9_land.cls ≠ "java/lang/invoke/VarHandle" ∧ (parseMethodDescriptor yX9_land.desc).map (fun d => d.parameters.length) = some 0 := ⟨rfl, by decide +kernel, by decide +kernel, by decide +kernel⟩
noncomputable def k_X9_land_0 (κ : gb_K) : gb_C := (o_al 0 (o_gf 9 0 (o_cv 0 8 0 f_X8_start (o_al 0 (o_gf 9 2 (o_al 0 (o_gf 9 0 (o_cv 1 5 1 f_X5_read (o_is 1 (o_al 0 (o_gf 9 0 (o_cv 0 8 0 f_X8_clear (o_il 1 (o_zge (o_al 0 (o_gf 9 1 (o_al 0 (o_gf 9 2 (o_cv 1 5 0 f_X5_copy (o_al 0 (o_gf 9 3 (o_cv 0 7 0 f_X7_clear (o_al 0 (o_gf 9 6 (o_cv 0 3 0 f_X3_clear (o_al 0 (o_ci 0 (o_pz 9 5 (o_il 1 o_ri))))))))))))))) (o_il 1 o_ri)))))))))))))))
theorem l_X9_land_0 : gb_Li (fun κ => k_X9_land_0 κ) := (gb_li (q_al 0) (gb_li (q_gf 9 0) (gb_li (q_cv 0 8 0 f_X8_start) (gb_li (q_al 0) (gb_li (q_gf 9 2) (gb_li (q_al 0) (gb_li (q_gf 9 0) (gb_li (q_cv 1 5 1 f_X5_read) (gb_li (q_is 1) (gb_li (q_al 0) (gb_li (q_gf 9 0) (gb_li (q_cv 0 8 0 f_X8_clear) (gb_li (q_il 1) (q_zge (gb_li (q_al 0) (gb_li (q_gf 9 1) (gb_li (q_al 0) (gb_li (q_gf 9 2) (gb_li (q_cv 1 5 0 f_X5_copy) (gb_li (q_al 0) (gb_li (q_gf 9 3) (gb_li (q_cv 0 7 0 f_X7_clear) (gb_li (q_al 0) (gb_li (q_gf 9 6) (gb_li (q_cv 0 3 0 f_X3_clear) (gb_li (q_al 0) (gb_li (q_ci 0) (gb_li (q_pz 9 5) (gb_li (q_il 1) (gb_li0 _)))))))))))))))) (gb_li (q_il 1) (gb_li0 _))))))))))))))))
theorem s_X9_land_0   {κ : gb_K} (hκ : ∀ q, gb_S RX9 cX9_land 2 (gb_rm 6 136) 1 q (κ q)) : gb_S RX9 cX9_land 2 (gb_rm 6 136) 1 0 (k_X9_land_0 κ) := (s_aln 0 rfl dX9_land_0 (s_gf (T := TX9) winX9 rfl (Nat.le_of_ble_eq_true rfl) gw_210 rfl dX9_land_1 (s_cv (C := RX8) c_X8_start rfl (gb_l5 gw_220 gw_221 gw_222 gw_46 gw_223) v_X8_start ⟨rfl, rfl⟩ ⟨Nat.le_of_ble_eq_true rfl, Nat.le_of_ble_eq_true rfl⟩ dX9_land_4 (s_aln 0 rfl dX9_land_7 (s_gf (T := TX9) winX9 rfl (Nat.le_of_ble_eq_true rfl) gw_224 rfl dX9_land_8 (s_aln 0 rfl dX9_land_11 (s_gf (T := TX9) winX9 rfl (Nat.le_of_ble_eq_true rfl) gw_210 rfl dX9_land_12 (s_cv (C := RX5) c_X5_read rfl (gb_l5 gw_225 gw_226 gw_227 gw_117 gw_228) v_X5_read ⟨rfl, rfl⟩ ⟨Nat.le_of_ble_eq_true rfl, Nat.le_of_ble_eq_true rfl⟩ dX9_land_15 (s_isn 1 rfl (Nat.le_of_ble_eq_true rfl) dX9_land_18 (s_aln 0 rfl dX9_land_19 (s_gf (T := TX9) winX9 rfl (Nat.le_of_ble_eq_true rfl) gw_210 rfl dX9_land_20 (s_cv (C := RX8) c_X8_clear rfl (gb_l5 gw_229 gw_230 gw_231 gw_46 gw_232) v_X8_clear ⟨rfl, rfl⟩ ⟨Nat.le_of_ble_eq_true rfl, Nat.le_of_ble_eq_true rfl⟩ dX9_land_23 (s_iln 1 rfl dX9_land_26 (s_zge (tgt := 32) (by decide +kernel) dX9_land_27 (s_aln 0 rfl dX9_land_32 (s_gf (T := TX9) winX9 rfl (Nat.le_of_ble_eq_true rfl) gw_233 rfl dX9_land_33 (s_aln 0 rfl dX9_land_36 (s_gf (T := TX9) winX9 rfl (Nat.le_of_ble_eq_true rfl) gw_224 rfl dX9_land_37 (s_cv (C := RX5) c_X5_copy rfl (gb_l5 gw_234 gw_235 gw_236 gw_117 gw_237) v_X5_copy ⟨rfl, rfl⟩ ⟨Nat.le_of_ble_eq_true rfl, Nat.le_of_ble_eq_true rfl⟩ dX9_land_40 (s_aln 0 rfl dX9_land_43 (s_gf (T := TX9) winX9 rfl (Nat.le_of_ble_eq_true rfl) gw_238 rfl dX9_land_44 (s_cv (C := RX7) c_X7_clear rfl (gb_l5 gw_239 gw_240 gw_241 gw_11 gw_242) v_X7_clear ⟨rfl, rfl⟩ ⟨Nat.le_of_ble_eq_true rfl, Nat.le_of_ble_eq_true rfl⟩ dX9_land_47 (s_aln 0 rfl dX9_land_50 (s_gf (T := TX9) winX9 rfl (Nat.le_of_ble_eq_true rfl) gw_243 rfl dX9_land_51 (s_cv (C := RX3) c_X3_clear rfl (gb_l5 gw_244 gw_245 gw_246 gw_247 gw_248) v_X3_clear ⟨rfl, rfl⟩ ⟨Nat.le_of_ble_eq_true rfl, Nat.le_of_ble_eq_true rfl⟩ dX9_land_54 (s_aln 0 rfl dX9_land_57 (s_iconst (by decide +kernel) dX9_land_58 (s_pz (T := TX9) winX9 rfl (Nat.le_of_ble_eq_true rfl) tyX9_ok nmX9 rfl (by decide +kernel) gw_249 rfl dX9_land_59 (s_iln 1 rfl dX9_land_62 (s_ri rfl dX9_land_63)))))))))))))))) (s_iln 1 rfl dX9_land_30 (s_ri rfl dX9_land_31))))))))))))))))
noncomputable def f_X9_land : gb_F := gb_hide (gb_mf 2 (k_X9_land_0 gb_n))
theorem c_X9_land : ∀ l, gb_Met l yX9_land cX9_land 2 (some .int) 1 (gb_rm 6 136) f_X9_land := gb_hide_c (gb_met (own := RX9) (rk := 1) rfl (by decide +kernel) ⟨rfl, rfl⟩ (s_X9_land_0 gb_S_n))
theorem dX9_isGrade_0 : decode cX9_isGrade 0 = .ok (.iload_n 0, 1) := by decide +kernel
theorem dX9_isGrade_1 : decode cX9_isGrade 1 = .ok (.ifCond .lt 13, 3) := by decide +kernel
theorem dX9_isGrade_4 : decode cX9_isGrade 4 = .ok (.iload_n 0, 1) := by decide +kernel
theorem dX9_isGrade_5 : decode cX9_isGrade 5 = .ok (.bipush 6, 2) := by decide +kernel
theorem dX9_isGrade_7 : decode cX9_isGrade 7 = .ok (.if_icmp .ge 7, 3) := by decide +kernel
theorem dX9_isGrade_10 : decode cX9_isGrade 10 = .ok (.iconst 1, 1) := by decide +kernel
theorem dX9_isGrade_11 : decode cX9_isGrade 11 = .ok (.goto 4, 3) := by decide +kernel
theorem dX9_isGrade_14 : decode cX9_isGrade 14 = .ok (.iconst 0, 1) := by decide +kernel
theorem dX9_isGrade_15 : decode cX9_isGrade 15 = .ok (.ireturn, 1) := by decide +kernel
theorem v_X9_isGrade : yX9_isGrade.cls = RX9 ∧ yX9_isGrade.cls ≠ "java/lang/invoke/MethodHandle" ∧ yX9_isGrade.cls ≠ "java/lang/invoke/VarHandle" ∧ (parseMethodDescriptor yX9_isGrade.desc).map (fun d => d.parameters.length) = some 1 := ⟨rfl, by decide +kernel, by decide +kernel, by decide +kernel⟩
noncomputable def k_X9_isGrade_15 (κ : gb_K) : gb_C := o_rz
theorem l_X9_isGrade_15 : gb_Li (fun κ => k_X9_isGrade_15 κ) := (gb_li0 _)
theorem s_X9_isGrade_15   {κ : gb_K} (hκ : ∀ q, gb_S RX9 cX9_isGrade 1 (gb_rm 0 0) 2 q (κ q)) : gb_S RX9 cX9_isGrade 1 (gb_rm 0 0) 2 15 (k_X9_isGrade_15 κ) := (s_rz rfl dX9_isGrade_15)
noncomputable def k_X9_isGrade_14 (κ : gb_K) : gb_C := (o_ci 0 (k_X9_isGrade_15 κ))
theorem l_X9_isGrade_14 : gb_Li (fun κ => k_X9_isGrade_14 κ) := (gb_li (q_ci 0) (l_X9_isGrade_15))
theorem s_X9_isGrade_14   {κ : gb_K} (hκ : ∀ q, gb_S RX9 cX9_isGrade 1 (gb_rm 0 0) 2 q (κ q)) : gb_S RX9 cX9_isGrade 1 (gb_rm 0 0) 2 14 (k_X9_isGrade_14 κ) := (s_iconst (by decide +kernel) dX9_isGrade_14 (s_X9_isGrade_15 hκ))
noncomputable def k_X9_isGrade_0 (κ : gb_K) : gb_C := (o_il 0 (o_zlt (k_X9_isGrade_14 κ) (o_il 0 (o_ci 6 (o_cge (k_X9_isGrade_14 κ) (o_ci 1 (k_X9_isGrade_15 κ)))))))
theorem l_X9_isGrade_0 : gb_Li (fun κ => k_X9_isGrade_0 κ) := (gb_li (q_il 0) (q_zlt (l_X9_isGrade_14) (gb_li (q_il 0) (gb_li (q_ci 6) (q_cge (l_X9_isGrade_14) (gb_li (q_ci 1) (l_X9_isGrade_15)))))))
theorem s_X9_isGrade_0   {κ : gb_K} (hκ : ∀ q, gb_S RX9 cX9_isGrade 1 (gb_rm 0 0) 2 q (κ q)) : gb_S RX9 cX9_isGrade 1 (gb_rm 0 0) 2 0 (k_X9_isGrade_0 κ) := (s_iln 0 rfl dX9_isGrade_0 (s_zlt (tgt := 14) (by decide +kernel) dX9_isGrade_1 (s_X9_isGrade_14 hκ) (s_iln 0 rfl dX9_isGrade_4 (s_bipush (by decide +kernel) dX9_isGrade_5 (s_cge (tgt := 14) (by decide +kernel) dX9_isGrade_7 (s_X9_isGrade_14 hκ) (s_iconst (by decide +kernel) dX9_isGrade_10 (s_goto (tgt := 15) (by decide +kernel) dX9_isGrade_11 (s_X9_isGrade_15 hκ))))))))
noncomputable def f_X9_isGrade : gb_F := gb_hide (gb_mf 1 (k_X9_isGrade_0 gb_n))
theorem c_X9_isGrade : ∀ l, gb_Met l yX9_isGrade cX9_isGrade 1 (some .boolean) 2 (gb_rm 0 0) f_X9_isGrade := gb_hide_c (gb_met (own := RX9) (rk := 2) rfl (by decide +kernel) ⟨rfl, rfl⟩ (s_X9_isGrade_0 gb_S_n))
theorem dX9_grade_0 : decode cX9_grade 0 = .ok (.iload_n 1, 1) := by decide +kernel
theorem dX9_grade_1 : decode cX9_grade 1 = .ok (.invokestatic 114, 3) := by decide +kernel
theorem dX9_grade_4 : decode cX9_grade 4 = .ok (.ifCond .ne 5, 3) := by decide +kernel
theorem dX9_grade_7 : decode cX9_grade 7 = .ok (.iconst (-1), 1) := by decide +kernel
theorem dX9_grade_8 : decode cX9_grade 8 = .ok (.ireturn, 1) := by decide +kernel
theorem dX9_grade_9 : decode cX9_grade 9 = .ok (.iload_n 2, 1) := by decide +kernel
theorem dX9_grade_10 : decode cX9_grade 10 = .ok (.tableswitch 55 0 2 #[26, 36, 46], 26) := by decide +kernel
theorem dX9_grade_36 : decode cX9_grade 36 = .ok (.aload_n 0, 1) := by decide +kernel
theorem dX9_grade_37 : decode cX9_grade 37 = .ok (.getfield 31, 3) := by decide +kernel
theorem dX9_grade_40 : decode cX9_grade 40 = .ok (.getfield 117, 3) := by decide +kernel
theorem dX9_grade_43 : decode cX9_grade 43 = .ok (.iload_n 1, 1) := by decide +kernel
theorem dX9_grade_44 : decode cX9_grade 44 = .ok (.iaload, 1) := by decide +kernel
theorem dX9_grade_45 : decode cX9_grade 45 = .ok (.ireturn, 1) := by decide +kernel
theorem dX9_grade_46 : decode cX9_grade 46 = .ok (.aload_n 0, 1) := by decide +kernel
theorem dX9_grade_47 : decode cX9_grade 47 = .ok (.getfield 19, 3) := by decide +kernel
theorem dX9_grade_50 : decode cX9_grade 50 = .ok (.getfield 121, 3) := by decide +kernel
theorem dX9_grade_53 : decode cX9_grade 53 = .ok (.iload_n 1, 1) := by decide +kernel
theorem dX9_grade_54 : decode cX9_grade 54 = .ok (.iaload, 1) := by decide +kernel
theorem dX9_grade_55 : decode cX9_grade 55 = .ok (.ireturn, 1) := by decide +kernel
theorem dX9_grade_56 : decode cX9_grade 56 = .ok (.aload_n 0, 1) := by decide +kernel
theorem dX9_grade_57 : decode cX9_grade 57 = .ok (.getfield 31, 3) := by decide +kernel
theorem dX9_grade_60 : decode cX9_grade 60 = .ok (.iload_n 1, 1) := by decide +kernel
theorem dX9_grade_61 : decode cX9_grade 61 = .ok (.invokevirtual 124, 3) := by decide +kernel
theorem dX9_grade_64 : decode cX9_grade 64 = .ok (.ireturn, 1) := by decide +kernel
theorem dX9_grade_65 : decode cX9_grade 65 = .ok (.iconst (-1), 1) := by decide +kernel
theorem dX9_grade_66 : decode cX9_grade 66 = .ok (.ireturn, 1) := by decide +kernel
theorem v_X9_grade : yX9_grade.cls = RX9 ∧ yX9_grade.cls ≠ "java/lang/invoke/MethodHandle" ∧ yX9_grade.cls ≠ "java/lang/invoke/VarHandle" ∧ (parseMethodDescriptor yX9_grade.desc).map (fun d => d.parameters.length) = some 2 := ⟨rfl, by decide +kernel, by decide +kernel, by decide +kernel⟩
noncomputable def k_X9_grade_65 (κ : gb_K) : gb_C := (o_ci (-1) o_ri)
theorem l_X9_grade_65 : gb_Li (fun κ => k_X9_grade_65 κ) := (gb_li (q_ci (-1)) (gb_li0 _))
theorem s_X9_grade_65   {κ : gb_K} (hκ : ∀ q, gb_S RX9 cX9_grade 3 (gb_rm 1 23) 1 q (κ q)) : gb_S RX9 cX9_grade 3 (gb_rm 1 23) 1 65 (k_X9_grade_65 κ) := (s_iconst (by decide +kernel) dX9_grade_65 (s_ri rfl dX9_grade_66))
noncomputable def k_X9_grade_56 (κ : gb_K) : gb_C := (o_al 0 (o_gf 9 3 (o_il 1 (o_cv 1 7 1 f_X7_tonsOf o_ri))))
theorem l_X9_grade_56 : gb_Li (fun κ => k_X9_grade_56 κ) := (gb_li (q_al 0) (gb_li (q_gf 9 3) (gb_li (q_il 1) (gb_li (q_cv 1 7 1 f_X7_tonsOf) (gb_li0 _)))))
theorem s_X9_grade_56   {κ : gb_K} (hκ : ∀ q, gb_S RX9 cX9_grade 3 (gb_rm 1 23) 1 q (κ q)) : gb_S RX9 cX9_grade 3 (gb_rm 1 23) 1 56 (k_X9_grade_56 κ) := (s_aln 0 rfl dX9_grade_56 (s_gf (T := TX9) winX9 rfl (Nat.le_of_ble_eq_true rfl) gw_238 rfl dX9_grade_57 (s_iln 1 rfl dX9_grade_60 (s_cv (C := RX7) c_X7_tonsOf rfl (gb_l5 gw_250 gw_251 gw_252 gw_11 gw_253) v_X7_tonsOf ⟨rfl, rfl⟩ ⟨Nat.le_of_ble_eq_true rfl, Nat.le_of_ble_eq_true rfl⟩ dX9_grade_61 (s_ri rfl dX9_grade_64)))))
noncomputable def k_X9_grade_46 (κ : gb_K) : gb_C := (o_al 0 (o_gf 9 1 (o_gf 5 1 (o_il 1 (o_iald o_ri)))))
theorem l_X9_grade_46 : gb_Li (fun κ => k_X9_grade_46 κ) := (gb_li (q_al 0) (gb_li (q_gf 9 1) (gb_li (q_gf 5 1) (gb_li (q_il 1) (gb_li q_iald (gb_li0 _))))))
theorem s_X9_grade_46   {κ : gb_K} (hκ : ∀ q, gb_S RX9 cX9_grade 3 (gb_rm 1 23) 1 q (κ q)) : gb_S RX9 cX9_grade 3 (gb_rm 1 23) 1 46 (k_X9_grade_46 κ) := (s_aln 0 rfl dX9_grade_46 (s_gf (T := TX9) winX9 rfl (Nat.le_of_ble_eq_true rfl) gw_233 rfl dX9_grade_47 (s_gf (T := TX5) winX5 rfl (Nat.le_of_ble_eq_true rfl) gw_254 rfl dX9_grade_50 (s_iln 1 rfl dX9_grade_53 (s_iald dX9_grade_54 (s_ri rfl dX9_grade_55))))))
noncomputable def k_X9_grade_36 (κ : gb_K) : gb_C := (o_al 0 (o_gf 9 3 (o_gf 7 1 (o_il 1 (o_iald o_ri)))))
theorem l_X9_grade_36 : gb_Li (fun κ => k_X9_grade_36 κ) := (gb_li (q_al 0) (gb_li (q_gf 9 3) (gb_li (q_gf 7 1) (gb_li (q_il 1) (gb_li q_iald (gb_li0 _))))))
theorem s_X9_grade_36   {κ : gb_K} (hκ : ∀ q, gb_S RX9 cX9_grade 3 (gb_rm 1 23) 1 q (κ q)) : gb_S RX9 cX9_grade 3 (gb_rm 1 23) 1 36 (k_X9_grade_36 κ) := (s_aln 0 rfl dX9_grade_36 (s_gf (T := TX9) winX9 rfl (Nat.le_of_ble_eq_true rfl) gw_238 rfl dX9_grade_37 (s_gf (T := TX7) winX7 rfl (Nat.le_of_ble_eq_true rfl) gw_255 rfl dX9_grade_40 (s_iln 1 rfl dX9_grade_43 (s_iald dX9_grade_44 (s_ri rfl dX9_grade_45))))))
noncomputable def k_X9_grade_0 (κ : gb_K) : gb_C := (o_il 1 (o_cs 1 2 f_X9_isGrade (o_zeq (o_ci (-1) o_ri) (o_il 2 (o_ts 0 2 [(k_X9_grade_36 κ), (k_X9_grade_46 κ), (k_X9_grade_56 κ)] (k_X9_grade_65 κ))))))
theorem l_X9_grade_0 : gb_Li (fun κ => k_X9_grade_0 κ) := (gb_li (q_il 1) (gb_li (q_cs 1 2 f_X9_isGrade) (q_zeq (gb_li (q_ci (-1)) (gb_li0 _)) (gb_li (q_il 2) (q_ts (ts := [(fun κ => (k_X9_grade_36 κ)), (fun κ => (k_X9_grade_46 κ)), (fun κ => (k_X9_grade_56 κ))]) (List.forall_mem_cons.mpr ⟨(l_X9_grade_36), List.forall_mem_cons.mpr ⟨(l_X9_grade_46), List.forall_mem_cons.mpr ⟨(l_X9_grade_56), (fun _ h => absurd h List.not_mem_nil)⟩⟩⟩) (l_X9_grade_65))))))
theorem s_X9_grade_0   {κ : gb_K} (hκ : ∀ q, gb_S RX9 cX9_grade 3 (gb_rm 1 23) 1 q (κ q)) : gb_S RX9 cX9_grade 3 (gb_rm 1 23) 1 0 (k_X9_grade_0 κ) := (s_iln 1 rfl dX9_grade_0 (s_cs c_X9_isGrade (gb_l4 gw_256 gw_257 gw_258 gw_259) v_X9_isGrade.2 ⟨rfl, rfl⟩ ⟨Nat.le_of_ble_eq_true rfl, Nat.le_of_ble_eq_true rfl⟩ dX9_grade_1 (s_zne (tgt := 9) (by decide +kernel) dX9_grade_4 (s_iln 2 rfl dX9_grade_9 (s_ts (dt := 65) dX9_grade_10 (by decide +kernel) (s_X9_grade_65 hκ) (gb_tsl (gb_tslc (off := 26) (tgt := 36) (by decide +kernel) (s_X9_grade_36 hκ) (gb_tslc (off := 36) (tgt := 46) (by decide +kernel) (s_X9_grade_46 hκ) (gb_tslc (off := 46) (tgt := 56) (by decide +kernel) (s_X9_grade_56 hκ) gb_tsl0)))))) (s_iconst (by decide +kernel) dX9_grade_7 (s_ri rfl dX9_grade_8)))))
noncomputable def f_X9_grade : gb_F := gb_hide (gb_mf 3 (k_X9_grade_0 gb_n))
theorem c_X9_grade : ∀ l, gb_Met l yX9_grade cX9_grade 3 (some .int) 1 (gb_rm 1 23) f_X9_grade := gb_hide_c (gb_met (own := RX9) (rk := 1) rfl (by decide +kernel) ⟨rfl, rfl⟩ (s_X9_grade_0 gb_S_n))
theorem dX9_pair_0 : decode cX9_pair 0 = .ok (.iload_n 1, 1) := by decide +kernel
theorem dX9_pair_1 : decode cX9_pair 1 = .ok (.invokestatic 114, 3) := by decide +kernel
theorem dX9_pair_4 : decode cX9_pair 4 = .ok (.ifCond .eq 10, 3) := by decide +kernel
theorem dX9_pair_7 : decode cX9_pair 7 = .ok (.iload_n 2, 1) := by decide +kernel
theorem dX9_pair_8 : decode cX9_pair 8 = .ok (.invokestatic 114, 3) := by decide +kernel
theorem dX9_pair_11 : decode cX9_pair 11 = .ok (.ifCond .ne 5, 3) := by decide +kernel
theorem dX9_pair_14 : decode cX9_pair 14 = .ok (.iconst (-1), 1) := by decide +kernel
theorem dX9_pair_15 : decode cX9_pair 15 = .ok (.ireturn, 1) := by decide +kernel
theorem dX9_pair_16 : decode cX9_pair 16 = .ok (.aload_n 0, 1) := by decide +kernel
theorem dX9_pair_17 : decode cX9_pair 17 = .ok (.getfield 19, 3) := by decide +kernel
theorem dX9_pair_20 : decode cX9_pair 20 = .ok (.iload_n 1, 1) := by decide +kernel
theorem dX9_pair_21 : decode cX9_pair 21 = .ok (.iload_n 2, 1) := by decide +kernel
theorem dX9_pair_22 : decode cX9_pair 22 = .ok (.invokevirtual 128, 3) := by decide +kernel
theorem dX9_pair_25 : decode cX9_pair 25 = .ok (.ifCond .eq 15, 3) := by decide +kernel
theorem dX9_pair_28 : decode cX9_pair 28 = .ok (.aload_n 0, 1) := by decide +kernel
theorem dX9_pair_29 : decode cX9_pair 29 = .ok (.getfield 19, 3) := by decide +kernel
theorem dX9_pair_32 : decode cX9_pair 32 = .ok (.iload_n 1, 1) := by decide +kernel
theorem dX9_pair_33 : decode cX9_pair 33 = .ok (.iload_n 2, 1) := by decide +kernel
theorem dX9_pair_34 : decode cX9_pair 34 = .ok (.invokevirtual 132, 3) := by decide +kernel
theorem dX9_pair_37 : decode cX9_pair 37 = .ok (.goto 5, 3) := by decide +kernel
theorem dX9_pair_40 : decode cX9_pair 40 = .ok (.bipush (-2), 2) := by decide +kernel
theorem dX9_pair_42 : decode cX9_pair 42 = .ok (.ireturn, 1) := by decide +kernel
theorem v_X9_pair : yX9_pair.cls = RX9 ∧ yX9_pair.cls ≠ "java/lang/invoke/MethodHandle" ∧ yX9_pair.cls ≠ "java/lang/invoke/VarHandle" ∧ (parseMethodDescriptor yX9_pair.desc).map (fun d => d.parameters.length) = some 2 := ⟨rfl, by decide +kernel, by decide +kernel, by decide +kernel⟩
noncomputable def k_X9_pair_14 (κ : gb_K) : gb_C := (o_ci (-1) o_ri)
theorem l_X9_pair_14 : gb_Li (fun κ => k_X9_pair_14 κ) := (gb_li (q_ci (-1)) (gb_li0 _))
theorem s_X9_pair_14   {κ : gb_K} (hκ : ∀ q, gb_S RX9 cX9_pair 3 (gb_rm 1 22) 1 q (κ q)) : gb_S RX9 cX9_pair 3 (gb_rm 1 22) 1 14 (k_X9_pair_14 κ) := (s_iconst (by decide +kernel) dX9_pair_14 (s_ri rfl dX9_pair_15))
noncomputable def k_X9_pair_42 (κ : gb_K) : gb_C := o_ri
theorem l_X9_pair_42 : gb_Li (fun κ => k_X9_pair_42 κ) := (gb_li0 _)
theorem s_X9_pair_42   {κ : gb_K} (hκ : ∀ q, gb_S RX9 cX9_pair 3 (gb_rm 1 22) 1 q (κ q)) : gb_S RX9 cX9_pair 3 (gb_rm 1 22) 1 42 (k_X9_pair_42 κ) := (s_ri rfl dX9_pair_42)
noncomputable def k_X9_pair_0 (κ : gb_K) : gb_C := (o_il 1 (o_cs 1 2 f_X9_isGrade (o_zeq (k_X9_pair_14 κ) (o_il 2 (o_cs 1 2 f_X9_isGrade (o_zeq (k_X9_pair_14 κ) (o_al 0 (o_gf 9 1 (o_il 1 (o_il 2 (o_cv 2 5 2 f_X5_may (o_zeq (o_ci (-2) (k_X9_pair_42 κ)) (o_al 0 (o_gf 9 1 (o_il 1 (o_il 2 (o_cv 2 5 1 f_X5_lossOf (k_X9_pair_42 κ))))))))))))))))))
theorem l_X9_pair_0 : gb_Li (fun κ => k_X9_pair_0 κ) := (gb_li (q_il 1) (gb_li (q_cs 1 2 f_X9_isGrade) (q_zeq (l_X9_pair_14) (gb_li (q_il 2) (gb_li (q_cs 1 2 f_X9_isGrade) (q_zeq (l_X9_pair_14) (gb_li (q_al 0) (gb_li (q_gf 9 1) (gb_li (q_il 1) (gb_li (q_il 2) (gb_li (q_cv 2 5 2 f_X5_may) (q_zeq (gb_li (q_ci (-2)) (l_X9_pair_42)) (gb_li (q_al 0) (gb_li (q_gf 9 1) (gb_li (q_il 1) (gb_li (q_il 2) (gb_li (q_cv 2 5 1 f_X5_lossOf) (l_X9_pair_42))))))))))))))))))
theorem s_X9_pair_0   {κ : gb_K} (hκ : ∀ q, gb_S RX9 cX9_pair 3 (gb_rm 1 22) 1 q (κ q)) : gb_S RX9 cX9_pair 3 (gb_rm 1 22) 1 0 (k_X9_pair_0 κ) := (s_iln 1 rfl dX9_pair_0 (s_cs c_X9_isGrade (gb_l4 gw_256 gw_257 gw_258 gw_259) v_X9_isGrade.2 ⟨rfl, rfl⟩ ⟨Nat.le_of_ble_eq_true rfl, Nat.le_of_ble_eq_true rfl⟩ dX9_pair_1 (s_zeq (tgt := 14) (by decide +kernel) dX9_pair_4 (s_X9_pair_14 hκ) (s_iln 2 rfl dX9_pair_7 (s_cs c_X9_isGrade (gb_l4 gw_256 gw_257 gw_258 gw_259) v_X9_isGrade.2 ⟨rfl, rfl⟩ ⟨Nat.le_of_ble_eq_true rfl, Nat.le_of_ble_eq_true rfl⟩ dX9_pair_8 (s_zne (tgt := 16) (by decide +kernel) dX9_pair_11 (s_aln 0 rfl dX9_pair_16 (s_gf (T := TX9) winX9 rfl (Nat.le_of_ble_eq_true rfl) gw_233 rfl dX9_pair_17 (s_iln 1 rfl dX9_pair_20 (s_iln 2 rfl dX9_pair_21 (s_cv (C := RX5) c_X5_may rfl (gb_l5 gw_260 gw_261 gw_262 gw_117 gw_263) v_X5_may ⟨rfl, rfl⟩ ⟨Nat.le_of_ble_eq_true rfl, Nat.le_of_ble_eq_true rfl⟩ dX9_pair_22 (s_zeq (tgt := 40) (by decide +kernel) dX9_pair_25 (s_bipush (by decide +kernel) dX9_pair_40 (s_X9_pair_42 hκ)) (s_aln 0 rfl dX9_pair_28 (s_gf (T := TX9) winX9 rfl (Nat.le_of_ble_eq_true rfl) gw_233 rfl dX9_pair_29 (s_iln 1 rfl dX9_pair_32 (s_iln 2 rfl dX9_pair_33 (s_cv (C := RX5) c_X5_lossOf rfl (gb_l5 gw_264 gw_183 gw_184 gw_117 gw_185) v_X5_lossOf ⟨rfl, rfl⟩ ⟨Nat.le_of_ble_eq_true rfl, Nat.le_of_ble_eq_true rfl⟩ dX9_pair_34 (s_goto (tgt := 42) (by decide +kernel) dX9_pair_37 (s_X9_pair_42 hκ))))))))))))) (s_X9_pair_14 hκ)))))))
noncomputable def f_X9_pair : gb_F := gb_hide (gb_mf 3 (k_X9_pair_0 gb_n))
theorem c_X9_pair : ∀ l, gb_Met l yX9_pair cX9_pair 3 (some .int) 1 (gb_rm 1 22) f_X9_pair := gb_hide_c (gb_met (own := RX9) (rk := 1) rfl (by decide +kernel) ⟨rfl, rfl⟩ (s_X9_pair_0 gb_S_n))
theorem dX9_isBin_0 : decode cX9_isBin 0 = .ok (.iload_n 0, 1) := by decide +kernel
theorem dX9_isBin_1 : decode cX9_isBin 1 = .ok (.ifCond .lt 13, 3) := by decide +kernel
theorem dX9_isBin_4 : decode cX9_isBin 4 = .ok (.iload_n 0, 1) := by decide +kernel
theorem dX9_isBin_5 : decode cX9_isBin 5 = .ok (.bipush 6, 2) := by decide +kernel
theorem dX9_isBin_7 : decode cX9_isBin 7 = .ok (.if_icmp .ge 7, 3) := by decide +kernel
theorem dX9_isBin_10 : decode cX9_isBin 10 = .ok (.iconst 1, 1) := by decide +kernel
theorem dX9_isBin_11 : decode cX9_isBin 11 = .ok (.goto 4, 3) := by decide +kernel
theorem dX9_isBin_14 : decode cX9_isBin 14 = .ok (.iconst 0, 1) := by decide +kernel
theorem dX9_isBin_15 : decode cX9_isBin 15 = .ok (.ireturn, 1) := by decide +kernel
theorem v_X9_isBin : yX9_isBin.cls = RX9 ∧ yX9_isBin.cls ≠ "java/lang/invoke/MethodHandle" ∧ yX9_isBin.cls ≠ "java/lang/invoke/VarHandle" ∧ (parseMethodDescriptor yX9_isBin.desc).map (fun d => d.parameters.length) = some 1 := ⟨rfl, by decide +kernel, by decide +kernel, by decide +kernel⟩
noncomputable def k_X9_isBin_15 (κ : gb_K) : gb_C := o_rz
theorem l_X9_isBin_15 : gb_Li (fun κ => k_X9_isBin_15 κ) := (gb_li0 _)
theorem s_X9_isBin_15   {κ : gb_K} (hκ : ∀ q, gb_S RX9 cX9_isBin 1 (gb_rm 0 0) 2 q (κ q)) : gb_S RX9 cX9_isBin 1 (gb_rm 0 0) 2 15 (k_X9_isBin_15 κ) := (s_rz rfl dX9_isBin_15)
noncomputable def k_X9_isBin_14 (κ : gb_K) : gb_C := (o_ci 0 (k_X9_isBin_15 κ))
theorem l_X9_isBin_14 : gb_Li (fun κ => k_X9_isBin_14 κ) := (gb_li (q_ci 0) (l_X9_isBin_15))
theorem s_X9_isBin_14   {κ : gb_K} (hκ : ∀ q, gb_S RX9 cX9_isBin 1 (gb_rm 0 0) 2 q (κ q)) : gb_S RX9 cX9_isBin 1 (gb_rm 0 0) 2 14 (k_X9_isBin_14 κ) := (s_iconst (by decide +kernel) dX9_isBin_14 (s_X9_isBin_15 hκ))
noncomputable def k_X9_isBin_0 (κ : gb_K) : gb_C := (o_il 0 (o_zlt (k_X9_isBin_14 κ) (o_il 0 (o_ci 6 (o_cge (k_X9_isBin_14 κ) (o_ci 1 (k_X9_isBin_15 κ)))))))
theorem l_X9_isBin_0 : gb_Li (fun κ => k_X9_isBin_0 κ) := (gb_li (q_il 0) (q_zlt (l_X9_isBin_14) (gb_li (q_il 0) (gb_li (q_ci 6) (q_cge (l_X9_isBin_14) (gb_li (q_ci 1) (l_X9_isBin_15)))))))
theorem s_X9_isBin_0   {κ : gb_K} (hκ : ∀ q, gb_S RX9 cX9_isBin 1 (gb_rm 0 0) 2 q (κ q)) : gb_S RX9 cX9_isBin 1 (gb_rm 0 0) 2 0 (k_X9_isBin_0 κ) := (s_iln 0 rfl dX9_isBin_0 (s_zlt (tgt := 14) (by decide +kernel) dX9_isBin_1 (s_X9_isBin_14 hκ) (s_iln 0 rfl dX9_isBin_4 (s_bipush (by decide +kernel) dX9_isBin_5 (s_cge (tgt := 14) (by decide +kernel) dX9_isBin_7 (s_X9_isBin_14 hκ) (s_iconst (by decide +kernel) dX9_isBin_10 (s_goto (tgt := 15) (by decide +kernel) dX9_isBin_11 (s_X9_isBin_15 hκ))))))))
noncomputable def f_X9_isBin : gb_F := gb_hide (gb_mf 1 (k_X9_isBin_0 gb_n))
theorem c_X9_isBin : ∀ l, gb_Met l yX9_isBin cX9_isBin 1 (some .boolean) 2 (gb_rm 0 0) f_X9_isBin := gb_hide_c (gb_met (own := RX9) (rk := 2) rfl (by decide +kernel) ⟨rfl, rfl⟩ (s_X9_isBin_0 gb_S_n))
theorem dX9_bin_0 : decode cX9_bin 0 = .ok (.iload_n 1, 1) := by decide +kernel
theorem dX9_bin_1 : decode cX9_bin 1 = .ok (.invokestatic 136, 3) := by decide +kernel
theorem dX9_bin_4 : decode cX9_bin 4 = .ok (.ifCond .ne 5, 3) := by decide +kernel
theorem dX9_bin_7 : decode cX9_bin 7 = .ok (.iconst (-1), 1) := by decide +kernel
theorem dX9_bin_8 : decode cX9_bin 8 = .ok (.ireturn, 1) := by decide +kernel
theorem dX9_bin_9 : decode cX9_bin 9 = .ok (.iload_n 2, 1) := by decide +kernel
theorem dX9_bin_10 : decode cX9_bin 10 = .ok (.tableswitch 95 0 4 #[34, 44, 54, 64, 86], 34) := by decide +kernel
theorem dX9_bin_44 : decode cX9_bin 44 = .ok (.aload_n 0, 1) := by decide +kernel
theorem dX9_bin_45 : decode cX9_bin 45 = .ok (.getfield 19, 3) := by decide +kernel
theorem dX9_bin_48 : decode cX9_bin 48 = .ok (.getfield 139, 3) := by decide +kernel
theorem dX9_bin_51 : decode cX9_bin 51 = .ok (.iload_n 1, 1) := by decide +kernel
theorem dX9_bin_52 : decode cX9_bin 52 = .ok (.iaload, 1) := by decide +kernel
theorem dX9_bin_53 : decode cX9_bin 53 = .ok (.ireturn, 1) := by decide +kernel
theorem dX9_bin_54 : decode cX9_bin 54 = .ok (.aload_n 0, 1) := by decide +kernel
theorem dX9_bin_55 : decode cX9_bin 55 = .ok (.getfield 31, 3) := by decide +kernel
theorem dX9_bin_58 : decode cX9_bin 58 = .ok (.getfield 142, 3) := by decide +kernel
theorem dX9_bin_61 : decode cX9_bin 61 = .ok (.iload_n 1, 1) := by decide +kernel
theorem dX9_bin_62 : decode cX9_bin 62 = .ok (.iaload, 1) := by decide +kernel
theorem dX9_bin_63 : decode cX9_bin 63 = .ok (.ireturn, 1) := by decide +kernel
theorem dX9_bin_64 : decode cX9_bin 64 = .ok (.aload_n 0, 1) := by decide +kernel
theorem dX9_bin_65 : decode cX9_bin 65 = .ok (.getfield 31, 3) := by decide +kernel
theorem dX9_bin_68 : decode cX9_bin 68 = .ok (.getfield 145, 3) := by decide +kernel
theorem dX9_bin_71 : decode cX9_bin 71 = .ok (.iload_n 1, 1) := by decide +kernel
theorem dX9_bin_72 : decode cX9_bin 72 = .ok (.iaload, 1) := by decide +kernel
theorem dX9_bin_73 : decode cX9_bin 73 = .ok (.ireturn, 1) := by decide +kernel
theorem dX9_bin_74 : decode cX9_bin 74 = .ok (.iconst 0, 1) := by decide +kernel
theorem dX9_bin_75 : decode cX9_bin 75 = .ok (.aload_n 0, 1) := by decide +kernel
theorem dX9_bin_76 : decode cX9_bin 76 = .ok (.getfield 31, 3) := by decide +kernel
theorem dX9_bin_79 : decode cX9_bin 79 = .ok (.getfield 148, 3) := by decide +kernel
theorem dX9_bin_82 : decode cX9_bin 82 = .ok (.iload_n 1, 1) := by decide +kernel
theorem dX9_bin_83 : decode cX9_bin 83 = .ok (.iaload, 1) := by decide +kernel
theorem dX9_bin_84 : decode cX9_bin 84 = .ok (.aload_n 0, 1) := by decide +kernel
theorem dX9_bin_85 : decode cX9_bin 85 = .ok (.getfield 31, 3) := by decide +kernel
theorem dX9_bin_88 : decode cX9_bin 88 = .ok (.getfield 151, 3) := by decide +kernel
theorem dX9_bin_91 : decode cX9_bin 91 = .ok (.isub, 1) := by decide +kernel
theorem dX9_bin_92 : decode cX9_bin 92 = .ok (.invokestatic 154, 3) := by decide +kernel
theorem dX9_bin_95 : decode cX9_bin 95 = .ok (.ireturn, 1) := by decide +kernel
theorem dX9_bin_96 : decode cX9_bin 96 = .ok (.aload_n 0, 1) := by decide +kernel
theorem dX9_bin_97 : decode cX9_bin 97 = .ok (.getfield 31, 3) := by decide +kernel
theorem dX9_bin_100 : decode cX9_bin 100 = .ok (.iload_n 1, 1) := by decide +kernel
theorem dX9_bin_101 : decode cX9_bin 101 = .ok (.invokevirtual 159, 3) := by decide +kernel
theorem dX9_bin_104 : decode cX9_bin 104 = .ok (.ireturn, 1) := by decide +kernel
theorem dX9_bin_105 : decode cX9_bin 105 = .ok (.iconst (-1), 1) := by decide +kernel
theorem dX9_bin_106 : decode cX9_bin 106 = .ok (.ireturn, 1) := by decide +kernel
theorem v_X9_bin : yX9_bin.cls = RX9 ∧ yX9_bin.cls ≠ "java/lang/invoke/MethodHandle" ∧ yX9_bin.cls ≠ "java/lang/invoke/VarHandle" ∧ (parseMethodDescriptor yX9_bin.desc).map (fun d => d.parameters.length) = some 2 := ⟨rfl, by decide +kernel, by decide +kernel, by decide +kernel⟩
noncomputable def k_X9_bin_105 (κ : gb_K) : gb_C := (o_ci (-1) o_ri)
theorem l_X9_bin_105 : gb_Li (fun κ => k_X9_bin_105 κ) := (gb_li (q_ci (-1)) (gb_li0 _))
theorem s_X9_bin_105   {κ : gb_K} (hκ : ∀ q, gb_S RX9 cX9_bin 3 (gb_rm 1 23) 1 q (κ q)) : gb_S RX9 cX9_bin 3 (gb_rm 1 23) 1 105 (k_X9_bin_105 κ) := (s_iconst (by decide +kernel) dX9_bin_105 (s_ri rfl dX9_bin_106))
noncomputable def k_X9_bin_96 (κ : gb_K) : gb_C := (o_al 0 (o_gf 9 3 (o_il 1 (o_cv 1 7 1 f_X7_gradesIn o_ri))))
theorem l_X9_bin_96 : gb_Li (fun κ => k_X9_bin_96 κ) := (gb_li (q_al 0) (gb_li (q_gf 9 3) (gb_li (q_il 1) (gb_li (q_cv 1 7 1 f_X7_gradesIn) (gb_li0 _)))))
theorem s_X9_bin_96   {κ : gb_K} (hκ : ∀ q, gb_S RX9 cX9_bin 3 (gb_rm 1 23) 1 q (κ q)) : gb_S RX9 cX9_bin 3 (gb_rm 1 23) 1 96 (k_X9_bin_96 κ) := (s_aln 0 rfl dX9_bin_96 (s_gf (T := TX9) winX9 rfl (Nat.le_of_ble_eq_true rfl) gw_238 rfl dX9_bin_97 (s_iln 1 rfl dX9_bin_100 (s_cv (C := RX7) c_X7_gradesIn rfl (gb_l5 gw_265 gw_146 gw_147 gw_11 gw_148) v_X7_gradesIn ⟨rfl, rfl⟩ ⟨Nat.le_of_ble_eq_true rfl, Nat.le_of_ble_eq_true rfl⟩ dX9_bin_101 (s_ri rfl dX9_bin_104)))))
noncomputable def k_X9_bin_74 (κ : gb_K) : gb_C := (o_ci 0 (o_al 0 (o_gf 9 3 (o_gf 7 2 (o_il 1 (o_iald (o_al 0 (o_gf 9 3 (o_gf 7 9 (o_ib (fun x y => x - y) (o_mmax o_ri)))))))))))
theorem l_X9_bin_74 : gb_Li (fun κ => k_X9_bin_74 κ) := (gb_li (q_ci 0) (gb_li (q_al 0) (gb_li (q_gf 9 3) (gb_li (q_gf 7 2) (gb_li (q_il 1) (gb_li q_iald (gb_li (q_al 0) (gb_li (q_gf 9 3) (gb_li (q_gf 7 9) (gb_li (q_ib _) (gb_li q_mmax (gb_li0 _))))))))))))
theorem s_X9_bin_74   {κ : gb_K} (hκ : ∀ q, gb_S RX9 cX9_bin 3 (gb_rm 1 23) 1 q (κ q)) : gb_S RX9 cX9_bin 3 (gb_rm 1 23) 1 74 (k_X9_bin_74 κ) := (s_iconst (by decide +kernel) dX9_bin_74 (s_aln 0 rfl dX9_bin_75 (s_gf (T := TX9) winX9 rfl (Nat.le_of_ble_eq_true rfl) gw_238 rfl dX9_bin_76 (s_gf (T := TX7) winX7 rfl (Nat.le_of_ble_eq_true rfl) gw_266 rfl dX9_bin_79 (s_iln 1 rfl dX9_bin_82 (s_iald dX9_bin_83 (s_aln 0 rfl dX9_bin_84 (s_gf (T := TX9) winX9 rfl (Nat.le_of_ble_eq_true rfl) gw_238 rfl dX9_bin_85 (s_gf (T := TX7) winX7 rfl (Nat.le_of_ble_eq_true rfl) gw_267 rfl dX9_bin_88 (s_isub dX9_bin_91 (s_mmax ⟨Nat.le_of_ble_eq_true rfl, Nat.le_of_ble_eq_true rfl⟩ (gb_l4 gw_268 gw_16 gw_17 gw_18) dX9_bin_92 (s_ri rfl dX9_bin_95))))))))))))
noncomputable def k_X9_bin_64 (κ : gb_K) : gb_C := (o_al 0 (o_gf 9 3 (o_gf 7 3 (o_il 1 (o_iald o_ri)))))
theorem l_X9_bin_64 : gb_Li (fun κ => k_X9_bin_64 κ) := (gb_li (q_al 0) (gb_li (q_gf 9 3) (gb_li (q_gf 7 3) (gb_li (q_il 1) (gb_li q_iald (gb_li0 _))))))
theorem s_X9_bin_64   {κ : gb_K} (hκ : ∀ q, gb_S RX9 cX9_bin 3 (gb_rm 1 23) 1 q (κ q)) : gb_S RX9 cX9_bin 3 (gb_rm 1 23) 1 64 (k_X9_bin_64 κ) := (s_aln 0 rfl dX9_bin_64 (s_gf (T := TX9) winX9 rfl (Nat.le_of_ble_eq_true rfl) gw_238 rfl dX9_bin_65 (s_gf (T := TX7) winX7 rfl (Nat.le_of_ble_eq_true rfl) gw_269 rfl dX9_bin_68 (s_iln 1 rfl dX9_bin_71 (s_iald dX9_bin_72 (s_ri rfl dX9_bin_73))))))
noncomputable def k_X9_bin_54 (κ : gb_K) : gb_C := (o_al 0 (o_gf 9 3 (o_gf 7 4 (o_il 1 (o_iald o_ri)))))
theorem l_X9_bin_54 : gb_Li (fun κ => k_X9_bin_54 κ) := (gb_li (q_al 0) (gb_li (q_gf 9 3) (gb_li (q_gf 7 4) (gb_li (q_il 1) (gb_li q_iald (gb_li0 _))))))
theorem s_X9_bin_54   {κ : gb_K} (hκ : ∀ q, gb_S RX9 cX9_bin 3 (gb_rm 1 23) 1 q (κ q)) : gb_S RX9 cX9_bin 3 (gb_rm 1 23) 1 54 (k_X9_bin_54 κ) := (s_aln 0 rfl dX9_bin_54 (s_gf (T := TX9) winX9 rfl (Nat.le_of_ble_eq_true rfl) gw_238 rfl dX9_bin_55 (s_gf (T := TX7) winX7 rfl (Nat.le_of_ble_eq_true rfl) gw_270 rfl dX9_bin_58 (s_iln 1 rfl dX9_bin_61 (s_iald dX9_bin_62 (s_ri rfl dX9_bin_63))))))
noncomputable def k_X9_bin_44 (κ : gb_K) : gb_C := (o_al 0 (o_gf 9 1 (o_gf 5 2 (o_il 1 (o_iald o_ri)))))
theorem l_X9_bin_44 : gb_Li (fun κ => k_X9_bin_44 κ) := (gb_li (q_al 0) (gb_li (q_gf 9 1) (gb_li (q_gf 5 2) (gb_li (q_il 1) (gb_li q_iald (gb_li0 _))))))
theorem s_X9_bin_44   {κ : gb_K} (hκ : ∀ q, gb_S RX9 cX9_bin 3 (gb_rm 1 23) 1 q (κ q)) : gb_S RX9 cX9_bin 3 (gb_rm 1 23) 1 44 (k_X9_bin_44 κ) := (s_aln 0 rfl dX9_bin_44 (s_gf (T := TX9) winX9 rfl (Nat.le_of_ble_eq_true rfl) gw_233 rfl dX9_bin_45 (s_gf (T := TX5) winX5 rfl (Nat.le_of_ble_eq_true rfl) gw_271 rfl dX9_bin_48 (s_iln 1 rfl dX9_bin_51 (s_iald dX9_bin_52 (s_ri rfl dX9_bin_53))))))
noncomputable def k_X9_bin_0 (κ : gb_K) : gb_C := (o_il 1 (o_cs 1 2 f_X9_isBin (o_zeq (o_ci (-1) o_ri) (o_il 2 (o_ts 0 4 [(k_X9_bin_44 κ), (k_X9_bin_54 κ), (k_X9_bin_64 κ), (k_X9_bin_74 κ), (k_X9_bin_96 κ)] (k_X9_bin_105 κ))))))
theorem l_X9_bin_0 : gb_Li (fun κ => k_X9_bin_0 κ) := (gb_li (q_il 1) (gb_li (q_cs 1 2 f_X9_isBin) (q_zeq (gb_li (q_ci (-1)) (gb_li0 _)) (gb_li (q_il 2) (q_ts (ts := [(fun κ => (k_X9_bin_44 κ)), (fun κ => (k_X9_bin_54 κ)), (fun κ => (k_X9_bin_64 κ)), (fun κ => (k_X9_bin_74 κ)), (fun κ => (k_X9_bin_96 κ))]) (List.forall_mem_cons.mpr ⟨(l_X9_bin_44), List.forall_mem_cons.mpr ⟨(l_X9_bin_54), List.forall_mem_cons.mpr ⟨(l_X9_bin_64), List.forall_mem_cons.mpr ⟨(l_X9_bin_74), List.forall_mem_cons.mpr ⟨(l_X9_bin_96), (fun _ h => absurd h List.not_mem_nil)⟩⟩⟩⟩⟩) (l_X9_bin_105))))))
theorem s_X9_bin_0   {κ : gb_K} (hκ : ∀ q, gb_S RX9 cX9_bin 3 (gb_rm 1 23) 1 q (κ q)) : gb_S RX9 cX9_bin 3 (gb_rm 1 23) 1 0 (k_X9_bin_0 κ) := (s_iln 1 rfl dX9_bin_0 (s_cs c_X9_isBin (gb_l4 gw_272 gw_273 gw_258 gw_274) v_X9_isBin.2 ⟨rfl, rfl⟩ ⟨Nat.le_of_ble_eq_true rfl, Nat.le_of_ble_eq_true rfl⟩ dX9_bin_1 (s_zne (tgt := 9) (by decide +kernel) dX9_bin_4 (s_iln 2 rfl dX9_bin_9 (s_ts (dt := 105) dX9_bin_10 (by decide +kernel) (s_X9_bin_105 hκ) (gb_tsl (gb_tslc (off := 34) (tgt := 44) (by decide +kernel) (s_X9_bin_44 hκ) (gb_tslc (off := 44) (tgt := 54) (by decide +kernel) (s_X9_bin_54 hκ) (gb_tslc (off := 54) (tgt := 64) (by decide +kernel) (s_X9_bin_64 hκ) (gb_tslc (off := 64) (tgt := 74) (by decide +kernel) (s_X9_bin_74 hκ) (gb_tslc (off := 86) (tgt := 96) (by decide +kernel) (s_X9_bin_96 hκ) gb_tsl0)))))))) (s_iconst (by decide +kernel) dX9_bin_7 (s_ri rfl dX9_bin_8)))))
noncomputable def f_X9_bin : gb_F := gb_hide (gb_mf 3 (k_X9_bin_0 gb_n))
theorem c_X9_bin : ∀ l, gb_Met l yX9_bin cX9_bin 3 (some .int) 1 (gb_rm 1 23) f_X9_bin := gb_hide_c (gb_met (own := RX9) (rk := 1) rfl (by decide +kernel) ⟨rfl, rfl⟩ (s_X9_bin_0 gb_S_n))
theorem dX9_layer_0 : decode cX9_layer 0 = .ok (.iload_n 1, 1) := by decide +kernel
theorem dX9_layer_1 : decode cX9_layer 1 = .ok (.invokestatic 136, 3) := by decide +kernel
theorem dX9_layer_4 : decode cX9_layer 4 = .ok (.ifCond .eq 20, 3) := by decide +kernel
theorem dX9_layer_7 : decode cX9_layer 7 = .ok (.iload_n 2, 1) := by decide +kernel
theorem dX9_layer_8 : decode cX9_layer 8 = .ok (.ifCond .lt 16, 3) := by decide +kernel
theorem dX9_layer_11 : decode cX9_layer 11 = .ok (.iload_n 2, 1) := by decide +kernel
theorem dX9_layer_12 : decode cX9_layer 12 = .ok (.aload_n 0, 1) := by decide +kernel
theorem dX9_layer_13 : decode cX9_layer 13 = .ok (.getfield 31, 3) := by decide +kernel
theorem dX9_layer_16 : decode cX9_layer 16 = .ok (.getfield 145, 3) := by decide +kernel
theorem dX9_layer_19 : decode cX9_layer 19 = .ok (.iload_n 1, 1) := by decide +kernel
theorem dX9_layer_20 : decode cX9_layer 20 = .ok (.iaload, 1) := by decide +kernel
theorem dX9_layer_21 : decode cX9_layer 21 = .ok (.if_icmp .lt 5, 3) := by decide +kernel
theorem dX9_layer_24 : decode cX9_layer 24 = .ok (.iconst (-1), 1) := by decide +kernel
theorem dX9_layer_25 : decode cX9_layer 25 = .ok (.ireturn, 1) := by decide +kernel
theorem dX9_layer_26 : decode cX9_layer 26 = .ok (.iload_n 1, 1) := by decide +kernel
theorem dX9_layer_27 : decode cX9_layer 27 = .ok (.iload_n 2, 1) := by decide +kernel
theorem dX9_layer_28 : decode cX9_layer 28 = .ok (.invokestatic 162, 3) := by decide +kernel
theorem dX9_layer_31 : decode cX9_layer 31 = .ok (.istore 4, 2) := by decide +kernel
theorem dX9_layer_33 : decode cX9_layer 33 = .ok (.iload_n 3, 1) := by decide +kernel
theorem dX9_layer_34 : decode cX9_layer 34 = .ok (.tableswitch 80 0 3 #[30, 41, 52, 63], 30) := by decide +kernel
theorem dX9_layer_64 : decode cX9_layer 64 = .ok (.aload_n 0, 1) := by decide +kernel
theorem dX9_layer_65 : decode cX9_layer 65 = .ok (.getfield 31, 3) := by decide +kernel
theorem dX9_layer_68 : decode cX9_layer 68 = .ok (.getfield 165, 3) := by decide +kernel
theorem dX9_layer_71 : decode cX9_layer 71 = .ok (.iload 4, 2) := by decide +kernel
theorem dX9_layer_73 : decode cX9_layer 73 = .ok (.iaload, 1) := by decide +kernel
theorem dX9_layer_74 : decode cX9_layer 74 = .ok (.ireturn, 1) := by decide +kernel
theorem dX9_layer_75 : decode cX9_layer 75 = .ok (.aload_n 0, 1) := by decide +kernel
theorem dX9_layer_76 : decode cX9_layer 76 = .ok (.getfield 31, 3) := by decide +kernel
theorem dX9_layer_79 : decode cX9_layer 79 = .ok (.getfield 168, 3) := by decide +kernel
theorem dX9_layer_82 : decode cX9_layer 82 = .ok (.iload 4, 2) := by decide +kernel
theorem dX9_layer_84 : decode cX9_layer 84 = .ok (.iaload, 1) := by decide +kernel
theorem dX9_layer_85 : decode cX9_layer 85 = .ok (.ireturn, 1) := by decide +kernel
theorem dX9_layer_86 : decode cX9_layer 86 = .ok (.aload_n 0, 1) := by decide +kernel
theorem dX9_layer_87 : decode cX9_layer 87 = .ok (.getfield 31, 3) := by decide +kernel
theorem dX9_layer_90 : decode cX9_layer 90 = .ok (.getfield 171, 3) := by decide +kernel
theorem dX9_layer_93 : decode cX9_layer 93 = .ok (.iload 4, 2) := by decide +kernel
theorem dX9_layer_95 : decode cX9_layer 95 = .ok (.iaload, 1) := by decide +kernel
theorem dX9_layer_96 : decode cX9_layer 96 = .ok (.ireturn, 1) := by decide +kernel
theorem dX9_layer_97 : decode cX9_layer 97 = .ok (.aload_n 0, 1) := by decide +kernel
theorem dX9_layer_98 : decode cX9_layer 98 = .ok (.getfield 31, 3) := by decide +kernel
theorem dX9_layer_101 : decode cX9_layer 101 = .ok (.iload 4, 2) := by decide +kernel
theorem dX9_layer_103 : decode cX9_layer 103 = .ok (.aload_n 0, 1) := by decide +kernel
theorem dX9_layer_104 : decode cX9_layer 104 = .ok (.getfield 31, 3) := by decide +kernel
theorem dX9_layer_107 : decode cX9_layer 107 = .ok (.getfield 151, 3) := by decide +kernel
theorem dX9_layer_110 : decode cX9_layer 110 = .ok (.invokevirtual 174, 3) := by decide +kernel
theorem dX9_layer_113 : decode cX9_layer 113 = .ok (.ireturn, 1) := by decide +kernel
theorem dX9_layer_114 : decode cX9_layer 114 = .ok (.iconst (-1), 1) := by decide +kernel
theorem dX9_layer_115 : decode cX9_layer 115 = .ok (.ireturn, 1) := by decide +kernel
theorem v_X9_layer : yX9_layer.cls = RX9 ∧ yX9_layer.cls ≠ "java/lang/invoke/MethodHandle" ∧ yX9_layer.cls ≠ "java/lang/invoke/VarHandle" ∧ (parseMethodDescriptor yX9_layer.desc).map (fun d => d.parameters.length) = some 3 := ⟨rfl, by decide +kernel, by decide +kernel, by decide +kernel⟩
noncomputable def k_X9_layer_24 (κ : gb_K) : gb_C := (o_ci (-1) o_ri)
theorem l_X9_layer_24 : gb_Li (fun κ => k_X9_layer_24 κ) := (gb_li (q_ci (-1)) (gb_li0 _))
theorem s_X9_layer_24   {κ : gb_K} (hκ : ∀ q, gb_S RX9 cX9_layer 5 (gb_rm 2 45) 1 q (κ q)) : gb_S RX9 cX9_layer 5 (gb_rm 2 45) 1 24 (k_X9_layer_24 κ) := (s_iconst (by decide +kernel) dX9_layer_24 (s_ri rfl dX9_layer_25))
noncomputable def k_X9_layer_114 (κ : gb_K) : gb_C := (o_ci (-1) o_ri)
theorem l_X9_layer_114 : gb_Li (fun κ => k_X9_layer_114 κ) := (gb_li (q_ci (-1)) (gb_li0 _))
theorem s_X9_layer_114   {κ : gb_K} (hκ : ∀ q, gb_S RX9 cX9_layer 5 (gb_rm 2 45) 1 q (κ q)) : gb_S RX9 cX9_layer 5 (gb_rm 2 45) 1 114 (k_X9_layer_114 κ) := (s_iconst (by decide +kernel) dX9_layer_114 (s_ri rfl dX9_layer_115))
noncomputable def k_X9_layer_97 (κ : gb_K) : gb_C := (o_al 0 (o_gf 9 3 (o_il 4 (o_al 0 (o_gf 9 3 (o_gf 7 9 (o_cv 2 7 1 f_X7_unit o_ri)))))))
theorem l_X9_layer_97 : gb_Li (fun κ => k_X9_layer_97 κ) := (gb_li (q_al 0) (gb_li (q_gf 9 3) (gb_li (q_il 4) (gb_li (q_al 0) (gb_li (q_gf 9 3) (gb_li (q_gf 7 9) (gb_li (q_cv 2 7 1 f_X7_unit) (gb_li0 _))))))))
theorem s_X9_layer_97   {κ : gb_K} (hκ : ∀ q, gb_S RX9 cX9_layer 5 (gb_rm 2 45) 1 q (κ q)) : gb_S RX9 cX9_layer 5 (gb_rm 2 45) 1 97 (k_X9_layer_97 κ) := (s_aln 0 rfl dX9_layer_97 (s_gf (T := TX9) winX9 rfl (Nat.le_of_ble_eq_true rfl) gw_238 rfl dX9_layer_98 (s_il dX9_layer_101 (s_aln 0 rfl dX9_layer_103 (s_gf (T := TX9) winX9 rfl (Nat.le_of_ble_eq_true rfl) gw_238 rfl dX9_layer_104 (s_gf (T := TX7) winX7 rfl (Nat.le_of_ble_eq_true rfl) gw_267 rfl dX9_layer_107 (s_cv (C := RX7) c_X7_unit rfl (gb_l5 gw_275 gw_167 gw_168 gw_11 gw_169) v_X7_unit ⟨rfl, rfl⟩ ⟨Nat.le_of_ble_eq_true rfl, Nat.le_of_ble_eq_true rfl⟩ dX9_layer_110 (s_ri rfl dX9_layer_113))))))))
noncomputable def k_X9_layer_86 (κ : gb_K) : gb_C := (o_al 0 (o_gf 9 3 (o_gf 7 7 (o_il 4 (o_iald o_ri)))))
theorem l_X9_layer_86 : gb_Li (fun κ => k_X9_layer_86 κ) := (gb_li (q_al 0) (gb_li (q_gf 9 3) (gb_li (q_gf 7 7) (gb_li (q_il 4) (gb_li q_iald (gb_li0 _))))))
theorem s_X9_layer_86   {κ : gb_K} (hκ : ∀ q, gb_S RX9 cX9_layer 5 (gb_rm 2 45) 1 q (κ q)) : gb_S RX9 cX9_layer 5 (gb_rm 2 45) 1 86 (k_X9_layer_86 κ) := (s_aln 0 rfl dX9_layer_86 (s_gf (T := TX9) winX9 rfl (Nat.le_of_ble_eq_true rfl) gw_238 rfl dX9_layer_87 (s_gf (T := TX7) winX7 rfl (Nat.le_of_ble_eq_true rfl) gw_276 rfl dX9_layer_90 (s_il dX9_layer_93 (s_iald dX9_layer_95 (s_ri rfl dX9_layer_96))))))
noncomputable def k_X9_layer_75 (κ : gb_K) : gb_C := (o_al 0 (o_gf 9 3 (o_gf 7 6 (o_il 4 (o_iald o_ri)))))
theorem l_X9_layer_75 : gb_Li (fun κ => k_X9_layer_75 κ) := (gb_li (q_al 0) (gb_li (q_gf 9 3) (gb_li (q_gf 7 6) (gb_li (q_il 4) (gb_li q_iald (gb_li0 _))))))
theorem s_X9_layer_75   {κ : gb_K} (hκ : ∀ q, gb_S RX9 cX9_layer 5 (gb_rm 2 45) 1 q (κ q)) : gb_S RX9 cX9_layer 5 (gb_rm 2 45) 1 75 (k_X9_layer_75 κ) := (s_aln 0 rfl dX9_layer_75 (s_gf (T := TX9) winX9 rfl (Nat.le_of_ble_eq_true rfl) gw_238 rfl dX9_layer_76 (s_gf (T := TX7) winX7 rfl (Nat.le_of_ble_eq_true rfl) gw_277 rfl dX9_layer_79 (s_il dX9_layer_82 (s_iald dX9_layer_84 (s_ri rfl dX9_layer_85))))))
noncomputable def k_X9_layer_64 (κ : gb_K) : gb_C := (o_al 0 (o_gf 9 3 (o_gf 7 5 (o_il 4 (o_iald o_ri)))))
theorem l_X9_layer_64 : gb_Li (fun κ => k_X9_layer_64 κ) := (gb_li (q_al 0) (gb_li (q_gf 9 3) (gb_li (q_gf 7 5) (gb_li (q_il 4) (gb_li q_iald (gb_li0 _))))))
theorem s_X9_layer_64   {κ : gb_K} (hκ : ∀ q, gb_S RX9 cX9_layer 5 (gb_rm 2 45) 1 q (κ q)) : gb_S RX9 cX9_layer 5 (gb_rm 2 45) 1 64 (k_X9_layer_64 κ) := (s_aln 0 rfl dX9_layer_64 (s_gf (T := TX9) winX9 rfl (Nat.le_of_ble_eq_true rfl) gw_238 rfl dX9_layer_65 (s_gf (T := TX7) winX7 rfl (Nat.le_of_ble_eq_true rfl) gw_278 rfl dX9_layer_68 (s_il dX9_layer_71 (s_iald dX9_layer_73 (s_ri rfl dX9_layer_74))))))
noncomputable def k_X9_layer_0 (κ : gb_K) : gb_C := (o_il 1 (o_cs 1 2 f_X9_isBin (o_zeq (k_X9_layer_24 κ) (o_il 2 (o_zlt (k_X9_layer_24 κ) (o_il 2 (o_al 0 (o_gf 9 3 (o_gf 7 3 (o_il 1 (o_iald (o_clt (o_il 1 (o_il 2 (o_cs 2 1 f_X7_place (o_is 4 (o_il 3 (o_ts 0 3 [(k_X9_layer_64 κ), (k_X9_layer_75 κ), (k_X9_layer_86 κ), (k_X9_layer_97 κ)] (k_X9_layer_114 κ))))))) (k_X9_layer_24 κ)))))))))))))
theorem l_X9_layer_0 : gb_Li (fun κ => k_X9_layer_0 κ) := (gb_li (q_il 1) (gb_li (q_cs 1 2 f_X9_isBin) (q_zeq (l_X9_layer_24) (gb_li (q_il 2) (q_zlt (l_X9_layer_24) (gb_li (q_il 2) (gb_li (q_al 0) (gb_li (q_gf 9 3) (gb_li (q_gf 7 3) (gb_li (q_il 1) (gb_li q_iald (q_clt (gb_li (q_il 1) (gb_li (q_il 2) (gb_li (q_cs 2 1 f_X7_place) (gb_li (q_is 4) (gb_li (q_il 3) (q_ts (ts := [(fun κ => (k_X9_layer_64 κ)), (fun κ => (k_X9_layer_75 κ)), (fun κ => (k_X9_layer_86 κ)), (fun κ => (k_X9_layer_97 κ))]) (List.forall_mem_cons.mpr ⟨(l_X9_layer_64), List.forall_mem_cons.mpr ⟨(l_X9_layer_75), List.forall_mem_cons.mpr ⟨(l_X9_layer_86), List.forall_mem_cons.mpr ⟨(l_X9_layer_97), (fun _ h => absurd h List.not_mem_nil)⟩⟩⟩⟩) (l_X9_layer_114))))))) (l_X9_layer_24)))))))))))))
theorem s_X9_layer_0   {κ : gb_K} (hκ : ∀ q, gb_S RX9 cX9_layer 5 (gb_rm 2 45) 1 q (κ q)) : gb_S RX9 cX9_layer 5 (gb_rm 2 45) 1 0 (k_X9_layer_0 κ) := (s_iln 1 rfl dX9_layer_0 (s_cs c_X9_isBin (gb_l4 gw_272 gw_273 gw_258 gw_274) v_X9_isBin.2 ⟨rfl, rfl⟩ ⟨Nat.le_of_ble_eq_true rfl, Nat.le_of_ble_eq_true rfl⟩ dX9_layer_1 (s_zeq (tgt := 24) (by decide +kernel) dX9_layer_4 (s_X9_layer_24 hκ) (s_iln 2 rfl dX9_layer_7 (s_zlt (tgt := 24) (by decide +kernel) dX9_layer_8 (s_X9_layer_24 hκ) (s_iln 2 rfl dX9_layer_11 (s_aln 0 rfl dX9_layer_12 (s_gf (T := TX9) winX9 rfl (Nat.le_of_ble_eq_true rfl) gw_238 rfl dX9_layer_13 (s_gf (T := TX7) winX7 rfl (Nat.le_of_ble_eq_true rfl) gw_269 rfl dX9_layer_16 (s_iln 1 rfl dX9_layer_19 (s_iald dX9_layer_20 (s_clt (tgt := 26) (by decide +kernel) dX9_layer_21 (s_iln 1 rfl dX9_layer_26 (s_iln 2 rfl dX9_layer_27 (s_cs c_X7_place (gb_l4 gw_279 gw_23 gw_11 gw_24) v_X7_place.2 ⟨rfl, rfl⟩ ⟨Nat.le_of_ble_eq_true rfl, Nat.le_of_ble_eq_true rfl⟩ dX9_layer_28 (s_is (Nat.le_of_ble_eq_true rfl) dX9_layer_31 (s_iln 3 rfl dX9_layer_33 (s_ts (dt := 114) dX9_layer_34 (by decide +kernel) (s_X9_layer_114 hκ) (gb_tsl (gb_tslc (off := 30) (tgt := 64) (by decide +kernel) (s_X9_layer_64 hκ) (gb_tslc (off := 41) (tgt := 75) (by decide +kernel) (s_X9_layer_75 hκ) (gb_tslc (off := 52) (tgt := 86) (by decide +kernel) (s_X9_layer_86 hκ) (gb_tslc (off := 63) (tgt := 97) (by decide +kernel) (s_X9_layer_97 hκ) gb_tsl0))))))))))) (s_X9_layer_24 hκ)))))))))))))
noncomputable def f_X9_layer : gb_F := gb_hide (gb_mf 5 (k_X9_layer_0 gb_n))
theorem c_X9_layer : ∀ l, gb_Met l yX9_layer cX9_layer 5 (some .int) 1 (gb_rm 2 45) f_X9_layer := gb_hide_c (gb_met (own := RX9) (rk := 1) rfl (by decide +kernel) ⟨rfl, rfl⟩ (s_X9_layer_0 gb_S_n))
theorem dX9_isTons_0 : decode cX9_isTons 0 = .ok (.iload_n 0, 1) := by decide +kernel
theorem dX9_isTons_1 : decode cX9_isTons 1 = .ok (.iconst 1, 1) := by decide +kernel
theorem dX9_isTons_2 : decode cX9_isTons 2 = .ok (.if_icmp .lt 13, 3) := by decide +kernel
theorem dX9_isTons_5 : decode cX9_isTons 5 = .ok (.iload_n 0, 1) := by decide +kernel
theorem dX9_isTons_6 : decode cX9_isTons 6 = .ok (.bipush 99, 2) := by decide +kernel
theorem dX9_isTons_8 : decode cX9_isTons 8 = .ok (.if_icmp .gt 7, 3) := by decide +kernel
theorem dX9_isTons_11 : decode cX9_isTons 11 = .ok (.iconst 1, 1) := by decide +kernel
theorem dX9_isTons_12 : decode cX9_isTons 12 = .ok (.goto 4, 3) := by decide +kernel
theorem dX9_isTons_15 : decode cX9_isTons 15 = .ok (.iconst 0, 1) := by decide +kernel
theorem dX9_isTons_16 : decode cX9_isTons 16 = .ok (.ireturn, 1) := by decide +kernel
theorem v_X9_isTons : yX9_isTons.cls = RX9 ∧ yX9_isTons.cls ≠ "java/lang/invoke/MethodHandle" ∧ yX9_isTons.cls ≠ "java/lang/invoke/VarHandle" ∧ (parseMethodDescriptor yX9_isTons.desc).map (fun d => d.parameters.length) = some 1 := ⟨rfl, by decide +kernel, by decide +kernel, by decide +kernel⟩
noncomputable def k_X9_isTons_16 (κ : gb_K) : gb_C := o_rz
theorem l_X9_isTons_16 : gb_Li (fun κ => k_X9_isTons_16 κ) := (gb_li0 _)
theorem s_X9_isTons_16   {κ : gb_K} (hκ : ∀ q, gb_S RX9 cX9_isTons 1 (gb_rm 0 0) 2 q (κ q)) : gb_S RX9 cX9_isTons 1 (gb_rm 0 0) 2 16 (k_X9_isTons_16 κ) := (s_rz rfl dX9_isTons_16)
noncomputable def k_X9_isTons_15 (κ : gb_K) : gb_C := (o_ci 0 (k_X9_isTons_16 κ))
theorem l_X9_isTons_15 : gb_Li (fun κ => k_X9_isTons_15 κ) := (gb_li (q_ci 0) (l_X9_isTons_16))
theorem s_X9_isTons_15   {κ : gb_K} (hκ : ∀ q, gb_S RX9 cX9_isTons 1 (gb_rm 0 0) 2 q (κ q)) : gb_S RX9 cX9_isTons 1 (gb_rm 0 0) 2 15 (k_X9_isTons_15 κ) := (s_iconst (by decide +kernel) dX9_isTons_15 (s_X9_isTons_16 hκ))
noncomputable def k_X9_isTons_0 (κ : gb_K) : gb_C := (o_il 0 (o_ci 1 (o_clt (k_X9_isTons_15 κ) (o_il 0 (o_ci 99 (o_cgt (k_X9_isTons_15 κ) (o_ci 1 (k_X9_isTons_16 κ))))))))
theorem l_X9_isTons_0 : gb_Li (fun κ => k_X9_isTons_0 κ) := (gb_li (q_il 0) (gb_li (q_ci 1) (q_clt (l_X9_isTons_15) (gb_li (q_il 0) (gb_li (q_ci 99) (q_cgt (l_X9_isTons_15) (gb_li (q_ci 1) (l_X9_isTons_16))))))))
theorem s_X9_isTons_0   {κ : gb_K} (hκ : ∀ q, gb_S RX9 cX9_isTons 1 (gb_rm 0 0) 2 q (κ q)) : gb_S RX9 cX9_isTons 1 (gb_rm 0 0) 2 0 (k_X9_isTons_0 κ) := (s_iln 0 rfl dX9_isTons_0 (s_iconst (by decide +kernel) dX9_isTons_1 (s_clt (tgt := 15) (by decide +kernel) dX9_isTons_2 (s_X9_isTons_15 hκ) (s_iln 0 rfl dX9_isTons_5 (s_bipush (by decide +kernel) dX9_isTons_6 (s_cgt (tgt := 15) (by decide +kernel) dX9_isTons_8 (s_X9_isTons_15 hκ) (s_iconst (by decide +kernel) dX9_isTons_11 (s_goto (tgt := 16) (by decide +kernel) dX9_isTons_12 (s_X9_isTons_16 hκ)))))))))
noncomputable def f_X9_isTons : gb_F := gb_hide (gb_mf 1 (k_X9_isTons_0 gb_n))
theorem c_X9_isTons : ∀ l, gb_Met l yX9_isTons cX9_isTons 1 (some .boolean) 2 (gb_rm 0 0) f_X9_isTons := gb_hide_c (gb_met (own := RX9) (rk := 2) rfl (by decide +kernel) ⟨rfl, rfl⟩ (s_X9_isTons_0 gb_S_n))
theorem dX9_load_0 : decode cX9_load 0 = .ok (.iload_n 1, 1) := by decide +kernel
theorem dX9_load_1 : decode cX9_load 1 = .ok (.invokestatic 114, 3) := by decide +kernel
theorem dX9_load_4 : decode cX9_load 4 = .ok (.ifCond .eq 17, 3) := by decide +kernel
theorem dX9_load_7 : decode cX9_load 7 = .ok (.iload_n 2, 1) := by decide +kernel
theorem dX9_load_8 : decode cX9_load 8 = .ok (.invokestatic 177, 3) := by decide +kernel
theorem dX9_load_11 : decode cX9_load 11 = .ok (.ifCond .eq 10, 3) := by decide +kernel
theorem dX9_load_14 : decode cX9_load 14 = .ok (.iload_n 3, 1) := by decide +kernel
theorem dX9_load_15 : decode cX9_load 15 = .ok (.invokestatic 136, 3) := by decide +kernel
theorem dX9_load_18 : decode cX9_load 18 = .ok (.ifCond .ne 5, 3) := by decide +kernel
theorem dX9_load_21 : decode cX9_load 21 = .ok (.iconst (-1), 1) := by decide +kernel
theorem dX9_load_22 : decode cX9_load 22 = .ok (.ireturn, 1) := by decide +kernel
theorem dX9_load_23 : decode cX9_load 23 = .ok (.aload_n 0, 1) := by decide +kernel
theorem dX9_load_24 : decode cX9_load 24 = .ok (.getfield 31, 3) := by decide +kernel
theorem dX9_load_27 : decode cX9_load 27 = .ok (.iload_n 3, 1) := by decide +kernel
theorem dX9_load_28 : decode cX9_load 28 = .ok (.iload_n 1, 1) := by decide +kernel
theorem dX9_load_29 : decode cX9_load 29 = .ok (.iload_n 2, 1) := by decide +kernel
theorem dX9_load_30 : decode cX9_load 30 = .ok (.aload_n 0, 1) := by decide +kernel
theorem dX9_load_31 : decode cX9_load 31 = .ok (.getfield 31, 3) := by decide +kernel
theorem dX9_load_34 : decode cX9_load 34 = .ok (.getfield 151, 3) := by decide +kernel
theorem dX9_load_37 : decode cX9_load 37 = .ok (.invokevirtual 180, 3) := by decide +kernel
theorem dX9_load_40 : decode cX9_load 40 = .ok (.istore 4, 2) := by decide +kernel
theorem dX9_load_42 : decode cX9_load 42 = .ok (.iload 4, 2) := by decide +kernel
theorem dX9_load_44 : decode cX9_load 44 = .ok (.ifCond .ge 6, 3) := by decide +kernel
theorem dX9_load_47 : decode cX9_load 47 = .ok (.iload 4, 2) := by decide +kernel
theorem dX9_load_49 : decode cX9_load 49 = .ok (.ireturn, 1) := by decide +kernel
theorem dX9_load_50 : decode cX9_load 50 = .ok (.aload_n 0, 1) := by decide +kernel
theorem dX9_load_51 : decode cX9_load 51 = .ok (.getfield 41, 3) := by decide +kernel
theorem dX9_load_54 : decode cX9_load 54 = .ok (.aload_n 0, 1) := by decide +kernel
theorem dX9_load_55 : decode cX9_load 55 = .ok (.getfield 31, 3) := by decide +kernel
theorem dX9_load_58 : decode cX9_load 58 = .ok (.invokevirtual 184, 3) := by decide +kernel
theorem dX9_load_61 : decode cX9_load 61 = .ok (.aload_n 0, 1) := by decide +kernel
theorem dX9_load_62 : decode cX9_load 62 = .ok (.getfield 31, 3) := by decide +kernel
theorem dX9_load_65 : decode cX9_load 65 = .ok (.iload_n 3, 1) := by decide +kernel
theorem dX9_load_66 : decode cX9_load 66 = .ok (.iload_n 1, 1) := by decide +kernel
theorem dX9_load_67 : decode cX9_load 67 = .ok (.iload_n 2, 1) := by decide +kernel
theorem dX9_load_68 : decode cX9_load 68 = .ok (.aload_n 0, 1) := by decide +kernel
theorem dX9_load_69 : decode cX9_load 69 = .ok (.getfield 31, 3) := by decide +kernel
theorem dX9_load_72 : decode cX9_load 72 = .ok (.getfield 151, 3) := by decide +kernel
theorem dX9_load_75 : decode cX9_load 75 = .ok (.invokevirtual 187, 3) := by decide +kernel
theorem dX9_load_78 : decode cX9_load 78 = .ok (.aload_n 0, 1) := by decide +kernel
theorem dX9_load_79 : decode cX9_load 79 = .ok (.getfield 31, 3) := by decide +kernel
theorem dX9_load_82 : decode cX9_load 82 = .ok (.getfield 142, 3) := by decide +kernel
theorem dX9_load_85 : decode cX9_load 85 = .ok (.iload_n 3, 1) := by decide +kernel
theorem dX9_load_86 : decode cX9_load 86 = .ok (.iaload, 1) := by decide +kernel
theorem dX9_load_87 : decode cX9_load 87 = .ok (.ireturn, 1) := by decide +kernel
theorem v_X9_load : yX9_load.cls = RX9 ∧ yX9_load.cls ≠ "java/lang/invoke/MethodHandle" ∧ yX9_load.cls ≠ "java/lang/invoke/VarHandle" ∧ (parseMethodDescriptor yX9_load.desc).map (fun d => d.parameters.length) = some 3 := ⟨rfl, by decide +kernel, by decide +kernel, by decide +kernel⟩
noncomputable def k_X9_load_21 (κ : gb_K) : gb_C := (o_ci (-1) o_ri)
theorem l_X9_load_21 : gb_Li (fun κ => k_X9_load_21 κ) := (gb_li (q_ci (-1)) (gb_li0 _))
theorem s_X9_load_21   {κ : gb_K} (hκ : ∀ q, gb_S RX9 cX9_load 5 (gb_rm 4 88) 1 q (κ q)) : gb_S RX9 cX9_load 5 (gb_rm 4 88) 1 21 (k_X9_load_21 κ) := (s_iconst (by decide +kernel) dX9_load_21 (s_ri rfl dX9_load_22))
noncomputable def k_X9_load_67 (κ : gb_K) : gb_C := (o_il 2 (o_al 0 (o_gf 9 3 (o_gf 7 9 (o_cv 4 7 0 f_X7_lay (o_al 0 (o_gf 9 3 (o_gf 7 4 (o_il 3 (o_iald o_ri))))))))))
theorem l_X9_load_67 : gb_Li (fun κ => k_X9_load_67 κ) := (gb_li (q_il 2) (gb_li (q_al 0) (gb_li (q_gf 9 3) (gb_li (q_gf 7 9) (gb_li (q_cv 4 7 0 f_X7_lay) (gb_li (q_al 0) (gb_li (q_gf 9 3) (gb_li (q_gf 7 4) (gb_li (q_il 3) (gb_li q_iald (gb_li0 _)))))))))))
theorem s_X9_load_67   {κ : gb_K} (hκ : ∀ q, gb_S RX9 cX9_load 5 (gb_rm 4 88) 1 q (κ q)) : gb_S RX9 cX9_load 5 (gb_rm 4 88) 1 67 (k_X9_load_67 κ) := (s_iln 2 rfl dX9_load_67 (s_aln 0 rfl dX9_load_68 (s_gf (T := TX9) winX9 rfl (Nat.le_of_ble_eq_true rfl) gw_238 rfl dX9_load_69 (s_gf (T := TX7) winX7 rfl (Nat.le_of_ble_eq_true rfl) gw_267 rfl dX9_load_72 (s_cv (C := RX7) c_X7_lay rfl (gb_l5 gw_280 gw_175 gw_176 gw_11 gw_177) v_X7_lay ⟨rfl, rfl⟩ ⟨Nat.le_of_ble_eq_true rfl, Nat.le_of_ble_eq_true rfl⟩ dX9_load_75 (s_aln 0 rfl dX9_load_78 (s_gf (T := TX9) winX9 rfl (Nat.le_of_ble_eq_true rfl) gw_238 rfl dX9_load_79 (s_gf (T := TX7) winX7 rfl (Nat.le_of_ble_eq_true rfl) gw_270 rfl dX9_load_82 (s_iln 3 rfl dX9_load_85 (s_iald dX9_load_86 (s_ri rfl dX9_load_87)))))))))))
noncomputable def k_X9_load_0 (κ : gb_K) : gb_C := (o_il 1 (o_cs 1 2 f_X9_isGrade (o_zeq (k_X9_load_21 κ) (o_il 2 (o_cs 1 2 f_X9_isTons (o_zeq (k_X9_load_21 κ) (o_il 3 (o_cs 1 2 f_X9_isBin (o_zeq (k_X9_load_21 κ) (o_al 0 (o_gf 9 3 (o_il 3 (o_il 1 (o_il 2 (o_al 0 (o_gf 9 3 (o_gf 7 9 (o_cv 4 7 1 f_X7_why (o_is 4 (o_il 4 (o_zge (o_al 0 (o_gf 9 6 (o_al 0 (o_gf 9 3 (o_cv 1 3 0 f_X3_add (o_al 0 (o_gf 9 3 (o_il 3 (o_il 1 (k_X9_load_67 κ)))))))))) (o_il 4 o_ri))))))))))))))))))))))
theorem l_X9_load_0 : gb_Li (fun κ => k_X9_load_0 κ) := (gb_li (q_il 1) (gb_li (q_cs 1 2 f_X9_isGrade) (q_zeq (l_X9_load_21) (gb_li (q_il 2) (gb_li (q_cs 1 2 f_X9_isTons) (q_zeq (l_X9_load_21) (gb_li (q_il 3) (gb_li (q_cs 1 2 f_X9_isBin) (q_zeq (l_X9_load_21) (gb_li (q_al 0) (gb_li (q_gf 9 3) (gb_li (q_il 3) (gb_li (q_il 1) (gb_li (q_il 2) (gb_li (q_al 0) (gb_li (q_gf 9 3) (gb_li (q_gf 7 9) (gb_li (q_cv 4 7 1 f_X7_why) (gb_li (q_is 4) (gb_li (q_il 4) (q_zge (gb_li (q_al 0) (gb_li (q_gf 9 6) (gb_li (q_al 0) (gb_li (q_gf 9 3) (gb_li (q_cv 1 3 0 f_X3_add) (gb_li (q_al 0) (gb_li (q_gf 9 3) (gb_li (q_il 3) (gb_li (q_il 1) (l_X9_load_67)))))))))) (gb_li (q_il 4) (gb_li0 _)))))))))))))))))))))))
theorem s_X9_load_0   {κ : gb_K} (hκ : ∀ q, gb_S RX9 cX9_load 5 (gb_rm 4 88) 1 q (κ q)) : gb_S RX9 cX9_load 5 (gb_rm 4 88) 1 0 (k_X9_load_0 κ) := (s_iln 1 rfl dX9_load_0 (s_cs c_X9_isGrade (gb_l4 gw_256 gw_257 gw_258 gw_259) v_X9_isGrade.2 ⟨rfl, rfl⟩ ⟨Nat.le_of_ble_eq_true rfl, Nat.le_of_ble_eq_true rfl⟩ dX9_load_1 (s_zeq (tgt := 21) (by decide +kernel) dX9_load_4 (s_X9_load_21 hκ) (s_iln 2 rfl dX9_load_7 (s_cs c_X9_isTons (gb_l4 gw_281 gw_282 gw_258 gw_283) v_X9_isTons.2 ⟨rfl, rfl⟩ ⟨Nat.le_of_ble_eq_true rfl, Nat.le_of_ble_eq_true rfl⟩ dX9_load_8 (s_zeq (tgt := 21) (by decide +kernel) dX9_load_11 (s_X9_load_21 hκ) (s_iln 3 rfl dX9_load_14 (s_cs c_X9_isBin (gb_l4 gw_272 gw_273 gw_258 gw_274) v_X9_isBin.2 ⟨rfl, rfl⟩ ⟨Nat.le_of_ble_eq_true rfl, Nat.le_of_ble_eq_true rfl⟩ dX9_load_15 (s_zne (tgt := 23) (by decide +kernel) dX9_load_18 (s_aln 0 rfl dX9_load_23 (s_gf (T := TX9) winX9 rfl (Nat.le_of_ble_eq_true rfl) gw_238 rfl dX9_load_24 (s_iln 3 rfl dX9_load_27 (s_iln 1 rfl dX9_load_28 (s_iln 2 rfl dX9_load_29 (s_aln 0 rfl dX9_load_30 (s_gf (T := TX9) winX9 rfl (Nat.le_of_ble_eq_true rfl) gw_238 rfl dX9_load_31 (s_gf (T := TX7) winX7 rfl (Nat.le_of_ble_eq_true rfl) gw_267 rfl dX9_load_34 (s_cv (C := RX7) c_X7_why rfl (gb_l5 gw_284 gw_285 gw_286 gw_11 gw_287) v_X7_why ⟨rfl, rfl⟩ ⟨Nat.le_of_ble_eq_true rfl, Nat.le_of_ble_eq_true rfl⟩ dX9_load_37 (s_is (Nat.le_of_ble_eq_true rfl) dX9_load_40 (s_il dX9_load_42 (s_zge (tgt := 50) (by decide +kernel) dX9_load_44 (s_aln 0 rfl dX9_load_50 (s_gf (T := TX9) winX9 rfl (Nat.le_of_ble_eq_true rfl) gw_243 rfl dX9_load_51 (s_aln 0 rfl dX9_load_54 (s_gf (T := TX9) winX9 rfl (Nat.le_of_ble_eq_true rfl) gw_238 rfl dX9_load_55 (s_cv (C := RX3) c_X3_add rfl (gb_l5 gw_288 gw_289 gw_290 gw_247 gw_291) v_X3_add ⟨rfl, rfl⟩ ⟨Nat.le_of_ble_eq_true rfl, Nat.le_of_ble_eq_true rfl⟩ dX9_load_58 (s_aln 0 rfl dX9_load_61 (s_gf (T := TX9) winX9 rfl (Nat.le_of_ble_eq_true rfl) gw_238 rfl dX9_load_62 (s_iln 3 rfl dX9_load_65 (s_iln 1 rfl dX9_load_66 (s_X9_load_67 hκ)))))))))) (s_il dX9_load_47 (s_ri rfl dX9_load_49)))))))))))))) (s_X9_load_21 hκ))))))))))
noncomputable def f_X9_load : gb_F := gb_hide (gb_mf 5 (k_X9_load_0 gb_n))
theorem c_X9_load : ∀ l, gb_Met l yX9_load cX9_load 5 (some .int) 1 (gb_rm 4 88) f_X9_load := gb_hide_c (gb_met (own := RX9) (rk := 1) rfl (by decide +kernel) ⟨rfl, rfl⟩ (s_X9_load_0 gb_S_n))
theorem dX9_draw_0 : decode cX9_draw 0 = .ok (.iload_n 1, 1) := by decide +kernel
theorem dX9_draw_1 : decode cX9_draw 1 = .ok (.invokestatic 136, 3) := by decide +kernel
theorem dX9_draw_4 : decode cX9_draw 4 = .ok (.ifCond .eq 10, 3) := by decide +kernel
theorem dX9_draw_7 : decode cX9_draw 7 = .ok (.iload_n 2, 1) := by decide +kernel
theorem dX9_draw_8 : decode cX9_draw 8 = .ok (.invokestatic 177, 3) := by decide +kernel
theorem dX9_draw_11 : decode cX9_draw 11 = .ok (.ifCond .ne 5, 3) := by decide +kernel
theorem dX9_draw_14 : decode cX9_draw 14 = .ok (.iconst (-1), 1) := by decide +kernel
theorem dX9_draw_15 : decode cX9_draw 15 = .ok (.ireturn, 1) := by decide +kernel
theorem dX9_draw_16 : decode cX9_draw 16 = .ok (.aload_n 0, 1) := by decide +kernel
theorem dX9_draw_17 : decode cX9_draw 17 = .ok (.getfield 31, 3) := by decide +kernel
theorem dX9_draw_20 : decode cX9_draw 20 = .ok (.iload_n 1, 1) := by decide +kernel
theorem dX9_draw_21 : decode cX9_draw 21 = .ok (.invokevirtual 191, 3) := by decide +kernel
theorem dX9_draw_24 : decode cX9_draw 24 = .ok (.ifCond .eq 6, 3) := by decide +kernel
theorem dX9_draw_27 : decode cX9_draw 27 = .ok (.bipush (-2), 2) := by decide +kernel
theorem dX9_draw_29 : decode cX9_draw 29 = .ok (.ireturn, 1) := by decide +kernel
theorem dX9_draw_30 : decode cX9_draw 30 = .ok (.aload_n 0, 1) := by decide +kernel
theorem dX9_draw_31 : decode cX9_draw 31 = .ok (.getfield 31, 3) := by decide +kernel
theorem dX9_draw_34 : decode cX9_draw 34 = .ok (.getfield 142, 3) := by decide +kernel
theorem dX9_draw_37 : decode cX9_draw 37 = .ok (.iload_n 1, 1) := by decide +kernel
theorem dX9_draw_38 : decode cX9_draw 38 = .ok (.iaload, 1) := by decide +kernel
theorem dX9_draw_39 : decode cX9_draw 39 = .ok (.iload_n 2, 1) := by decide +kernel
theorem dX9_draw_40 : decode cX9_draw 40 = .ok (.if_icmp .ge 6, 3) := by decide +kernel
theorem dX9_draw_43 : decode cX9_draw 43 = .ok (.bipush (-3), 2) := by decide +kernel
theorem dX9_draw_45 : decode cX9_draw 45 = .ok (.ireturn, 1) := by decide +kernel
theorem dX9_draw_46 : decode cX9_draw 46 = .ok (.aload_n 0, 1) := by decide +kernel
theorem dX9_draw_47 : decode cX9_draw 47 = .ok (.getfield 41, 3) := by decide +kernel
theorem dX9_draw_50 : decode cX9_draw 50 = .ok (.aload_n 0, 1) := by decide +kernel
theorem dX9_draw_51 : decode cX9_draw 51 = .ok (.getfield 31, 3) := by decide +kernel
theorem dX9_draw_54 : decode cX9_draw 54 = .ok (.invokevirtual 184, 3) := by decide +kernel
theorem dX9_draw_57 : decode cX9_draw 57 = .ok (.aload_n 0, 1) := by decide +kernel
theorem dX9_draw_58 : decode cX9_draw 58 = .ok (.getfield 48, 3) := by decide +kernel
theorem dX9_draw_61 : decode cX9_draw 61 = .ok (.invokevirtual 194, 3) := by decide +kernel
theorem dX9_draw_64 : decode cX9_draw 64 = .ok (.iconst 0, 1) := by decide +kernel
theorem dX9_draw_65 : decode cX9_draw 65 = .ok (.istore_n 3, 1) := by decide +kernel
theorem dX9_draw_66 : decode cX9_draw 66 = .ok (.iload_n 3, 1) := by decide +kernel
theorem dX9_draw_67 : decode cX9_draw 67 = .ok (.bipush 6, 2) := by decide +kernel
theorem dX9_draw_69 : decode cX9_draw 69 = .ok (.if_icmp .ge 27, 3) := by decide +kernel
theorem dX9_draw_72 : decode cX9_draw 72 = .ok (.aload_n 0, 1) := by decide +kernel
theorem dX9_draw_73 : decode cX9_draw 73 = .ok (.getfield 48, 3) := by decide +kernel
theorem dX9_draw_76 : decode cX9_draw 76 = .ok (.aload_n 0, 1) := by decide +kernel
theorem dX9_draw_77 : decode cX9_draw 77 = .ok (.getfield 31, 3) := by decide +kernel
theorem dX9_draw_80 : decode cX9_draw 80 = .ok (.iload_n 1, 1) := by decide +kernel
theorem dX9_draw_81 : decode cX9_draw 81 = .ok (.iload_n 2, 1) := by decide +kernel
theorem dX9_draw_82 : decode cX9_draw 82 = .ok (.iload_n 3, 1) := by decide +kernel
theorem dX9_draw_83 : decode cX9_draw 83 = .ok (.invokevirtual 195, 3) := by decide +kernel
theorem dX9_draw_86 : decode cX9_draw 86 = .ok (.i2l, 1) := by decide +kernel
theorem dX9_draw_87 : decode cX9_draw 87 = .ok (.invokevirtual 199, 3) := by decide +kernel
theorem dX9_draw_90 : decode cX9_draw 90 = .ok (.iinc 3 1, 3) := by decide +kernel
theorem dX9_draw_93 : decode cX9_draw 93 = .ok (.goto (-27), 3) := by decide +kernel
theorem dX9_draw_96 : decode cX9_draw 96 = .ok (.aload_n 0, 1) := by decide +kernel
theorem dX9_draw_97 : decode cX9_draw 97 = .ok (.getfield 31, 3) := by decide +kernel
theorem dX9_draw_100 : decode cX9_draw 100 = .ok (.iload_n 1, 1) := by decide +kernel
theorem dX9_draw_101 : decode cX9_draw 101 = .ok (.iload_n 2, 1) := by decide +kernel
theorem dX9_draw_102 : decode cX9_draw 102 = .ok (.invokevirtual 202, 3) := by decide +kernel
theorem dX9_draw_105 : decode cX9_draw 105 = .ok (.ireturn, 1) := by decide +kernel
theorem v_X9_draw : yX9_draw.cls = RX9 ∧ yX9_draw.cls ≠ "java/lang/invoke/MethodHandle" ∧ yX9_draw.cls ≠ "java/lang/invoke/VarHandle" ∧ (parseMethodDescriptor yX9_draw.desc).map (fun d => d.parameters.length) = some 2 := ⟨rfl, by decide +kernel, by decide +kernel, by decide +kernel⟩
noncomputable def k_X9_draw_14 (κ : gb_K) : gb_C := (o_ci (-1) o_ri)
theorem l_X9_draw_14 : gb_Li (fun κ => k_X9_draw_14 κ) := (gb_li (q_ci (-1)) (gb_li0 _))
theorem s_X9_draw_14   {κ : gb_K} (hκ : ∀ q, gb_S RX9 cX9_draw 4 (gb_rm 4 94) 1 q (κ q)) : gb_S RX9 cX9_draw 4 (gb_rm 4 94) 1 14 (k_X9_draw_14 κ) := (s_iconst (by decide +kernel) dX9_draw_14 (s_ri rfl dX9_draw_15))
noncomputable def k_X9_draw_0 (κ : gb_K) : gb_C := (o_il 1 (o_cs 1 2 f_X9_isBin (o_zeq (k_X9_draw_14 κ) (o_il 2 (o_cs 1 2 f_X9_isTons (o_zeq (k_X9_draw_14 κ) (o_al 0 (o_gf 9 3 (o_il 1 (o_cv 1 7 2 f_X7_closed (o_zeq (o_al 0 (o_gf 9 3 (o_gf 7 4 (o_il 1 (o_iald (o_il 2 (o_cge (o_al 0 (o_gf 9 6 (o_al 0 (o_gf 9 3 (o_cv 1 3 0 f_X3_add (o_al 0 (o_gf 9 7 (o_cv 0 4 0 f_X4_start (o_ci 0 (o_is 3 (o_j [0, 1, 2, 3] (κ 66)))))))))))) (o_ci (-3) o_ri)))))))) (o_ci (-2) o_ri))))))))))))
theorem l_X9_draw_0 : gb_Li (fun κ => k_X9_draw_0 κ) := (gb_li (q_il 1) (gb_li (q_cs 1 2 f_X9_isBin) (q_zeq (l_X9_draw_14) (gb_li (q_il 2) (gb_li (q_cs 1 2 f_X9_isTons) (q_zeq (l_X9_draw_14) (gb_li (q_al 0) (gb_li (q_gf 9 3) (gb_li (q_il 1) (gb_li (q_cv 1 7 2 f_X7_closed) (q_zeq (gb_li (q_al 0) (gb_li (q_gf 9 3) (gb_li (q_gf 7 4) (gb_li (q_il 1) (gb_li q_iald (gb_li (q_il 2) (q_cge (gb_li (q_al 0) (gb_li (q_gf 9 6) (gb_li (q_al 0) (gb_li (q_gf 9 3) (gb_li (q_cv 1 3 0 f_X3_add) (gb_li (q_al 0) (gb_li (q_gf 9 7) (gb_li (q_cv 0 4 0 f_X4_start) (gb_li (q_ci 0) (gb_li (q_is 3) (q_j [0, 1, 2, 3] 66))))))))))) (gb_li (q_ci (-3)) (gb_li0 _))))))))) (gb_li (q_ci (-2)) (gb_li0 _)))))))))))))
theorem s_X9_draw_0   {κ : gb_K} (hκ : ∀ q, gb_S RX9 cX9_draw 4 (gb_rm 4 94) 1 q (κ q)) : gb_S RX9 cX9_draw 4 (gb_rm 4 94) 1 0 (k_X9_draw_0 κ) := (s_iln 1 rfl dX9_draw_0 (s_cs c_X9_isBin (gb_l4 gw_272 gw_273 gw_258 gw_274) v_X9_isBin.2 ⟨rfl, rfl⟩ ⟨Nat.le_of_ble_eq_true rfl, Nat.le_of_ble_eq_true rfl⟩ dX9_draw_1 (s_zeq (tgt := 14) (by decide +kernel) dX9_draw_4 (s_X9_draw_14 hκ) (s_iln 2 rfl dX9_draw_7 (s_cs c_X9_isTons (gb_l4 gw_281 gw_282 gw_258 gw_283) v_X9_isTons.2 ⟨rfl, rfl⟩ ⟨Nat.le_of_ble_eq_true rfl, Nat.le_of_ble_eq_true rfl⟩ dX9_draw_8 (s_zne (tgt := 16) (by decide +kernel) dX9_draw_11 (s_aln 0 rfl dX9_draw_16 (s_gf (T := TX9) winX9 rfl (Nat.le_of_ble_eq_true rfl) gw_238 rfl dX9_draw_17 (s_iln 1 rfl dX9_draw_20 (s_cv (C := RX7) c_X7_closed rfl (gb_l5 gw_292 gw_9 gw_10 gw_11 gw_12) v_X7_closed ⟨rfl, rfl⟩ ⟨Nat.le_of_ble_eq_true rfl, Nat.le_of_ble_eq_true rfl⟩ dX9_draw_21 (s_zeq (tgt := 30) (by decide +kernel) dX9_draw_24 (s_aln 0 rfl dX9_draw_30 (s_gf (T := TX9) winX9 rfl (Nat.le_of_ble_eq_true rfl) gw_238 rfl dX9_draw_31 (s_gf (T := TX7) winX7 rfl (Nat.le_of_ble_eq_true rfl) gw_270 rfl dX9_draw_34 (s_iln 1 rfl dX9_draw_37 (s_iald dX9_draw_38 (s_iln 2 rfl dX9_draw_39 (s_cge (tgt := 46) (by decide +kernel) dX9_draw_40 (s_aln 0 rfl dX9_draw_46 (s_gf (T := TX9) winX9 rfl (Nat.le_of_ble_eq_true rfl) gw_243 rfl dX9_draw_47 (s_aln 0 rfl dX9_draw_50 (s_gf (T := TX9) winX9 rfl (Nat.le_of_ble_eq_true rfl) gw_238 rfl dX9_draw_51 (s_cv (C := RX3) c_X3_add rfl (gb_l5 gw_288 gw_289 gw_290 gw_247 gw_291) v_X3_add ⟨rfl, rfl⟩ ⟨Nat.le_of_ble_eq_true rfl, Nat.le_of_ble_eq_true rfl⟩ dX9_draw_54 (s_aln 0 rfl dX9_draw_57 (s_gf (T := TX9) winX9 rfl (Nat.le_of_ble_eq_true rfl) gw_293 rfl dX9_draw_58 (s_cv (C := RX4) c_X4_start rfl (gb_l5 gw_294 gw_295 gw_296 gw_297 gw_298) v_X4_start ⟨rfl, rfl⟩ ⟨Nat.le_of_ble_eq_true rfl, Nat.le_of_ble_eq_true rfl⟩ dX9_draw_61 (s_iconst (by decide +kernel) dX9_draw_64 (s_isn 3 rfl (Nat.le_of_ble_eq_true rfl) dX9_draw_65 (s_j (hκ 66)))))))))))) (s_bipush (by decide +kernel) dX9_draw_43 (s_ri rfl dX9_draw_45))))))))) (s_bipush (by decide +kernel) dX9_draw_27 (s_ri rfl dX9_draw_29))))))) (s_X9_draw_14 hκ)))))))
noncomputable def k_X9_draw_66 (κ : gb_K) : gb_C := (o_il 3 (o_ci 6 (o_cge (o_al 0 (o_gf 9 3 (o_il 1 (o_il 2 (o_cv 2 7 1 f_X7_drawOut o_ri))))) (o_al 0 (o_gf 9 7 (o_al 0 (o_gf 9 3 (o_il 1 (o_il 2 (o_il 3 (o_cv 3 7 1 f_X7_tonsBelow (o_i2l (o_cv 1 4 0 f_X4_add (o_inc 3 1 (o_j [0, 1, 2, 3] (κ 66))))))))))))))))
theorem l_X9_draw_66 : gb_Li (fun κ => k_X9_draw_66 κ) := (gb_li (q_il 3) (gb_li (q_ci 6) (q_cge (gb_li (q_al 0) (gb_li (q_gf 9 3) (gb_li (q_il 1) (gb_li (q_il 2) (gb_li (q_cv 2 7 1 f_X7_drawOut) (gb_li0 _)))))) (gb_li (q_al 0) (gb_li (q_gf 9 7) (gb_li (q_al 0) (gb_li (q_gf 9 3) (gb_li (q_il 1) (gb_li (q_il 2) (gb_li (q_il 3) (gb_li (q_cv 3 7 1 f_X7_tonsBelow) (gb_li q_i2l (gb_li (q_cv 1 4 0 f_X4_add) (gb_li (q_inc 3 1) (q_j [0, 1, 2, 3] 66)))))))))))))))
theorem s_X9_draw_66   {κ : gb_K} (hκ : ∀ q, gb_S RX9 cX9_draw 4 (gb_rm 4 94) 1 q (κ q)) : gb_S RX9 cX9_draw 4 (gb_rm 4 94) 1 66 (k_X9_draw_66 κ) := (s_iln 3 rfl dX9_draw_66 (s_bipush (by decide +kernel) dX9_draw_67 (s_cge (tgt := 96) (by decide +kernel) dX9_draw_69 (s_aln 0 rfl dX9_draw_96 (s_gf (T := TX9) winX9 rfl (Nat.le_of_ble_eq_true rfl) gw_238 rfl dX9_draw_97 (s_iln 1 rfl dX9_draw_100 (s_iln 2 rfl dX9_draw_101 (s_cv (C := RX7) c_X7_drawOut rfl (gb_l5 gw_299 gw_300 gw_301 gw_11 gw_302) v_X7_drawOut ⟨rfl, rfl⟩ ⟨Nat.le_of_ble_eq_true rfl, Nat.le_of_ble_eq_true rfl⟩ dX9_draw_102 (s_ri rfl dX9_draw_105)))))) (s_aln 0 rfl dX9_draw_72 (s_gf (T := TX9) winX9 rfl (Nat.le_of_ble_eq_true rfl) gw_293 rfl dX9_draw_73 (s_aln 0 rfl dX9_draw_76 (s_gf (T := TX9) winX9 rfl (Nat.le_of_ble_eq_true rfl) gw_238 rfl dX9_draw_77 (s_iln 1 rfl dX9_draw_80 (s_iln 2 rfl dX9_draw_81 (s_iln 3 rfl dX9_draw_82 (s_cv (C := RX7) c_X7_tonsBelow rfl (gb_l5 gw_303 gw_304 gw_305 gw_11 gw_306) v_X7_tonsBelow ⟨rfl, rfl⟩ ⟨Nat.le_of_ble_eq_true rfl, Nat.le_of_ble_eq_true rfl⟩ dX9_draw_83 (s_i2l dX9_draw_86 (s_cv (C := RX4) c_X4_add rfl (gb_l5 gw_307 gw_308 gw_309 gw_297 gw_310) v_X4_add ⟨rfl, rfl⟩ ⟨Nat.le_of_ble_eq_true rfl, Nat.le_of_ble_eq_true rfl⟩ dX9_draw_87 (s_inc (by decide +kernel) (Nat.le_of_ble_eq_true rfl) dX9_draw_90 (s_goto (tgt := 66) (by decide +kernel) dX9_draw_93 (s_j (hκ 66)))))))))))))))))
noncomputable def B_X9_draw : List (Nat × (gb_K → gb_C)) := [(66, fun κ => k_X9_draw_66 κ)]
noncomputable def K_X9_draw : gb_K := gb_fx (gb_tb (B_X9_draw))
theorem L_X9_draw : ∀ q, gb_Li (fun κ => gb_tb (B_X9_draw) κ q) := gb_tb_li (List.forall_mem_cons.mpr ⟨l_X9_draw_66, (fun _ h => absurd h List.not_mem_nil)⟩)
theorem S_X9_draw   : ∀ q, gb_S RX9 cX9_draw 4 (gb_rm 4 94) 1 q (K_X9_draw q) := fun q => gb_fx_S (L_X9_draw) (gb_tb_S (List.forall_mem_cons.mpr ⟨fun κ hκ => s_X9_draw_66 hκ, (fun _ h => absurd h List.not_mem_nil)⟩)) q
noncomputable def f_X9_draw : gb_F := gb_hide (gb_mf 4 (k_X9_draw_0 (K_X9_draw)))
theorem c_X9_draw : ∀ l, gb_Met l yX9_draw cX9_draw 4 (some .int) 1 (gb_rm 4 94) f_X9_draw := gb_hide_c (gb_met (own := RX9) (rk := 1) rfl (by decide +kernel) ⟨rfl, rfl⟩ (s_X9_draw_0 (S_X9_draw)))
theorem dX9_move_0 : decode cX9_move 0 = .ok (.iload_n 1, 1) := by decide +kernel
theorem dX9_move_1 : decode cX9_move 1 = .ok (.invokestatic 136, 3) := by decide +kernel
theorem dX9_move_4 : decode cX9_move 4 = .ok (.ifCond .eq 22, 3) := by decide +kernel
theorem dX9_move_7 : decode cX9_move 7 = .ok (.iload_n 2, 1) := by decide +kernel
theorem dX9_move_8 : decode cX9_move 8 = .ok (.invokestatic 136, 3) := by decide +kernel
theorem dX9_move_11 : decode cX9_move 11 = .ok (.ifCond .eq 15, 3) := by decide +kernel
theorem dX9_move_14 : decode cX9_move 14 = .ok (.iload_n 1, 1) := by decide +kernel
theorem dX9_move_15 : decode cX9_move 15 = .ok (.iload_n 2, 1) := by decide +kernel
theorem dX9_move_16 : decode cX9_move 16 = .ok (.if_icmp .eq 10, 3) := by decide +kernel
theorem dX9_move_19 : decode cX9_move 19 = .ok (.iload_n 3, 1) := by decide +kernel
theorem dX9_move_20 : decode cX9_move 20 = .ok (.invokestatic 177, 3) := by decide +kernel
theorem dX9_move_23 : decode cX9_move 23 = .ok (.ifCond .ne 5, 3) := by decide +kernel
theorem dX9_move_26 : decode cX9_move 26 = .ok (.iconst (-1), 1) := by decide +kernel
theorem dX9_move_27 : decode cX9_move 27 = .ok (.ireturn, 1) := by decide +kernel
theorem dX9_move_28 : decode cX9_move 28 = .ok (.aload_n 0, 1) := by decide +kernel
theorem dX9_move_29 : decode cX9_move 29 = .ok (.getfield 31, 3) := by decide +kernel
theorem dX9_move_32 : decode cX9_move 32 = .ok (.iload_n 1, 1) := by decide +kernel
theorem dX9_move_33 : decode cX9_move 33 = .ok (.iload_n 2, 1) := by decide +kernel
theorem dX9_move_34 : decode cX9_move 34 = .ok (.iload_n 3, 1) := by decide +kernel
theorem dX9_move_35 : decode cX9_move 35 = .ok (.invokevirtual 205, 3) := by decide +kernel
theorem dX9_move_38 : decode cX9_move 38 = .ok (.istore 4, 2) := by decide +kernel
theorem dX9_move_40 : decode cX9_move 40 = .ok (.iload 4, 2) := by decide +kernel
theorem dX9_move_42 : decode cX9_move 42 = .ok (.ifCond .ge 6, 3) := by decide +kernel
theorem dX9_move_45 : decode cX9_move 45 = .ok (.iload 4, 2) := by decide +kernel
theorem dX9_move_47 : decode cX9_move 47 = .ok (.ireturn, 1) := by decide +kernel
theorem dX9_move_48 : decode cX9_move 48 = .ok (.aload_n 0, 1) := by decide +kernel
theorem dX9_move_49 : decode cX9_move 49 = .ok (.getfield 41, 3) := by decide +kernel
theorem dX9_move_52 : decode cX9_move 52 = .ok (.aload_n 0, 1) := by decide +kernel
theorem dX9_move_53 : decode cX9_move 53 = .ok (.getfield 31, 3) := by decide +kernel
theorem dX9_move_56 : decode cX9_move 56 = .ok (.invokevirtual 184, 3) := by decide +kernel
theorem dX9_move_59 : decode cX9_move 59 = .ok (.aload_n 0, 1) := by decide +kernel
theorem dX9_move_60 : decode cX9_move 60 = .ok (.getfield 31, 3) := by decide +kernel
theorem dX9_move_63 : decode cX9_move 63 = .ok (.iload_n 1, 1) := by decide +kernel
theorem dX9_move_64 : decode cX9_move 64 = .ok (.invokevirtual 208, 3) := by decide +kernel
theorem dX9_move_67 : decode cX9_move 67 = .ok (.aload_n 0, 1) := by decide +kernel
theorem dX9_move_68 : decode cX9_move 68 = .ok (.getfield 31, 3) := by decide +kernel
theorem dX9_move_71 : decode cX9_move 71 = .ok (.iload_n 2, 1) := by decide +kernel
theorem dX9_move_72 : decode cX9_move 72 = .ok (.invokevirtual 208, 3) := by decide +kernel
theorem dX9_move_75 : decode cX9_move 75 = .ok (.iadd, 1) := by decide +kernel
theorem dX9_move_76 : decode cX9_move 76 = .ok (.istore 5, 2) := by decide +kernel
theorem dX9_move_78 : decode cX9_move 78 = .ok (.aload_n 0, 1) := by decide +kernel
theorem dX9_move_79 : decode cX9_move 79 = .ok (.getfield 31, 3) := by decide +kernel
theorem dX9_move_82 : decode cX9_move 82 = .ok (.iload_n 1, 1) := by decide +kernel
theorem dX9_move_83 : decode cX9_move 83 = .ok (.iload_n 2, 1) := by decide +kernel
theorem dX9_move_84 : decode cX9_move 84 = .ok (.iload_n 3, 1) := by decide +kernel
theorem dX9_move_85 : decode cX9_move 85 = .ok (.invokevirtual 211, 3) := by decide +kernel
theorem dX9_move_88 : decode cX9_move 88 = .ok (.aload_n 0, 1) := by decide +kernel
theorem dX9_move_89 : decode cX9_move 89 = .ok (.getfield 48, 3) := by decide +kernel
theorem dX9_move_92 : decode cX9_move 92 = .ok (.invokevirtual 194, 3) := by decide +kernel
theorem dX9_move_95 : decode cX9_move 95 = .ok (.aload_n 0, 1) := by decide +kernel
theorem dX9_move_96 : decode cX9_move 96 = .ok (.getfield 48, 3) := by decide +kernel
theorem dX9_move_99 : decode cX9_move 99 = .ok (.iload 5, 2) := by decide +kernel
theorem dX9_move_101 : decode cX9_move 101 = .ok (.i2l, 1) := by decide +kernel
theorem dX9_move_102 : decode cX9_move 102 = .ok (.invokevirtual 199, 3) := by decide +kernel
theorem dX9_move_105 : decode cX9_move 105 = .ok (.aload_n 0, 1) := by decide +kernel
theorem dX9_move_106 : decode cX9_move 106 = .ok (.getfield 48, 3) := by decide +kernel
theorem dX9_move_109 : decode cX9_move 109 = .ok (.aload_n 0, 1) := by decide +kernel
theorem dX9_move_110 : decode cX9_move 110 = .ok (.getfield 31, 3) := by decide +kernel
theorem dX9_move_113 : decode cX9_move 113 = .ok (.iload_n 1, 1) := by decide +kernel
theorem dX9_move_114 : decode cX9_move 114 = .ok (.invokevirtual 208, 3) := by decide +kernel
theorem dX9_move_117 : decode cX9_move 117 = .ok (.aload_n 0, 1) := by decide +kernel
theorem dX9_move_118 : decode cX9_move 118 = .ok (.getfield 31, 3) := by decide +kernel
theorem dX9_move_121 : decode cX9_move 121 = .ok (.iload_n 2, 1) := by decide +kernel
theorem dX9_move_122 : decode cX9_move 122 = .ok (.invokevirtual 208, 3) := by decide +kernel
theorem dX9_move_125 : decode cX9_move 125 = .ok (.iadd, 1) := by decide +kernel
theorem dX9_move_126 : decode cX9_move 126 = .ok (.i2l, 1) := by decide +kernel
theorem dX9_move_127 : decode cX9_move 127 = .ok (.invokevirtual 199, 3) := by decide +kernel
theorem dX9_move_130 : decode cX9_move 130 = .ok (.aload_n 0, 1) := by decide +kernel
theorem dX9_move_131 : decode cX9_move 131 = .ok (.getfield 31, 3) := by decide +kernel
theorem dX9_move_134 : decode cX9_move 134 = .ok (.getfield 142, 3) := by decide +kernel
theorem dX9_move_137 : decode cX9_move 137 = .ok (.iload_n 2, 1) := by decide +kernel
theorem dX9_move_138 : decode cX9_move 138 = .ok (.iaload, 1) := by decide +kernel
theorem dX9_move_139 : decode cX9_move 139 = .ok (.ireturn, 1) := by decide +kernel
theorem v_X9_move : yX9_move.cls = RX9 ∧ yX9_move.cls ≠ "java/lang/invoke/MethodHandle" ∧ yX9_move.cls ≠ "java/lang/invoke/VarHandle" ∧ (parseMethodDescriptor yX9_move.desc).map (fun d => d.parameters.length) = some 3 := ⟨rfl, by decide +kernel, by decide +kernel, by decide +kernel⟩
noncomputable def k_X9_move_26 (κ : gb_K) : gb_C := (o_ci (-1) o_ri)
theorem l_X9_move_26 : gb_Li (fun κ => k_X9_move_26 κ) := (gb_li (q_ci (-1)) (gb_li0 _))
theorem s_X9_move_26   {κ : gb_K} (hκ : ∀ q, gb_S RX9 cX9_move 6 (gb_rm 5 120) 1 q (κ q)) : gb_S RX9 cX9_move 6 (gb_rm 5 120) 1 26 (k_X9_move_26 κ) := (s_iconst (by decide +kernel) dX9_move_26 (s_ri rfl dX9_move_27))
noncomputable def k_X9_move_125 (κ : gb_K) : gb_C := (o_ib (fun x y => x + y) (o_i2l (o_cv 1 4 0 f_X4_add (o_al 0 (o_gf 9 3 (o_gf 7 4 (o_il 2 (o_iald o_ri))))))))
theorem l_X9_move_125 : gb_Li (fun κ => k_X9_move_125 κ) := (gb_li (q_ib _) (gb_li q_i2l (gb_li (q_cv 1 4 0 f_X4_add) (gb_li (q_al 0) (gb_li (q_gf 9 3) (gb_li (q_gf 7 4) (gb_li (q_il 2) (gb_li q_iald (gb_li0 _)))))))))
theorem s_X9_move_125   {κ : gb_K} (hκ : ∀ q, gb_S RX9 cX9_move 6 (gb_rm 5 120) 1 q (κ q)) : gb_S RX9 cX9_move 6 (gb_rm 5 120) 1 125 (k_X9_move_125 κ) := (s_iadd dX9_move_125 (s_i2l dX9_move_126 (s_cv (C := RX4) c_X4_add rfl (gb_l5 gw_307 gw_308 gw_309 gw_297 gw_310) v_X4_add ⟨rfl, rfl⟩ ⟨Nat.le_of_ble_eq_true rfl, Nat.le_of_ble_eq_true rfl⟩ dX9_move_127 (s_aln 0 rfl dX9_move_130 (s_gf (T := TX9) winX9 rfl (Nat.le_of_ble_eq_true rfl) gw_238 rfl dX9_move_131 (s_gf (T := TX7) winX7 rfl (Nat.le_of_ble_eq_true rfl) gw_270 rfl dX9_move_134 (s_iln 2 rfl dX9_move_137 (s_iald dX9_move_138 (s_ri rfl dX9_move_139)))))))))
noncomputable def k_X9_move_67 (κ : gb_K) : gb_C := (o_al 0 (o_gf 9 3 (o_il 2 (o_cv 1 7 1 f_X7_valueOf (o_ib (fun x y => x + y) (o_is 5 (o_al 0 (o_gf 9 3 (o_il 1 (o_il 2 (o_il 3 (o_cv 3 7 0 f_X7_shift (o_al 0 (o_gf 9 7 (o_cv 0 4 0 f_X4_start (o_al 0 (o_gf 9 7 (o_il 5 (o_i2l (o_cv 1 4 0 f_X4_add (o_al 0 (o_gf 9 7 (o_al 0 (o_gf 9 3 (o_il 1 (o_cv 1 7 1 f_X7_valueOf (o_al 0 (o_gf 9 3 (o_il 2 (o_cv 1 7 1 f_X7_valueOf (k_X9_move_125 κ)))))))))))))))))))))))))))))))
theorem l_X9_move_67 : gb_Li (fun κ => k_X9_move_67 κ) := (gb_li (q_al 0) (gb_li (q_gf 9 3) (gb_li (q_il 2) (gb_li (q_cv 1 7 1 f_X7_valueOf) (gb_li (q_ib _) (gb_li (q_is 5) (gb_li (q_al 0) (gb_li (q_gf 9 3) (gb_li (q_il 1) (gb_li (q_il 2) (gb_li (q_il 3) (gb_li (q_cv 3 7 0 f_X7_shift) (gb_li (q_al 0) (gb_li (q_gf 9 7) (gb_li (q_cv 0 4 0 f_X4_start) (gb_li (q_al 0) (gb_li (q_gf 9 7) (gb_li (q_il 5) (gb_li q_i2l (gb_li (q_cv 1 4 0 f_X4_add) (gb_li (q_al 0) (gb_li (q_gf 9 7) (gb_li (q_al 0) (gb_li (q_gf 9 3) (gb_li (q_il 1) (gb_li (q_cv 1 7 1 f_X7_valueOf) (gb_li (q_al 0) (gb_li (q_gf 9 3) (gb_li (q_il 2) (gb_li (q_cv 1 7 1 f_X7_valueOf) (l_X9_move_125)))))))))))))))))))))))))))))))
theorem s_X9_move_67   {κ : gb_K} (hκ : ∀ q, gb_S RX9 cX9_move 6 (gb_rm 5 120) 1 q (κ q)) : gb_S RX9 cX9_move 6 (gb_rm 5 120) 1 67 (k_X9_move_67 κ) := (s_aln 0 rfl dX9_move_67 (s_gf (T := TX9) winX9 rfl (Nat.le_of_ble_eq_true rfl) gw_238 rfl dX9_move_68 (s_iln 2 rfl dX9_move_71 (s_cv (C := RX7) c_X7_valueOf rfl (gb_l5 gw_311 gw_312 gw_313 gw_11 gw_314) v_X7_valueOf ⟨rfl, rfl⟩ ⟨Nat.le_of_ble_eq_true rfl, Nat.le_of_ble_eq_true rfl⟩ dX9_move_72 (s_iadd dX9_move_75 (s_is (Nat.le_of_ble_eq_true rfl) dX9_move_76 (s_aln 0 rfl dX9_move_78 (s_gf (T := TX9) winX9 rfl (Nat.le_of_ble_eq_true rfl) gw_238 rfl dX9_move_79 (s_iln 1 rfl dX9_move_82 (s_iln 2 rfl dX9_move_83 (s_iln 3 rfl dX9_move_84 (s_cv (C := RX7) c_X7_shift rfl (gb_l5 gw_315 gw_316 gw_317 gw_11 gw_318) v_X7_shift ⟨rfl, rfl⟩ ⟨Nat.le_of_ble_eq_true rfl, Nat.le_of_ble_eq_true rfl⟩ dX9_move_85 (s_aln 0 rfl dX9_move_88 (s_gf (T := TX9) winX9 rfl (Nat.le_of_ble_eq_true rfl) gw_293 rfl dX9_move_89 (s_cv (C := RX4) c_X4_start rfl (gb_l5 gw_294 gw_295 gw_296 gw_297 gw_298) v_X4_start ⟨rfl, rfl⟩ ⟨Nat.le_of_ble_eq_true rfl, Nat.le_of_ble_eq_true rfl⟩ dX9_move_92 (s_aln 0 rfl dX9_move_95 (s_gf (T := TX9) winX9 rfl (Nat.le_of_ble_eq_true rfl) gw_293 rfl dX9_move_96 (s_il dX9_move_99 (s_i2l dX9_move_101 (s_cv (C := RX4) c_X4_add rfl (gb_l5 gw_307 gw_308 gw_309 gw_297 gw_310) v_X4_add ⟨rfl, rfl⟩ ⟨Nat.le_of_ble_eq_true rfl, Nat.le_of_ble_eq_true rfl⟩ dX9_move_102 (s_aln 0 rfl dX9_move_105 (s_gf (T := TX9) winX9 rfl (Nat.le_of_ble_eq_true rfl) gw_293 rfl dX9_move_106 (s_aln 0 rfl dX9_move_109 (s_gf (T := TX9) winX9 rfl (Nat.le_of_ble_eq_true rfl) gw_238 rfl dX9_move_110 (s_iln 1 rfl dX9_move_113 (s_cv (C := RX7) c_X7_valueOf rfl (gb_l5 gw_311 gw_312 gw_313 gw_11 gw_314) v_X7_valueOf ⟨rfl, rfl⟩ ⟨Nat.le_of_ble_eq_true rfl, Nat.le_of_ble_eq_true rfl⟩ dX9_move_114 (s_aln 0 rfl dX9_move_117 (s_gf (T := TX9) winX9 rfl (Nat.le_of_ble_eq_true rfl) gw_238 rfl dX9_move_118 (s_iln 2 rfl dX9_move_121 (s_cv (C := RX7) c_X7_valueOf rfl (gb_l5 gw_311 gw_312 gw_313 gw_11 gw_314) v_X7_valueOf ⟨rfl, rfl⟩ ⟨Nat.le_of_ble_eq_true rfl, Nat.le_of_ble_eq_true rfl⟩ dX9_move_122 (s_X9_move_125 hκ)))))))))))))))))))))))))))))))
noncomputable def k_X9_move_0 (κ : gb_K) : gb_C := (o_il 1 (o_cs 1 2 f_X9_isBin (o_zeq (k_X9_move_26 κ) (o_il 2 (o_cs 1 2 f_X9_isBin (o_zeq (k_X9_move_26 κ) (o_il 1 (o_il 2 (o_ceq (k_X9_move_26 κ) (o_il 3 (o_cs 1 2 f_X9_isTons (o_zeq (k_X9_move_26 κ) (o_al 0 (o_gf 9 3 (o_il 1 (o_il 2 (o_il 3 (o_cv 3 7 1 f_X7_whyNotMove (o_is 4 (o_il 4 (o_zge (o_al 0 (o_gf 9 6 (o_al 0 (o_gf 9 3 (o_cv 1 3 0 f_X3_add (o_al 0 (o_gf 9 3 (o_il 1 (o_cv 1 7 1 f_X7_valueOf (k_X9_move_67 κ)))))))))) (o_il 4 o_ri))))))))))))))))))))))
theorem l_X9_move_0 : gb_Li (fun κ => k_X9_move_0 κ) := (gb_li (q_il 1) (gb_li (q_cs 1 2 f_X9_isBin) (q_zeq (l_X9_move_26) (gb_li (q_il 2) (gb_li (q_cs 1 2 f_X9_isBin) (q_zeq (l_X9_move_26) (gb_li (q_il 1) (gb_li (q_il 2) (q_ceq (l_X9_move_26) (gb_li (q_il 3) (gb_li (q_cs 1 2 f_X9_isTons) (q_zeq (l_X9_move_26) (gb_li (q_al 0) (gb_li (q_gf 9 3) (gb_li (q_il 1) (gb_li (q_il 2) (gb_li (q_il 3) (gb_li (q_cv 3 7 1 f_X7_whyNotMove) (gb_li (q_is 4) (gb_li (q_il 4) (q_zge (gb_li (q_al 0) (gb_li (q_gf 9 6) (gb_li (q_al 0) (gb_li (q_gf 9 3) (gb_li (q_cv 1 3 0 f_X3_add) (gb_li (q_al 0) (gb_li (q_gf 9 3) (gb_li (q_il 1) (gb_li (q_cv 1 7 1 f_X7_valueOf) (l_X9_move_67)))))))))) (gb_li (q_il 4) (gb_li0 _)))))))))))))))))))))))
theorem s_X9_move_0   {κ : gb_K} (hκ : ∀ q, gb_S RX9 cX9_move 6 (gb_rm 5 120) 1 q (κ q)) : gb_S RX9 cX9_move 6 (gb_rm 5 120) 1 0 (k_X9_move_0 κ) := (s_iln 1 rfl dX9_move_0 (s_cs c_X9_isBin (gb_l4 gw_272 gw_273 gw_258 gw_274) v_X9_isBin.2 ⟨rfl, rfl⟩ ⟨Nat.le_of_ble_eq_true rfl, Nat.le_of_ble_eq_true rfl⟩ dX9_move_1 (s_zeq (tgt := 26) (by decide +kernel) dX9_move_4 (s_X9_move_26 hκ) (s_iln 2 rfl dX9_move_7 (s_cs c_X9_isBin (gb_l4 gw_272 gw_273 gw_258 gw_274) v_X9_isBin.2 ⟨rfl, rfl⟩ ⟨Nat.le_of_ble_eq_true rfl, Nat.le_of_ble_eq_true rfl⟩ dX9_move_8 (s_zeq (tgt := 26) (by decide +kernel) dX9_move_11 (s_X9_move_26 hκ) (s_iln 1 rfl dX9_move_14 (s_iln 2 rfl dX9_move_15 (s_ceq (tgt := 26) (by decide +kernel) dX9_move_16 (s_X9_move_26 hκ) (s_iln 3 rfl dX9_move_19 (s_cs c_X9_isTons (gb_l4 gw_281 gw_282 gw_258 gw_283) v_X9_isTons.2 ⟨rfl, rfl⟩ ⟨Nat.le_of_ble_eq_true rfl, Nat.le_of_ble_eq_true rfl⟩ dX9_move_20 (s_zne (tgt := 28) (by decide +kernel) dX9_move_23 (s_aln 0 rfl dX9_move_28 (s_gf (T := TX9) winX9 rfl (Nat.le_of_ble_eq_true rfl) gw_238 rfl dX9_move_29 (s_iln 1 rfl dX9_move_32 (s_iln 2 rfl dX9_move_33 (s_iln 3 rfl dX9_move_34 (s_cv (C := RX7) c_X7_whyNotMove rfl (gb_l5 gw_319 gw_320 gw_321 gw_11 gw_322) v_X7_whyNotMove ⟨rfl, rfl⟩ ⟨Nat.le_of_ble_eq_true rfl, Nat.le_of_ble_eq_true rfl⟩ dX9_move_35 (s_is (Nat.le_of_ble_eq_true rfl) dX9_move_38 (s_il dX9_move_40 (s_zge (tgt := 48) (by decide +kernel) dX9_move_42 (s_aln 0 rfl dX9_move_48 (s_gf (T := TX9) winX9 rfl (Nat.le_of_ble_eq_true rfl) gw_243 rfl dX9_move_49 (s_aln 0 rfl dX9_move_52 (s_gf (T := TX9) winX9 rfl (Nat.le_of_ble_eq_true rfl) gw_238 rfl dX9_move_53 (s_cv (C := RX3) c_X3_add rfl (gb_l5 gw_288 gw_289 gw_290 gw_247 gw_291) v_X3_add ⟨rfl, rfl⟩ ⟨Nat.le_of_ble_eq_true rfl, Nat.le_of_ble_eq_true rfl⟩ dX9_move_56 (s_aln 0 rfl dX9_move_59 (s_gf (T := TX9) winX9 rfl (Nat.le_of_ble_eq_true rfl) gw_238 rfl dX9_move_60 (s_iln 1 rfl dX9_move_63 (s_cv (C := RX7) c_X7_valueOf rfl (gb_l5 gw_311 gw_312 gw_313 gw_11 gw_314) v_X7_valueOf ⟨rfl, rfl⟩ ⟨Nat.le_of_ble_eq_true rfl, Nat.le_of_ble_eq_true rfl⟩ dX9_move_64 (s_X9_move_67 hκ)))))))))) (s_il dX9_move_45 (s_ri rfl dX9_move_47))))))))))) (s_X9_move_26 hκ)))))))))))))
noncomputable def f_X9_move : gb_F := gb_hide (gb_mf 6 (k_X9_move_0 gb_n))
theorem c_X9_move : ∀ l, gb_Met l yX9_move cX9_move 6 (some .int) 1 (gb_rm 5 120) f_X9_move := gb_hide_c (gb_met (own := RX9) (rk := 1) rfl (by decide +kernel) ⟨rfl, rfl⟩ (s_X9_move_0 gb_S_n))
theorem dX9_fumes_0 : decode cX9_fumes 0 = .ok (.iload_n 1, 1) := by decide +kernel
theorem dX9_fumes_1 : decode cX9_fumes 1 = .ok (.invokestatic 136, 3) := by decide +kernel
theorem dX9_fumes_4 : decode cX9_fumes 4 = .ok (.ifCond .eq 14, 3) := by decide +kernel
theorem dX9_fumes_7 : decode cX9_fumes 7 = .ok (.iload_n 2, 1) := by decide +kernel
theorem dX9_fumes_8 : decode cX9_fumes 8 = .ok (.iconst 1, 1) := by decide +kernel
theorem dX9_fumes_9 : decode cX9_fumes 9 = .ok (.if_icmp .lt 9, 3) := by decide +kernel
theorem dX9_fumes_12 : decode cX9_fumes 12 = .ok (.iload_n 2, 1) := by decide +kernel
theorem dX9_fumes_13 : decode cX9_fumes 13 = .ok (.bipush 20, 2) := by decide +kernel
theorem dX9_fumes_15 : decode cX9_fumes 15 = .ok (.if_icmp .le 5, 3) := by decide +kernel
theorem dX9_fumes_18 : decode cX9_fumes 18 = .ok (.iconst (-1), 1) := by decide +kernel
theorem dX9_fumes_19 : decode cX9_fumes 19 = .ok (.ireturn, 1) := by decide +kernel
theorem dX9_fumes_20 : decode cX9_fumes 20 = .ok (.aload_n 0, 1) := by decide +kernel
theorem dX9_fumes_21 : decode cX9_fumes 21 = .ok (.getfield 31, 3) := by decide +kernel
theorem dX9_fumes_24 : decode cX9_fumes 24 = .ok (.iload_n 1, 1) := by decide +kernel
theorem dX9_fumes_25 : decode cX9_fumes 25 = .ok (.invokevirtual 191, 3) := by decide +kernel
theorem dX9_fumes_28 : decode cX9_fumes 28 = .ok (.ifCond .eq 6, 3) := by decide +kernel
theorem dX9_fumes_31 : decode cX9_fumes 31 = .ok (.bipush (-2), 2) := by decide +kernel
theorem dX9_fumes_33 : decode cX9_fumes 33 = .ok (.ireturn, 1) := by decide +kernel
theorem dX9_fumes_34 : decode cX9_fumes 34 = .ok (.aload_n 0, 1) := by decide +kernel
theorem dX9_fumes_35 : decode cX9_fumes 35 = .ok (.getfield 41, 3) := by decide +kernel
theorem dX9_fumes_38 : decode cX9_fumes 38 = .ok (.aload_n 0, 1) := by decide +kernel
theorem dX9_fumes_39 : decode cX9_fumes 39 = .ok (.getfield 31, 3) := by decide +kernel
theorem dX9_fumes_42 : decode cX9_fumes 42 = .ok (.invokevirtual 184, 3) := by decide +kernel
theorem dX9_fumes_45 : decode cX9_fumes 45 = .ok (.aload_n 0, 1) := by decide +kernel
theorem dX9_fumes_46 : decode cX9_fumes 46 = .ok (.getfield 31, 3) := by decide +kernel
theorem dX9_fumes_49 : decode cX9_fumes 49 = .ok (.iload_n 1, 1) := by decide +kernel
theorem dX9_fumes_50 : decode cX9_fumes 50 = .ok (.iload_n 2, 1) := by decide +kernel
theorem dX9_fumes_51 : decode cX9_fumes 51 = .ok (.invokevirtual 219, 3) := by decide +kernel
theorem dX9_fumes_54 : decode cX9_fumes 54 = .ok (.aload_n 0, 1) := by decide +kernel
theorem dX9_fumes_55 : decode cX9_fumes 55 = .ok (.getfield 31, 3) := by decide +kernel
theorem dX9_fumes_58 : decode cX9_fumes 58 = .ok (.getfield 148, 3) := by decide +kernel
theorem dX9_fumes_61 : decode cX9_fumes 61 = .ok (.iload_n 1, 1) := by decide +kernel
theorem dX9_fumes_62 : decode cX9_fumes 62 = .ok (.iaload, 1) := by decide +kernel
theorem dX9_fumes_63 : decode cX9_fumes 63 = .ok (.ireturn, 1) := by decide +kernel
theorem v_X9_fumes : yX9_fumes.cls = RX9 ∧ yX9_fumes.cls ≠ "java/lang/invoke/MethodHandle" ∧ yX9_fumes.cls ≠ "java/lang/invoke/VarHandle" ∧ (parseMethodDescriptor yX9_fumes.desc).map (fun d => d.parameters.length) = some 2 := ⟨rfl, by decide +kernel, by decide +kernel, by decide +kernel⟩
noncomputable def k_X9_fumes_18 (κ : gb_K) : gb_C := (o_ci (-1) o_ri)
theorem l_X9_fumes_18 : gb_Li (fun κ => k_X9_fumes_18 κ) := (gb_li (q_ci (-1)) (gb_li0 _))
theorem s_X9_fumes_18   {κ : gb_K} (hκ : ∀ q, gb_S RX9 cX9_fumes 3 (gb_rm 5 117) 1 q (κ q)) : gb_S RX9 cX9_fumes 3 (gb_rm 5 117) 1 18 (k_X9_fumes_18 κ) := (s_iconst (by decide +kernel) dX9_fumes_18 (s_ri rfl dX9_fumes_19))
noncomputable def k_X9_fumes_0 (κ : gb_K) : gb_C := (o_il 1 (o_cs 1 2 f_X9_isBin (o_zeq (k_X9_fumes_18 κ) (o_il 2 (o_ci 1 (o_clt (k_X9_fumes_18 κ) (o_il 2 (o_ci 20 (o_cle (o_al 0 (o_gf 9 3 (o_il 1 (o_cv 1 7 2 f_X7_closed (o_zeq (o_al 0 (o_gf 9 6 (o_al 0 (o_gf 9 3 (o_cv 1 3 0 f_X3_add (o_al 0 (o_gf 9 3 (o_il 1 (o_il 2 (o_cv 2 7 0 f_X7_fumigate (o_al 0 (o_gf 9 3 (o_gf 7 2 (o_il 1 (o_iald o_ri))))))))))))))) (o_ci (-2) o_ri)))))) (k_X9_fumes_18 κ))))))))))
theorem l_X9_fumes_0 : gb_Li (fun κ => k_X9_fumes_0 κ) := (gb_li (q_il 1) (gb_li (q_cs 1 2 f_X9_isBin) (q_zeq (l_X9_fumes_18) (gb_li (q_il 2) (gb_li (q_ci 1) (q_clt (l_X9_fumes_18) (gb_li (q_il 2) (gb_li (q_ci 20) (q_cle (gb_li (q_al 0) (gb_li (q_gf 9 3) (gb_li (q_il 1) (gb_li (q_cv 1 7 2 f_X7_closed) (q_zeq (gb_li (q_al 0) (gb_li (q_gf 9 6) (gb_li (q_al 0) (gb_li (q_gf 9 3) (gb_li (q_cv 1 3 0 f_X3_add) (gb_li (q_al 0) (gb_li (q_gf 9 3) (gb_li (q_il 1) (gb_li (q_il 2) (gb_li (q_cv 2 7 0 f_X7_fumigate) (gb_li (q_al 0) (gb_li (q_gf 9 3) (gb_li (q_gf 7 2) (gb_li (q_il 1) (gb_li q_iald (gb_li0 _)))))))))))))))) (gb_li (q_ci (-2)) (gb_li0 _))))))) (l_X9_fumes_18))))))))))
theorem s_X9_fumes_0   {κ : gb_K} (hκ : ∀ q, gb_S RX9 cX9_fumes 3 (gb_rm 5 117) 1 q (κ q)) : gb_S RX9 cX9_fumes 3 (gb_rm 5 117) 1 0 (k_X9_fumes_0 κ) := (s_iln 1 rfl dX9_fumes_0 (s_cs c_X9_isBin (gb_l4 gw_272 gw_273 gw_258 gw_274) v_X9_isBin.2 ⟨rfl, rfl⟩ ⟨Nat.le_of_ble_eq_true rfl, Nat.le_of_ble_eq_true rfl⟩ dX9_fumes_1 (s_zeq (tgt := 18) (by decide +kernel) dX9_fumes_4 (s_X9_fumes_18 hκ) (s_iln 2 rfl dX9_fumes_7 (s_iconst (by decide +kernel) dX9_fumes_8 (s_clt (tgt := 18) (by decide +kernel) dX9_fumes_9 (s_X9_fumes_18 hκ) (s_iln 2 rfl dX9_fumes_12 (s_bipush (by decide +kernel) dX9_fumes_13 (s_cle (tgt := 20) (by decide +kernel) dX9_fumes_15 (s_aln 0 rfl dX9_fumes_20 (s_gf (T := TX9) winX9 rfl (Nat.le_of_ble_eq_true rfl) gw_238 rfl dX9_fumes_21 (s_iln 1 rfl dX9_fumes_24 (s_cv (C := RX7) c_X7_closed rfl (gb_l5 gw_292 gw_9 gw_10 gw_11 gw_12) v_X7_closed ⟨rfl, rfl⟩ ⟨Nat.le_of_ble_eq_true rfl, Nat.le_of_ble_eq_true rfl⟩ dX9_fumes_25 (s_zeq (tgt := 34) (by decide +kernel) dX9_fumes_28 (s_aln 0 rfl dX9_fumes_34 (s_gf (T := TX9) winX9 rfl (Nat.le_of_ble_eq_true rfl) gw_243 rfl dX9_fumes_35 (s_aln 0 rfl dX9_fumes_38 (s_gf (T := TX9) winX9 rfl (Nat.le_of_ble_eq_true rfl) gw_238 rfl dX9_fumes_39 (s_cv (C := RX3) c_X3_add rfl (gb_l5 gw_288 gw_289 gw_290 gw_247 gw_291) v_X3_add ⟨rfl, rfl⟩ ⟨Nat.le_of_ble_eq_true rfl, Nat.le_of_ble_eq_true rfl⟩ dX9_fumes_42 (s_aln 0 rfl dX9_fumes_45 (s_gf (T := TX9) winX9 rfl (Nat.le_of_ble_eq_true rfl) gw_238 rfl dX9_fumes_46 (s_iln 1 rfl dX9_fumes_49 (s_iln 2 rfl dX9_fumes_50 (s_cv (C := RX7) c_X7_fumigate rfl (gb_l5 gw_323 gw_324 gw_325 gw_11 gw_326) v_X7_fumigate ⟨rfl, rfl⟩ ⟨Nat.le_of_ble_eq_true rfl, Nat.le_of_ble_eq_true rfl⟩ dX9_fumes_51 (s_aln 0 rfl dX9_fumes_54 (s_gf (T := TX9) winX9 rfl (Nat.le_of_ble_eq_true rfl) gw_238 rfl dX9_fumes_55 (s_gf (T := TX7) winX7 rfl (Nat.le_of_ble_eq_true rfl) gw_266 rfl dX9_fumes_58 (s_iln 1 rfl dX9_fumes_61 (s_iald dX9_fumes_62 (s_ri rfl dX9_fumes_63)))))))))))))))) (s_bipush (by decide +kernel) dX9_fumes_31 (s_ri rfl dX9_fumes_33))))))) (s_X9_fumes_18 hκ))))))))))
noncomputable def f_X9_fumes : gb_F := gb_hide (gb_mf 3 (k_X9_fumes_0 gb_n))
theorem c_X9_fumes : ∀ l, gb_Met l yX9_fumes cX9_fumes 3 (some .int) 1 (gb_rm 5 117) f_X9_fumes := gb_hide_c (gb_met (own := RX9) (rk := 1) rfl (by decide +kernel) ⟨rfl, rfl⟩ (s_X9_fumes_0 gb_S_n))
theorem dX9_days_0 : decode cX9_days 0 = .ok (.iload_n 1, 1) := by decide +kernel
theorem dX9_days_1 : decode cX9_days 1 = .ok (.iconst 1, 1) := by decide +kernel
theorem dX9_days_2 : decode cX9_days 2 = .ok (.if_icmp .lt 24, 3) := by decide +kernel
theorem dX9_days_5 : decode cX9_days 5 = .ok (.iload_n 1, 1) := by decide +kernel
theorem dX9_days_6 : decode cX9_days 6 = .ok (.bipush 99, 2) := by decide +kernel
theorem dX9_days_8 : decode cX9_days 8 = .ok (.if_icmp .gt 18, 3) := by decide +kernel
theorem dX9_days_11 : decode cX9_days 11 = .ok (.aload_n 0, 1) := by decide +kernel
theorem dX9_days_12 : decode cX9_days 12 = .ok (.getfield 31, 3) := by decide +kernel
theorem dX9_days_15 : decode cX9_days 15 = .ok (.getfield 151, 3) := by decide +kernel
theorem dX9_days_18 : decode cX9_days 18 = .ok (.iload_n 1, 1) := by decide +kernel
theorem dX9_days_19 : decode cX9_days 19 = .ok (.iadd, 1) := by decide +kernel
theorem dX9_days_20 : decode cX9_days 20 = .ok (.sipush 9999, 3) := by decide +kernel
theorem dX9_days_23 : decode cX9_days 23 = .ok (.if_icmp .le 5, 3) := by decide +kernel
theorem dX9_days_26 : decode cX9_days 26 = .ok (.iconst (-1), 1) := by decide +kernel
theorem dX9_days_27 : decode cX9_days 27 = .ok (.ireturn, 1) := by decide +kernel
theorem dX9_days_28 : decode cX9_days 28 = .ok (.aload_n 0, 1) := by decide +kernel
theorem dX9_days_29 : decode cX9_days 29 = .ok (.getfield 41, 3) := by decide +kernel
theorem dX9_days_32 : decode cX9_days 32 = .ok (.aload_n 0, 1) := by decide +kernel
theorem dX9_days_33 : decode cX9_days 33 = .ok (.getfield 31, 3) := by decide +kernel
theorem dX9_days_36 : decode cX9_days 36 = .ok (.invokevirtual 184, 3) := by decide +kernel
theorem dX9_days_39 : decode cX9_days 39 = .ok (.aload_n 0, 1) := by decide +kernel
theorem dX9_days_40 : decode cX9_days 40 = .ok (.getfield 31, 3) := by decide +kernel
theorem dX9_days_43 : decode cX9_days 43 = .ok (.dup, 1) := by decide +kernel
theorem dX9_days_44 : decode cX9_days 44 = .ok (.getfield 151, 3) := by decide +kernel
theorem dX9_days_47 : decode cX9_days 47 = .ok (.iload_n 1, 1) := by decide +kernel
theorem dX9_days_48 : decode cX9_days 48 = .ok (.iadd, 1) := by decide +kernel
theorem dX9_days_49 : decode cX9_days 49 = .ok (.putfield 151, 3) := by decide +kernel
theorem dX9_days_52 : decode cX9_days 52 = .ok (.aload_n 0, 1) := by decide +kernel
theorem dX9_days_53 : decode cX9_days 53 = .ok (.getfield 31, 3) := by decide +kernel
theorem dX9_days_56 : decode cX9_days 56 = .ok (.getfield 151, 3) := by decide +kernel
theorem dX9_days_59 : decode cX9_days 59 = .ok (.ireturn, 1) := by decide +kernel
theorem v_X9_days : yX9_days.cls = RX9 ∧ yX9_days.cls ≠ "java/lang/invoke/MethodHandle" ∧ yX9_days.cls ≠ "java/lang/invoke/VarHandle" ∧ (parseMethodDescriptor yX9_days.desc).map (fun d => d.parameters.length) = some 1 := ⟨rfl, by decide +kernel, by decide +kernel, by decide +kernel⟩
noncomputable def k_X9_days_26 (κ : gb_K) : gb_C := (o_ci (-1) o_ri)
theorem l_X9_days_26 : gb_Li (fun κ => k_X9_days_26 κ) := (gb_li (q_ci (-1)) (gb_li0 _))
theorem s_X9_days_26   {κ : gb_K} (hκ : ∀ q, gb_S RX9 cX9_days 2 (gb_rm 4 88) 1 q (κ q)) : gb_S RX9 cX9_days 2 (gb_rm 4 88) 1 26 (k_X9_days_26 κ) := (s_iconst (by decide +kernel) dX9_days_26 (s_ri rfl dX9_days_27))
noncomputable def k_X9_days_0 (κ : gb_K) : gb_C := (o_il 1 (o_ci 1 (o_clt (k_X9_days_26 κ) (o_il 1 (o_ci 99 (o_cgt (k_X9_days_26 κ) (o_al 0 (o_gf 9 3 (o_gf 7 9 (o_il 1 (o_ib (fun x y => x + y) (o_ci 9999 (o_cle (o_al 0 (o_gf 9 6 (o_al 0 (o_gf 9 3 (o_cv 1 3 0 f_X3_add (o_al 0 (o_gf 9 3 (o_dup (o_gf 7 9 (o_il 1 (o_ib (fun x y => x + y) (o_pf 7 9 (o_al 0 (o_gf 9 3 (o_gf 7 9 o_ri))))))))))))))) (k_X9_days_26 κ))))))))))))))
theorem l_X9_days_0 : gb_Li (fun κ => k_X9_days_0 κ) := (gb_li (q_il 1) (gb_li (q_ci 1) (q_clt (l_X9_days_26) (gb_li (q_il 1) (gb_li (q_ci 99) (q_cgt (l_X9_days_26) (gb_li (q_al 0) (gb_li (q_gf 9 3) (gb_li (q_gf 7 9) (gb_li (q_il 1) (gb_li (q_ib _) (gb_li (q_ci 9999) (q_cle (gb_li (q_al 0) (gb_li (q_gf 9 6) (gb_li (q_al 0) (gb_li (q_gf 9 3) (gb_li (q_cv 1 3 0 f_X3_add) (gb_li (q_al 0) (gb_li (q_gf 9 3) (gb_li q_dup (gb_li (q_gf 7 9) (gb_li (q_il 1) (gb_li (q_ib _) (gb_li (q_pf 7 9) (gb_li (q_al 0) (gb_li (q_gf 9 3) (gb_li (q_gf 7 9) (gb_li0 _)))))))))))))))) (l_X9_days_26))))))))))))))
theorem s_X9_days_0   {κ : gb_K} (hκ : ∀ q, gb_S RX9 cX9_days 2 (gb_rm 4 88) 1 q (κ q)) : gb_S RX9 cX9_days 2 (gb_rm 4 88) 1 0 (k_X9_days_0 κ) := (s_iln 1 rfl dX9_days_0 (s_iconst (by decide +kernel) dX9_days_1 (s_clt (tgt := 26) (by decide +kernel) dX9_days_2 (s_X9_days_26 hκ) (s_iln 1 rfl dX9_days_5 (s_bipush (by decide +kernel) dX9_days_6 (s_cgt (tgt := 26) (by decide +kernel) dX9_days_8 (s_X9_days_26 hκ) (s_aln 0 rfl dX9_days_11 (s_gf (T := TX9) winX9 rfl (Nat.le_of_ble_eq_true rfl) gw_238 rfl dX9_days_12 (s_gf (T := TX7) winX7 rfl (Nat.le_of_ble_eq_true rfl) gw_267 rfl dX9_days_15 (s_iln 1 rfl dX9_days_18 (s_iadd dX9_days_19 (s_sipush (by decide +kernel) dX9_days_20 (s_cle (tgt := 28) (by decide +kernel) dX9_days_23 (s_aln 0 rfl dX9_days_28 (s_gf (T := TX9) winX9 rfl (Nat.le_of_ble_eq_true rfl) gw_243 rfl dX9_days_29 (s_aln 0 rfl dX9_days_32 (s_gf (T := TX9) winX9 rfl (Nat.le_of_ble_eq_true rfl) gw_238 rfl dX9_days_33 (s_cv (C := RX3) c_X3_add rfl (gb_l5 gw_288 gw_289 gw_290 gw_247 gw_291) v_X3_add ⟨rfl, rfl⟩ ⟨Nat.le_of_ble_eq_true rfl, Nat.le_of_ble_eq_true rfl⟩ dX9_days_36 (s_aln 0 rfl dX9_days_39 (s_gf (T := TX9) winX9 rfl (Nat.le_of_ble_eq_true rfl) gw_238 rfl dX9_days_40 (s_dup dX9_days_43 (s_gf (T := TX7) winX7 rfl (Nat.le_of_ble_eq_true rfl) gw_267 rfl dX9_days_44 (s_iln 1 rfl dX9_days_47 (s_iadd dX9_days_48 (s_pf (T := TX7) winX7 rfl (Nat.le_of_ble_eq_true rfl) tyX7_ok nmX7 rfl (by decide +kernel) gw_267 rfl dX9_days_49 (s_aln 0 rfl dX9_days_52 (s_gf (T := TX9) winX9 rfl (Nat.le_of_ble_eq_true rfl) gw_238 rfl dX9_days_53 (s_gf (T := TX7) winX7 rfl (Nat.le_of_ble_eq_true rfl) gw_267 rfl dX9_days_56 (s_ri rfl dX9_days_59)))))))))))))))) (s_X9_days_26 hκ))))))))))))))
noncomputable def f_X9_days : gb_F := gb_hide (gb_mf 2 (k_X9_days_0 gb_n))
theorem c_X9_days : ∀ l, gb_Met l yX9_days cX9_days 2 (some .int) 1 (gb_rm 4 88) f_X9_days := gb_hide_c (gb_met (own := RX9) (rk := 1) rfl (by decide +kernel) ⟨rfl, rfl⟩ (s_X9_days_0 gb_S_n))
theorem dX9_price_0 : decode cX9_price 0 = .ok (.iload_n 1, 1) := by decide +kernel
theorem dX9_price_1 : decode cX9_price 1 = .ok (.invokestatic 114, 3) := by decide +kernel
theorem dX9_price_4 : decode cX9_price 4 = .ok (.ifCond .eq 14, 3) := by decide +kernel
theorem dX9_price_7 : decode cX9_price 7 = .ok (.iload_n 2, 1) := by decide +kernel
theorem dX9_price_8 : decode cX9_price 8 = .ok (.ifCond .lt 10, 3) := by decide +kernel
theorem dX9_price_11 : decode cX9_price 11 = .ok (.iload_n 2, 1) := by decide +kernel
theorem dX9_price_12 : decode cX9_price 12 = .ok (.sipush 999, 3) := by decide +kernel
theorem dX9_price_15 : decode cX9_price 15 = .ok (.if_icmp .le 5, 3) := by decide +kernel
theorem dX9_price_18 : decode cX9_price 18 = .ok (.iconst (-1), 1) := by decide +kernel
theorem dX9_price_19 : decode cX9_price 19 = .ok (.ireturn, 1) := by decide +kernel
theorem dX9_price_20 : decode cX9_price 20 = .ok (.aload_n 0, 1) := by decide +kernel
theorem dX9_price_21 : decode cX9_price 21 = .ok (.getfield 41, 3) := by decide +kernel
theorem dX9_price_24 : decode cX9_price 24 = .ok (.aload_n 0, 1) := by decide +kernel
theorem dX9_price_25 : decode cX9_price 25 = .ok (.getfield 31, 3) := by decide +kernel
theorem dX9_price_28 : decode cX9_price 28 = .ok (.invokevirtual 184, 3) := by decide +kernel
theorem dX9_price_31 : decode cX9_price 31 = .ok (.aload_n 0, 1) := by decide +kernel
theorem dX9_price_32 : decode cX9_price 32 = .ok (.getfield 31, 3) := by decide +kernel
theorem dX9_price_35 : decode cX9_price 35 = .ok (.getfield 117, 3) := by decide +kernel
theorem dX9_price_38 : decode cX9_price 38 = .ok (.iload_n 1, 1) := by decide +kernel
theorem dX9_price_39 : decode cX9_price 39 = .ok (.iaload, 1) := by decide +kernel
theorem dX9_price_40 : decode cX9_price 40 = .ok (.istore_n 3, 1) := by decide +kernel
theorem dX9_price_41 : decode cX9_price 41 = .ok (.aload_n 0, 1) := by decide +kernel
theorem dX9_price_42 : decode cX9_price 42 = .ok (.getfield 31, 3) := by decide +kernel
theorem dX9_price_45 : decode cX9_price 45 = .ok (.getfield 117, 3) := by decide +kernel
theorem dX9_price_48 : decode cX9_price 48 = .ok (.iload_n 1, 1) := by decide +kernel
theorem dX9_price_49 : decode cX9_price 49 = .ok (.iload_n 2, 1) := by decide +kernel
theorem dX9_price_50 : decode cX9_price 50 = .ok (.iastore, 1) := by decide +kernel
theorem dX9_price_51 : decode cX9_price 51 = .ok (.iload_n 3, 1) := by decide +kernel
theorem dX9_price_52 : decode cX9_price 52 = .ok (.ireturn, 1) := by decide +kernel
theorem v_X9_price : yX9_price.cls = RX9 ∧ yX9_price.cls ≠ "java/lang/invoke/MethodHandle" ∧ yX9_price.cls ≠ "java/lang/invoke/VarHandle" ∧ (parseMethodDescriptor yX9_price.desc).map (fun d => d.parameters.length) = some 2 := ⟨rfl, by decide +kernel, by decide +kernel, by decide +kernel⟩
noncomputable def k_X9_price_18 (κ : gb_K) : gb_C := (o_ci (-1) o_ri)
theorem l_X9_price_18 : gb_Li (fun κ => k_X9_price_18 κ) := (gb_li (q_ci (-1)) (gb_li0 _))
theorem s_X9_price_18   {κ : gb_K} (hκ : ∀ q, gb_S RX9 cX9_price 4 (gb_rm 4 88) 1 q (κ q)) : gb_S RX9 cX9_price 4 (gb_rm 4 88) 1 18 (k_X9_price_18 κ) := (s_iconst (by decide +kernel) dX9_price_18 (s_ri rfl dX9_price_19))
noncomputable def k_X9_price_0 (κ : gb_K) : gb_C := (o_il 1 (o_cs 1 2 f_X9_isGrade (o_zeq (k_X9_price_18 κ) (o_il 2 (o_zlt (k_X9_price_18 κ) (o_il 2 (o_ci 999 (o_cle (o_al 0 (o_gf 9 6 (o_al 0 (o_gf 9 3 (o_cv 1 3 0 f_X3_add (o_al 0 (o_gf 9 3 (o_gf 7 1 (o_il 1 (o_iald (o_is 3 (o_al 0 (o_gf 9 3 (o_gf 7 1 (o_il 1 (o_il 2 (o_iast (o_il 3 o_ri)))))))))))))))))) (k_X9_price_18 κ)))))))))
theorem l_X9_price_0 : gb_Li (fun κ => k_X9_price_0 κ) := (gb_li (q_il 1) (gb_li (q_cs 1 2 f_X9_isGrade) (q_zeq (l_X9_price_18) (gb_li (q_il 2) (q_zlt (l_X9_price_18) (gb_li (q_il 2) (gb_li (q_ci 999) (q_cle (gb_li (q_al 0) (gb_li (q_gf 9 6) (gb_li (q_al 0) (gb_li (q_gf 9 3) (gb_li (q_cv 1 3 0 f_X3_add) (gb_li (q_al 0) (gb_li (q_gf 9 3) (gb_li (q_gf 7 1) (gb_li (q_il 1) (gb_li q_iald (gb_li (q_is 3) (gb_li (q_al 0) (gb_li (q_gf 9 3) (gb_li (q_gf 7 1) (gb_li (q_il 1) (gb_li (q_il 2) (gb_li q_iast (gb_li (q_il 3) (gb_li0 _))))))))))))))))))) (l_X9_price_18)))))))))
theorem s_X9_price_0   {κ : gb_K} (hκ : ∀ q, gb_S RX9 cX9_price 4 (gb_rm 4 88) 1 q (κ q)) : gb_S RX9 cX9_price 4 (gb_rm 4 88) 1 0 (k_X9_price_0 κ) := (s_iln 1 rfl dX9_price_0 (s_cs c_X9_isGrade (gb_l4 gw_256 gw_257 gw_258 gw_259) v_X9_isGrade.2 ⟨rfl, rfl⟩ ⟨Nat.le_of_ble_eq_true rfl, Nat.le_of_ble_eq_true rfl⟩ dX9_price_1 (s_zeq (tgt := 18) (by decide +kernel) dX9_price_4 (s_X9_price_18 hκ) (s_iln 2 rfl dX9_price_7 (s_zlt (tgt := 18) (by decide +kernel) dX9_price_8 (s_X9_price_18 hκ) (s_iln 2 rfl dX9_price_11 (s_sipush (by decide +kernel) dX9_price_12 (s_cle (tgt := 20) (by decide +kernel) dX9_price_15 (s_aln 0 rfl dX9_price_20 (s_gf (T := TX9) winX9 rfl (Nat.le_of_ble_eq_true rfl) gw_243 rfl dX9_price_21 (s_aln 0 rfl dX9_price_24 (s_gf (T := TX9) winX9 rfl (Nat.le_of_ble_eq_true rfl) gw_238 rfl dX9_price_25 (s_cv (C := RX3) c_X3_add rfl (gb_l5 gw_288 gw_289 gw_290 gw_247 gw_291) v_X3_add ⟨rfl, rfl⟩ ⟨Nat.le_of_ble_eq_true rfl, Nat.le_of_ble_eq_true rfl⟩ dX9_price_28 (s_aln 0 rfl dX9_price_31 (s_gf (T := TX9) winX9 rfl (Nat.le_of_ble_eq_true rfl) gw_238 rfl dX9_price_32 (s_gf (T := TX7) winX7 rfl (Nat.le_of_ble_eq_true rfl) gw_255 rfl dX9_price_35 (s_iln 1 rfl dX9_price_38 (s_iald dX9_price_39 (s_isn 3 rfl (Nat.le_of_ble_eq_true rfl) dX9_price_40 (s_aln 0 rfl dX9_price_41 (s_gf (T := TX9) winX9 rfl (Nat.le_of_ble_eq_true rfl) gw_238 rfl dX9_price_42 (s_gf (T := TX7) winX7 rfl (Nat.le_of_ble_eq_true rfl) gw_255 rfl dX9_price_45 (s_iln 1 rfl dX9_price_48 (s_iln 2 rfl dX9_price_49 (s_iast dX9_price_50 (s_iln 3 rfl dX9_price_51 (s_ri rfl dX9_price_52))))))))))))))))))) (s_X9_price_18 hκ)))))))))
noncomputable def f_X9_price : gb_F := gb_hide (gb_mf 4 (k_X9_price_0 gb_n))
theorem c_X9_price : ∀ l, gb_Met l yX9_price cX9_price 4 (some .int) 1 (gb_rm 4 88) f_X9_price := gb_hide_c (gb_met (own := RX9) (rk := 1) rfl (by decide +kernel) ⟨rfl, rfl⟩ (s_X9_price_0 gb_S_n))
theorem dX9_readOrders_0 : decode cX9_readOrders 0 = .ok (.aload_n 0, 1) := by decide +kernel
theorem dX9_readOrders_1 : decode cX9_readOrders 1 = .ok (.getfield 10, 3) := by decide +kernel
theorem dX9_readOrders_4 : decode cX9_readOrders 4 = .ok (.invokevirtual 95, 3) := by decide +kernel
theorem dX9_readOrders_7 : decode cX9_readOrders 7 = .ok (.aload_n 0, 1) := by decide +kernel
theorem dX9_readOrders_8 : decode cX9_readOrders 8 = .ok (.getfield 55, 3) := by decide +kernel
theorem dX9_readOrders_11 : decode cX9_readOrders 11 = .ok (.aload_n 0, 1) := by decide +kernel
theorem dX9_readOrders_12 : decode cX9_readOrders 12 = .ok (.getfield 10, 3) := by decide +kernel
theorem dX9_readOrders_15 : decode cX9_readOrders 15 = .ok (.invokevirtual 348, 3) := by decide +kernel
theorem dX9_readOrders_18 : decode cX9_readOrders 18 = .ok (.istore_n 1, 1) := by decide +kernel
theorem dX9_readOrders_19 : decode cX9_readOrders 19 = .ok (.aload_n 0, 1) := by decide +kernel
theorem dX9_readOrders_20 : decode cX9_readOrders 20 = .ok (.getfield 10, 3) := by decide +kernel
theorem dX9_readOrders_23 : decode cX9_readOrders 23 = .ok (.invokevirtual 102, 3) := by decide +kernel
theorem dX9_readOrders_26 : decode cX9_readOrders 26 = .ok (.iload_n 1, 1) := by decide +kernel
theorem dX9_readOrders_27 : decode cX9_readOrders 27 = .ok (.ireturn, 1) := by decide +kernel
theorem v_X9_readOrders : yX9_readOrders.cls = RX9 ∧ yX9_readOrders.cls ≠ "java/lang/invoke/MethodHandle" ∧ yX9_readOrders.cls ≠ "java/lang/invoke/VarHandle" ∧ (parseMethodDescriptor yX9_readOrders.desc).map (fun d => d.parameters.length) = some 0 := ⟨rfl, by decide +kernel, by decide +kernel, by decide +kernel⟩
noncomputable def k_X9_readOrders_0 (κ : gb_K) : gb_C := (o_al 0 (o_gf 9 0 (o_cv 0 8 0 f_X8_start (o_al 0 (o_gf 9 8 (o_al 0 (o_gf 9 0 (o_cv 1 2 1 f_X2_read (o_is 1 (o_al 0 (o_gf 9 0 (o_cv 0 8 0 f_X8_clear (o_il 1 o_ri)))))))))))))
theorem l_X9_readOrders_0 : gb_Li (fun κ => k_X9_readOrders_0 κ) := (gb_li (q_al 0) (gb_li (q_gf 9 0) (gb_li (q_cv 0 8 0 f_X8_start) (gb_li (q_al 0) (gb_li (q_gf 9 8) (gb_li (q_al 0) (gb_li (q_gf 9 0) (gb_li (q_cv 1 2 1 f_X2_read) (gb_li (q_is 1) (gb_li (q_al 0) (gb_li (q_gf 9 0) (gb_li (q_cv 0 8 0 f_X8_clear) (gb_li (q_il 1) (gb_li0 _))))))))))))))
theorem s_X9_readOrders_0   {κ : gb_K} (hκ : ∀ q, gb_S RX9 cX9_readOrders 2 (gb_rm 5 114) 1 q (κ q)) : gb_S RX9 cX9_readOrders 2 (gb_rm 5 114) 1 0 (k_X9_readOrders_0 κ) := (s_aln 0 rfl dX9_readOrders_0 (s_gf (T := TX9) winX9 rfl (Nat.le_of_ble_eq_true rfl) gw_210 rfl dX9_readOrders_1 (s_cv (C := RX8) c_X8_start rfl (gb_l5 gw_220 gw_221 gw_222 gw_46 gw_223) v_X8_start ⟨rfl, rfl⟩ ⟨Nat.le_of_ble_eq_true rfl, Nat.le_of_ble_eq_true rfl⟩ dX9_readOrders_4 (s_aln 0 rfl dX9_readOrders_7 (s_gf (T := TX9) winX9 rfl (Nat.le_of_ble_eq_true rfl) gw_327 rfl dX9_readOrders_8 (s_aln 0 rfl dX9_readOrders_11 (s_gf (T := TX9) winX9 rfl (Nat.le_of_ble_eq_true rfl) gw_210 rfl dX9_readOrders_12 (s_cv (C := RX2) c_X2_read rfl (gb_l5 gw_328 gw_329 gw_330 gw_76 gw_331) v_X2_read ⟨rfl, rfl⟩ ⟨Nat.le_of_ble_eq_true rfl, Nat.le_of_ble_eq_true rfl⟩ dX9_readOrders_15 (s_isn 1 rfl (Nat.le_of_ble_eq_true rfl) dX9_readOrders_18 (s_aln 0 rfl dX9_readOrders_19 (s_gf (T := TX9) winX9 rfl (Nat.le_of_ble_eq_true rfl) gw_210 rfl dX9_readOrders_20 (s_cv (C := RX8) c_X8_clear rfl (gb_l5 gw_229 gw_230 gw_231 gw_46 gw_232) v_X8_clear ⟨rfl, rfl⟩ ⟨Nat.le_of_ble_eq_true rfl, Nat.le_of_ble_eq_true rfl⟩ dX9_readOrders_23 (s_iln 1 rfl dX9_readOrders_26 (s_ri rfl dX9_readOrders_27))))))))))))))
noncomputable def f_X9_readOrders : gb_F := gb_hide (gb_mf 2 (k_X9_readOrders_0 gb_n))
theorem c_X9_readOrders : ∀ l, gb_Met l yX9_readOrders cX9_readOrders 2 (some .int) 1 (gb_rm 5 114) f_X9_readOrders := gb_hide_c (gb_met (own := RX9) (rk := 1) rfl (by decide +kernel) ⟨rfl, rfl⟩ (s_X9_readOrders_0 gb_S_n))
theorem dX9_sells_0 : decode cX9_sells 0 = .ok (.aload_n 0, 1) := by decide +kernel
theorem dX9_sells_1 : decode cX9_sells 1 = .ok (.invokevirtual 223, 3) := by decide +kernel
theorem dX9_sells_4 : decode cX9_sells 4 = .ok (.istore_n 1, 1) := by decide +kernel
theorem dX9_sells_5 : decode cX9_sells 5 = .ok (.iload_n 1, 1) := by decide +kernel
theorem dX9_sells_6 : decode cX9_sells 6 = .ok (.ifCond .ge 5, 3) := by decide +kernel
theorem dX9_sells_9 : decode cX9_sells 9 = .ok (.iload_n 1, 1) := by decide +kernel
theorem dX9_sells_10 : decode cX9_sells 10 = .ok (.ireturn, 1) := by decide +kernel
theorem dX9_sells_11 : decode cX9_sells 11 = .ok (.aload_n 0, 1) := by decide +kernel
theorem dX9_sells_12 : decode cX9_sells 12 = .ok (.getfield 73, 3) := by decide +kernel
theorem dX9_sells_15 : decode cX9_sells 15 = .ok (.invokevirtual 227, 3) := by decide +kernel
theorem dX9_sells_18 : decode cX9_sells 18 = .ok (.istore_n 2, 1) := by decide +kernel
theorem dX9_sells_19 : decode cX9_sells 19 = .ok (.aload_n 0, 1) := by decide +kernel
theorem dX9_sells_20 : decode cX9_sells 20 = .ok (.getfield 41, 3) := by decide +kernel
theorem dX9_sells_23 : decode cX9_sells 23 = .ok (.aload_n 0, 1) := by decide +kernel
theorem dX9_sells_24 : decode cX9_sells 24 = .ok (.getfield 31, 3) := by decide +kernel
theorem dX9_sells_27 : decode cX9_sells 27 = .ok (.invokevirtual 184, 3) := by decide +kernel
theorem dX9_sells_30 : decode cX9_sells 30 = .ok (.aload_n 0, 1) := by decide +kernel
theorem dX9_sells_31 : decode cX9_sells 31 = .ok (.getfield 31, 3) := by decide +kernel
theorem dX9_sells_34 : decode cX9_sells 34 = .ok (.aload_n 0, 1) := by decide +kernel
theorem dX9_sells_35 : decode cX9_sells 35 = .ok (.getfield 31, 3) := by decide +kernel
theorem dX9_sells_38 : decode cX9_sells 38 = .ok (.getfield 151, 3) := by decide +kernel
theorem dX9_sells_41 : decode cX9_sells 41 = .ok (.invokevirtual 230, 3) := by decide +kernel
theorem dX9_sells_44 : decode cX9_sells 44 = .ok (.istore_n 3, 1) := by decide +kernel
theorem dX9_sells_45 : decode cX9_sells 45 = .ok (.iconst 0, 1) := by decide +kernel
theorem dX9_sells_46 : decode cX9_sells 46 = .ok (.istore 4, 2) := by decide +kernel
theorem dX9_sells_48 : decode cX9_sells 48 = .ok (.iconst 0, 1) := by decide +kernel
theorem dX9_sells_49 : decode cX9_sells 49 = .ok (.istore 5, 2) := by decide +kernel
theorem dX9_sells_51 : decode cX9_sells 51 = .ok (.iload 5, 2) := by decide +kernel
theorem dX9_sells_53 : decode cX9_sells 53 = .ok (.iload_n 2, 1) := by decide +kernel
theorem dX9_sells_54 : decode cX9_sells 54 = .ok (.if_icmp .ge 41, 3) := by decide +kernel
theorem dX9_sells_57 : decode cX9_sells 57 = .ok (.iload 4, 2) := by decide +kernel
theorem dX9_sells_59 : decode cX9_sells 59 = .ok (.aload_n 0, 1) := by decide +kernel
theorem dX9_sells_60 : decode cX9_sells 60 = .ok (.getfield 31, 3) := by decide +kernel
theorem dX9_sells_63 : decode cX9_sells 63 = .ok (.aload_n 0, 1) := by decide +kernel
theorem dX9_sells_64 : decode cX9_sells 64 = .ok (.getfield 73, 3) := by decide +kernel
theorem dX9_sells_67 : decode cX9_sells 67 = .ok (.getfield 233, 3) := by decide +kernel
theorem dX9_sells_70 : decode cX9_sells 70 = .ok (.iload 5, 2) := by decide +kernel
theorem dX9_sells_72 : decode cX9_sells 72 = .ok (.iaload, 1) := by decide +kernel
theorem dX9_sells_73 : decode cX9_sells 73 = .ok (.aload_n 0, 1) := by decide +kernel
theorem dX9_sells_74 : decode cX9_sells 74 = .ok (.getfield 55, 3) := by decide +kernel
theorem dX9_sells_77 : decode cX9_sells 77 = .ok (.getfield 236, 3) := by decide +kernel
theorem dX9_sells_80 : decode cX9_sells 80 = .ok (.iload 5, 2) := by decide +kernel
theorem dX9_sells_82 : decode cX9_sells 82 = .ok (.iaload, 1) := by decide +kernel
theorem dX9_sells_83 : decode cX9_sells 83 = .ok (.invokevirtual 202, 3) := by decide +kernel
theorem dX9_sells_86 : decode cX9_sells 86 = .ok (.iadd, 1) := by decide +kernel
theorem dX9_sells_87 : decode cX9_sells 87 = .ok (.istore 4, 2) := by decide +kernel
theorem dX9_sells_89 : decode cX9_sells 89 = .ok (.iinc 5 1, 3) := by decide +kernel
theorem dX9_sells_92 : decode cX9_sells 92 = .ok (.goto (-41), 3) := by decide +kernel
theorem dX9_sells_95 : decode cX9_sells 95 = .ok (.aload_n 0, 1) := by decide +kernel
theorem dX9_sells_96 : decode cX9_sells 96 = .ok (.getfield 48, 3) := by decide +kernel
theorem dX9_sells_99 : decode cX9_sells 99 = .ok (.invokevirtual 194, 3) := by decide +kernel
theorem dX9_sells_102 : decode cX9_sells 102 = .ok (.aload_n 0, 1) := by decide +kernel
theorem dX9_sells_103 : decode cX9_sells 103 = .ok (.getfield 48, 3) := by decide +kernel
theorem dX9_sells_106 : decode cX9_sells 106 = .ok (.iload 4, 2) := by decide +kernel
theorem dX9_sells_108 : decode cX9_sells 108 = .ok (.i2l, 1) := by decide +kernel
theorem dX9_sells_109 : decode cX9_sells 109 = .ok (.invokevirtual 199, 3) := by decide +kernel
theorem dX9_sells_112 : decode cX9_sells 112 = .ok (.aload_n 0, 1) := by decide +kernel
theorem dX9_sells_113 : decode cX9_sells 113 = .ok (.getfield 48, 3) := by decide +kernel
theorem dX9_sells_116 : decode cX9_sells 116 = .ok (.iload_n 3, 1) := by decide +kernel
theorem dX9_sells_117 : decode cX9_sells 117 = .ok (.i2l, 1) := by decide +kernel
theorem dX9_sells_118 : decode cX9_sells 118 = .ok (.invokevirtual 199, 3) := by decide +kernel
theorem dX9_sells_121 : decode cX9_sells 121 = .ok (.aload_n 0, 1) := by decide +kernel
theorem dX9_sells_122 : decode cX9_sells 122 = .ok (.getfield 48, 3) := by decide +kernel
theorem dX9_sells_125 : decode cX9_sells 125 = .ok (.aload_n 0, 1) := by decide +kernel
theorem dX9_sells_126 : decode cX9_sells 126 = .ok (.getfield 31, 3) := by decide +kernel
theorem dX9_sells_129 : decode cX9_sells 129 = .ok (.aload_n 0, 1) := by decide +kernel
theorem dX9_sells_130 : decode cX9_sells 130 = .ok (.getfield 31, 3) := by decide +kernel
theorem dX9_sells_133 : decode cX9_sells 133 = .ok (.getfield 151, 3) := by decide +kernel
theorem dX9_sells_136 : decode cX9_sells 136 = .ok (.invokevirtual 230, 3) := by decide +kernel
theorem dX9_sells_139 : decode cX9_sells 139 = .ok (.i2l, 1) := by decide +kernel
theorem dX9_sells_140 : decode cX9_sells 140 = .ok (.invokevirtual 199, 3) := by decide +kernel
theorem dX9_sells_143 : decode cX9_sells 143 = .ok (.iload_n 2, 1) := by decide +kernel
theorem dX9_sells_144 : decode cX9_sells 144 = .ok (.ireturn, 1) := by decide +kernel
theorem v_X9_sells : yX9_sells.cls = RX9 ∧ yX9_sells.cls ≠ "java/lang/invoke/MethodHandle" ∧ yX9_sells.cls ≠ "java/lang/invoke/VarHandle" ∧ (parseMethodDescriptor yX9_sells.desc).map (fun d => d.parameters.length) = some 0 := ⟨rfl, by decide +kernel, by decide +kernel, by decide +kernel⟩
noncomputable def k_X9_sells_0 (κ : gb_K) : gb_C := (o_al 0 (o_cv 0 9 1 f_X9_readOrders (o_is 1 (o_il 1 (o_zge (o_al 0 (o_gf 9 10 (o_cv 0 0 1 f_X0_serve (o_is 2 (o_al 0 (o_gf 9 6 (o_al 0 (o_gf 9 3 (o_cv 1 3 0 f_X3_add (o_al 0 (o_gf 9 3 (o_al 0 (o_gf 9 3 (o_gf 7 9 (o_cv 1 7 1 f_X7_valueOfAll (o_is 3 (o_ci 0 (o_is 4 (o_ci 0 (o_is 5 (o_j [0, 2, 3, 4, 5] (κ 51)))))))))))))))))))))) (o_il 1 o_ri))))))
theorem l_X9_sells_0 : gb_Li (fun κ => k_X9_sells_0 κ) := (gb_li (q_al 0) (gb_li (q_cv 0 9 1 f_X9_readOrders) (gb_li (q_is 1) (gb_li (q_il 1) (q_zge (gb_li (q_al 0) (gb_li (q_gf 9 10) (gb_li (q_cv 0 0 1 f_X0_serve) (gb_li (q_is 2) (gb_li (q_al 0) (gb_li (q_gf 9 6) (gb_li (q_al 0) (gb_li (q_gf 9 3) (gb_li (q_cv 1 3 0 f_X3_add) (gb_li (q_al 0) (gb_li (q_gf 9 3) (gb_li (q_al 0) (gb_li (q_gf 9 3) (gb_li (q_gf 7 9) (gb_li (q_cv 1 7 1 f_X7_valueOfAll) (gb_li (q_is 3) (gb_li (q_ci 0) (gb_li (q_is 4) (gb_li (q_ci 0) (gb_li (q_is 5) (q_j [0, 2, 3, 4, 5] 51))))))))))))))))))))) (gb_li (q_il 1) (gb_li0 _)))))))
theorem s_X9_sells_0   {κ : gb_K} (hκ : ∀ q, gb_S RX9 cX9_sells 6 (gb_rm 12 266) 1 q (κ q)) : gb_S RX9 cX9_sells 6 (gb_rm 12 266) 1 0 (k_X9_sells_0 κ) := (s_aln 0 rfl dX9_sells_0 (s_cv (C := RX9) c_X9_readOrders rfl (gb_l5 gw_332 gw_333 gw_334 gw_258 gw_335) v_X9_readOrders ⟨rfl, rfl⟩ ⟨Nat.le_of_ble_eq_true rfl, Nat.le_of_ble_eq_true rfl⟩ dX9_sells_1 (s_isn 1 rfl (Nat.le_of_ble_eq_true rfl) dX9_sells_4 (s_iln 1 rfl dX9_sells_5 (s_zge (tgt := 11) (by decide +kernel) dX9_sells_6 (s_aln 0 rfl dX9_sells_11 (s_gf (T := TX9) winX9 rfl (Nat.le_of_ble_eq_true rfl) gw_336 rfl dX9_sells_12 (s_cv (C := RX0) c_X0_serve rfl (gb_l5 gw_337 gw_338 gw_339 gw_29 gw_340) v_X0_serve ⟨rfl, rfl⟩ ⟨Nat.le_of_ble_eq_true rfl, Nat.le_of_ble_eq_true rfl⟩ dX9_sells_15 (s_isn 2 rfl (Nat.le_of_ble_eq_true rfl) dX9_sells_18 (s_aln 0 rfl dX9_sells_19 (s_gf (T := TX9) winX9 rfl (Nat.le_of_ble_eq_true rfl) gw_243 rfl dX9_sells_20 (s_aln 0 rfl dX9_sells_23 (s_gf (T := TX9) winX9 rfl (Nat.le_of_ble_eq_true rfl) gw_238 rfl dX9_sells_24 (s_cv (C := RX3) c_X3_add rfl (gb_l5 gw_288 gw_289 gw_290 gw_247 gw_291) v_X3_add ⟨rfl, rfl⟩ ⟨Nat.le_of_ble_eq_true rfl, Nat.le_of_ble_eq_true rfl⟩ dX9_sells_27 (s_aln 0 rfl dX9_sells_30 (s_gf (T := TX9) winX9 rfl (Nat.le_of_ble_eq_true rfl) gw_238 rfl dX9_sells_31 (s_aln 0 rfl dX9_sells_34 (s_gf (T := TX9) winX9 rfl (Nat.le_of_ble_eq_true rfl) gw_238 rfl dX9_sells_35 (s_gf (T := TX7) winX7 rfl (Nat.le_of_ble_eq_true rfl) gw_267 rfl dX9_sells_38 (s_cv (C := RX7) c_X7_valueOfAll rfl (gb_l5 gw_341 gw_342 gw_343 gw_11 gw_344) v_X7_valueOfAll ⟨rfl, rfl⟩ ⟨Nat.le_of_ble_eq_true rfl, Nat.le_of_ble_eq_true rfl⟩ dX9_sells_41 (s_isn 3 rfl (Nat.le_of_ble_eq_true rfl) dX9_sells_44 (s_iconst (by decide +kernel) dX9_sells_45 (s_is (Nat.le_of_ble_eq_true rfl) dX9_sells_46 (s_iconst (by decide +kernel) dX9_sells_48 (s_is (Nat.le_of_ble_eq_true rfl) dX9_sells_49 (s_j (hκ 51)))))))))))))))))))))) (s_iln 1 rfl dX9_sells_9 (s_ri rfl dX9_sells_10)))))))
noncomputable def k_X9_sells_51 (κ : gb_K) : gb_C := (o_il 5 (o_il 2 (o_cge (o_al 0 (o_gf 9 7 (o_cv 0 4 0 f_X4_start (o_al 0 (o_gf 9 7 (o_il 4 (o_i2l (o_cv 1 4 0 f_X4_add (o_al 0 (o_gf 9 7 (o_il 3 (o_i2l (o_cv 1 4 0 f_X4_add (o_al 0 (o_gf 9 7 (o_al 0 (o_gf 9 3 (o_al 0 (o_gf 9 3 (o_gf 7 9 (o_cv 1 7 1 f_X7_valueOfAll (o_i2l (o_cv 1 4 0 f_X4_add (o_il 2 o_ri)))))))))))))))))))))))) (o_il 4 (o_al 0 (o_gf 9 3 (o_al 0 (o_gf 9 10 (o_gf 0 4 (o_il 5 (o_iald (o_al 0 (o_gf 9 8 (o_gf 2 1 (o_il 5 (o_iald (o_cv 2 7 1 f_X7_drawOut (o_ib (fun x y => x + y) (o_is 4 (o_inc 5 1 (o_j [0, 2, 3, 4, 5] (κ 51))))))))))))))))))))))
theorem l_X9_sells_51 : gb_Li (fun κ => k_X9_sells_51 κ) := (gb_li (q_il 5) (gb_li (q_il 2) (q_cge (gb_li (q_al 0) (gb_li (q_gf 9 7) (gb_li (q_cv 0 4 0 f_X4_start) (gb_li (q_al 0) (gb_li (q_gf 9 7) (gb_li (q_il 4) (gb_li q_i2l (gb_li (q_cv 1 4 0 f_X4_add) (gb_li (q_al 0) (gb_li (q_gf 9 7) (gb_li (q_il 3) (gb_li q_i2l (gb_li (q_cv 1 4 0 f_X4_add) (gb_li (q_al 0) (gb_li (q_gf 9 7) (gb_li (q_al 0) (gb_li (q_gf 9 3) (gb_li (q_al 0) (gb_li (q_gf 9 3) (gb_li (q_gf 7 9) (gb_li (q_cv 1 7 1 f_X7_valueOfAll) (gb_li q_i2l (gb_li (q_cv 1 4 0 f_X4_add) (gb_li (q_il 2) (gb_li0 _))))))))))))))))))))))))) (gb_li (q_il 4) (gb_li (q_al 0) (gb_li (q_gf 9 3) (gb_li (q_al 0) (gb_li (q_gf 9 10) (gb_li (q_gf 0 4) (gb_li (q_il 5) (gb_li q_iald (gb_li (q_al 0) (gb_li (q_gf 9 8) (gb_li (q_gf 2 1) (gb_li (q_il 5) (gb_li q_iald (gb_li (q_cv 2 7 1 f_X7_drawOut) (gb_li (q_ib _) (gb_li (q_is 4) (gb_li (q_inc 5 1) (q_j [0, 2, 3, 4, 5] 51)))))))))))))))))))))
theorem s_X9_sells_51   {κ : gb_K} (hκ : ∀ q, gb_S RX9 cX9_sells 6 (gb_rm 12 266) 1 q (κ q)) : gb_S RX9 cX9_sells 6 (gb_rm 12 266) 1 51 (k_X9_sells_51 κ) := (s_il dX9_sells_51 (s_iln 2 rfl dX9_sells_53 (s_cge (tgt := 95) (by decide +kernel) dX9_sells_54 (s_aln 0 rfl dX9_sells_95 (s_gf (T := TX9) winX9 rfl (Nat.le_of_ble_eq_true rfl) gw_293 rfl dX9_sells_96 (s_cv (C := RX4) c_X4_start rfl (gb_l5 gw_294 gw_295 gw_296 gw_297 gw_298) v_X4_start ⟨rfl, rfl⟩ ⟨Nat.le_of_ble_eq_true rfl, Nat.le_of_ble_eq_true rfl⟩ dX9_sells_99 (s_aln 0 rfl dX9_sells_102 (s_gf (T := TX9) winX9 rfl (Nat.le_of_ble_eq_true rfl) gw_293 rfl dX9_sells_103 (s_il dX9_sells_106 (s_i2l dX9_sells_108 (s_cv (C := RX4) c_X4_add rfl (gb_l5 gw_307 gw_308 gw_309 gw_297 gw_310) v_X4_add ⟨rfl, rfl⟩ ⟨Nat.le_of_ble_eq_true rfl, Nat.le_of_ble_eq_true rfl⟩ dX9_sells_109 (s_aln 0 rfl dX9_sells_112 (s_gf (T := TX9) winX9 rfl (Nat.le_of_ble_eq_true rfl) gw_293 rfl dX9_sells_113 (s_iln 3 rfl dX9_sells_116 (s_i2l dX9_sells_117 (s_cv (C := RX4) c_X4_add rfl (gb_l5 gw_307 gw_308 gw_309 gw_297 gw_310) v_X4_add ⟨rfl, rfl⟩ ⟨Nat.le_of_ble_eq_true rfl, Nat.le_of_ble_eq_true rfl⟩ dX9_sells_118 (s_aln 0 rfl dX9_sells_121 (s_gf (T := TX9) winX9 rfl (Nat.le_of_ble_eq_true rfl) gw_293 rfl dX9_sells_122 (s_aln 0 rfl dX9_sells_125 (s_gf (T := TX9) winX9 rfl (Nat.le_of_ble_eq_true rfl) gw_238 rfl dX9_sells_126 (s_aln 0 rfl dX9_sells_129 (s_gf (T := TX9) winX9 rfl (Nat.le_of_ble_eq_true rfl) gw_238 rfl dX9_sells_130 (s_gf (T := TX7) winX7 rfl (Nat.le_of_ble_eq_true rfl) gw_267 rfl dX9_sells_133 (s_cv (C := RX7) c_X7_valueOfAll rfl (gb_l5 gw_341 gw_342 gw_343 gw_11 gw_344) v_X7_valueOfAll ⟨rfl, rfl⟩ ⟨Nat.le_of_ble_eq_true rfl, Nat.le_of_ble_eq_true rfl⟩ dX9_sells_136 (s_i2l dX9_sells_139 (s_cv (C := RX4) c_X4_add rfl (gb_l5 gw_307 gw_308 gw_309 gw_297 gw_310) v_X4_add ⟨rfl, rfl⟩ ⟨Nat.le_of_ble_eq_true rfl, Nat.le_of_ble_eq_true rfl⟩ dX9_sells_140 (s_iln 2 rfl dX9_sells_143 (s_ri rfl dX9_sells_144))))))))))))))))))))))))) (s_il dX9_sells_57 (s_aln 0 rfl dX9_sells_59 (s_gf (T := TX9) winX9 rfl (Nat.le_of_ble_eq_true rfl) gw_238 rfl dX9_sells_60 (s_aln 0 rfl dX9_sells_63 (s_gf (T := TX9) winX9 rfl (Nat.le_of_ble_eq_true rfl) gw_336 rfl dX9_sells_64 (s_gf (T := TX0) winX0 rfl (Nat.le_of_ble_eq_true rfl) gw_345 rfl dX9_sells_67 (s_il dX9_sells_70 (s_iald dX9_sells_72 (s_aln 0 rfl dX9_sells_73 (s_gf (T := TX9) winX9 rfl (Nat.le_of_ble_eq_true rfl) gw_327 rfl dX9_sells_74 (s_gf (T := TX2) winX2 rfl (Nat.le_of_ble_eq_true rfl) gw_346 rfl dX9_sells_77 (s_il dX9_sells_80 (s_iald dX9_sells_82 (s_cv (C := RX7) c_X7_drawOut rfl (gb_l5 gw_299 gw_300 gw_301 gw_11 gw_302) v_X7_drawOut ⟨rfl, rfl⟩ ⟨Nat.le_of_ble_eq_true rfl, Nat.le_of_ble_eq_true rfl⟩ dX9_sells_83 (s_iadd dX9_sells_86 (s_is (Nat.le_of_ble_eq_true rfl) dX9_sells_87 (s_inc (by decide +kernel) (Nat.le_of_ble_eq_true rfl) dX9_sells_89 (s_goto (tgt := 51) (by decide +kernel) dX9_sells_92 (s_j (hκ 51)))))))))))))))))))))))
noncomputable def B_X9_sells : List (Nat × (gb_K → gb_C)) := [(51, fun κ => k_X9_sells_51 κ)]
noncomputable def K_X9_sells : gb_K := gb_fx (gb_tb (B_X9_sells))
theorem L_X9_sells : ∀ q, gb_Li (fun κ => gb_tb (B_X9_sells) κ q) := gb_tb_li (List.forall_mem_cons.mpr ⟨l_X9_sells_51, (fun _ h => absurd h List.not_mem_nil)⟩)
theorem S_X9_sells   : ∀ q, gb_S RX9 cX9_sells 6 (gb_rm 12 266) 1 q (K_X9_sells q) := fun q => gb_fx_S (L_X9_sells) (gb_tb_S (List.forall_mem_cons.mpr ⟨fun κ hκ => s_X9_sells_51 hκ, (fun _ h => absurd h List.not_mem_nil)⟩)) q
noncomputable def f_X9_sells : gb_F := gb_hide (gb_mf 6 (k_X9_sells_0 (K_X9_sells)))
theorem c_X9_sells : ∀ l, gb_Met l yX9_sells cX9_sells 6 (some .int) 1 (gb_rm 12 266) f_X9_sells := gb_hide_c (gb_met (own := RX9) (rk := 1) rfl (by decide +kernel) ⟨rfl, rfl⟩ (s_X9_sells_0 (S_X9_sells)))
