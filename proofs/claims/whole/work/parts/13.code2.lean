/-! CODE: printed by wip/whole/gen.py -/
theorem dX5_may_0 : decode cX5_may 0 = .ok (.aload_n 0, 1) := by decide +kernel
theorem dX5_may_1 : decode cX5_may 1 = .ok (.getfield 24, 3) := by decide +kernel
theorem dX5_may_4 : decode cX5_may 4 = .ok (.iload_n 1, 1) := by decide +kernel
theorem dX5_may_5 : decode cX5_may 5 = .ok (.iaload, 1) := by decide +kernel
theorem dX5_may_6 : decode cX5_may 6 = .ok (.iconst 1, 1) := by decide +kernel
theorem dX5_may_7 : decode cX5_may 7 = .ok (.iload_n 2, 1) := by decide +kernel
theorem dX5_may_8 : decode cX5_may 8 = .ok (.ishl, 1) := by decide +kernel
theorem dX5_may_9 : decode cX5_may 9 = .ok (.iand, 1) := by decide +kernel
theorem dX5_may_10 : decode cX5_may 10 = .ok (.ifCond .ne 7, 3) := by decide +kernel
theorem dX5_may_13 : decode cX5_may 13 = .ok (.iconst 1, 1) := by decide +kernel
theorem dX5_may_14 : decode cX5_may 14 = .ok (.goto 4, 3) := by decide +kernel
theorem dX5_may_17 : decode cX5_may 17 = .ok (.iconst 0, 1) := by decide +kernel
theorem dX5_may_18 : decode cX5_may 18 = .ok (.ireturn, 1) := by decide +kernel
theorem v_X5_may : yX5_may.cls = RX5 ∧ yX5_may.cls ≠ "java/lang/invoke/MethodHandle" ∧ yX5_may.cls ≠ "java/lang/invoke/VarHandle" ∧ (parseMethodDescriptor yX5_may.desc).map (fun d => d.parameters.length) = some 2 := ⟨rfl, by decide +kernel, by decide +kernel, by decide +kernel⟩
noncomputable def k_X5_may_18 (κ : gb_K) : gb_C := o_rz
theorem l_X5_may_18 : gb_Li (fun κ => k_X5_may_18 κ) := (gb_li0 _)
theorem s_X5_may_18   {κ : gb_K} (hκ : ∀ q, gb_S RX5 cX5_may 3 (gb_rm 0 0) 2 q (κ q)) : gb_S RX5 cX5_may 3 (gb_rm 0 0) 2 18 (k_X5_may_18 κ) := (s_rz rfl dX5_may_18)
noncomputable def k_X5_may_0 (κ : gb_K) : gb_C := (o_al 0 (o_gf 5 4 (o_il 1 (o_iald (o_ci 1 (o_il 2 (o_ib (fun x y => x <<< (y &&& 31)) (o_ib (fun x y => x &&& y) (o_zeq (o_ci 1 (k_X5_may_18 κ)) (o_ci 0 (k_X5_may_18 κ)))))))))))
theorem l_X5_may_0 : gb_Li (fun κ => k_X5_may_0 κ) := (gb_li (q_al 0) (gb_li (q_gf 5 4) (gb_li (q_il 1) (gb_li q_iald (gb_li (q_ci 1) (gb_li (q_il 2) (gb_li (q_ib _) (gb_li (q_ib _) (q_zeq (gb_li (q_ci 1) (l_X5_may_18)) (gb_li (q_ci 0) (l_X5_may_18)))))))))))
theorem s_X5_may_0   {κ : gb_K} (hκ : ∀ q, gb_S RX5 cX5_may 3 (gb_rm 0 0) 2 q (κ q)) : gb_S RX5 cX5_may 3 (gb_rm 0 0) 2 0 (k_X5_may_0 κ) := (s_aln 0 rfl dX5_may_0 (s_gf (T := TX5) winX5 rfl (Nat.le_of_ble_eq_true rfl) gw_198 rfl dX5_may_1 (s_iln 1 rfl dX5_may_4 (s_iald dX5_may_5 (s_iconst (by decide +kernel) dX5_may_6 (s_iln 2 rfl dX5_may_7 (s_ishl dX5_may_8 (s_iand dX5_may_9 (s_zne (tgt := 17) (by decide +kernel) dX5_may_10 (s_iconst (by decide +kernel) dX5_may_17 (s_X5_may_18 hκ)) (s_iconst (by decide +kernel) dX5_may_13 (s_goto (tgt := 18) (by decide +kernel) dX5_may_14 (s_X5_may_18 hκ))))))))))))
noncomputable def f_X5_may : gb_F := gb_hide (gb_mf 3 (k_X5_may_0 gb_n))
theorem c_X5_may : ∀ l, gb_Met l yX5_may cX5_may 3 (some .boolean) 2 (gb_rm 0 0) f_X5_may := gb_hide_c (gb_met (own := RX5) (rk := 2) rfl (by decide +kernel) ⟨rfl, rfl⟩ (s_X5_may_0 gb_S_n))
theorem dX5_clear_0 : decode cX5_clear 0 = .ok (.iconst 0, 1) := by decide +kernel
theorem dX5_clear_1 : decode cX5_clear 1 = .ok (.istore_n 1, 1) := by decide +kernel
theorem dX5_clear_2 : decode cX5_clear 2 = .ok (.iload_n 1, 1) := by decide +kernel
theorem dX5_clear_3 : decode cX5_clear 3 = .ok (.bipush 6, 2) := by decide +kernel
theorem dX5_clear_5 : decode cX5_clear 5 = .ok (.if_icmp .ge 38, 3) := by decide +kernel
theorem dX5_clear_8 : decode cX5_clear 8 = .ok (.aload_n 0, 1) := by decide +kernel
theorem dX5_clear_9 : decode cX5_clear 9 = .ok (.getfield 9, 3) := by decide +kernel
theorem dX5_clear_12 : decode cX5_clear 12 = .ok (.iload_n 1, 1) := by decide +kernel
theorem dX5_clear_13 : decode cX5_clear 13 = .ok (.iconst 0, 1) := by decide +kernel
theorem dX5_clear_14 : decode cX5_clear 14 = .ok (.iastore, 1) := by decide +kernel
theorem dX5_clear_15 : decode cX5_clear 15 = .ok (.aload_n 0, 1) := by decide +kernel
theorem dX5_clear_16 : decode cX5_clear 16 = .ok (.getfield 15, 3) := by decide +kernel
theorem dX5_clear_19 : decode cX5_clear 19 = .ok (.iload_n 1, 1) := by decide +kernel
theorem dX5_clear_20 : decode cX5_clear 20 = .ok (.bipush 99, 2) := by decide +kernel
theorem dX5_clear_22 : decode cX5_clear 22 = .ok (.iastore, 1) := by decide +kernel
theorem dX5_clear_23 : decode cX5_clear 23 = .ok (.aload_n 0, 1) := by decide +kernel
theorem dX5_clear_24 : decode cX5_clear 24 = .ok (.getfield 24, 3) := by decide +kernel
theorem dX5_clear_27 : decode cX5_clear 27 = .ok (.iload_n 1, 1) := by decide +kernel
theorem dX5_clear_28 : decode cX5_clear 28 = .ok (.iconst 0, 1) := by decide +kernel
theorem dX5_clear_29 : decode cX5_clear 29 = .ok (.iastore, 1) := by decide +kernel
theorem dX5_clear_30 : decode cX5_clear 30 = .ok (.aload_n 0, 1) := by decide +kernel
theorem dX5_clear_31 : decode cX5_clear 31 = .ok (.getfield 27, 3) := by decide +kernel
theorem dX5_clear_34 : decode cX5_clear 34 = .ok (.iload_n 1, 1) := by decide +kernel
theorem dX5_clear_35 : decode cX5_clear 35 = .ok (.iconst 0, 1) := by decide +kernel
theorem dX5_clear_36 : decode cX5_clear 36 = .ok (.iastore, 1) := by decide +kernel
theorem dX5_clear_37 : decode cX5_clear 37 = .ok (.iinc 1 1, 3) := by decide +kernel
theorem dX5_clear_40 : decode cX5_clear 40 = .ok (.goto (-38), 3) := by decide +kernel
theorem dX5_clear_43 : decode cX5_clear 43 = .ok (.iconst 0, 1) := by decide +kernel
theorem dX5_clear_44 : decode cX5_clear 44 = .ok (.istore_n 1, 1) := by decide +kernel
theorem dX5_clear_45 : decode cX5_clear 45 = .ok (.iload_n 1, 1) := by decide +kernel
theorem dX5_clear_46 : decode cX5_clear 46 = .ok (.bipush 6, 2) := by decide +kernel
theorem dX5_clear_48 : decode cX5_clear 48 = .ok (.if_icmp .ge 16, 3) := by decide +kernel
theorem dX5_clear_51 : decode cX5_clear 51 = .ok (.aload_n 0, 1) := by decide +kernel
theorem dX5_clear_52 : decode cX5_clear 52 = .ok (.getfield 18, 3) := by decide +kernel
theorem dX5_clear_55 : decode cX5_clear 55 = .ok (.iload_n 1, 1) := by decide +kernel
theorem dX5_clear_56 : decode cX5_clear 56 = .ok (.iconst 0, 1) := by decide +kernel
theorem dX5_clear_57 : decode cX5_clear 57 = .ok (.iastore, 1) := by decide +kernel
theorem dX5_clear_58 : decode cX5_clear 58 = .ok (.iinc 1 1, 3) := by decide +kernel
theorem dX5_clear_61 : decode cX5_clear 61 = .ok (.goto (-16), 3) := by decide +kernel
theorem dX5_clear_64 : decode cX5_clear 64 = .ok (.iconst 0, 1) := by decide +kernel
theorem dX5_clear_65 : decode cX5_clear 65 = .ok (.istore_n 1, 1) := by decide +kernel
theorem dX5_clear_66 : decode cX5_clear 66 = .ok (.iload_n 1, 1) := by decide +kernel
theorem dX5_clear_67 : decode cX5_clear 67 = .ok (.bipush 36, 2) := by decide +kernel
theorem dX5_clear_69 : decode cX5_clear 69 = .ok (.if_icmp .ge 16, 3) := by decide +kernel
theorem dX5_clear_72 : decode cX5_clear 72 = .ok (.aload_n 0, 1) := by decide +kernel
theorem dX5_clear_73 : decode cX5_clear 73 = .ok (.getfield 21, 3) := by decide +kernel
theorem dX5_clear_76 : decode cX5_clear 76 = .ok (.iload_n 1, 1) := by decide +kernel
theorem dX5_clear_77 : decode cX5_clear 77 = .ok (.iconst 0, 1) := by decide +kernel
theorem dX5_clear_78 : decode cX5_clear 78 = .ok (.iastore, 1) := by decide +kernel
theorem dX5_clear_79 : decode cX5_clear 79 = .ok (.iinc 1 1, 3) := by decide +kernel
theorem dX5_clear_82 : decode cX5_clear 82 = .ok (.goto (-16), 3) := by decide +kernel
theorem dX5_clear_85 : decode cX5_clear 85 = .ok (.aload_n 0, 1) := by decide +kernel
theorem dX5_clear_86 : decode cX5_clear 86 = .ok (.iconst 0, 1) := by decide +kernel
theorem dX5_clear_87 : decode cX5_clear 87 = .ok (.putfield 51, 3) := by decide +kernel
theorem dX5_clear_90 : decode cX5_clear 90 = .ok (.aload_n 0, 1) := by decide +kernel
theorem dX5_clear_91 : decode cX5_clear 91 = .ok (.iconst 0, 1) := by decide +kernel
theorem dX5_clear_92 : decode cX5_clear 92 = .ok (.putfield 55, 3) := by decide +kernel
theorem dX5_clear_95 : decode cX5_clear 95 = .ok (.return_, 1) := by decide +kernel
theorem v_X5_clear : yX5_clear.cls = RX5 ∧ yX5_clear.cls ≠ "java/lang/invoke/MethodHandle" ∧ yX5_clear.cls ≠ "java/lang/invoke/VarHandle" ∧ (parseMethodDescriptor yX5_clear.desc).map (fun d => d.parameters.length) = some 0 := ⟨rfl, by decide +kernel, by decide +kernel, by decide +kernel⟩
noncomputable def k_X5_clear_0 (κ : gb_K) : gb_C := (o_ci 0 (o_is 1 (o_j [0, 1] (κ 2))))
theorem l_X5_clear_0 : gb_Li (fun κ => k_X5_clear_0 κ) := (gb_li (q_ci 0) (gb_li (q_is 1) (q_j [0, 1] 2)))
theorem s_X5_clear_0   {κ : gb_K} (hκ : ∀ q, gb_S RX5 cX5_clear 2 (gb_rm 0 0) 0 q (κ q)) : gb_S RX5 cX5_clear 2 (gb_rm 0 0) 0 0 (k_X5_clear_0 κ) := (s_iconst (by decide +kernel) dX5_clear_0 (s_isn 1 rfl (Nat.le_of_ble_eq_true rfl) dX5_clear_1 (s_j (hκ 2))))
noncomputable def k_X5_clear_2 (κ : gb_K) : gb_C := (o_il 1 (o_ci 6 (o_cge (o_ci 0 (o_is 1 (o_j [0, 1] (κ 45)))) (o_al 0 (o_gf 5 0 (o_il 1 (o_ci 0 (o_iast (o_al 0 (o_gf 5 1 (o_il 1 (o_ci 99 (o_iast (o_al 0 (o_gf 5 4 (o_il 1 (o_ci 0 (o_iast (o_al 0 (o_gf 5 5 (o_il 1 (o_ci 0 (o_iast (o_inc 1 1 (o_j [0, 1] (κ 2))))))))))))))))))))))))))
theorem l_X5_clear_2 : gb_Li (fun κ => k_X5_clear_2 κ) := (gb_li (q_il 1) (gb_li (q_ci 6) (q_cge (gb_li (q_ci 0) (gb_li (q_is 1) (q_j [0, 1] 45))) (gb_li (q_al 0) (gb_li (q_gf 5 0) (gb_li (q_il 1) (gb_li (q_ci 0) (gb_li q_iast (gb_li (q_al 0) (gb_li (q_gf 5 1) (gb_li (q_il 1) (gb_li (q_ci 99) (gb_li q_iast (gb_li (q_al 0) (gb_li (q_gf 5 4) (gb_li (q_il 1) (gb_li (q_ci 0) (gb_li q_iast (gb_li (q_al 0) (gb_li (q_gf 5 5) (gb_li (q_il 1) (gb_li (q_ci 0) (gb_li q_iast (gb_li (q_inc 1 1) (q_j [0, 1] 2)))))))))))))))))))))))))
theorem s_X5_clear_2   {κ : gb_K} (hκ : ∀ q, gb_S RX5 cX5_clear 2 (gb_rm 0 0) 0 q (κ q)) : gb_S RX5 cX5_clear 2 (gb_rm 0 0) 0 2 (k_X5_clear_2 κ) := (s_iln 1 rfl dX5_clear_2 (s_bipush (by decide +kernel) dX5_clear_3 (s_cge (tgt := 43) (by decide +kernel) dX5_clear_5 (s_iconst (by decide +kernel) dX5_clear_43 (s_isn 1 rfl (Nat.le_of_ble_eq_true rfl) dX5_clear_44 (s_j (hκ 45)))) (s_aln 0 rfl dX5_clear_8 (s_gf (T := TX5) winX5 rfl (Nat.le_of_ble_eq_true rfl) gw_196 rfl dX5_clear_9 (s_iln 1 rfl dX5_clear_12 (s_iconst (by decide +kernel) dX5_clear_13 (s_iast dX5_clear_14 (s_aln 0 rfl dX5_clear_15 (s_gf (T := TX5) winX5 rfl (Nat.le_of_ble_eq_true rfl) gw_197 rfl dX5_clear_16 (s_iln 1 rfl dX5_clear_19 (s_bipush (by decide +kernel) dX5_clear_20 (s_iast dX5_clear_22 (s_aln 0 rfl dX5_clear_23 (s_gf (T := TX5) winX5 rfl (Nat.le_of_ble_eq_true rfl) gw_198 rfl dX5_clear_24 (s_iln 1 rfl dX5_clear_27 (s_iconst (by decide +kernel) dX5_clear_28 (s_iast dX5_clear_29 (s_aln 0 rfl dX5_clear_30 (s_gf (T := TX5) winX5 rfl (Nat.le_of_ble_eq_true rfl) gw_200 rfl dX5_clear_31 (s_iln 1 rfl dX5_clear_34 (s_iconst (by decide +kernel) dX5_clear_35 (s_iast dX5_clear_36 (s_inc (by decide +kernel) (Nat.le_of_ble_eq_true rfl) dX5_clear_37 (s_goto (tgt := 2) (by decide +kernel) dX5_clear_40 (s_j (hκ 2)))))))))))))))))))))))))))
noncomputable def k_X5_clear_45 (κ : gb_K) : gb_C := (o_il 1 (o_ci 6 (o_cge (o_ci 0 (o_is 1 (o_j [0, 1] (κ 66)))) (o_al 0 (o_gf 5 2 (o_il 1 (o_ci 0 (o_iast (o_inc 1 1 (o_j [0, 1] (κ 45)))))))))))
theorem l_X5_clear_45 : gb_Li (fun κ => k_X5_clear_45 κ) := (gb_li (q_il 1) (gb_li (q_ci 6) (q_cge (gb_li (q_ci 0) (gb_li (q_is 1) (q_j [0, 1] 66))) (gb_li (q_al 0) (gb_li (q_gf 5 2) (gb_li (q_il 1) (gb_li (q_ci 0) (gb_li q_iast (gb_li (q_inc 1 1) (q_j [0, 1] 45))))))))))
theorem s_X5_clear_45   {κ : gb_K} (hκ : ∀ q, gb_S RX5 cX5_clear 2 (gb_rm 0 0) 0 q (κ q)) : gb_S RX5 cX5_clear 2 (gb_rm 0 0) 0 45 (k_X5_clear_45 κ) := (s_iln 1 rfl dX5_clear_45 (s_bipush (by decide +kernel) dX5_clear_46 (s_cge (tgt := 64) (by decide +kernel) dX5_clear_48 (s_iconst (by decide +kernel) dX5_clear_64 (s_isn 1 rfl (Nat.le_of_ble_eq_true rfl) dX5_clear_65 (s_j (hκ 66)))) (s_aln 0 rfl dX5_clear_51 (s_gf (T := TX5) winX5 rfl (Nat.le_of_ble_eq_true rfl) gw_199 rfl dX5_clear_52 (s_iln 1 rfl dX5_clear_55 (s_iconst (by decide +kernel) dX5_clear_56 (s_iast dX5_clear_57 (s_inc (by decide +kernel) (Nat.le_of_ble_eq_true rfl) dX5_clear_58 (s_goto (tgt := 45) (by decide +kernel) dX5_clear_61 (s_j (hκ 45))))))))))))
noncomputable def k_X5_clear_66 (κ : gb_K) : gb_C := (o_il 1 (o_ci 36 (o_cge (o_al 0 (o_ci 0 (o_pf 5 6 (o_al 0 (o_ci 0 (o_pf 5 7 o_rv)))))) (o_al 0 (o_gf 5 3 (o_il 1 (o_ci 0 (o_iast (o_inc 1 1 (o_j [0, 1] (κ 66)))))))))))
theorem l_X5_clear_66 : gb_Li (fun κ => k_X5_clear_66 κ) := (gb_li (q_il 1) (gb_li (q_ci 36) (q_cge (gb_li (q_al 0) (gb_li (q_ci 0) (gb_li (q_pf 5 6) (gb_li (q_al 0) (gb_li (q_ci 0) (gb_li (q_pf 5 7) (gb_li0 _))))))) (gb_li (q_al 0) (gb_li (q_gf 5 3) (gb_li (q_il 1) (gb_li (q_ci 0) (gb_li q_iast (gb_li (q_inc 1 1) (q_j [0, 1] 66))))))))))
theorem s_X5_clear_66   {κ : gb_K} (hκ : ∀ q, gb_S RX5 cX5_clear 2 (gb_rm 0 0) 0 q (κ q)) : gb_S RX5 cX5_clear 2 (gb_rm 0 0) 0 66 (k_X5_clear_66 κ) := (s_iln 1 rfl dX5_clear_66 (s_bipush (by decide +kernel) dX5_clear_67 (s_cge (tgt := 85) (by decide +kernel) dX5_clear_69 (s_aln 0 rfl dX5_clear_85 (s_iconst (by decide +kernel) dX5_clear_86 (s_pf (T := TX5) winX5 rfl (Nat.le_of_ble_eq_true rfl) tyX5_ok nmX5 rfl (by decide +kernel) gw_201 rfl dX5_clear_87 (s_aln 0 rfl dX5_clear_90 (s_iconst (by decide +kernel) dX5_clear_91 (s_pf (T := TX5) winX5 rfl (Nat.le_of_ble_eq_true rfl) tyX5_ok nmX5 rfl (by decide +kernel) gw_202 rfl dX5_clear_92 (s_rv rfl dX5_clear_95))))))) (s_aln 0 rfl dX5_clear_72 (s_gf (T := TX5) winX5 rfl (Nat.le_of_ble_eq_true rfl) gw_88 rfl dX5_clear_73 (s_iln 1 rfl dX5_clear_76 (s_iconst (by decide +kernel) dX5_clear_77 (s_iast dX5_clear_78 (s_inc (by decide +kernel) (Nat.le_of_ble_eq_true rfl) dX5_clear_79 (s_goto (tgt := 66) (by decide +kernel) dX5_clear_82 (s_j (hκ 66))))))))))))
noncomputable def B_X5_clear : List (Nat × (gb_K → gb_C)) := [(2, fun κ => k_X5_clear_2 κ), (45, fun κ => k_X5_clear_45 κ), (66, fun κ => k_X5_clear_66 κ)]
noncomputable def K_X5_clear : gb_K := gb_fx (gb_tb (B_X5_clear))
theorem L_X5_clear : ∀ q, gb_Li (fun κ => gb_tb (B_X5_clear) κ q) := gb_tb_li (List.forall_mem_cons.mpr ⟨l_X5_clear_2, List.forall_mem_cons.mpr ⟨l_X5_clear_45, List.forall_mem_cons.mpr ⟨l_X5_clear_66, (fun _ h => absurd h List.not_mem_nil)⟩⟩⟩)
theorem S_X5_clear   : ∀ q, gb_S RX5 cX5_clear 2 (gb_rm 0 0) 0 q (K_X5_clear q) := fun q => gb_fx_S (L_X5_clear) (gb_tb_S (List.forall_mem_cons.mpr ⟨fun κ hκ => s_X5_clear_2 hκ, List.forall_mem_cons.mpr ⟨fun κ hκ => s_X5_clear_45 hκ, List.forall_mem_cons.mpr ⟨fun κ hκ => s_X5_clear_66 hκ, (fun _ h => absurd h List.not_mem_nil)⟩⟩⟩)) q
noncomputable def f_X5_clear : gb_F := gb_hide (gb_mf 2 (k_X5_clear_0 (K_X5_clear)))
theorem c_X5_clear : ∀ l, gb_Met l yX5_clear cX5_clear 2 none 0 (gb_rm 0 0) f_X5_clear := gb_hide_c (gb_met (own := RX5) (rk := 0) rfl (by decide +kernel) ⟨rfl, rfl⟩ (s_X5_clear_0 (S_X5_clear)))
theorem dX5_readGrade_0 : decode cX5_readGrade 0 = .ok (.aload_n 1, 1) := by decide +kernel
theorem dX5_readGrade_1 : decode cX5_readGrade 1 = .ok (.aload_n 0, 1) := by decide +kernel
theorem dX5_readGrade_2 : decode cX5_readGrade 2 = .ok (.getfield 51, 3) := by decide +kernel
theorem dX5_readGrade_5 : decode cX5_readGrade 5 = .ok (.invokevirtual 68, 3) := by decide +kernel
theorem dX5_readGrade_8 : decode cX5_readGrade 8 = .ok (.istore_n 2, 1) := by decide +kernel
theorem dX5_readGrade_9 : decode cX5_readGrade 9 = .ok (.iload_n 2, 1) := by decide +kernel
theorem dX5_readGrade_10 : decode cX5_readGrade 10 = .ok (.ifCond .lt 12, 3) := by decide +kernel
theorem dX5_readGrade_13 : decode cX5_readGrade 13 = .ok (.aload_n 1, 1) := by decide +kernel
theorem dX5_readGrade_14 : decode cX5_readGrade 14 = .ok (.bipush 119, 2) := by decide +kernel
theorem dX5_readGrade_16 : decode cX5_readGrade 16 = .ok (.invokevirtual 47, 3) := by decide +kernel
theorem dX5_readGrade_19 : decode cX5_readGrade 19 = .ok (.ifCond .ne 5, 3) := by decide +kernel
theorem dX5_readGrade_22 : decode cX5_readGrade 22 = .ok (.iconst 0, 1) := by decide +kernel
theorem dX5_readGrade_23 : decode cX5_readGrade 23 = .ok (.ireturn, 1) := by decide +kernel
theorem dX5_readGrade_24 : decode cX5_readGrade 24 = .ok (.aload_n 1, 1) := by decide +kernel
theorem dX5_readGrade_25 : decode cX5_readGrade 25 = .ok (.iconst 0, 1) := by decide +kernel
theorem dX5_readGrade_26 : decode cX5_readGrade 26 = .ok (.sipush 999, 3) := by decide +kernel
theorem dX5_readGrade_29 : decode cX5_readGrade 29 = .ok (.invokevirtual 72, 3) := by decide +kernel
theorem dX5_readGrade_32 : decode cX5_readGrade 32 = .ok (.istore_n 3, 1) := by decide +kernel
theorem dX5_readGrade_33 : decode cX5_readGrade 33 = .ok (.iload_n 3, 1) := by decide +kernel
theorem dX5_readGrade_34 : decode cX5_readGrade 34 = .ok (.ifCond .lt 12, 3) := by decide +kernel
theorem dX5_readGrade_37 : decode cX5_readGrade 37 = .ok (.aload_n 1, 1) := by decide +kernel
theorem dX5_readGrade_38 : decode cX5_readGrade 38 = .ok (.bipush 107, 2) := by decide +kernel
theorem dX5_readGrade_40 : decode cX5_readGrade 40 = .ok (.invokevirtual 47, 3) := by decide +kernel
theorem dX5_readGrade_43 : decode cX5_readGrade 43 = .ok (.ifCond .ne 5, 3) := by decide +kernel
theorem dX5_readGrade_46 : decode cX5_readGrade 46 = .ok (.iconst 0, 1) := by decide +kernel
theorem dX5_readGrade_47 : decode cX5_readGrade 47 = .ok (.ireturn, 1) := by decide +kernel
theorem dX5_readGrade_48 : decode cX5_readGrade 48 = .ok (.aload_n 1, 1) := by decide +kernel
theorem dX5_readGrade_49 : decode cX5_readGrade 49 = .ok (.iconst 0, 1) := by decide +kernel
theorem dX5_readGrade_50 : decode cX5_readGrade 50 = .ok (.bipush 99, 2) := by decide +kernel
theorem dX5_readGrade_52 : decode cX5_readGrade 52 = .ok (.invokevirtual 72, 3) := by decide +kernel
theorem dX5_readGrade_55 : decode cX5_readGrade 55 = .ok (.istore 4, 2) := by decide +kernel
theorem dX5_readGrade_57 : decode cX5_readGrade 57 = .ok (.iload 4, 2) := by decide +kernel
theorem dX5_readGrade_59 : decode cX5_readGrade 59 = .ok (.ifCond .ge 5, 3) := by decide +kernel
theorem dX5_readGrade_62 : decode cX5_readGrade 62 = .ok (.iconst 0, 1) := by decide +kernel
theorem dX5_readGrade_63 : decode cX5_readGrade 63 = .ok (.ireturn, 1) := by decide +kernel
theorem dX5_readGrade_64 : decode cX5_readGrade 64 = .ok (.aload_n 0, 1) := by decide +kernel
theorem dX5_readGrade_65 : decode cX5_readGrade 65 = .ok (.getfield 9, 3) := by decide +kernel
theorem dX5_readGrade_68 : decode cX5_readGrade 68 = .ok (.iload_n 2, 1) := by decide +kernel
theorem dX5_readGrade_69 : decode cX5_readGrade 69 = .ok (.iload_n 3, 1) := by decide +kernel
theorem dX5_readGrade_70 : decode cX5_readGrade 70 = .ok (.iastore, 1) := by decide +kernel
theorem dX5_readGrade_71 : decode cX5_readGrade 71 = .ok (.aload_n 0, 1) := by decide +kernel
theorem dX5_readGrade_72 : decode cX5_readGrade 72 = .ok (.getfield 15, 3) := by decide +kernel
theorem dX5_readGrade_75 : decode cX5_readGrade 75 = .ok (.iload_n 2, 1) := by decide +kernel
theorem dX5_readGrade_76 : decode cX5_readGrade 76 = .ok (.iload 4, 2) := by decide +kernel
theorem dX5_readGrade_78 : decode cX5_readGrade 78 = .ok (.iastore, 1) := by decide +kernel
theorem dX5_readGrade_79 : decode cX5_readGrade 79 = .ok (.aload_n 0, 1) := by decide +kernel
theorem dX5_readGrade_80 : decode cX5_readGrade 80 = .ok (.dup, 1) := by decide +kernel
theorem dX5_readGrade_81 : decode cX5_readGrade 81 = .ok (.getfield 51, 3) := by decide +kernel
theorem dX5_readGrade_84 : decode cX5_readGrade 84 = .ok (.iconst 1, 1) := by decide +kernel
theorem dX5_readGrade_85 : decode cX5_readGrade 85 = .ok (.iload_n 2, 1) := by decide +kernel
theorem dX5_readGrade_86 : decode cX5_readGrade 86 = .ok (.ishl, 1) := by decide +kernel
theorem dX5_readGrade_87 : decode cX5_readGrade 87 = .ok (.ior, 1) := by decide +kernel
theorem dX5_readGrade_88 : decode cX5_readGrade 88 = .ok (.putfield 51, 3) := by decide +kernel
theorem dX5_readGrade_91 : decode cX5_readGrade 91 = .ok (.iconst 1, 1) := by decide +kernel
theorem dX5_readGrade_92 : decode cX5_readGrade 92 = .ok (.ireturn, 1) := by decide +kernel
theorem v_X5_readGrade : yX5_readGrade.cls = RX5 ∧ yX5_readGrade.cls ≠ "java/lang/invoke/MethodHandle" ∧ yX5_readGrade.cls ≠ "java/lang/invoke/VarHandle" ∧ (parseMethodDescriptor yX5_readGrade.desc).map (fun d => d.parameters.length) = some 1 := ⟨rfl, by decide +kernel, by decide +kernel, by decide +kernel⟩
noncomputable def k_X5_readGrade_22 (κ : gb_K) : gb_C := (o_ci 0 o_rz)
theorem l_X5_readGrade_22 : gb_Li (fun κ => k_X5_readGrade_22 κ) := (gb_li (q_ci 0) (gb_li0 _))
theorem s_X5_readGrade_22   {κ : gb_K} (hκ : ∀ q, gb_S RX5 cX5_readGrade 5 (gb_rm 3 68) 2 q (κ q)) : gb_S RX5 cX5_readGrade 5 (gb_rm 3 68) 2 22 (k_X5_readGrade_22 κ) := (s_iconst (by decide +kernel) dX5_readGrade_22 (s_rz rfl dX5_readGrade_23))
noncomputable def k_X5_readGrade_46 (κ : gb_K) : gb_C := (o_ci 0 o_rz)
theorem l_X5_readGrade_46 : gb_Li (fun κ => k_X5_readGrade_46 κ) := (gb_li (q_ci 0) (gb_li0 _))
theorem s_X5_readGrade_46   {κ : gb_K} (hκ : ∀ q, gb_S RX5 cX5_readGrade 5 (gb_rm 3 68) 2 q (κ q)) : gb_S RX5 cX5_readGrade 5 (gb_rm 3 68) 2 46 (k_X5_readGrade_46 κ) := (s_iconst (by decide +kernel) dX5_readGrade_46 (s_rz rfl dX5_readGrade_47))
noncomputable def k_X5_readGrade_63 (κ : gb_K) : gb_C := o_rz
theorem l_X5_readGrade_63 : gb_Li (fun κ => k_X5_readGrade_63 κ) := (gb_li0 _)
theorem s_X5_readGrade_63   {κ : gb_K} (hκ : ∀ q, gb_S RX5 cX5_readGrade 5 (gb_rm 3 68) 2 q (κ q)) : gb_S RX5 cX5_readGrade 5 (gb_rm 3 68) 2 63 (k_X5_readGrade_63 κ) := (s_rz rfl dX5_readGrade_63)
noncomputable def k_X5_readGrade_65 (κ : gb_K) : gb_C := (o_gf 5 0 (o_il 2 (o_il 3 (o_iast (o_al 0 (o_gf 5 1 (o_il 2 (o_il 4 (o_iast (o_al 0 (o_dup (o_gf 5 6 (o_ci 1 (o_il 2 (o_ib (fun x y => x <<< (y &&& 31)) (o_ib (fun x y => x ||| y) (o_pf 5 6 (o_ci 1 o_rz))))))))))))))))))
theorem l_X5_readGrade_65 : gb_Li (fun κ => k_X5_readGrade_65 κ) := (gb_li (q_gf 5 0) (gb_li (q_il 2) (gb_li (q_il 3) (gb_li q_iast (gb_li (q_al 0) (gb_li (q_gf 5 1) (gb_li (q_il 2) (gb_li (q_il 4) (gb_li q_iast (gb_li (q_al 0) (gb_li q_dup (gb_li (q_gf 5 6) (gb_li (q_ci 1) (gb_li (q_il 2) (gb_li (q_ib _) (gb_li (q_ib _) (gb_li (q_pf 5 6) (gb_li (q_ci 1) (gb_li0 _)))))))))))))))))))
theorem s_X5_readGrade_65   {κ : gb_K} (hκ : ∀ q, gb_S RX5 cX5_readGrade 5 (gb_rm 3 68) 2 q (κ q)) : gb_S RX5 cX5_readGrade 5 (gb_rm 3 68) 2 65 (k_X5_readGrade_65 κ) := (s_gf (T := TX5) winX5 rfl (Nat.le_of_ble_eq_true rfl) gw_196 rfl dX5_readGrade_65 (s_iln 2 rfl dX5_readGrade_68 (s_iln 3 rfl dX5_readGrade_69 (s_iast dX5_readGrade_70 (s_aln 0 rfl dX5_readGrade_71 (s_gf (T := TX5) winX5 rfl (Nat.le_of_ble_eq_true rfl) gw_197 rfl dX5_readGrade_72 (s_iln 2 rfl dX5_readGrade_75 (s_il dX5_readGrade_76 (s_iast dX5_readGrade_78 (s_aln 0 rfl dX5_readGrade_79 (s_dup dX5_readGrade_80 (s_gf (T := TX5) winX5 rfl (Nat.le_of_ble_eq_true rfl) gw_201 rfl dX5_readGrade_81 (s_iconst (by decide +kernel) dX5_readGrade_84 (s_iln 2 rfl dX5_readGrade_85 (s_ishl dX5_readGrade_86 (s_ior dX5_readGrade_87 (s_pf (T := TX5) winX5 rfl (Nat.le_of_ble_eq_true rfl) tyX5_ok nmX5 rfl (by decide +kernel) gw_201 rfl dX5_readGrade_88 (s_iconst (by decide +kernel) dX5_readGrade_91 (s_rz rfl dX5_readGrade_92)))))))))))))))))))
noncomputable def k_X5_readGrade_0 (κ : gb_K) : gb_C := (o_al 1 (o_al 0 (o_gf 5 6 (o_cv 1 8 1 f_X8_newNumber (o_is 2 (o_il 2 (o_zlt (k_X5_readGrade_22 κ) (o_al 1 (o_ci 119 (o_cv 1 8 2 f_X8_takes (o_zeq (k_X5_readGrade_22 κ) (o_al 1 (o_ci 0 (o_ci 999 (o_cv 2 8 1 f_X8_number (o_is 3 (o_il 3 (o_zlt (k_X5_readGrade_46 κ) (o_al 1 (o_ci 107 (o_cv 1 8 2 f_X8_takes (o_zeq (k_X5_readGrade_46 κ) (o_al 1 (o_ci 0 (o_ci 99 (o_cv 2 8 1 f_X8_number (o_is 4 (o_il 4 (o_zge (o_al 0 (k_X5_readGrade_65 κ)) (o_ci 0 (k_X5_readGrade_63 κ)))))))))))))))))))))))))))))))
theorem l_X5_readGrade_0 : gb_Li (fun κ => k_X5_readGrade_0 κ) := (gb_li (q_al 1) (gb_li (q_al 0) (gb_li (q_gf 5 6) (gb_li (q_cv 1 8 1 f_X8_newNumber) (gb_li (q_is 2) (gb_li (q_il 2) (q_zlt (l_X5_readGrade_22) (gb_li (q_al 1) (gb_li (q_ci 119) (gb_li (q_cv 1 8 2 f_X8_takes) (q_zeq (l_X5_readGrade_22) (gb_li (q_al 1) (gb_li (q_ci 0) (gb_li (q_ci 999) (gb_li (q_cv 2 8 1 f_X8_number) (gb_li (q_is 3) (gb_li (q_il 3) (q_zlt (l_X5_readGrade_46) (gb_li (q_al 1) (gb_li (q_ci 107) (gb_li (q_cv 1 8 2 f_X8_takes) (q_zeq (l_X5_readGrade_46) (gb_li (q_al 1) (gb_li (q_ci 0) (gb_li (q_ci 99) (gb_li (q_cv 2 8 1 f_X8_number) (gb_li (q_is 4) (gb_li (q_il 4) (q_zge (gb_li (q_al 0) (l_X5_readGrade_65)) (gb_li (q_ci 0) (l_X5_readGrade_63)))))))))))))))))))))))))))))))
theorem s_X5_readGrade_0   {κ : gb_K} (hκ : ∀ q, gb_S RX5 cX5_readGrade 5 (gb_rm 3 68) 2 q (κ q)) : gb_S RX5 cX5_readGrade 5 (gb_rm 3 68) 2 0 (k_X5_readGrade_0 κ) := (s_aln 1 rfl dX5_readGrade_0 (s_aln 0 rfl dX5_readGrade_1 (s_gf (T := TX5) winX5 rfl (Nat.le_of_ble_eq_true rfl) gw_201 rfl dX5_readGrade_2 (s_cv (C := RX8) c_X8_newNumber rfl (gb_l5 gw_203 gw_158 gw_159 gw_150 gw_160) v_X8_newNumber ⟨rfl, rfl⟩ ⟨Nat.le_of_ble_eq_true rfl, Nat.le_of_ble_eq_true rfl⟩ dX5_readGrade_5 (s_isn 2 rfl (Nat.le_of_ble_eq_true rfl) dX5_readGrade_8 (s_iln 2 rfl dX5_readGrade_9 (s_zlt (tgt := 22) (by decide +kernel) dX5_readGrade_10 (s_X5_readGrade_22 hκ) (s_aln 1 rfl dX5_readGrade_13 (s_bipush (by decide +kernel) dX5_readGrade_14 (s_cv (C := RX8) c_X8_takes rfl (gb_l5 gw_204 gw_162 gw_163 gw_150 gw_164) v_X8_takes ⟨rfl, rfl⟩ ⟨Nat.le_of_ble_eq_true rfl, Nat.le_of_ble_eq_true rfl⟩ dX5_readGrade_16 (s_zne (tgt := 24) (by decide +kernel) dX5_readGrade_19 (s_aln 1 rfl dX5_readGrade_24 (s_iconst (by decide +kernel) dX5_readGrade_25 (s_sipush (by decide +kernel) dX5_readGrade_26 (s_cv (C := RX8) c_X8_number rfl (gb_l5 gw_205 gw_166 gw_167 gw_150 gw_168) v_X8_number ⟨rfl, rfl⟩ ⟨Nat.le_of_ble_eq_true rfl, Nat.le_of_ble_eq_true rfl⟩ dX5_readGrade_29 (s_isn 3 rfl (Nat.le_of_ble_eq_true rfl) dX5_readGrade_32 (s_iln 3 rfl dX5_readGrade_33 (s_zlt (tgt := 46) (by decide +kernel) dX5_readGrade_34 (s_X5_readGrade_46 hκ) (s_aln 1 rfl dX5_readGrade_37 (s_bipush (by decide +kernel) dX5_readGrade_38 (s_cv (C := RX8) c_X8_takes rfl (gb_l5 gw_204 gw_162 gw_163 gw_150 gw_164) v_X8_takes ⟨rfl, rfl⟩ ⟨Nat.le_of_ble_eq_true rfl, Nat.le_of_ble_eq_true rfl⟩ dX5_readGrade_40 (s_zne (tgt := 48) (by decide +kernel) dX5_readGrade_43 (s_aln 1 rfl dX5_readGrade_48 (s_iconst (by decide +kernel) dX5_readGrade_49 (s_bipush (by decide +kernel) dX5_readGrade_50 (s_cv (C := RX8) c_X8_number rfl (gb_l5 gw_205 gw_166 gw_167 gw_150 gw_168) v_X8_number ⟨rfl, rfl⟩ ⟨Nat.le_of_ble_eq_true rfl, Nat.le_of_ble_eq_true rfl⟩ dX5_readGrade_52 (s_is (Nat.le_of_ble_eq_true rfl) dX5_readGrade_55 (s_il dX5_readGrade_57 (s_zge (tgt := 64) (by decide +kernel) dX5_readGrade_59 (s_aln 0 rfl dX5_readGrade_64 (s_X5_readGrade_65 hκ)) (s_iconst (by decide +kernel) dX5_readGrade_62 (s_X5_readGrade_63 hκ))))))))) (s_X5_readGrade_46 hκ)))))))))))) (s_X5_readGrade_22 hκ))))))))))))
noncomputable def f_X5_readGrade : gb_F := gb_hide (gb_mf 5 (k_X5_readGrade_0 gb_n))
theorem c_X5_readGrade : ∀ l, gb_Met l yX5_readGrade cX5_readGrade 5 (some .boolean) 2 (gb_rm 3 68) f_X5_readGrade := gb_hide_c (gb_met (own := RX5) (rk := 2) rfl (by decide +kernel) ⟨rfl, rfl⟩ (s_X5_readGrade_0 gb_S_n))
theorem dX5_readBin_0 : decode cX5_readBin 0 = .ok (.aload_n 1, 1) := by decide +kernel
theorem dX5_readBin_1 : decode cX5_readBin 1 = .ok (.aload_n 0, 1) := by decide +kernel
theorem dX5_readBin_2 : decode cX5_readBin 2 = .ok (.getfield 55, 3) := by decide +kernel
theorem dX5_readBin_5 : decode cX5_readBin 5 = .ok (.invokevirtual 68, 3) := by decide +kernel
theorem dX5_readBin_8 : decode cX5_readBin 8 = .ok (.istore_n 2, 1) := by decide +kernel
theorem dX5_readBin_9 : decode cX5_readBin 9 = .ok (.iload_n 2, 1) := by decide +kernel
theorem dX5_readBin_10 : decode cX5_readBin 10 = .ok (.ifCond .lt 12, 3) := by decide +kernel
theorem dX5_readBin_13 : decode cX5_readBin 13 = .ok (.aload_n 1, 1) := by decide +kernel
theorem dX5_readBin_14 : decode cX5_readBin 14 = .ok (.bipush 99, 2) := by decide +kernel
theorem dX5_readBin_16 : decode cX5_readBin 16 = .ok (.invokevirtual 47, 3) := by decide +kernel
theorem dX5_readBin_19 : decode cX5_readBin 19 = .ok (.ifCond .ne 5, 3) := by decide +kernel
theorem dX5_readBin_22 : decode cX5_readBin 22 = .ok (.iconst 0, 1) := by decide +kernel
theorem dX5_readBin_23 : decode cX5_readBin 23 = .ok (.ireturn, 1) := by decide +kernel
theorem dX5_readBin_24 : decode cX5_readBin 24 = .ok (.aload_n 1, 1) := by decide +kernel
theorem dX5_readBin_25 : decode cX5_readBin 25 = .ok (.iconst 0, 1) := by decide +kernel
theorem dX5_readBin_26 : decode cX5_readBin 26 = .ok (.bipush 99, 2) := by decide +kernel
theorem dX5_readBin_28 : decode cX5_readBin 28 = .ok (.invokevirtual 72, 3) := by decide +kernel
theorem dX5_readBin_31 : decode cX5_readBin 31 = .ok (.istore_n 3, 1) := by decide +kernel
theorem dX5_readBin_32 : decode cX5_readBin 32 = .ok (.iload_n 3, 1) := by decide +kernel
theorem dX5_readBin_33 : decode cX5_readBin 33 = .ok (.ifCond .ge 5, 3) := by decide +kernel
theorem dX5_readBin_36 : decode cX5_readBin 36 = .ok (.iconst 0, 1) := by decide +kernel
theorem dX5_readBin_37 : decode cX5_readBin 37 = .ok (.ireturn, 1) := by decide +kernel
theorem dX5_readBin_38 : decode cX5_readBin 38 = .ok (.aload_n 0, 1) := by decide +kernel
theorem dX5_readBin_39 : decode cX5_readBin 39 = .ok (.getfield 18, 3) := by decide +kernel
theorem dX5_readBin_42 : decode cX5_readBin 42 = .ok (.iload_n 2, 1) := by decide +kernel
theorem dX5_readBin_43 : decode cX5_readBin 43 = .ok (.iload_n 3, 1) := by decide +kernel
theorem dX5_readBin_44 : decode cX5_readBin 44 = .ok (.iastore, 1) := by decide +kernel
theorem dX5_readBin_45 : decode cX5_readBin 45 = .ok (.aload_n 0, 1) := by decide +kernel
theorem dX5_readBin_46 : decode cX5_readBin 46 = .ok (.dup, 1) := by decide +kernel
theorem dX5_readBin_47 : decode cX5_readBin 47 = .ok (.getfield 55, 3) := by decide +kernel
theorem dX5_readBin_50 : decode cX5_readBin 50 = .ok (.iconst 1, 1) := by decide +kernel
theorem dX5_readBin_51 : decode cX5_readBin 51 = .ok (.iload_n 2, 1) := by decide +kernel
theorem dX5_readBin_52 : decode cX5_readBin 52 = .ok (.ishl, 1) := by decide +kernel
theorem dX5_readBin_53 : decode cX5_readBin 53 = .ok (.ior, 1) := by decide +kernel
theorem dX5_readBin_54 : decode cX5_readBin 54 = .ok (.putfield 55, 3) := by decide +kernel
theorem dX5_readBin_57 : decode cX5_readBin 57 = .ok (.iconst 1, 1) := by decide +kernel
theorem dX5_readBin_58 : decode cX5_readBin 58 = .ok (.ireturn, 1) := by decide +kernel
theorem v_X5_readBin : yX5_readBin.cls = RX5 ∧ yX5_readBin.cls ≠ "java/lang/invoke/MethodHandle" ∧ yX5_readBin.cls ≠ "java/lang/invoke/VarHandle" ∧ (parseMethodDescriptor yX5_readBin.desc).map (fun d => d.parameters.length) = some 1 := ⟨rfl, by decide +kernel, by decide +kernel, by decide +kernel⟩
noncomputable def k_X5_readBin_22 (κ : gb_K) : gb_C := (o_ci 0 o_rz)
theorem l_X5_readBin_22 : gb_Li (fun κ => k_X5_readBin_22 κ) := (gb_li (q_ci 0) (gb_li0 _))
theorem s_X5_readBin_22   {κ : gb_K} (hκ : ∀ q, gb_S RX5 cX5_readBin 4 (gb_rm 3 68) 2 q (κ q)) : gb_S RX5 cX5_readBin 4 (gb_rm 3 68) 2 22 (k_X5_readBin_22 κ) := (s_iconst (by decide +kernel) dX5_readBin_22 (s_rz rfl dX5_readBin_23))
noncomputable def k_X5_readBin_54 (κ : gb_K) : gb_C := (o_pf 5 7 (o_ci 1 o_rz))
theorem l_X5_readBin_54 : gb_Li (fun κ => k_X5_readBin_54 κ) := (gb_li (q_pf 5 7) (gb_li (q_ci 1) (gb_li0 _)))
theorem s_X5_readBin_54   {κ : gb_K} (hκ : ∀ q, gb_S RX5 cX5_readBin 4 (gb_rm 3 68) 2 q (κ q)) : gb_S RX5 cX5_readBin 4 (gb_rm 3 68) 2 54 (k_X5_readBin_54 κ) := (s_pf (T := TX5) winX5 rfl (Nat.le_of_ble_eq_true rfl) tyX5_ok nmX5 rfl (by decide +kernel) gw_202 rfl dX5_readBin_54 (s_iconst (by decide +kernel) dX5_readBin_57 (s_rz rfl dX5_readBin_58)))
noncomputable def k_X5_readBin_0 (κ : gb_K) : gb_C := (o_al 1 (o_al 0 (o_gf 5 7 (o_cv 1 8 1 f_X8_newNumber (o_is 2 (o_il 2 (o_zlt (k_X5_readBin_22 κ) (o_al 1 (o_ci 99 (o_cv 1 8 2 f_X8_takes (o_zeq (k_X5_readBin_22 κ) (o_al 1 (o_ci 0 (o_ci 99 (o_cv 2 8 1 f_X8_number (o_is 3 (o_il 3 (o_zge (o_al 0 (o_gf 5 2 (o_il 2 (o_il 3 (o_iast (o_al 0 (o_dup (o_gf 5 7 (o_ci 1 (o_il 2 (o_ib (fun x y => x <<< (y &&& 31)) (o_ib (fun x y => x ||| y) (k_X5_readBin_54 κ))))))))))))) (o_ci 0 o_rz)))))))))))))))))))
theorem l_X5_readBin_0 : gb_Li (fun κ => k_X5_readBin_0 κ) := (gb_li (q_al 1) (gb_li (q_al 0) (gb_li (q_gf 5 7) (gb_li (q_cv 1 8 1 f_X8_newNumber) (gb_li (q_is 2) (gb_li (q_il 2) (q_zlt (l_X5_readBin_22) (gb_li (q_al 1) (gb_li (q_ci 99) (gb_li (q_cv 1 8 2 f_X8_takes) (q_zeq (l_X5_readBin_22) (gb_li (q_al 1) (gb_li (q_ci 0) (gb_li (q_ci 99) (gb_li (q_cv 2 8 1 f_X8_number) (gb_li (q_is 3) (gb_li (q_il 3) (q_zge (gb_li (q_al 0) (gb_li (q_gf 5 2) (gb_li (q_il 2) (gb_li (q_il 3) (gb_li q_iast (gb_li (q_al 0) (gb_li q_dup (gb_li (q_gf 5 7) (gb_li (q_ci 1) (gb_li (q_il 2) (gb_li (q_ib _) (gb_li (q_ib _) (l_X5_readBin_54))))))))))))) (gb_li (q_ci 0) (gb_li0 _))))))))))))))))))))
theorem s_X5_readBin_0   {κ : gb_K} (hκ : ∀ q, gb_S RX5 cX5_readBin 4 (gb_rm 3 68) 2 q (κ q)) : gb_S RX5 cX5_readBin 4 (gb_rm 3 68) 2 0 (k_X5_readBin_0 κ) := (s_aln 1 rfl dX5_readBin_0 (s_aln 0 rfl dX5_readBin_1 (s_gf (T := TX5) winX5 rfl (Nat.le_of_ble_eq_true rfl) gw_202 rfl dX5_readBin_2 (s_cv (C := RX8) c_X8_newNumber rfl (gb_l5 gw_203 gw_158 gw_159 gw_150 gw_160) v_X8_newNumber ⟨rfl, rfl⟩ ⟨Nat.le_of_ble_eq_true rfl, Nat.le_of_ble_eq_true rfl⟩ dX5_readBin_5 (s_isn 2 rfl (Nat.le_of_ble_eq_true rfl) dX5_readBin_8 (s_iln 2 rfl dX5_readBin_9 (s_zlt (tgt := 22) (by decide +kernel) dX5_readBin_10 (s_X5_readBin_22 hκ) (s_aln 1 rfl dX5_readBin_13 (s_bipush (by decide +kernel) dX5_readBin_14 (s_cv (C := RX8) c_X8_takes rfl (gb_l5 gw_204 gw_162 gw_163 gw_150 gw_164) v_X8_takes ⟨rfl, rfl⟩ ⟨Nat.le_of_ble_eq_true rfl, Nat.le_of_ble_eq_true rfl⟩ dX5_readBin_16 (s_zne (tgt := 24) (by decide +kernel) dX5_readBin_19 (s_aln 1 rfl dX5_readBin_24 (s_iconst (by decide +kernel) dX5_readBin_25 (s_bipush (by decide +kernel) dX5_readBin_26 (s_cv (C := RX8) c_X8_number rfl (gb_l5 gw_205 gw_166 gw_167 gw_150 gw_168) v_X8_number ⟨rfl, rfl⟩ ⟨Nat.le_of_ble_eq_true rfl, Nat.le_of_ble_eq_true rfl⟩ dX5_readBin_28 (s_isn 3 rfl (Nat.le_of_ble_eq_true rfl) dX5_readBin_31 (s_iln 3 rfl dX5_readBin_32 (s_zge (tgt := 38) (by decide +kernel) dX5_readBin_33 (s_aln 0 rfl dX5_readBin_38 (s_gf (T := TX5) winX5 rfl (Nat.le_of_ble_eq_true rfl) gw_199 rfl dX5_readBin_39 (s_iln 2 rfl dX5_readBin_42 (s_iln 3 rfl dX5_readBin_43 (s_iast dX5_readBin_44 (s_aln 0 rfl dX5_readBin_45 (s_dup dX5_readBin_46 (s_gf (T := TX5) winX5 rfl (Nat.le_of_ble_eq_true rfl) gw_202 rfl dX5_readBin_47 (s_iconst (by decide +kernel) dX5_readBin_50 (s_iln 2 rfl dX5_readBin_51 (s_ishl dX5_readBin_52 (s_ior dX5_readBin_53 (s_X5_readBin_54 hκ))))))))))))) (s_iconst (by decide +kernel) dX5_readBin_36 (s_rz rfl dX5_readBin_37))))))))) (s_X5_readBin_22 hκ))))))))))))
noncomputable def f_X5_readBin : gb_F := gb_hide (gb_mf 4 (k_X5_readBin_0 gb_n))
theorem c_X5_readBin : ∀ l, gb_Met l yX5_readBin cX5_readBin 4 (some .boolean) 2 (gb_rm 3 68) f_X5_readBin := gb_hide_c (gb_met (own := RX5) (rk := 2) rfl (by decide +kernel) ⟨rfl, rfl⟩ (s_X5_readBin_0 gb_S_n))
theorem dX5_readPair_0 : decode cX5_readPair 0 = .ok (.aload_n 1, 1) := by decide +kernel
theorem dX5_readPair_1 : decode cX5_readPair 1 = .ok (.iconst 0, 1) := by decide +kernel
theorem dX5_readPair_2 : decode cX5_readPair 2 = .ok (.invokevirtual 68, 3) := by decide +kernel
theorem dX5_readPair_5 : decode cX5_readPair 5 = .ok (.istore_n 3, 1) := by decide +kernel
theorem dX5_readPair_6 : decode cX5_readPair 6 = .ok (.iload_n 3, 1) := by decide +kernel
theorem dX5_readPair_7 : decode cX5_readPair 7 = .ok (.ifCond .ge 5, 3) := by decide +kernel
theorem dX5_readPair_10 : decode cX5_readPair 10 = .ok (.iconst 0, 1) := by decide +kernel
theorem dX5_readPair_11 : decode cX5_readPair 11 = .ok (.ireturn, 1) := by decide +kernel
theorem dX5_readPair_12 : decode cX5_readPair 12 = .ok (.aload_n 1, 1) := by decide +kernel
theorem dX5_readPair_13 : decode cX5_readPair 13 = .ok (.aload_n 0, 1) := by decide +kernel
theorem dX5_readPair_14 : decode cX5_readPair 14 = .ok (.getfield 27, 3) := by decide +kernel
theorem dX5_readPair_17 : decode cX5_readPair 17 = .ok (.iload_n 3, 1) := by decide +kernel
theorem dX5_readPair_18 : decode cX5_readPair 18 = .ok (.iaload, 1) := by decide +kernel
theorem dX5_readPair_19 : decode cX5_readPair 19 = .ok (.iconst 1, 1) := by decide +kernel
theorem dX5_readPair_20 : decode cX5_readPair 20 = .ok (.iload_n 3, 1) := by decide +kernel
theorem dX5_readPair_21 : decode cX5_readPair 21 = .ok (.ishl, 1) := by decide +kernel
theorem dX5_readPair_22 : decode cX5_readPair 22 = .ok (.ior, 1) := by decide +kernel
theorem dX5_readPair_23 : decode cX5_readPair 23 = .ok (.invokevirtual 68, 3) := by decide +kernel
theorem dX5_readPair_26 : decode cX5_readPair 26 = .ok (.istore 4, 2) := by decide +kernel
theorem dX5_readPair_28 : decode cX5_readPair 28 = .ok (.iload 4, 2) := by decide +kernel
theorem dX5_readPair_30 : decode cX5_readPair 30 = .ok (.ifCond .ge 5, 3) := by decide +kernel
theorem dX5_readPair_33 : decode cX5_readPair 33 = .ok (.iconst 0, 1) := by decide +kernel
theorem dX5_readPair_34 : decode cX5_readPair 34 = .ok (.ireturn, 1) := by decide +kernel
theorem dX5_readPair_35 : decode cX5_readPair 35 = .ok (.iload_n 2, 1) := by decide +kernel
theorem dX5_readPair_36 : decode cX5_readPair 36 = .ok (.ifCond .eq 13, 3) := by decide +kernel
theorem dX5_readPair_39 : decode cX5_readPair 39 = .ok (.aload_n 1, 1) := by decide +kernel
theorem dX5_readPair_40 : decode cX5_readPair 40 = .ok (.iconst 1, 1) := by decide +kernel
theorem dX5_readPair_41 : decode cX5_readPair 41 = .ok (.bipush 99, 2) := by decide +kernel
theorem dX5_readPair_43 : decode cX5_readPair 43 = .ok (.invokevirtual 72, 3) := by decide +kernel
theorem dX5_readPair_46 : decode cX5_readPair 46 = .ok (.goto 4, 3) := by decide +kernel
theorem dX5_readPair_49 : decode cX5_readPair 49 = .ok (.iconst 0, 1) := by decide +kernel
theorem dX5_readPair_50 : decode cX5_readPair 50 = .ok (.istore 5, 2) := by decide +kernel
theorem dX5_readPair_52 : decode cX5_readPair 52 = .ok (.iload 5, 2) := by decide +kernel
theorem dX5_readPair_54 : decode cX5_readPair 54 = .ok (.ifCond .ge 5, 3) := by decide +kernel
theorem dX5_readPair_57 : decode cX5_readPair 57 = .ok (.iconst 0, 1) := by decide +kernel
theorem dX5_readPair_58 : decode cX5_readPair 58 = .ok (.ireturn, 1) := by decide +kernel
theorem dX5_readPair_59 : decode cX5_readPair 59 = .ok (.aload_n 0, 1) := by decide +kernel
theorem dX5_readPair_60 : decode cX5_readPair 60 = .ok (.getfield 21, 3) := by decide +kernel
theorem dX5_readPair_63 : decode cX5_readPair 63 = .ok (.iload_n 3, 1) := by decide +kernel
theorem dX5_readPair_64 : decode cX5_readPair 64 = .ok (.bipush 6, 2) := by decide +kernel
theorem dX5_readPair_66 : decode cX5_readPair 66 = .ok (.imul, 1) := by decide +kernel
theorem dX5_readPair_67 : decode cX5_readPair 67 = .ok (.iload 4, 2) := by decide +kernel
theorem dX5_readPair_69 : decode cX5_readPair 69 = .ok (.iadd, 1) := by decide +kernel
theorem dX5_readPair_70 : decode cX5_readPair 70 = .ok (.iload 5, 2) := by decide +kernel
theorem dX5_readPair_72 : decode cX5_readPair 72 = .ok (.iastore, 1) := by decide +kernel
theorem dX5_readPair_73 : decode cX5_readPair 73 = .ok (.aload_n 0, 1) := by decide +kernel
theorem dX5_readPair_74 : decode cX5_readPair 74 = .ok (.getfield 21, 3) := by decide +kernel
theorem dX5_readPair_77 : decode cX5_readPair 77 = .ok (.iload 4, 2) := by decide +kernel
theorem dX5_readPair_79 : decode cX5_readPair 79 = .ok (.bipush 6, 2) := by decide +kernel
theorem dX5_readPair_81 : decode cX5_readPair 81 = .ok (.imul, 1) := by decide +kernel
theorem dX5_readPair_82 : decode cX5_readPair 82 = .ok (.iload_n 3, 1) := by decide +kernel
theorem dX5_readPair_83 : decode cX5_readPair 83 = .ok (.iadd, 1) := by decide +kernel
theorem dX5_readPair_84 : decode cX5_readPair 84 = .ok (.iload 5, 2) := by decide +kernel
theorem dX5_readPair_86 : decode cX5_readPair 86 = .ok (.iastore, 1) := by decide +kernel
theorem dX5_readPair_87 : decode cX5_readPair 87 = .ok (.aload_n 0, 1) := by decide +kernel
theorem dX5_readPair_88 : decode cX5_readPair 88 = .ok (.getfield 27, 3) := by decide +kernel
theorem dX5_readPair_91 : decode cX5_readPair 91 = .ok (.iload_n 3, 1) := by decide +kernel
theorem dX5_readPair_92 : decode cX5_readPair 92 = .ok (.dup2, 1) := by decide +kernel
theorem dX5_readPair_93 : decode cX5_readPair 93 = .ok (.iaload, 1) := by decide +kernel
theorem dX5_readPair_94 : decode cX5_readPair 94 = .ok (.iconst 1, 1) := by decide +kernel
theorem dX5_readPair_95 : decode cX5_readPair 95 = .ok (.iload 4, 2) := by decide +kernel
theorem dX5_readPair_97 : decode cX5_readPair 97 = .ok (.ishl, 1) := by decide +kernel
theorem dX5_readPair_98 : decode cX5_readPair 98 = .ok (.ior, 1) := by decide +kernel
theorem dX5_readPair_99 : decode cX5_readPair 99 = .ok (.iastore, 1) := by decide +kernel
theorem dX5_readPair_100 : decode cX5_readPair 100 = .ok (.aload_n 0, 1) := by decide +kernel
theorem dX5_readPair_101 : decode cX5_readPair 101 = .ok (.getfield 27, 3) := by decide +kernel
theorem dX5_readPair_104 : decode cX5_readPair 104 = .ok (.iload 4, 2) := by decide +kernel
theorem dX5_readPair_106 : decode cX5_readPair 106 = .ok (.dup2, 1) := by decide +kernel
theorem dX5_readPair_107 : decode cX5_readPair 107 = .ok (.iaload, 1) := by decide +kernel
theorem dX5_readPair_108 : decode cX5_readPair 108 = .ok (.iconst 1, 1) := by decide +kernel
theorem dX5_readPair_109 : decode cX5_readPair 109 = .ok (.iload_n 3, 1) := by decide +kernel
theorem dX5_readPair_110 : decode cX5_readPair 110 = .ok (.ishl, 1) := by decide +kernel
theorem dX5_readPair_111 : decode cX5_readPair 111 = .ok (.ior, 1) := by decide +kernel
theorem dX5_readPair_112 : decode cX5_readPair 112 = .ok (.iastore, 1) := by decide +kernel
theorem dX5_readPair_113 : decode cX5_readPair 113 = .ok (.iload_n 2, 1) := by decide +kernel
theorem dX5_readPair_114 : decode cX5_readPair 114 = .ok (.ifCond .ne 29, 3) := by decide +kernel
theorem dX5_readPair_117 : decode cX5_readPair 117 = .ok (.aload_n 0, 1) := by decide +kernel
theorem dX5_readPair_118 : decode cX5_readPair 118 = .ok (.getfield 24, 3) := by decide +kernel
theorem dX5_readPair_121 : decode cX5_readPair 121 = .ok (.iload_n 3, 1) := by decide +kernel
theorem dX5_readPair_122 : decode cX5_readPair 122 = .ok (.dup2, 1) := by decide +kernel
theorem dX5_readPair_123 : decode cX5_readPair 123 = .ok (.iaload, 1) := by decide +kernel
theorem dX5_readPair_124 : decode cX5_readPair 124 = .ok (.iconst 1, 1) := by decide +kernel
theorem dX5_readPair_125 : decode cX5_readPair 125 = .ok (.iload 4, 2) := by decide +kernel
theorem dX5_readPair_127 : decode cX5_readPair 127 = .ok (.ishl, 1) := by decide +kernel
theorem dX5_readPair_128 : decode cX5_readPair 128 = .ok (.ior, 1) := by decide +kernel
theorem dX5_readPair_129 : decode cX5_readPair 129 = .ok (.iastore, 1) := by decide +kernel
theorem dX5_readPair_130 : decode cX5_readPair 130 = .ok (.aload_n 0, 1) := by decide +kernel
theorem dX5_readPair_131 : decode cX5_readPair 131 = .ok (.getfield 24, 3) := by decide +kernel
theorem dX5_readPair_134 : decode cX5_readPair 134 = .ok (.iload 4, 2) := by decide +kernel
theorem dX5_readPair_136 : decode cX5_readPair 136 = .ok (.dup2, 1) := by decide +kernel
theorem dX5_readPair_137 : decode cX5_readPair 137 = .ok (.iaload, 1) := by decide +kernel
theorem dX5_readPair_138 : decode cX5_readPair 138 = .ok (.iconst 1, 1) := by decide +kernel
theorem dX5_readPair_139 : decode cX5_readPair 139 = .ok (.iload_n 3, 1) := by decide +kernel
theorem dX5_readPair_140 : decode cX5_readPair 140 = .ok (.ishl, 1) := by decide +kernel
theorem dX5_readPair_141 : decode cX5_readPair 141 = .ok (.ior, 1) := by decide +kernel
theorem dX5_readPair_142 : decode cX5_readPair 142 = .ok (.iastore, 1) := by decide +kernel
theorem dX5_readPair_143 : decode cX5_readPair 143 = .ok (.iconst 1, 1) := by decide +kernel
theorem dX5_readPair_144 : decode cX5_readPair 144 = .ok (.ireturn, 1) := by decide +kernel
theorem v_X5_readPair : yX5_readPair.cls = RX5 ∧ yX5_readPair.cls ≠ "java/lang/invoke/MethodHandle" ∧ yX5_readPair.cls ≠ "java/lang/invoke/VarHandle" ∧ (parseMethodDescriptor yX5_readPair.desc).map (fun d => d.parameters.length) = some 2 := ⟨rfl, by decide +kernel, by decide +kernel, by decide +kernel⟩
noncomputable def k_X5_readPair_143 (κ : gb_K) : gb_C := (o_ci 1 o_rz)
theorem l_X5_readPair_143 : gb_Li (fun κ => k_X5_readPair_143 κ) := (gb_li (q_ci 1) (gb_li0 _))
theorem s_X5_readPair_143   {κ : gb_K} (hκ : ∀ q, gb_S RX5 cX5_readPair 6 (gb_rm 3 68) 2 q (κ q)) : gb_S RX5 cX5_readPair 6 (gb_rm 3 68) 2 143 (k_X5_readPair_143 κ) := (s_iconst (by decide +kernel) dX5_readPair_143 (s_rz rfl dX5_readPair_144))
noncomputable def k_X5_readPair_140 (κ : gb_K) : gb_C := (o_ib (fun x y => x <<< (y &&& 31)) (o_ib (fun x y => x ||| y) (o_iast (k_X5_readPair_143 κ))))
theorem l_X5_readPair_140 : gb_Li (fun κ => k_X5_readPair_140 κ) := (gb_li (q_ib _) (gb_li (q_ib _) (gb_li q_iast (l_X5_readPair_143))))
theorem s_X5_readPair_140   {κ : gb_K} (hκ : ∀ q, gb_S RX5 cX5_readPair 6 (gb_rm 3 68) 2 q (κ q)) : gb_S RX5 cX5_readPair 6 (gb_rm 3 68) 2 140 (k_X5_readPair_140 κ) := (s_ishl dX5_readPair_140 (s_ior dX5_readPair_141 (s_iast dX5_readPair_142 (s_X5_readPair_143 hκ))))
noncomputable def k_X5_readPair_99 (κ : gb_K) : gb_C := (o_iast (o_al 0 (o_gf 5 5 (o_il 4 (o_dup2 (o_iald (o_ci 1 (o_il 3 (o_ib (fun x y => x <<< (y &&& 31)) (o_ib (fun x y => x ||| y) (o_iast (o_il 2 (o_zeq (o_al 0 (o_gf 5 4 (o_il 3 (o_dup2 (o_iald (o_ci 1 (o_il 4 (o_ib (fun x y => x <<< (y &&& 31)) (o_ib (fun x y => x ||| y) (o_iast (o_al 0 (o_gf 5 4 (o_il 4 (o_dup2 (o_iald (o_ci 1 (o_il 3 (k_X5_readPair_140 κ)))))))))))))))))) (k_X5_readPair_143 κ))))))))))))))
theorem l_X5_readPair_99 : gb_Li (fun κ => k_X5_readPair_99 κ) := (gb_li q_iast (gb_li (q_al 0) (gb_li (q_gf 5 5) (gb_li (q_il 4) (gb_li q_dup2 (gb_li q_iald (gb_li (q_ci 1) (gb_li (q_il 3) (gb_li (q_ib _) (gb_li (q_ib _) (gb_li q_iast (gb_li (q_il 2) (q_zeq (gb_li (q_al 0) (gb_li (q_gf 5 4) (gb_li (q_il 3) (gb_li q_dup2 (gb_li q_iald (gb_li (q_ci 1) (gb_li (q_il 4) (gb_li (q_ib _) (gb_li (q_ib _) (gb_li q_iast (gb_li (q_al 0) (gb_li (q_gf 5 4) (gb_li (q_il 4) (gb_li q_dup2 (gb_li q_iald (gb_li (q_ci 1) (gb_li (q_il 3) (l_X5_readPair_140)))))))))))))))))) (l_X5_readPair_143))))))))))))))
theorem s_X5_readPair_99   {κ : gb_K} (hκ : ∀ q, gb_S RX5 cX5_readPair 6 (gb_rm 3 68) 2 q (κ q)) : gb_S RX5 cX5_readPair 6 (gb_rm 3 68) 2 99 (k_X5_readPair_99 κ) := (s_iast dX5_readPair_99 (s_aln 0 rfl dX5_readPair_100 (s_gf (T := TX5) winX5 rfl (Nat.le_of_ble_eq_true rfl) gw_200 rfl dX5_readPair_101 (s_il dX5_readPair_104 (s_dup2 dX5_readPair_106 (s_iald dX5_readPair_107 (s_iconst (by decide +kernel) dX5_readPair_108 (s_iln 3 rfl dX5_readPair_109 (s_ishl dX5_readPair_110 (s_ior dX5_readPair_111 (s_iast dX5_readPair_112 (s_iln 2 rfl dX5_readPair_113 (s_zne (tgt := 143) (by decide +kernel) dX5_readPair_114 (s_X5_readPair_143 hκ) (s_aln 0 rfl dX5_readPair_117 (s_gf (T := TX5) winX5 rfl (Nat.le_of_ble_eq_true rfl) gw_198 rfl dX5_readPair_118 (s_iln 3 rfl dX5_readPair_121 (s_dup2 dX5_readPair_122 (s_iald dX5_readPair_123 (s_iconst (by decide +kernel) dX5_readPair_124 (s_il dX5_readPair_125 (s_ishl dX5_readPair_127 (s_ior dX5_readPair_128 (s_iast dX5_readPair_129 (s_aln 0 rfl dX5_readPair_130 (s_gf (T := TX5) winX5 rfl (Nat.le_of_ble_eq_true rfl) gw_198 rfl dX5_readPair_131 (s_il dX5_readPair_134 (s_dup2 dX5_readPair_136 (s_iald dX5_readPair_137 (s_iconst (by decide +kernel) dX5_readPair_138 (s_iln 3 rfl dX5_readPair_139 (s_X5_readPair_140 hκ)))))))))))))))))))))))))))))))
noncomputable def k_X5_readPair_50 (κ : gb_K) : gb_C := (o_is 5 (o_il 5 (o_zge (o_al 0 (o_gf 5 3 (o_il 3 (o_ci 6 (o_ib (fun x y => x * y) (o_il 4 (o_ib (fun x y => x + y) (o_il 5 (o_iast (o_al 0 (o_gf 5 3 (o_il 4 (o_ci 6 (o_ib (fun x y => x * y) (o_il 3 (o_ib (fun x y => x + y) (o_il 5 (o_iast (o_al 0 (o_gf 5 5 (o_il 3 (o_dup2 (o_iald (o_ci 1 (o_il 4 (o_ib (fun x y => x <<< (y &&& 31)) (o_ib (fun x y => x ||| y) (k_X5_readPair_99 κ)))))))))))))))))))))))))))) (o_ci 0 o_rz))))
theorem l_X5_readPair_50 : gb_Li (fun κ => k_X5_readPair_50 κ) := (gb_li (q_is 5) (gb_li (q_il 5) (q_zge (gb_li (q_al 0) (gb_li (q_gf 5 3) (gb_li (q_il 3) (gb_li (q_ci 6) (gb_li (q_ib _) (gb_li (q_il 4) (gb_li (q_ib _) (gb_li (q_il 5) (gb_li q_iast (gb_li (q_al 0) (gb_li (q_gf 5 3) (gb_li (q_il 4) (gb_li (q_ci 6) (gb_li (q_ib _) (gb_li (q_il 3) (gb_li (q_ib _) (gb_li (q_il 5) (gb_li q_iast (gb_li (q_al 0) (gb_li (q_gf 5 5) (gb_li (q_il 3) (gb_li q_dup2 (gb_li q_iald (gb_li (q_ci 1) (gb_li (q_il 4) (gb_li (q_ib _) (gb_li (q_ib _) (l_X5_readPair_99)))))))))))))))))))))))))))) (gb_li (q_ci 0) (gb_li0 _)))))
theorem s_X5_readPair_50   {κ : gb_K} (hκ : ∀ q, gb_S RX5 cX5_readPair 6 (gb_rm 3 68) 2 q (κ q)) : gb_S RX5 cX5_readPair 6 (gb_rm 3 68) 2 50 (k_X5_readPair_50 κ) := (s_is (Nat.le_of_ble_eq_true rfl) dX5_readPair_50 (s_il dX5_readPair_52 (s_zge (tgt := 59) (by decide +kernel) dX5_readPair_54 (s_aln 0 rfl dX5_readPair_59 (s_gf (T := TX5) winX5 rfl (Nat.le_of_ble_eq_true rfl) gw_88 rfl dX5_readPair_60 (s_iln 3 rfl dX5_readPair_63 (s_bipush (by decide +kernel) dX5_readPair_64 (s_imul dX5_readPair_66 (s_il dX5_readPair_67 (s_iadd dX5_readPair_69 (s_il dX5_readPair_70 (s_iast dX5_readPair_72 (s_aln 0 rfl dX5_readPair_73 (s_gf (T := TX5) winX5 rfl (Nat.le_of_ble_eq_true rfl) gw_88 rfl dX5_readPair_74 (s_il dX5_readPair_77 (s_bipush (by decide +kernel) dX5_readPair_79 (s_imul dX5_readPair_81 (s_iln 3 rfl dX5_readPair_82 (s_iadd dX5_readPair_83 (s_il dX5_readPair_84 (s_iast dX5_readPair_86 (s_aln 0 rfl dX5_readPair_87 (s_gf (T := TX5) winX5 rfl (Nat.le_of_ble_eq_true rfl) gw_200 rfl dX5_readPair_88 (s_iln 3 rfl dX5_readPair_91 (s_dup2 dX5_readPair_92 (s_iald dX5_readPair_93 (s_iconst (by decide +kernel) dX5_readPair_94 (s_il dX5_readPair_95 (s_ishl dX5_readPair_97 (s_ior dX5_readPair_98 (s_X5_readPair_99 hκ)))))))))))))))))))))))))))) (s_iconst (by decide +kernel) dX5_readPair_57 (s_rz rfl dX5_readPair_58)))))
noncomputable def k_X5_readPair_0 (κ : gb_K) : gb_C := (o_al 1 (o_ci 0 (o_cv 1 8 1 f_X8_newNumber (o_is 3 (o_il 3 (o_zge (o_al 1 (o_al 0 (o_gf 5 5 (o_il 3 (o_iald (o_ci 1 (o_il 3 (o_ib (fun x y => x <<< (y &&& 31)) (o_ib (fun x y => x ||| y) (o_cv 1 8 1 f_X8_newNumber (o_is 4 (o_il 4 (o_zge (o_il 2 (o_zeq (o_ci 0 (k_X5_readPair_50 κ)) (o_al 1 (o_ci 1 (o_ci 99 (o_cv 2 8 1 f_X8_number (k_X5_readPair_50 κ))))))) (o_ci 0 o_rz)))))))))))))) (o_ci 0 o_rz)))))))
theorem l_X5_readPair_0 : gb_Li (fun κ => k_X5_readPair_0 κ) := (gb_li (q_al 1) (gb_li (q_ci 0) (gb_li (q_cv 1 8 1 f_X8_newNumber) (gb_li (q_is 3) (gb_li (q_il 3) (q_zge (gb_li (q_al 1) (gb_li (q_al 0) (gb_li (q_gf 5 5) (gb_li (q_il 3) (gb_li q_iald (gb_li (q_ci 1) (gb_li (q_il 3) (gb_li (q_ib _) (gb_li (q_ib _) (gb_li (q_cv 1 8 1 f_X8_newNumber) (gb_li (q_is 4) (gb_li (q_il 4) (q_zge (gb_li (q_il 2) (q_zeq (gb_li (q_ci 0) (l_X5_readPair_50)) (gb_li (q_al 1) (gb_li (q_ci 1) (gb_li (q_ci 99) (gb_li (q_cv 2 8 1 f_X8_number) (l_X5_readPair_50))))))) (gb_li (q_ci 0) (gb_li0 _))))))))))))))) (gb_li (q_ci 0) (gb_li0 _))))))))
theorem s_X5_readPair_0   {κ : gb_K} (hκ : ∀ q, gb_S RX5 cX5_readPair 6 (gb_rm 3 68) 2 q (κ q)) : gb_S RX5 cX5_readPair 6 (gb_rm 3 68) 2 0 (k_X5_readPair_0 κ) := (s_aln 1 rfl dX5_readPair_0 (s_iconst (by decide +kernel) dX5_readPair_1 (s_cv (C := RX8) c_X8_newNumber rfl (gb_l5 gw_203 gw_158 gw_159 gw_150 gw_160) v_X8_newNumber ⟨rfl, rfl⟩ ⟨Nat.le_of_ble_eq_true rfl, Nat.le_of_ble_eq_true rfl⟩ dX5_readPair_2 (s_isn 3 rfl (Nat.le_of_ble_eq_true rfl) dX5_readPair_5 (s_iln 3 rfl dX5_readPair_6 (s_zge (tgt := 12) (by decide +kernel) dX5_readPair_7 (s_aln 1 rfl dX5_readPair_12 (s_aln 0 rfl dX5_readPair_13 (s_gf (T := TX5) winX5 rfl (Nat.le_of_ble_eq_true rfl) gw_200 rfl dX5_readPair_14 (s_iln 3 rfl dX5_readPair_17 (s_iald dX5_readPair_18 (s_iconst (by decide +kernel) dX5_readPair_19 (s_iln 3 rfl dX5_readPair_20 (s_ishl dX5_readPair_21 (s_ior dX5_readPair_22 (s_cv (C := RX8) c_X8_newNumber rfl (gb_l5 gw_203 gw_158 gw_159 gw_150 gw_160) v_X8_newNumber ⟨rfl, rfl⟩ ⟨Nat.le_of_ble_eq_true rfl, Nat.le_of_ble_eq_true rfl⟩ dX5_readPair_23 (s_is (Nat.le_of_ble_eq_true rfl) dX5_readPair_26 (s_il dX5_readPair_28 (s_zge (tgt := 35) (by decide +kernel) dX5_readPair_30 (s_iln 2 rfl dX5_readPair_35 (s_zeq (tgt := 49) (by decide +kernel) dX5_readPair_36 (s_iconst (by decide +kernel) dX5_readPair_49 (s_X5_readPair_50 hκ)) (s_aln 1 rfl dX5_readPair_39 (s_iconst (by decide +kernel) dX5_readPair_40 (s_bipush (by decide +kernel) dX5_readPair_41 (s_cv (C := RX8) c_X8_number rfl (gb_l5 gw_205 gw_166 gw_167 gw_150 gw_168) v_X8_number ⟨rfl, rfl⟩ ⟨Nat.le_of_ble_eq_true rfl, Nat.le_of_ble_eq_true rfl⟩ dX5_readPair_43 (s_goto (tgt := 50) (by decide +kernel) dX5_readPair_46 (s_X5_readPair_50 hκ)))))))) (s_iconst (by decide +kernel) dX5_readPair_33 (s_rz rfl dX5_readPair_34))))))))))))))) (s_iconst (by decide +kernel) dX5_readPair_10 (s_rz rfl dX5_readPair_11))))))))
noncomputable def f_X5_readPair : gb_F := gb_hide (gb_mf 6 (k_X5_readPair_0 gb_n))
theorem c_X5_readPair : ∀ l, gb_Met l yX5_readPair cX5_readPair 6 (some .boolean) 2 (gb_rm 3 68) f_X5_readPair := gb_hide_c (gb_met (own := RX5) (rk := 2) rfl (by decide +kernel) ⟨rfl, rfl⟩ (s_X5_readPair_0 gb_S_n))
theorem dX5_readLine_0 : decode cX5_readLine 0 = .ok (.aload_n 1, 1) := by decide +kernel
theorem dX5_readLine_1 : decode cX5_readLine 1 = .ok (.bipush 103, 2) := by decide +kernel
theorem dX5_readLine_3 : decode cX5_readLine 3 = .ok (.invokevirtual 47, 3) := by decide +kernel
theorem dX5_readLine_6 : decode cX5_readLine 6 = .ok (.ifCond .eq 9, 3) := by decide +kernel
theorem dX5_readLine_9 : decode cX5_readLine 9 = .ok (.aload_n 0, 1) := by decide +kernel
theorem dX5_readLine_10 : decode cX5_readLine 10 = .ok (.aload_n 1, 1) := by decide +kernel
theorem dX5_readLine_11 : decode cX5_readLine 11 = .ok (.invokevirtual 58, 3) := by decide +kernel
theorem dX5_readLine_14 : decode cX5_readLine 14 = .ok (.ireturn, 1) := by decide +kernel
theorem dX5_readLine_15 : decode cX5_readLine 15 = .ok (.aload_n 1, 1) := by decide +kernel
theorem dX5_readLine_16 : decode cX5_readLine 16 = .ok (.bipush 98, 2) := by decide +kernel
theorem dX5_readLine_18 : decode cX5_readLine 18 = .ok (.invokevirtual 47, 3) := by decide +kernel
theorem dX5_readLine_21 : decode cX5_readLine 21 = .ok (.ifCond .eq 9, 3) := by decide +kernel
theorem dX5_readLine_24 : decode cX5_readLine 24 = .ok (.aload_n 0, 1) := by decide +kernel
theorem dX5_readLine_25 : decode cX5_readLine 25 = .ok (.aload_n 1, 1) := by decide +kernel
theorem dX5_readLine_26 : decode cX5_readLine 26 = .ok (.invokevirtual 61, 3) := by decide +kernel
theorem dX5_readLine_29 : decode cX5_readLine 29 = .ok (.ireturn, 1) := by decide +kernel
theorem dX5_readLine_30 : decode cX5_readLine 30 = .ok (.aload_n 1, 1) := by decide +kernel
theorem dX5_readLine_31 : decode cX5_readLine 31 = .ok (.bipush 108, 2) := by decide +kernel
theorem dX5_readLine_33 : decode cX5_readLine 33 = .ok (.invokevirtual 47, 3) := by decide +kernel
theorem dX5_readLine_36 : decode cX5_readLine 36 = .ok (.ifCond .eq 10, 3) := by decide +kernel
theorem dX5_readLine_39 : decode cX5_readLine 39 = .ok (.aload_n 0, 1) := by decide +kernel
theorem dX5_readLine_40 : decode cX5_readLine 40 = .ok (.aload_n 1, 1) := by decide +kernel
theorem dX5_readLine_41 : decode cX5_readLine 41 = .ok (.iconst 1, 1) := by decide +kernel
theorem dX5_readLine_42 : decode cX5_readLine 42 = .ok (.invokevirtual 64, 3) := by decide +kernel
theorem dX5_readLine_45 : decode cX5_readLine 45 = .ok (.ireturn, 1) := by decide +kernel
theorem dX5_readLine_46 : decode cX5_readLine 46 = .ok (.aload_n 1, 1) := by decide +kernel
theorem dX5_readLine_47 : decode cX5_readLine 47 = .ok (.bipush 120, 2) := by decide +kernel
theorem dX5_readLine_49 : decode cX5_readLine 49 = .ok (.invokevirtual 47, 3) := by decide +kernel
theorem dX5_readLine_52 : decode cX5_readLine 52 = .ok (.ifCond .eq 16, 3) := by decide +kernel
theorem dX5_readLine_55 : decode cX5_readLine 55 = .ok (.aload_n 0, 1) := by decide +kernel
theorem dX5_readLine_56 : decode cX5_readLine 56 = .ok (.aload_n 1, 1) := by decide +kernel
theorem dX5_readLine_57 : decode cX5_readLine 57 = .ok (.iconst 0, 1) := by decide +kernel
theorem dX5_readLine_58 : decode cX5_readLine 58 = .ok (.invokevirtual 64, 3) := by decide +kernel
theorem dX5_readLine_61 : decode cX5_readLine 61 = .ok (.ifCond .eq 7, 3) := by decide +kernel
theorem dX5_readLine_64 : decode cX5_readLine 64 = .ok (.iconst 1, 1) := by decide +kernel
theorem dX5_readLine_65 : decode cX5_readLine 65 = .ok (.goto 4, 3) := by decide +kernel
theorem dX5_readLine_68 : decode cX5_readLine 68 = .ok (.iconst 0, 1) := by decide +kernel
theorem dX5_readLine_69 : decode cX5_readLine 69 = .ok (.ireturn, 1) := by decide +kernel
theorem v_X5_readLine : yX5_readLine.cls = RX5 ∧ yX5_readLine.cls ≠ "java/lang/invoke/MethodHandle" ∧ yX5_readLine.cls ≠ "java/lang/invoke/VarHandle" ∧ (parseMethodDescriptor yX5_readLine.desc).map (fun d => d.parameters.length) = some 1 := ⟨rfl, by decide +kernel, by decide +kernel, by decide +kernel⟩
noncomputable def k_X5_readLine_69 (κ : gb_K) : gb_C := o_rz
theorem l_X5_readLine_69 : gb_Li (fun κ => k_X5_readLine_69 κ) := (gb_li0 _)
theorem s_X5_readLine_69   {κ : gb_K} (hκ : ∀ q, gb_S RX5 cX5_readLine 2 (gb_rm 4 93) 2 q (κ q)) : gb_S RX5 cX5_readLine 2 (gb_rm 4 93) 2 69 (k_X5_readLine_69 κ) := (s_rz rfl dX5_readLine_69)
noncomputable def k_X5_readLine_68 (κ : gb_K) : gb_C := (o_ci 0 (k_X5_readLine_69 κ))
theorem l_X5_readLine_68 : gb_Li (fun κ => k_X5_readLine_68 κ) := (gb_li (q_ci 0) (l_X5_readLine_69))
theorem s_X5_readLine_68   {κ : gb_K} (hκ : ∀ q, gb_S RX5 cX5_readLine 2 (gb_rm 4 93) 2 q (κ q)) : gb_S RX5 cX5_readLine 2 (gb_rm 4 93) 2 68 (k_X5_readLine_68 κ) := (s_iconst (by decide +kernel) dX5_readLine_68 (s_X5_readLine_69 hκ))
noncomputable def k_X5_readLine_0 (κ : gb_K) : gb_C := (o_al 1 (o_ci 103 (o_cv 1 8 2 f_X8_takes (o_zeq (o_al 1 (o_ci 98 (o_cv 1 8 2 f_X8_takes (o_zeq (o_al 1 (o_ci 108 (o_cv 1 8 2 f_X8_takes (o_zeq (o_al 1 (o_ci 120 (o_cv 1 8 2 f_X8_takes (o_zeq (k_X5_readLine_68 κ) (o_al 0 (o_al 1 (o_ci 0 (o_cv 2 5 2 f_X5_readPair (o_zeq (k_X5_readLine_68 κ) (o_ci 1 (k_X5_readLine_69 κ))))))))))) (o_al 0 (o_al 1 (o_ci 1 (o_cv 2 5 2 f_X5_readPair o_rz)))))))) (o_al 0 (o_al 1 (o_cv 1 5 2 f_X5_readBin o_rz))))))) (o_al 0 (o_al 1 (o_cv 1 5 2 f_X5_readGrade o_rz)))))))
theorem l_X5_readLine_0 : gb_Li (fun κ => k_X5_readLine_0 κ) := (gb_li (q_al 1) (gb_li (q_ci 103) (gb_li (q_cv 1 8 2 f_X8_takes) (q_zeq (gb_li (q_al 1) (gb_li (q_ci 98) (gb_li (q_cv 1 8 2 f_X8_takes) (q_zeq (gb_li (q_al 1) (gb_li (q_ci 108) (gb_li (q_cv 1 8 2 f_X8_takes) (q_zeq (gb_li (q_al 1) (gb_li (q_ci 120) (gb_li (q_cv 1 8 2 f_X8_takes) (q_zeq (l_X5_readLine_68) (gb_li (q_al 0) (gb_li (q_al 1) (gb_li (q_ci 0) (gb_li (q_cv 2 5 2 f_X5_readPair) (q_zeq (l_X5_readLine_68) (gb_li (q_ci 1) (l_X5_readLine_69))))))))))) (gb_li (q_al 0) (gb_li (q_al 1) (gb_li (q_ci 1) (gb_li (q_cv 2 5 2 f_X5_readPair) (gb_li0 _))))))))) (gb_li (q_al 0) (gb_li (q_al 1) (gb_li (q_cv 1 5 2 f_X5_readBin) (gb_li0 _)))))))) (gb_li (q_al 0) (gb_li (q_al 1) (gb_li (q_cv 1 5 2 f_X5_readGrade) (gb_li0 _))))))))
theorem s_X5_readLine_0   {κ : gb_K} (hκ : ∀ q, gb_S RX5 cX5_readLine 2 (gb_rm 4 93) 2 q (κ q)) : gb_S RX5 cX5_readLine 2 (gb_rm 4 93) 2 0 (k_X5_readLine_0 κ) := (s_aln 1 rfl dX5_readLine_0 (s_bipush (by decide +kernel) dX5_readLine_1 (s_cv (C := RX8) c_X8_takes rfl (gb_l5 gw_204 gw_162 gw_163 gw_150 gw_164) v_X8_takes ⟨rfl, rfl⟩ ⟨Nat.le_of_ble_eq_true rfl, Nat.le_of_ble_eq_true rfl⟩ dX5_readLine_3 (s_zeq (tgt := 15) (by decide +kernel) dX5_readLine_6 (s_aln 1 rfl dX5_readLine_15 (s_bipush (by decide +kernel) dX5_readLine_16 (s_cv (C := RX8) c_X8_takes rfl (gb_l5 gw_204 gw_162 gw_163 gw_150 gw_164) v_X8_takes ⟨rfl, rfl⟩ ⟨Nat.le_of_ble_eq_true rfl, Nat.le_of_ble_eq_true rfl⟩ dX5_readLine_18 (s_zeq (tgt := 30) (by decide +kernel) dX5_readLine_21 (s_aln 1 rfl dX5_readLine_30 (s_bipush (by decide +kernel) dX5_readLine_31 (s_cv (C := RX8) c_X8_takes rfl (gb_l5 gw_204 gw_162 gw_163 gw_150 gw_164) v_X8_takes ⟨rfl, rfl⟩ ⟨Nat.le_of_ble_eq_true rfl, Nat.le_of_ble_eq_true rfl⟩ dX5_readLine_33 (s_zeq (tgt := 46) (by decide +kernel) dX5_readLine_36 (s_aln 1 rfl dX5_readLine_46 (s_bipush (by decide +kernel) dX5_readLine_47 (s_cv (C := RX8) c_X8_takes rfl (gb_l5 gw_204 gw_162 gw_163 gw_150 gw_164) v_X8_takes ⟨rfl, rfl⟩ ⟨Nat.le_of_ble_eq_true rfl, Nat.le_of_ble_eq_true rfl⟩ dX5_readLine_49 (s_zeq (tgt := 68) (by decide +kernel) dX5_readLine_52 (s_X5_readLine_68 hκ) (s_aln 0 rfl dX5_readLine_55 (s_aln 1 rfl dX5_readLine_56 (s_iconst (by decide +kernel) dX5_readLine_57 (s_cv (C := RX5) c_X5_readPair rfl (gb_l5 gw_206 gw_207 gw_208 gw_92 gw_209) v_X5_readPair ⟨rfl, rfl⟩ ⟨Nat.le_of_ble_eq_true rfl, Nat.le_of_ble_eq_true rfl⟩ dX5_readLine_58 (s_zeq (tgt := 68) (by decide +kernel) dX5_readLine_61 (s_X5_readLine_68 hκ) (s_iconst (by decide +kernel) dX5_readLine_64 (s_goto (tgt := 69) (by decide +kernel) dX5_readLine_65 (s_X5_readLine_69 hκ)))))))))))) (s_aln 0 rfl dX5_readLine_39 (s_aln 1 rfl dX5_readLine_40 (s_iconst (by decide +kernel) dX5_readLine_41 (s_cv (C := RX5) c_X5_readPair rfl (gb_l5 gw_206 gw_207 gw_208 gw_92 gw_209) v_X5_readPair ⟨rfl, rfl⟩ ⟨Nat.le_of_ble_eq_true rfl, Nat.le_of_ble_eq_true rfl⟩ dX5_readLine_42 (s_rz rfl dX5_readLine_45))))))))) (s_aln 0 rfl dX5_readLine_24 (s_aln 1 rfl dX5_readLine_25 (s_cv (C := RX5) c_X5_readBin rfl (gb_l5 gw_210 gw_211 gw_212 gw_92 gw_213) v_X5_readBin ⟨rfl, rfl⟩ ⟨Nat.le_of_ble_eq_true rfl, Nat.le_of_ble_eq_true rfl⟩ dX5_readLine_26 (s_rz rfl dX5_readLine_29)))))))) (s_aln 0 rfl dX5_readLine_9 (s_aln 1 rfl dX5_readLine_10 (s_cv (C := RX5) c_X5_readGrade rfl (gb_l5 gw_214 gw_215 gw_216 gw_92 gw_217) v_X5_readGrade ⟨rfl, rfl⟩ ⟨Nat.le_of_ble_eq_true rfl, Nat.le_of_ble_eq_true rfl⟩ dX5_readLine_11 (s_rz rfl dX5_readLine_14))))))))
noncomputable def f_X5_readLine : gb_F := gb_hide (gb_mf 2 (k_X5_readLine_0 gb_n))
theorem c_X5_readLine : ∀ l, gb_Met l yX5_readLine cX5_readLine 2 (some .boolean) 2 (gb_rm 4 93) f_X5_readLine := gb_hide_c (gb_met (own := RX5) (rk := 2) rfl (by decide +kernel) ⟨rfl, rfl⟩ (s_X5_readLine_0 gb_S_n))
theorem dX5_read_0 : decode cX5_read 0 = .ok (.aload_n 0, 1) := by decide +kernel
theorem dX5_read_1 : decode cX5_read 1 = .ok (.invokevirtual 30, 3) := by decide +kernel
theorem dX5_read_4 : decode cX5_read 4 = .ok (.aload_n 1, 1) := by decide +kernel
theorem dX5_read_5 : decode cX5_read 5 = .ok (.invokevirtual 33, 3) := by decide +kernel
theorem dX5_read_8 : decode cX5_read 8 = .ok (.ifCond .eq 5, 3) := by decide +kernel
theorem dX5_read_11 : decode cX5_read 11 = .ok (.iconst 0, 1) := by decide +kernel
theorem dX5_read_12 : decode cX5_read 12 = .ok (.ireturn, 1) := by decide +kernel
theorem dX5_read_13 : decode cX5_read 13 = .ok (.iconst 1, 1) := by decide +kernel
theorem dX5_read_14 : decode cX5_read 14 = .ok (.istore_n 2, 1) := by decide +kernel
theorem dX5_read_15 : decode cX5_read 15 = .ok (.iload_n 2, 1) := by decide +kernel
theorem dX5_read_16 : decode cX5_read 16 = .ok (.sipush 200, 3) := by decide +kernel
theorem dX5_read_19 : decode cX5_read 19 = .ok (.if_icmp .gt 45, 3) := by decide +kernel
theorem dX5_read_22 : decode cX5_read 22 = .ok (.aload_n 0, 1) := by decide +kernel
theorem dX5_read_23 : decode cX5_read 23 = .ok (.aload_n 1, 1) := by decide +kernel
theorem dX5_read_24 : decode cX5_read 24 = .ok (.invokevirtual 39, 3) := by decide +kernel
theorem dX5_read_27 : decode cX5_read 27 = .ok (.ifCond .ne 8, 3) := by decide +kernel
theorem dX5_read_30 : decode cX5_read 30 = .ok (.aload_n 1, 1) := by decide +kernel
theorem dX5_read_31 : decode cX5_read 31 = .ok (.invokevirtual 43, 3) := by decide +kernel
theorem dX5_read_34 : decode cX5_read 34 = .ok (.ireturn, 1) := by decide +kernel
theorem dX5_read_35 : decode cX5_read 35 = .ok (.aload_n 1, 1) := by decide +kernel
theorem dX5_read_36 : decode cX5_read 36 = .ok (.invokevirtual 33, 3) := by decide +kernel
theorem dX5_read_39 : decode cX5_read 39 = .ok (.ifCond .eq 5, 3) := by decide +kernel
theorem dX5_read_42 : decode cX5_read 42 = .ok (.iload_n 2, 1) := by decide +kernel
theorem dX5_read_43 : decode cX5_read 43 = .ok (.ireturn, 1) := by decide +kernel
theorem dX5_read_44 : decode cX5_read 44 = .ok (.aload_n 1, 1) := by decide +kernel
theorem dX5_read_45 : decode cX5_read 45 = .ok (.bipush 59, 2) := by decide +kernel
theorem dX5_read_47 : decode cX5_read 47 = .ok (.invokevirtual 47, 3) := by decide +kernel
theorem dX5_read_50 : decode cX5_read 50 = .ok (.ifCond .ne 8, 3) := by decide +kernel
theorem dX5_read_53 : decode cX5_read 53 = .ok (.aload_n 1, 1) := by decide +kernel
theorem dX5_read_54 : decode cX5_read 54 = .ok (.invokevirtual 43, 3) := by decide +kernel
theorem dX5_read_57 : decode cX5_read 57 = .ok (.ireturn, 1) := by decide +kernel
theorem dX5_read_58 : decode cX5_read 58 = .ok (.iinc 2 1, 3) := by decide +kernel
theorem dX5_read_61 : decode cX5_read 61 = .ok (.goto (-46), 3) := by decide +kernel
theorem dX5_read_64 : decode cX5_read 64 = .ok (.aload_n 1, 1) := by decide +kernel
theorem dX5_read_65 : decode cX5_read 65 = .ok (.invokevirtual 43, 3) := by decide +kernel
theorem dX5_read_68 : decode cX5_read 68 = .ok (.ireturn, 1) := by decide +kernel
theorem v_X5_read : yX5_read.cls = RX5 ∧ yX5_read.cls ≠ "java/lang/invoke/MethodHandle" ∧ yX5_read.cls ≠ "java/lang/invoke/VarHandle" ∧ (parseMethodDescriptor yX5_read.desc).map (fun d => d.parameters.length) = some 1 := ⟨rfl, by decide +kernel, by decide +kernel, by decide +kernel⟩
noncomputable def k_X5_read_0 (κ : gb_K) : gb_C := (o_al 0 (o_cv 0 5 0 f_X5_clear (o_al 1 (o_cv 0 8 2 f_X8_ended (o_zeq (o_ci 1 (o_is 2 (o_j [0, 1, 2] (κ 15)))) (o_ci 0 o_ri))))))
theorem l_X5_read_0 : gb_Li (fun κ => k_X5_read_0 κ) := (gb_li (q_al 0) (gb_li (q_cv 0 5 0 f_X5_clear) (gb_li (q_al 1) (gb_li (q_cv 0 8 2 f_X8_ended) (q_zeq (gb_li (q_ci 1) (gb_li (q_is 2) (q_j [0, 1, 2] 15))) (gb_li (q_ci 0) (gb_li0 _)))))))
theorem s_X5_read_0   {κ : gb_K} (hκ : ∀ q, gb_S RX5 cX5_read 3 (gb_rm 5 114) 1 q (κ q)) : gb_S RX5 cX5_read 3 (gb_rm 5 114) 1 0 (k_X5_read_0 κ) := (s_aln 0 rfl dX5_read_0 (s_cv (C := RX5) c_X5_clear rfl (gb_l5 gw_218 gw_219 gw_220 gw_92 gw_221) v_X5_clear ⟨rfl, rfl⟩ ⟨Nat.le_of_ble_eq_true rfl, Nat.le_of_ble_eq_true rfl⟩ dX5_read_1 (s_aln 1 rfl dX5_read_4 (s_cv (C := RX8) c_X8_ended rfl (gb_l5 gw_222 gw_148 gw_149 gw_150 gw_151) v_X8_ended ⟨rfl, rfl⟩ ⟨Nat.le_of_ble_eq_true rfl, Nat.le_of_ble_eq_true rfl⟩ dX5_read_5 (s_zeq (tgt := 13) (by decide +kernel) dX5_read_8 (s_iconst (by decide +kernel) dX5_read_13 (s_isn 2 rfl (Nat.le_of_ble_eq_true rfl) dX5_read_14 (s_j (hκ 15)))) (s_iconst (by decide +kernel) dX5_read_11 (s_ri rfl dX5_read_12)))))))
noncomputable def k_X5_read_15 (κ : gb_K) : gb_C := (o_il 2 (o_ci 200 (o_cgt (o_al 1 (o_cv 0 8 1 f_X8_fault o_ri)) (o_al 0 (o_al 1 (o_cv 1 5 2 f_X5_readLine (o_zeq (o_al 1 (o_cv 0 8 1 f_X8_fault o_ri)) (o_al 1 (o_cv 0 8 2 f_X8_ended (o_zeq (o_al 1 (o_ci 59 (o_cv 1 8 2 f_X8_takes (o_zeq (o_al 1 (o_cv 0 8 1 f_X8_fault o_ri)) (o_inc 2 1 (o_j [0, 1, 2] (κ 15))))))) (o_il 2 o_ri)))))))))))
theorem l_X5_read_15 : gb_Li (fun κ => k_X5_read_15 κ) := (gb_li (q_il 2) (gb_li (q_ci 200) (q_cgt (gb_li (q_al 1) (gb_li (q_cv 0 8 1 f_X8_fault) (gb_li0 _))) (gb_li (q_al 0) (gb_li (q_al 1) (gb_li (q_cv 1 5 2 f_X5_readLine) (q_zeq (gb_li (q_al 1) (gb_li (q_cv 0 8 1 f_X8_fault) (gb_li0 _))) (gb_li (q_al 1) (gb_li (q_cv 0 8 2 f_X8_ended) (q_zeq (gb_li (q_al 1) (gb_li (q_ci 59) (gb_li (q_cv 1 8 2 f_X8_takes) (q_zeq (gb_li (q_al 1) (gb_li (q_cv 0 8 1 f_X8_fault) (gb_li0 _))) (gb_li (q_inc 2 1) (q_j [0, 1, 2] 15)))))) (gb_li (q_il 2) (gb_li0 _))))))))))))
theorem s_X5_read_15   {κ : gb_K} (hκ : ∀ q, gb_S RX5 cX5_read 3 (gb_rm 5 114) 1 q (κ q)) : gb_S RX5 cX5_read 3 (gb_rm 5 114) 1 15 (k_X5_read_15 κ) := (s_iln 2 rfl dX5_read_15 (s_sipush (by decide +kernel) dX5_read_16 (s_cgt (tgt := 64) (by decide +kernel) dX5_read_19 (s_aln 1 rfl dX5_read_64 (s_cv (C := RX8) c_X8_fault rfl (gb_l5 gw_223 gw_174 gw_175 gw_150 gw_176) v_X8_fault ⟨rfl, rfl⟩ ⟨Nat.le_of_ble_eq_true rfl, Nat.le_of_ble_eq_true rfl⟩ dX5_read_65 (s_ri rfl dX5_read_68))) (s_aln 0 rfl dX5_read_22 (s_aln 1 rfl dX5_read_23 (s_cv (C := RX5) c_X5_readLine rfl (gb_l5 gw_224 gw_225 gw_226 gw_92 gw_227) v_X5_readLine ⟨rfl, rfl⟩ ⟨Nat.le_of_ble_eq_true rfl, Nat.le_of_ble_eq_true rfl⟩ dX5_read_24 (s_zne (tgt := 35) (by decide +kernel) dX5_read_27 (s_aln 1 rfl dX5_read_35 (s_cv (C := RX8) c_X8_ended rfl (gb_l5 gw_222 gw_148 gw_149 gw_150 gw_151) v_X8_ended ⟨rfl, rfl⟩ ⟨Nat.le_of_ble_eq_true rfl, Nat.le_of_ble_eq_true rfl⟩ dX5_read_36 (s_zeq (tgt := 44) (by decide +kernel) dX5_read_39 (s_aln 1 rfl dX5_read_44 (s_bipush (by decide +kernel) dX5_read_45 (s_cv (C := RX8) c_X8_takes rfl (gb_l5 gw_204 gw_162 gw_163 gw_150 gw_164) v_X8_takes ⟨rfl, rfl⟩ ⟨Nat.le_of_ble_eq_true rfl, Nat.le_of_ble_eq_true rfl⟩ dX5_read_47 (s_zne (tgt := 58) (by decide +kernel) dX5_read_50 (s_inc (by decide +kernel) (Nat.le_of_ble_eq_true rfl) dX5_read_58 (s_goto (tgt := 15) (by decide +kernel) dX5_read_61 (s_j (hκ 15)))) (s_aln 1 rfl dX5_read_53 (s_cv (C := RX8) c_X8_fault rfl (gb_l5 gw_223 gw_174 gw_175 gw_150 gw_176) v_X8_fault ⟨rfl, rfl⟩ ⟨Nat.le_of_ble_eq_true rfl, Nat.le_of_ble_eq_true rfl⟩ dX5_read_54 (s_ri rfl dX5_read_57))))))) (s_iln 2 rfl dX5_read_42 (s_ri rfl dX5_read_43))))) (s_aln 1 rfl dX5_read_30 (s_cv (C := RX8) c_X8_fault rfl (gb_l5 gw_223 gw_174 gw_175 gw_150 gw_176) v_X8_fault ⟨rfl, rfl⟩ ⟨Nat.le_of_ble_eq_true rfl, Nat.le_of_ble_eq_true rfl⟩ dX5_read_31 (s_ri rfl dX5_read_34))))))))))
noncomputable def B_X5_read : List (Nat × (gb_K → gb_C)) := [(15, fun κ => k_X5_read_15 κ)]
noncomputable def K_X5_read : gb_K := gb_fx (gb_tb (B_X5_read))
theorem L_X5_read : ∀ q, gb_Li (fun κ => gb_tb (B_X5_read) κ q) := gb_tb_li (List.forall_mem_cons.mpr ⟨l_X5_read_15, (fun _ h => absurd h List.not_mem_nil)⟩)
theorem S_X5_read   : ∀ q, gb_S RX5 cX5_read 3 (gb_rm 5 114) 1 q (K_X5_read q) := fun q => gb_fx_S (L_X5_read) (gb_tb_S (List.forall_mem_cons.mpr ⟨fun κ hκ => s_X5_read_15 hκ, (fun _ h => absurd h List.not_mem_nil)⟩)) q
noncomputable def f_X5_read : gb_F := gb_hide (gb_mf 3 (k_X5_read_0 (K_X5_read)))
theorem c_X5_read : ∀ l, gb_Met l yX5_read cX5_read 3 (some .int) 1 (gb_rm 5 114) f_X5_read := gb_hide_c (gb_met (own := RX5) (rk := 1) rfl (by decide +kernel) ⟨rfl, rfl⟩ (s_X5_read_0 (S_X5_read)))
theorem dX6_signAt_0 : decode cX6_signAt 0 = .ok (.iload_n 1, 1) := by decide +kernel
theorem dX6_signAt_1 : decode cX6_signAt 1 = .ok (.ifCond .lt 20, 3) := by decide +kernel
theorem dX6_signAt_4 : decode cX6_signAt 4 = .ok (.iload_n 1, 1) := by decide +kernel
theorem dX6_signAt_5 : decode cX6_signAt 5 = .ok (.aload_n 0, 1) := by decide +kernel
theorem dX6_signAt_6 : decode cX6_signAt 6 = .ok (.getfield 15, 3) := by decide +kernel
theorem dX6_signAt_9 : decode cX6_signAt 9 = .ok (.if_icmp .ge 12, 3) := by decide +kernel
theorem dX6_signAt_12 : decode cX6_signAt 12 = .ok (.aload_n 0, 1) := by decide +kernel
theorem dX6_signAt_13 : decode cX6_signAt 13 = .ok (.getfield 11, 3) := by decide +kernel
theorem dX6_signAt_16 : decode cX6_signAt 16 = .ok (.iload_n 1, 1) := by decide +kernel
theorem dX6_signAt_17 : decode cX6_signAt 17 = .ok (.iaload, 1) := by decide +kernel
theorem dX6_signAt_18 : decode cX6_signAt 18 = .ok (.goto 4, 3) := by decide +kernel
theorem dX6_signAt_21 : decode cX6_signAt 21 = .ok (.iconst (-1), 1) := by decide +kernel
theorem dX6_signAt_22 : decode cX6_signAt 22 = .ok (.ireturn, 1) := by decide +kernel
theorem v_X6_signAt : yX6_signAt.cls = RX6 ∧ yX6_signAt.cls ≠ "java/lang/invoke/MethodHandle" ∧ yX6_signAt.cls ≠ "java/lang/invoke/VarHandle" ∧ (parseMethodDescriptor yX6_signAt.desc).map (fun d => d.parameters.length) = some 1 := ⟨rfl, by decide +kernel, by decide +kernel, by decide +kernel⟩
noncomputable def k_X6_signAt_22 (κ : gb_K) : gb_C := o_ri
theorem l_X6_signAt_22 : gb_Li (fun κ => k_X6_signAt_22 κ) := (gb_li0 _)
theorem s_X6_signAt_22   {κ : gb_K} (hκ : ∀ q, gb_S RX6 cX6_signAt 2 (gb_rm 0 0) 1 q (κ q)) : gb_S RX6 cX6_signAt 2 (gb_rm 0 0) 1 22 (k_X6_signAt_22 κ) := (s_ri rfl dX6_signAt_22)
noncomputable def k_X6_signAt_21 (κ : gb_K) : gb_C := (o_ci (-1) (k_X6_signAt_22 κ))
theorem l_X6_signAt_21 : gb_Li (fun κ => k_X6_signAt_21 κ) := (gb_li (q_ci (-1)) (l_X6_signAt_22))
theorem s_X6_signAt_21   {κ : gb_K} (hκ : ∀ q, gb_S RX6 cX6_signAt 2 (gb_rm 0 0) 1 q (κ q)) : gb_S RX6 cX6_signAt 2 (gb_rm 0 0) 1 21 (k_X6_signAt_21 κ) := (s_iconst (by decide +kernel) dX6_signAt_21 (s_X6_signAt_22 hκ))
noncomputable def k_X6_signAt_0 (κ : gb_K) : gb_C := (o_il 1 (o_zlt (k_X6_signAt_21 κ) (o_il 1 (o_al 0 (o_gf 6 1 (o_cge (k_X6_signAt_21 κ) (o_al 0 (o_gf 6 0 (o_il 1 (o_iald (k_X6_signAt_22 κ)))))))))))
theorem l_X6_signAt_0 : gb_Li (fun κ => k_X6_signAt_0 κ) := (gb_li (q_il 1) (q_zlt (l_X6_signAt_21) (gb_li (q_il 1) (gb_li (q_al 0) (gb_li (q_gf 6 1) (q_cge (l_X6_signAt_21) (gb_li (q_al 0) (gb_li (q_gf 6 0) (gb_li (q_il 1) (gb_li q_iald (l_X6_signAt_22)))))))))))
theorem s_X6_signAt_0   {κ : gb_K} (hκ : ∀ q, gb_S RX6 cX6_signAt 2 (gb_rm 0 0) 1 q (κ q)) : gb_S RX6 cX6_signAt 2 (gb_rm 0 0) 1 0 (k_X6_signAt_0 κ) := (s_iln 1 rfl dX6_signAt_0 (s_zlt (tgt := 21) (by decide +kernel) dX6_signAt_1 (s_X6_signAt_21 hκ) (s_iln 1 rfl dX6_signAt_4 (s_aln 0 rfl dX6_signAt_5 (s_gf (T := TX6) winX6 rfl (Nat.le_of_ble_eq_true rfl) gw_228 rfl dX6_signAt_6 (s_cge (tgt := 21) (by decide +kernel) dX6_signAt_9 (s_X6_signAt_21 hκ) (s_aln 0 rfl dX6_signAt_12 (s_gf (T := TX6) winX6 rfl (Nat.le_of_ble_eq_true rfl) gw_229 rfl dX6_signAt_13 (s_iln 1 rfl dX6_signAt_16 (s_iald dX6_signAt_17 (s_goto (tgt := 22) (by decide +kernel) dX6_signAt_18 (s_X6_signAt_22 hκ))))))))))))
noncomputable def f_X6_signAt : gb_F := gb_hide (gb_mf 2 (k_X6_signAt_0 gb_n))
theorem c_X6_signAt : ∀ l, gb_Met l yX6_signAt cX6_signAt 2 (some .int) 1 (gb_rm 0 0) f_X6_signAt := gb_hide_c (gb_met (own := RX6) (rk := 1) rfl (by decide +kernel) ⟨rfl, rfl⟩ (s_X6_signAt_0 gb_S_n))
theorem dX6_add_0 : decode cX6_add 0 = .ok (.aload_n 0, 1) := by decide +kernel
theorem dX6_add_1 : decode cX6_add 1 = .ok (.getfield 15, 3) := by decide +kernel
theorem dX6_add_4 : decode cX6_add 4 = .ok (.sipush 200, 3) := by decide +kernel
theorem dX6_add_7 : decode cX6_add 7 = .ok (.if_icmp .ge 23, 3) := by decide +kernel
theorem dX6_add_10 : decode cX6_add 10 = .ok (.aload_n 0, 1) := by decide +kernel
theorem dX6_add_11 : decode cX6_add 11 = .ok (.getfield 11, 3) := by decide +kernel
theorem dX6_add_14 : decode cX6_add 14 = .ok (.aload_n 0, 1) := by decide +kernel
theorem dX6_add_15 : decode cX6_add 15 = .ok (.getfield 15, 3) := by decide +kernel
theorem dX6_add_18 : decode cX6_add 18 = .ok (.iload_n 1, 1) := by decide +kernel
theorem dX6_add_19 : decode cX6_add 19 = .ok (.iastore, 1) := by decide +kernel
theorem dX6_add_20 : decode cX6_add 20 = .ok (.aload_n 0, 1) := by decide +kernel
theorem dX6_add_21 : decode cX6_add 21 = .ok (.dup, 1) := by decide +kernel
theorem dX6_add_22 : decode cX6_add 22 = .ok (.getfield 15, 3) := by decide +kernel
theorem dX6_add_25 : decode cX6_add 25 = .ok (.iconst 1, 1) := by decide +kernel
theorem dX6_add_26 : decode cX6_add 26 = .ok (.iadd, 1) := by decide +kernel
theorem dX6_add_27 : decode cX6_add 27 = .ok (.putfield 15, 3) := by decide +kernel
theorem dX6_add_30 : decode cX6_add 30 = .ok (.return_, 1) := by decide +kernel
theorem v_X6_add : yX6_add.cls = RX6 ∧ yX6_add.cls ≠ "java/lang/invoke/MethodHandle" ∧ yX6_add.cls ≠ "java/lang/invoke/VarHandle" ∧ (parseMethodDescriptor yX6_add.desc).map (fun d => d.parameters.length) = some 1 := ⟨rfl, by decide +kernel, by decide +kernel, by decide +kernel⟩
noncomputable def k_X6_add_30 (κ : gb_K) : gb_C := o_rv
theorem l_X6_add_30 : gb_Li (fun κ => k_X6_add_30 κ) := (gb_li0 _)
theorem s_X6_add_30   {κ : gb_K} (hκ : ∀ q, gb_S RX6 cX6_add 2 (gb_rm 0 0) 0 q (κ q)) : gb_S RX6 cX6_add 2 (gb_rm 0 0) 0 30 (k_X6_add_30 κ) := (s_rv rfl dX6_add_30)
noncomputable def k_X6_add_0 (κ : gb_K) : gb_C := (o_al 0 (o_gf 6 1 (o_ci 200 (o_cge (k_X6_add_30 κ) (o_al 0 (o_gf 6 0 (o_al 0 (o_gf 6 1 (o_il 1 (o_iast (o_al 0 (o_dup (o_gf 6 1 (o_ci 1 (o_ib (fun x y => x + y) (o_pf 6 1 (k_X6_add_30 κ)))))))))))))))))
theorem l_X6_add_0 : gb_Li (fun κ => k_X6_add_0 κ) := (gb_li (q_al 0) (gb_li (q_gf 6 1) (gb_li (q_ci 200) (q_cge (l_X6_add_30) (gb_li (q_al 0) (gb_li (q_gf 6 0) (gb_li (q_al 0) (gb_li (q_gf 6 1) (gb_li (q_il 1) (gb_li q_iast (gb_li (q_al 0) (gb_li q_dup (gb_li (q_gf 6 1) (gb_li (q_ci 1) (gb_li (q_ib _) (gb_li (q_pf 6 1) (l_X6_add_30)))))))))))))))))
theorem s_X6_add_0   {κ : gb_K} (hκ : ∀ q, gb_S RX6 cX6_add 2 (gb_rm 0 0) 0 q (κ q)) : gb_S RX6 cX6_add 2 (gb_rm 0 0) 0 0 (k_X6_add_0 κ) := (s_aln 0 rfl dX6_add_0 (s_gf (T := TX6) winX6 rfl (Nat.le_of_ble_eq_true rfl) gw_228 rfl dX6_add_1 (s_sipush (by decide +kernel) dX6_add_4 (s_cge (tgt := 30) (by decide +kernel) dX6_add_7 (s_X6_add_30 hκ) (s_aln 0 rfl dX6_add_10 (s_gf (T := TX6) winX6 rfl (Nat.le_of_ble_eq_true rfl) gw_229 rfl dX6_add_11 (s_aln 0 rfl dX6_add_14 (s_gf (T := TX6) winX6 rfl (Nat.le_of_ble_eq_true rfl) gw_228 rfl dX6_add_15 (s_iln 1 rfl dX6_add_18 (s_iast dX6_add_19 (s_aln 0 rfl dX6_add_20 (s_dup dX6_add_21 (s_gf (T := TX6) winX6 rfl (Nat.le_of_ble_eq_true rfl) gw_228 rfl dX6_add_22 (s_iconst (by decide +kernel) dX6_add_25 (s_iadd dX6_add_26 (s_pf (T := TX6) winX6 rfl (Nat.le_of_ble_eq_true rfl) tyX6_ok nmX6 rfl (by decide +kernel) gw_228 rfl dX6_add_27 (s_X6_add_30 hκ)))))))))))))))))
noncomputable def f_X6_add : gb_F := gb_hide (gb_mf 2 (k_X6_add_0 gb_n))
theorem c_X6_add : ∀ l, gb_Met l yX6_add cX6_add 2 none 0 (gb_rm 0 0) f_X6_add := gb_hide_c (gb_met (own := RX6) (rk := 0) rfl (by decide +kernel) ⟨rfl, rfl⟩ (s_X6_add_0 gb_S_n))
theorem dX6_writeTons_0 : decode cX6_writeTons 0 = .ok (.iload_n 1, 1) := by decide +kernel
theorem dX6_writeTons_1 : decode cX6_writeTons 1 = .ok (.bipush 10, 2) := by decide +kernel
theorem dX6_writeTons_3 : decode cX6_writeTons 3 = .ok (.if_icmp .lt 14, 3) := by decide +kernel
theorem dX6_writeTons_6 : decode cX6_writeTons 6 = .ok (.aload_n 0, 1) := by decide +kernel
theorem dX6_writeTons_7 : decode cX6_writeTons 7 = .ok (.bipush 48, 2) := by decide +kernel
theorem dX6_writeTons_9 : decode cX6_writeTons 9 = .ok (.iload_n 1, 1) := by decide +kernel
theorem dX6_writeTons_10 : decode cX6_writeTons 10 = .ok (.bipush 10, 2) := by decide +kernel
theorem dX6_writeTons_12 : decode cX6_writeTons 12 = .ok (.idiv, 1) := by decide +kernel
theorem dX6_writeTons_13 : decode cX6_writeTons 13 = .ok (.iadd, 1) := by decide +kernel
theorem dX6_writeTons_14 : decode cX6_writeTons 14 = .ok (.invokevirtual 28, 3) := by decide +kernel
theorem dX6_writeTons_17 : decode cX6_writeTons 17 = .ok (.aload_n 0, 1) := by decide +kernel
theorem dX6_writeTons_18 : decode cX6_writeTons 18 = .ok (.bipush 48, 2) := by decide +kernel
theorem dX6_writeTons_20 : decode cX6_writeTons 20 = .ok (.iload_n 1, 1) := by decide +kernel
theorem dX6_writeTons_21 : decode cX6_writeTons 21 = .ok (.bipush 10, 2) := by decide +kernel
theorem dX6_writeTons_23 : decode cX6_writeTons 23 = .ok (.irem, 1) := by decide +kernel
theorem dX6_writeTons_24 : decode cX6_writeTons 24 = .ok (.iadd, 1) := by decide +kernel
theorem dX6_writeTons_25 : decode cX6_writeTons 25 = .ok (.invokevirtual 28, 3) := by decide +kernel
theorem dX6_writeTons_28 : decode cX6_writeTons 28 = .ok (.return_, 1) := by decide +kernel
theorem v_X6_writeTons : yX6_writeTons.cls = RX6 ∧ yX6_writeTons.cls ≠ "java/lang/invoke/MethodHandle" ∧ yX6_writeTons.cls ≠ "java/lang/invoke/VarHandle" ∧ (parseMethodDescriptor yX6_writeTons.desc).map (fun d => d.parameters.length) = some 1 := ⟨rfl, by decide +kernel, by decide +kernel, by decide +kernel⟩
noncomputable def k_X6_writeTons_17 (κ : gb_K) : gb_C := (o_al 0 (o_ci 48 (o_il 1 (o_ci 10 (o_ig (fun y => !(decide (y = 0))) (fun x y => x - x / y * y) (o_ib (fun x y => x + y) (o_cv 1 6 0 f_X6_add o_rv)))))))
theorem l_X6_writeTons_17 : gb_Li (fun κ => k_X6_writeTons_17 κ) := (gb_li (q_al 0) (gb_li (q_ci 48) (gb_li (q_il 1) (gb_li (q_ci 10) (gb_li (q_ig _ _) (gb_li (q_ib _) (gb_li (q_cv 1 6 0 f_X6_add) (gb_li0 _))))))))
theorem s_X6_writeTons_17   {κ : gb_K} (hκ : ∀ q, gb_S RX6 cX6_writeTons 2 (gb_rm 1 21) 0 q (κ q)) : gb_S RX6 cX6_writeTons 2 (gb_rm 1 21) 0 17 (k_X6_writeTons_17 κ) := (s_aln 0 rfl dX6_writeTons_17 (s_bipush (by decide +kernel) dX6_writeTons_18 (s_iln 1 rfl dX6_writeTons_20 (s_bipush (by decide +kernel) dX6_writeTons_21 (s_irem dX6_writeTons_23 (s_iadd dX6_writeTons_24 (s_cv (C := RX6) c_X6_add rfl (gb_l5 gw_230 gw_231 gw_232 gw_233 gw_234) v_X6_add ⟨rfl, rfl⟩ ⟨Nat.le_of_ble_eq_true rfl, Nat.le_of_ble_eq_true rfl⟩ dX6_writeTons_25 (s_rv rfl dX6_writeTons_28))))))))
noncomputable def k_X6_writeTons_0 (κ : gb_K) : gb_C := (o_il 1 (o_ci 10 (o_clt (k_X6_writeTons_17 κ) (o_al 0 (o_ci 48 (o_il 1 (o_ci 10 (o_ig (fun y => !(decide (y = 0))) (fun x y => x / y) (o_ib (fun x y => x + y) (o_cv 1 6 0 f_X6_add (k_X6_writeTons_17 κ)))))))))))
theorem l_X6_writeTons_0 : gb_Li (fun κ => k_X6_writeTons_0 κ) := (gb_li (q_il 1) (gb_li (q_ci 10) (q_clt (l_X6_writeTons_17) (gb_li (q_al 0) (gb_li (q_ci 48) (gb_li (q_il 1) (gb_li (q_ci 10) (gb_li (q_ig _ _) (gb_li (q_ib _) (gb_li (q_cv 1 6 0 f_X6_add) (l_X6_writeTons_17)))))))))))
theorem s_X6_writeTons_0   {κ : gb_K} (hκ : ∀ q, gb_S RX6 cX6_writeTons 2 (gb_rm 1 21) 0 q (κ q)) : gb_S RX6 cX6_writeTons 2 (gb_rm 1 21) 0 0 (k_X6_writeTons_0 κ) := (s_iln 1 rfl dX6_writeTons_0 (s_bipush (by decide +kernel) dX6_writeTons_1 (s_clt (tgt := 17) (by decide +kernel) dX6_writeTons_3 (s_X6_writeTons_17 hκ) (s_aln 0 rfl dX6_writeTons_6 (s_bipush (by decide +kernel) dX6_writeTons_7 (s_iln 1 rfl dX6_writeTons_9 (s_bipush (by decide +kernel) dX6_writeTons_10 (s_idiv dX6_writeTons_12 (s_iadd dX6_writeTons_13 (s_cv (C := RX6) c_X6_add rfl (gb_l5 gw_230 gw_231 gw_232 gw_233 gw_234) v_X6_add ⟨rfl, rfl⟩ ⟨Nat.le_of_ble_eq_true rfl, Nat.le_of_ble_eq_true rfl⟩ dX6_writeTons_14 (s_X6_writeTons_17 hκ)))))))))))
noncomputable def f_X6_writeTons : gb_F := gb_hide (gb_mf 2 (k_X6_writeTons_0 gb_n))
theorem c_X6_writeTons : ∀ l, gb_Met l yX6_writeTons cX6_writeTons 2 none 0 (gb_rm 1 21) f_X6_writeTons := gb_hide_c (gb_met (own := RX6) (rk := 0) rfl (by decide +kernel) ⟨rfl, rfl⟩ (s_X6_writeTons_0 gb_S_n))
theorem dX6_writeBin_0 : decode cX6_writeBin 0 = .ok (.aload_n 0, 1) := by decide +kernel
theorem dX6_writeBin_1 : decode cX6_writeBin 1 = .ok (.getfield 15, 3) := by decide +kernel
theorem dX6_writeBin_4 : decode cX6_writeBin 4 = .ok (.ifCond .le 9, 3) := by decide +kernel
theorem dX6_writeBin_7 : decode cX6_writeBin 7 = .ok (.aload_n 0, 1) := by decide +kernel
theorem dX6_writeBin_8 : decode cX6_writeBin 8 = .ok (.bipush 59, 2) := by decide +kernel
theorem dX6_writeBin_10 : decode cX6_writeBin 10 = .ok (.invokevirtual 28, 3) := by decide +kernel
theorem dX6_writeBin_13 : decode cX6_writeBin 13 = .ok (.aload_n 0, 1) := by decide +kernel
theorem dX6_writeBin_14 : decode cX6_writeBin 14 = .ok (.bipush 48, 2) := by decide +kernel
theorem dX6_writeBin_16 : decode cX6_writeBin 16 = .ok (.iload_n 2, 1) := by decide +kernel
theorem dX6_writeBin_17 : decode cX6_writeBin 17 = .ok (.iadd, 1) := by decide +kernel
theorem dX6_writeBin_18 : decode cX6_writeBin 18 = .ok (.invokevirtual 28, 3) := by decide +kernel
theorem dX6_writeBin_21 : decode cX6_writeBin 21 = .ok (.aload_n 0, 1) := by decide +kernel
theorem dX6_writeBin_22 : decode cX6_writeBin 22 = .ok (.bipush 58, 2) := by decide +kernel
theorem dX6_writeBin_24 : decode cX6_writeBin 24 = .ok (.invokevirtual 28, 3) := by decide +kernel
theorem dX6_writeBin_27 : decode cX6_writeBin 27 = .ok (.iconst 0, 1) := by decide +kernel
theorem dX6_writeBin_28 : decode cX6_writeBin 28 = .ok (.istore_n 3, 1) := by decide +kernel
theorem dX6_writeBin_29 : decode cX6_writeBin 29 = .ok (.iload_n 3, 1) := by decide +kernel
theorem dX6_writeBin_30 : decode cX6_writeBin 30 = .ok (.aload_n 1, 1) := by decide +kernel
theorem dX6_writeBin_31 : decode cX6_writeBin 31 = .ok (.getfield 19, 3) := by decide +kernel
theorem dX6_writeBin_34 : decode cX6_writeBin 34 = .ok (.iload_n 2, 1) := by decide +kernel
theorem dX6_writeBin_35 : decode cX6_writeBin 35 = .ok (.iaload, 1) := by decide +kernel
theorem dX6_writeBin_36 : decode cX6_writeBin 36 = .ok (.if_icmp .ge 57, 3) := by decide +kernel
theorem dX6_writeBin_39 : decode cX6_writeBin 39 = .ok (.iload_n 3, 1) := by decide +kernel
theorem dX6_writeBin_40 : decode cX6_writeBin 40 = .ok (.ifCond .le 9, 3) := by decide +kernel
theorem dX6_writeBin_43 : decode cX6_writeBin 43 = .ok (.aload_n 0, 1) := by decide +kernel
theorem dX6_writeBin_44 : decode cX6_writeBin 44 = .ok (.bipush 44, 2) := by decide +kernel
theorem dX6_writeBin_46 : decode cX6_writeBin 46 = .ok (.invokevirtual 28, 3) := by decide +kernel
theorem dX6_writeBin_49 : decode cX6_writeBin 49 = .ok (.iload_n 2, 1) := by decide +kernel
theorem dX6_writeBin_50 : decode cX6_writeBin 50 = .ok (.iload_n 3, 1) := by decide +kernel
theorem dX6_writeBin_51 : decode cX6_writeBin 51 = .ok (.invokestatic 32, 3) := by decide +kernel
theorem dX6_writeBin_54 : decode cX6_writeBin 54 = .ok (.istore 4, 2) := by decide +kernel
theorem dX6_writeBin_56 : decode cX6_writeBin 56 = .ok (.aload_n 0, 1) := by decide +kernel
theorem dX6_writeBin_57 : decode cX6_writeBin 57 = .ok (.bipush 48, 2) := by decide +kernel
theorem dX6_writeBin_59 : decode cX6_writeBin 59 = .ok (.aload_n 1, 1) := by decide +kernel
theorem dX6_writeBin_60 : decode cX6_writeBin 60 = .ok (.getfield 36, 3) := by decide +kernel
theorem dX6_writeBin_63 : decode cX6_writeBin 63 = .ok (.iload 4, 2) := by decide +kernel
theorem dX6_writeBin_65 : decode cX6_writeBin 65 = .ok (.iaload, 1) := by decide +kernel
theorem dX6_writeBin_66 : decode cX6_writeBin 66 = .ok (.iadd, 1) := by decide +kernel
theorem dX6_writeBin_67 : decode cX6_writeBin 67 = .ok (.invokevirtual 28, 3) := by decide +kernel
theorem dX6_writeBin_70 : decode cX6_writeBin 70 = .ok (.aload_n 0, 1) := by decide +kernel
theorem dX6_writeBin_71 : decode cX6_writeBin 71 = .ok (.bipush 120, 2) := by decide +kernel
theorem dX6_writeBin_73 : decode cX6_writeBin 73 = .ok (.invokevirtual 28, 3) := by decide +kernel
theorem dX6_writeBin_76 : decode cX6_writeBin 76 = .ok (.aload_n 0, 1) := by decide +kernel
theorem dX6_writeBin_77 : decode cX6_writeBin 77 = .ok (.aload_n 1, 1) := by decide +kernel
theorem dX6_writeBin_78 : decode cX6_writeBin 78 = .ok (.getfield 39, 3) := by decide +kernel
theorem dX6_writeBin_81 : decode cX6_writeBin 81 = .ok (.iload 4, 2) := by decide +kernel
theorem dX6_writeBin_83 : decode cX6_writeBin 83 = .ok (.iaload, 1) := by decide +kernel
theorem dX6_writeBin_84 : decode cX6_writeBin 84 = .ok (.invokevirtual 42, 3) := by decide +kernel
theorem dX6_writeBin_87 : decode cX6_writeBin 87 = .ok (.iinc 3 1, 3) := by decide +kernel
theorem dX6_writeBin_90 : decode cX6_writeBin 90 = .ok (.goto (-61), 3) := by decide +kernel
theorem dX6_writeBin_93 : decode cX6_writeBin 93 = .ok (.return_, 1) := by decide +kernel
theorem v_X6_writeBin : yX6_writeBin.cls = RX6 ∧ yX6_writeBin.cls ≠ "java/lang/invoke/MethodHandle" ∧ yX6_writeBin.cls ≠ "java/lang/invoke/VarHandle" ∧ (parseMethodDescriptor yX6_writeBin.desc).map (fun d => d.parameters.length) = some 2 := ⟨rfl, by decide +kernel, by decide +kernel, by decide +kernel⟩
noncomputable def k_X6_writeBin_13 (κ : gb_K) : gb_C := (o_al 0 (o_ci 48 (o_il 2 (o_ib (fun x y => x + y) (o_cv 1 6 0 f_X6_add (o_al 0 (o_ci 58 (o_cv 1 6 0 f_X6_add (o_ci 0 (o_is 3 (o_j [0, 1, 2, 3] (κ 29))))))))))))
theorem l_X6_writeBin_13 : gb_Li (fun κ => k_X6_writeBin_13 κ) := (gb_li (q_al 0) (gb_li (q_ci 48) (gb_li (q_il 2) (gb_li (q_ib _) (gb_li (q_cv 1 6 0 f_X6_add) (gb_li (q_al 0) (gb_li (q_ci 58) (gb_li (q_cv 1 6 0 f_X6_add) (gb_li (q_ci 0) (gb_li (q_is 3) (q_j [0, 1, 2, 3] 29)))))))))))
theorem s_X6_writeBin_13   {κ : gb_K} (hκ : ∀ q, gb_S RX6 cX6_writeBin 5 (gb_rm 2 42) 0 q (κ q)) : gb_S RX6 cX6_writeBin 5 (gb_rm 2 42) 0 13 (k_X6_writeBin_13 κ) := (s_aln 0 rfl dX6_writeBin_13 (s_bipush (by decide +kernel) dX6_writeBin_14 (s_iln 2 rfl dX6_writeBin_16 (s_iadd dX6_writeBin_17 (s_cv (C := RX6) c_X6_add rfl (gb_l5 gw_230 gw_231 gw_232 gw_233 gw_234) v_X6_add ⟨rfl, rfl⟩ ⟨Nat.le_of_ble_eq_true rfl, Nat.le_of_ble_eq_true rfl⟩ dX6_writeBin_18 (s_aln 0 rfl dX6_writeBin_21 (s_bipush (by decide +kernel) dX6_writeBin_22 (s_cv (C := RX6) c_X6_add rfl (gb_l5 gw_230 gw_231 gw_232 gw_233 gw_234) v_X6_add ⟨rfl, rfl⟩ ⟨Nat.le_of_ble_eq_true rfl, Nat.le_of_ble_eq_true rfl⟩ dX6_writeBin_24 (s_iconst (by decide +kernel) dX6_writeBin_27 (s_isn 3 rfl (Nat.le_of_ble_eq_true rfl) dX6_writeBin_28 (s_j (hκ 29))))))))))))
noncomputable def k_X6_writeBin_0 (κ : gb_K) : gb_C := (o_al 0 (o_gf 6 1 (o_zle (k_X6_writeBin_13 κ) (o_al 0 (o_ci 59 (o_cv 1 6 0 f_X6_add (k_X6_writeBin_13 κ)))))))
theorem l_X6_writeBin_0 : gb_Li (fun κ => k_X6_writeBin_0 κ) := (gb_li (q_al 0) (gb_li (q_gf 6 1) (q_zle (l_X6_writeBin_13) (gb_li (q_al 0) (gb_li (q_ci 59) (gb_li (q_cv 1 6 0 f_X6_add) (l_X6_writeBin_13)))))))
theorem s_X6_writeBin_0   {κ : gb_K} (hκ : ∀ q, gb_S RX6 cX6_writeBin 5 (gb_rm 2 42) 0 q (κ q)) : gb_S RX6 cX6_writeBin 5 (gb_rm 2 42) 0 0 (k_X6_writeBin_0 κ) := (s_aln 0 rfl dX6_writeBin_0 (s_gf (T := TX6) winX6 rfl (Nat.le_of_ble_eq_true rfl) gw_228 rfl dX6_writeBin_1 (s_zle (tgt := 13) (by decide +kernel) dX6_writeBin_4 (s_X6_writeBin_13 hκ) (s_aln 0 rfl dX6_writeBin_7 (s_bipush (by decide +kernel) dX6_writeBin_8 (s_cv (C := RX6) c_X6_add rfl (gb_l5 gw_230 gw_231 gw_232 gw_233 gw_234) v_X6_add ⟨rfl, rfl⟩ ⟨Nat.le_of_ble_eq_true rfl, Nat.le_of_ble_eq_true rfl⟩ dX6_writeBin_10 (s_X6_writeBin_13 hκ)))))))
noncomputable def k_X6_writeBin_49 (κ : gb_K) : gb_C := (o_il 2 (o_il 3 (o_cs 2 1 f_X7_place (o_is 4 (o_al 0 (o_ci 48 (o_al 1 (o_gf 7 5 (o_il 4 (o_iald (o_ib (fun x y => x + y) (o_cv 1 6 0 f_X6_add (o_al 0 (o_ci 120 (o_cv 1 6 0 f_X6_add (o_al 0 (o_al 1 (o_gf 7 6 (o_il 4 (o_iald (o_cv 1 6 0 f_X6_writeTons (o_inc 3 1 (o_j [0, 1, 2, 3] (κ 29))))))))))))))))))))))))
theorem l_X6_writeBin_49 : gb_Li (fun κ => k_X6_writeBin_49 κ) := (gb_li (q_il 2) (gb_li (q_il 3) (gb_li (q_cs 2 1 f_X7_place) (gb_li (q_is 4) (gb_li (q_al 0) (gb_li (q_ci 48) (gb_li (q_al 1) (gb_li (q_gf 7 5) (gb_li (q_il 4) (gb_li q_iald (gb_li (q_ib _) (gb_li (q_cv 1 6 0 f_X6_add) (gb_li (q_al 0) (gb_li (q_ci 120) (gb_li (q_cv 1 6 0 f_X6_add) (gb_li (q_al 0) (gb_li (q_al 1) (gb_li (q_gf 7 6) (gb_li (q_il 4) (gb_li q_iald (gb_li (q_cv 1 6 0 f_X6_writeTons) (gb_li (q_inc 3 1) (q_j [0, 1, 2, 3] 29)))))))))))))))))))))))
theorem s_X6_writeBin_49   {κ : gb_K} (hκ : ∀ q, gb_S RX6 cX6_writeBin 5 (gb_rm 2 42) 0 q (κ q)) : gb_S RX6 cX6_writeBin 5 (gb_rm 2 42) 0 49 (k_X6_writeBin_49 κ) := (s_iln 2 rfl dX6_writeBin_49 (s_iln 3 rfl dX6_writeBin_50 (s_cs c_X7_place (gb_l4 gw_235 gw_23 gw_11 gw_24) v_X7_place.2 ⟨rfl, rfl⟩ ⟨Nat.le_of_ble_eq_true rfl, Nat.le_of_ble_eq_true rfl⟩ dX6_writeBin_51 (s_is (Nat.le_of_ble_eq_true rfl) dX6_writeBin_54 (s_aln 0 rfl dX6_writeBin_56 (s_bipush (by decide +kernel) dX6_writeBin_57 (s_aln 1 rfl dX6_writeBin_59 (s_gf (T := TX7) winX7 rfl (Nat.le_of_ble_eq_true rfl) gw_236 rfl dX6_writeBin_60 (s_il dX6_writeBin_63 (s_iald dX6_writeBin_65 (s_iadd dX6_writeBin_66 (s_cv (C := RX6) c_X6_add rfl (gb_l5 gw_230 gw_231 gw_232 gw_233 gw_234) v_X6_add ⟨rfl, rfl⟩ ⟨Nat.le_of_ble_eq_true rfl, Nat.le_of_ble_eq_true rfl⟩ dX6_writeBin_67 (s_aln 0 rfl dX6_writeBin_70 (s_bipush (by decide +kernel) dX6_writeBin_71 (s_cv (C := RX6) c_X6_add rfl (gb_l5 gw_230 gw_231 gw_232 gw_233 gw_234) v_X6_add ⟨rfl, rfl⟩ ⟨Nat.le_of_ble_eq_true rfl, Nat.le_of_ble_eq_true rfl⟩ dX6_writeBin_73 (s_aln 0 rfl dX6_writeBin_76 (s_aln 1 rfl dX6_writeBin_77 (s_gf (T := TX7) winX7 rfl (Nat.le_of_ble_eq_true rfl) gw_237 rfl dX6_writeBin_78 (s_il dX6_writeBin_81 (s_iald dX6_writeBin_83 (s_cv (C := RX6) c_X6_writeTons rfl (gb_l5 gw_238 gw_239 gw_240 gw_233 gw_241) v_X6_writeTons ⟨rfl, rfl⟩ ⟨Nat.le_of_ble_eq_true rfl, Nat.le_of_ble_eq_true rfl⟩ dX6_writeBin_84 (s_inc (by decide +kernel) (Nat.le_of_ble_eq_true rfl) dX6_writeBin_87 (s_goto (tgt := 29) (by decide +kernel) dX6_writeBin_90 (s_j (hκ 29)))))))))))))))))))))))))
noncomputable def k_X6_writeBin_29 (κ : gb_K) : gb_C := (o_il 3 (o_al 1 (o_gf 7 3 (o_il 2 (o_iald (o_cge o_rv (o_il 3 (o_zle (k_X6_writeBin_49 κ) (o_al 0 (o_ci 44 (o_cv 1 6 0 f_X6_add (k_X6_writeBin_49 κ))))))))))))
theorem l_X6_writeBin_29 : gb_Li (fun κ => k_X6_writeBin_29 κ) := (gb_li (q_il 3) (gb_li (q_al 1) (gb_li (q_gf 7 3) (gb_li (q_il 2) (gb_li q_iald (q_cge (gb_li0 _) (gb_li (q_il 3) (q_zle (l_X6_writeBin_49) (gb_li (q_al 0) (gb_li (q_ci 44) (gb_li (q_cv 1 6 0 f_X6_add) (l_X6_writeBin_49))))))))))))
theorem s_X6_writeBin_29   {κ : gb_K} (hκ : ∀ q, gb_S RX6 cX6_writeBin 5 (gb_rm 2 42) 0 q (κ q)) : gb_S RX6 cX6_writeBin 5 (gb_rm 2 42) 0 29 (k_X6_writeBin_29 κ) := (s_iln 3 rfl dX6_writeBin_29 (s_aln 1 rfl dX6_writeBin_30 (s_gf (T := TX7) winX7 rfl (Nat.le_of_ble_eq_true rfl) gw_242 rfl dX6_writeBin_31 (s_iln 2 rfl dX6_writeBin_34 (s_iald dX6_writeBin_35 (s_cge (tgt := 93) (by decide +kernel) dX6_writeBin_36 (s_rv rfl dX6_writeBin_93) (s_iln 3 rfl dX6_writeBin_39 (s_zle (tgt := 49) (by decide +kernel) dX6_writeBin_40 (s_X6_writeBin_49 hκ) (s_aln 0 rfl dX6_writeBin_43 (s_bipush (by decide +kernel) dX6_writeBin_44 (s_cv (C := RX6) c_X6_add rfl (gb_l5 gw_230 gw_231 gw_232 gw_233 gw_234) v_X6_add ⟨rfl, rfl⟩ ⟨Nat.le_of_ble_eq_true rfl, Nat.le_of_ble_eq_true rfl⟩ dX6_writeBin_46 (s_X6_writeBin_49 hκ))))))))))))
noncomputable def B_X6_writeBin : List (Nat × (gb_K → gb_C)) := [(29, fun κ => k_X6_writeBin_29 κ)]
noncomputable def K_X6_writeBin : gb_K := gb_fx (gb_tb (B_X6_writeBin))
theorem L_X6_writeBin : ∀ q, gb_Li (fun κ => gb_tb (B_X6_writeBin) κ q) := gb_tb_li (List.forall_mem_cons.mpr ⟨l_X6_writeBin_29, (fun _ h => absurd h List.not_mem_nil)⟩)
theorem S_X6_writeBin   : ∀ q, gb_S RX6 cX6_writeBin 5 (gb_rm 2 42) 0 q (K_X6_writeBin q) := fun q => gb_fx_S (L_X6_writeBin) (gb_tb_S (List.forall_mem_cons.mpr ⟨fun κ hκ => s_X6_writeBin_29 hκ, (fun _ h => absurd h List.not_mem_nil)⟩)) q
noncomputable def f_X6_writeBin : gb_F := gb_hide (gb_mf 5 (k_X6_writeBin_0 (K_X6_writeBin)))
theorem c_X6_writeBin : ∀ l, gb_Met l yX6_writeBin cX6_writeBin 5 none 0 (gb_rm 2 42) f_X6_writeBin := gb_hide_c (gb_met (own := RX6) (rk := 0) rfl (by decide +kernel) ⟨rfl, rfl⟩ (s_X6_writeBin_0 (S_X6_writeBin)))
theorem dX6_write_0 : decode cX6_write 0 = .ok (.aload_n 0, 1) := by decide +kernel
theorem dX6_write_1 : decode cX6_write 1 = .ok (.iconst 0, 1) := by decide +kernel
theorem dX6_write_2 : decode cX6_write 2 = .ok (.putfield 15, 3) := by decide +kernel
theorem dX6_write_5 : decode cX6_write 5 = .ok (.iconst 0, 1) := by decide +kernel
theorem dX6_write_6 : decode cX6_write 6 = .ok (.istore_n 2, 1) := by decide +kernel
theorem dX6_write_7 : decode cX6_write 7 = .ok (.iload_n 2, 1) := by decide +kernel
theorem dX6_write_8 : decode cX6_write 8 = .ok (.bipush 6, 2) := by decide +kernel
theorem dX6_write_10 : decode cX6_write 10 = .ok (.if_icmp .ge 24, 3) := by decide +kernel
theorem dX6_write_13 : decode cX6_write 13 = .ok (.aload_n 1, 1) := by decide +kernel
theorem dX6_write_14 : decode cX6_write 14 = .ok (.getfield 19, 3) := by decide +kernel
theorem dX6_write_17 : decode cX6_write 17 = .ok (.iload_n 2, 1) := by decide +kernel
theorem dX6_write_18 : decode cX6_write 18 = .ok (.iaload, 1) := by decide +kernel
theorem dX6_write_19 : decode cX6_write 19 = .ok (.ifCond .le 9, 3) := by decide +kernel
theorem dX6_write_22 : decode cX6_write 22 = .ok (.aload_n 0, 1) := by decide +kernel
theorem dX6_write_23 : decode cX6_write 23 = .ok (.aload_n 1, 1) := by decide +kernel
theorem dX6_write_24 : decode cX6_write 24 = .ok (.iload_n 2, 1) := by decide +kernel
theorem dX6_write_25 : decode cX6_write 25 = .ok (.invokevirtual 24, 3) := by decide +kernel
theorem dX6_write_28 : decode cX6_write 28 = .ok (.iinc 2 1, 3) := by decide +kernel
theorem dX6_write_31 : decode cX6_write 31 = .ok (.goto (-24), 3) := by decide +kernel
theorem dX6_write_34 : decode cX6_write 34 = .ok (.return_, 1) := by decide +kernel
theorem v_X6_write : yX6_write.cls = RX6 ∧ yX6_write.cls ≠ "java/lang/invoke/MethodHandle" ∧ yX6_write.cls ≠ "java/lang/invoke/VarHandle" ∧ (parseMethodDescriptor yX6_write.desc).map (fun d => d.parameters.length) = some 1 := ⟨rfl, by decide +kernel, by decide +kernel, by decide +kernel⟩
noncomputable def k_X6_write_0 (κ : gb_K) : gb_C := (o_al 0 (o_ci 0 (o_pf 6 1 (o_ci 0 (o_is 2 (o_j [0, 1, 2] (κ 7)))))))
theorem l_X6_write_0 : gb_Li (fun κ => k_X6_write_0 κ) := (gb_li (q_al 0) (gb_li (q_ci 0) (gb_li (q_pf 6 1) (gb_li (q_ci 0) (gb_li (q_is 2) (q_j [0, 1, 2] 7))))))
theorem s_X6_write_0   {κ : gb_K} (hκ : ∀ q, gb_S RX6 cX6_write 3 (gb_rm 3 66) 0 q (κ q)) : gb_S RX6 cX6_write 3 (gb_rm 3 66) 0 0 (k_X6_write_0 κ) := (s_aln 0 rfl dX6_write_0 (s_iconst (by decide +kernel) dX6_write_1 (s_pf (T := TX6) winX6 rfl (Nat.le_of_ble_eq_true rfl) tyX6_ok nmX6 rfl (by decide +kernel) gw_228 rfl dX6_write_2 (s_iconst (by decide +kernel) dX6_write_5 (s_isn 2 rfl (Nat.le_of_ble_eq_true rfl) dX6_write_6 (s_j (hκ 7)))))))
noncomputable def k_X6_write_28 (κ : gb_K) : gb_C := (o_inc 2 1 (o_j [0, 1, 2] (κ 7)))
theorem l_X6_write_28 : gb_Li (fun κ => k_X6_write_28 κ) := (gb_li (q_inc 2 1) (q_j [0, 1, 2] 7))
theorem s_X6_write_28   {κ : gb_K} (hκ : ∀ q, gb_S RX6 cX6_write 3 (gb_rm 3 66) 0 q (κ q)) : gb_S RX6 cX6_write 3 (gb_rm 3 66) 0 28 (k_X6_write_28 κ) := (s_inc (by decide +kernel) (Nat.le_of_ble_eq_true rfl) dX6_write_28 (s_goto (tgt := 7) (by decide +kernel) dX6_write_31 (s_j (hκ 7))))
noncomputable def k_X6_write_7 (κ : gb_K) : gb_C := (o_il 2 (o_ci 6 (o_cge o_rv (o_al 1 (o_gf 7 3 (o_il 2 (o_iald (o_zle (k_X6_write_28 κ) (o_al 0 (o_al 1 (o_il 2 (o_cv 2 6 0 f_X6_writeBin (k_X6_write_28 κ)))))))))))))
theorem l_X6_write_7 : gb_Li (fun κ => k_X6_write_7 κ) := (gb_li (q_il 2) (gb_li (q_ci 6) (q_cge (gb_li0 _) (gb_li (q_al 1) (gb_li (q_gf 7 3) (gb_li (q_il 2) (gb_li q_iald (q_zle (l_X6_write_28) (gb_li (q_al 0) (gb_li (q_al 1) (gb_li (q_il 2) (gb_li (q_cv 2 6 0 f_X6_writeBin) (l_X6_write_28)))))))))))))
theorem s_X6_write_7   {κ : gb_K} (hκ : ∀ q, gb_S RX6 cX6_write 3 (gb_rm 3 66) 0 q (κ q)) : gb_S RX6 cX6_write 3 (gb_rm 3 66) 0 7 (k_X6_write_7 κ) := (s_iln 2 rfl dX6_write_7 (s_bipush (by decide +kernel) dX6_write_8 (s_cge (tgt := 34) (by decide +kernel) dX6_write_10 (s_rv rfl dX6_write_34) (s_aln 1 rfl dX6_write_13 (s_gf (T := TX7) winX7 rfl (Nat.le_of_ble_eq_true rfl) gw_242 rfl dX6_write_14 (s_iln 2 rfl dX6_write_17 (s_iald dX6_write_18 (s_zle (tgt := 28) (by decide +kernel) dX6_write_19 (s_X6_write_28 hκ) (s_aln 0 rfl dX6_write_22 (s_aln 1 rfl dX6_write_23 (s_iln 2 rfl dX6_write_24 (s_cv (C := RX6) c_X6_writeBin rfl (gb_l5 gw_243 gw_244 gw_245 gw_233 gw_246) v_X6_writeBin ⟨rfl, rfl⟩ ⟨Nat.le_of_ble_eq_true rfl, Nat.le_of_ble_eq_true rfl⟩ dX6_write_25 (s_X6_write_28 hκ)))))))))))))
noncomputable def B_X6_write : List (Nat × (gb_K → gb_C)) := [(7, fun κ => k_X6_write_7 κ)]
noncomputable def K_X6_write : gb_K := gb_fx (gb_tb (B_X6_write))
theorem L_X6_write : ∀ q, gb_Li (fun κ => gb_tb (B_X6_write) κ q) := gb_tb_li (List.forall_mem_cons.mpr ⟨l_X6_write_7, (fun _ h => absurd h List.not_mem_nil)⟩)
theorem S_X6_write   : ∀ q, gb_S RX6 cX6_write 3 (gb_rm 3 66) 0 q (K_X6_write q) := fun q => gb_fx_S (L_X6_write) (gb_tb_S (List.forall_mem_cons.mpr ⟨fun κ hκ => s_X6_write_7 hκ, (fun _ h => absurd h List.not_mem_nil)⟩)) q
noncomputable def f_X6_write : gb_F := gb_hide (gb_mf 3 (k_X6_write_0 (K_X6_write)))
theorem c_X6_write : ∀ l, gb_Met l yX6_write cX6_write 3 none 0 (gb_rm 3 66) f_X6_write := gb_hide_c (gb_met (own := RX6) (rk := 0) rfl (by decide +kernel) ⟨rfl, rfl⟩ (s_X6_write_0 (S_X6_write)))
theorem dX7_clear_0 : decode cX7_clear 0 = .ok (.iconst 0, 1) := by decide +kernel
theorem dX7_clear_1 : decode cX7_clear 1 = .ok (.istore_n 1, 1) := by decide +kernel
theorem dX7_clear_2 : decode cX7_clear 2 = .ok (.iload_n 1, 1) := by decide +kernel
theorem dX7_clear_3 : decode cX7_clear 3 = .ok (.bipush 6, 2) := by decide +kernel
theorem dX7_clear_5 : decode cX7_clear 5 = .ok (.if_icmp .ge 24, 3) := by decide +kernel
theorem dX7_clear_8 : decode cX7_clear 8 = .ok (.aload_n 0, 1) := by decide +kernel
theorem dX7_clear_9 : decode cX7_clear 9 = .ok (.getfield 9, 3) := by decide +kernel
theorem dX7_clear_12 : decode cX7_clear 12 = .ok (.iload_n 1, 1) := by decide +kernel
theorem dX7_clear_13 : decode cX7_clear 13 = .ok (.aload_n 0, 1) := by decide +kernel
theorem dX7_clear_14 : decode cX7_clear 14 = .ok (.getfield 36, 3) := by decide +kernel
theorem dX7_clear_17 : decode cX7_clear 17 = .ok (.getfield 55, 3) := by decide +kernel
theorem dX7_clear_20 : decode cX7_clear 20 = .ok (.iload_n 1, 1) := by decide +kernel
theorem dX7_clear_21 : decode cX7_clear 21 = .ok (.iaload, 1) := by decide +kernel
theorem dX7_clear_22 : decode cX7_clear 22 = .ok (.iastore, 1) := by decide +kernel
theorem dX7_clear_23 : decode cX7_clear 23 = .ok (.iinc 1 1, 3) := by decide +kernel
theorem dX7_clear_26 : decode cX7_clear 26 = .ok (.goto (-24), 3) := by decide +kernel
theorem dX7_clear_29 : decode cX7_clear 29 = .ok (.iconst 0, 1) := by decide +kernel
theorem dX7_clear_30 : decode cX7_clear 30 = .ok (.istore_n 1, 1) := by decide +kernel
theorem dX7_clear_31 : decode cX7_clear 31 = .ok (.iload_n 1, 1) := by decide +kernel
theorem dX7_clear_32 : decode cX7_clear 32 = .ok (.bipush 6, 2) := by decide +kernel
theorem dX7_clear_34 : decode cX7_clear 34 = .ok (.if_icmp .ge 30, 3) := by decide +kernel
theorem dX7_clear_37 : decode cX7_clear 37 = .ok (.aload_n 0, 1) := by decide +kernel
theorem dX7_clear_38 : decode cX7_clear 38 = .ok (.getfield 15, 3) := by decide +kernel
theorem dX7_clear_41 : decode cX7_clear 41 = .ok (.iload_n 1, 1) := by decide +kernel
theorem dX7_clear_42 : decode cX7_clear 42 = .ok (.iconst 0, 1) := by decide +kernel
theorem dX7_clear_43 : decode cX7_clear 43 = .ok (.iastore, 1) := by decide +kernel
theorem dX7_clear_44 : decode cX7_clear 44 = .ok (.aload_n 0, 1) := by decide +kernel
theorem dX7_clear_45 : decode cX7_clear 45 = .ok (.getfield 18, 3) := by decide +kernel
theorem dX7_clear_48 : decode cX7_clear 48 = .ok (.iload_n 1, 1) := by decide +kernel
theorem dX7_clear_49 : decode cX7_clear 49 = .ok (.iconst 0, 1) := by decide +kernel
theorem dX7_clear_50 : decode cX7_clear 50 = .ok (.iastore, 1) := by decide +kernel
theorem dX7_clear_51 : decode cX7_clear 51 = .ok (.aload_n 0, 1) := by decide +kernel
theorem dX7_clear_52 : decode cX7_clear 52 = .ok (.getfield 21, 3) := by decide +kernel
theorem dX7_clear_55 : decode cX7_clear 55 = .ok (.iload_n 1, 1) := by decide +kernel
theorem dX7_clear_56 : decode cX7_clear 56 = .ok (.iconst 0, 1) := by decide +kernel
theorem dX7_clear_57 : decode cX7_clear 57 = .ok (.iastore, 1) := by decide +kernel
theorem dX7_clear_58 : decode cX7_clear 58 = .ok (.iinc 1 1, 3) := by decide +kernel
theorem dX7_clear_61 : decode cX7_clear 61 = .ok (.goto (-30), 3) := by decide +kernel
theorem dX7_clear_64 : decode cX7_clear 64 = .ok (.iconst 0, 1) := by decide +kernel
theorem dX7_clear_65 : decode cX7_clear 65 = .ok (.istore_n 1, 1) := by decide +kernel
theorem dX7_clear_66 : decode cX7_clear 66 = .ok (.iload_n 1, 1) := by decide +kernel
theorem dX7_clear_67 : decode cX7_clear 67 = .ok (.bipush 36, 2) := by decide +kernel
theorem dX7_clear_69 : decode cX7_clear 69 = .ok (.if_icmp .ge 16, 3) := by decide +kernel
theorem dX7_clear_72 : decode cX7_clear 72 = .ok (.aload_n 0, 1) := by decide +kernel
theorem dX7_clear_73 : decode cX7_clear 73 = .ok (.getfield 33, 3) := by decide +kernel
theorem dX7_clear_76 : decode cX7_clear 76 = .ok (.iload_n 1, 1) := by decide +kernel
theorem dX7_clear_77 : decode cX7_clear 77 = .ok (.iconst 0, 1) := by decide +kernel
theorem dX7_clear_78 : decode cX7_clear 78 = .ok (.iastore, 1) := by decide +kernel
theorem dX7_clear_79 : decode cX7_clear 79 = .ok (.iinc 1 1, 3) := by decide +kernel
theorem dX7_clear_82 : decode cX7_clear 82 = .ok (.goto (-16), 3) := by decide +kernel
theorem dX7_clear_85 : decode cX7_clear 85 = .ok (.aload_n 0, 1) := by decide +kernel
theorem dX7_clear_86 : decode cX7_clear 86 = .ok (.iconst 0, 1) := by decide +kernel
theorem dX7_clear_87 : decode cX7_clear 87 = .ok (.putfield 44, 3) := by decide +kernel
theorem dX7_clear_90 : decode cX7_clear 90 = .ok (.aload_n 0, 1) := by decide +kernel
theorem dX7_clear_91 : decode cX7_clear 91 = .ok (.iconst 0, 1) := by decide +kernel
theorem dX7_clear_92 : decode cX7_clear 92 = .ok (.putfield 48, 3) := by decide +kernel
theorem dX7_clear_95 : decode cX7_clear 95 = .ok (.return_, 1) := by decide +kernel
theorem v_X7_clear : yX7_clear.cls = RX7 ∧ yX7_clear.cls ≠ "java/lang/invoke/MethodHandle" ∧ yX7_clear.cls ≠ "java/lang/invoke/VarHandle" ∧ (parseMethodDescriptor yX7_clear.desc).map (fun d => d.parameters.length) = some 0 := ⟨rfl, by decide +kernel, by decide +kernel, by decide +kernel⟩
noncomputable def k_X7_clear_0 (κ : gb_K) : gb_C := (o_ci 0 (o_is 1 (o_j [0, 1] (κ 2))))
theorem l_X7_clear_0 : gb_Li (fun κ => k_X7_clear_0 κ) := (gb_li (q_ci 0) (gb_li (q_is 1) (q_j [0, 1] 2)))
theorem s_X7_clear_0   {κ : gb_K} (hκ : ∀ q, gb_S RX7 cX7_clear 2 (gb_rm 0 0) 0 q (κ q)) : gb_S RX7 cX7_clear 2 (gb_rm 0 0) 0 0 (k_X7_clear_0 κ) := (s_iconst (by decide +kernel) dX7_clear_0 (s_isn 1 rfl (Nat.le_of_ble_eq_true rfl) dX7_clear_1 (s_j (hκ 2))))
noncomputable def k_X7_clear_2 (κ : gb_K) : gb_C := (o_il 1 (o_ci 6 (o_cge (o_ci 0 (o_is 1 (o_j [0, 1] (κ 31)))) (o_al 0 (o_gf 7 1 (o_il 1 (o_al 0 (o_gf 7 0 (o_gf 5 0 (o_il 1 (o_iald (o_iast (o_inc 1 1 (o_j [0, 1] (κ 2)))))))))))))))
theorem l_X7_clear_2 : gb_Li (fun κ => k_X7_clear_2 κ) := (gb_li (q_il 1) (gb_li (q_ci 6) (q_cge (gb_li (q_ci 0) (gb_li (q_is 1) (q_j [0, 1] 31))) (gb_li (q_al 0) (gb_li (q_gf 7 1) (gb_li (q_il 1) (gb_li (q_al 0) (gb_li (q_gf 7 0) (gb_li (q_gf 5 0) (gb_li (q_il 1) (gb_li q_iald (gb_li q_iast (gb_li (q_inc 1 1) (q_j [0, 1] 2))))))))))))))
theorem s_X7_clear_2   {κ : gb_K} (hκ : ∀ q, gb_S RX7 cX7_clear 2 (gb_rm 0 0) 0 q (κ q)) : gb_S RX7 cX7_clear 2 (gb_rm 0 0) 0 2 (k_X7_clear_2 κ) := (s_iln 1 rfl dX7_clear_2 (s_bipush (by decide +kernel) dX7_clear_3 (s_cge (tgt := 29) (by decide +kernel) dX7_clear_5 (s_iconst (by decide +kernel) dX7_clear_29 (s_isn 1 rfl (Nat.le_of_ble_eq_true rfl) dX7_clear_30 (s_j (hκ 31)))) (s_aln 0 rfl dX7_clear_8 (s_gf (T := TX7) winX7 rfl (Nat.le_of_ble_eq_true rfl) gw_48 rfl dX7_clear_9 (s_iln 1 rfl dX7_clear_12 (s_aln 0 rfl dX7_clear_13 (s_gf (T := TX7) winX7 rfl (Nat.le_of_ble_eq_true rfl) gw_65 rfl dX7_clear_14 (s_gf (T := TX5) winX5 rfl (Nat.le_of_ble_eq_true rfl) gw_247 rfl dX7_clear_17 (s_iln 1 rfl dX7_clear_20 (s_iald dX7_clear_21 (s_iast dX7_clear_22 (s_inc (by decide +kernel) (Nat.le_of_ble_eq_true rfl) dX7_clear_23 (s_goto (tgt := 2) (by decide +kernel) dX7_clear_26 (s_j (hκ 2))))))))))))))))
noncomputable def k_X7_clear_31 (κ : gb_K) : gb_C := (o_il 1 (o_ci 6 (o_cge (o_ci 0 (o_is 1 (o_j [0, 1] (κ 66)))) (o_al 0 (o_gf 7 2 (o_il 1 (o_ci 0 (o_iast (o_al 0 (o_gf 7 3 (o_il 1 (o_ci 0 (o_iast (o_al 0 (o_gf 7 4 (o_il 1 (o_ci 0 (o_iast (o_inc 1 1 (o_j [0, 1] (κ 31)))))))))))))))))))))
theorem l_X7_clear_31 : gb_Li (fun κ => k_X7_clear_31 κ) := (gb_li (q_il 1) (gb_li (q_ci 6) (q_cge (gb_li (q_ci 0) (gb_li (q_is 1) (q_j [0, 1] 66))) (gb_li (q_al 0) (gb_li (q_gf 7 2) (gb_li (q_il 1) (gb_li (q_ci 0) (gb_li q_iast (gb_li (q_al 0) (gb_li (q_gf 7 3) (gb_li (q_il 1) (gb_li (q_ci 0) (gb_li q_iast (gb_li (q_al 0) (gb_li (q_gf 7 4) (gb_li (q_il 1) (gb_li (q_ci 0) (gb_li q_iast (gb_li (q_inc 1 1) (q_j [0, 1] 31))))))))))))))))))))
theorem s_X7_clear_31   {κ : gb_K} (hκ : ∀ q, gb_S RX7 cX7_clear 2 (gb_rm 0 0) 0 q (κ q)) : gb_S RX7 cX7_clear 2 (gb_rm 0 0) 0 31 (k_X7_clear_31 κ) := (s_iln 1 rfl dX7_clear_31 (s_bipush (by decide +kernel) dX7_clear_32 (s_cge (tgt := 64) (by decide +kernel) dX7_clear_34 (s_iconst (by decide +kernel) dX7_clear_64 (s_isn 1 rfl (Nat.le_of_ble_eq_true rfl) dX7_clear_65 (s_j (hκ 66)))) (s_aln 0 rfl dX7_clear_37 (s_gf (T := TX7) winX7 rfl (Nat.le_of_ble_eq_true rfl) gw_6 rfl dX7_clear_38 (s_iln 1 rfl dX7_clear_41 (s_iconst (by decide +kernel) dX7_clear_42 (s_iast dX7_clear_43 (s_aln 0 rfl dX7_clear_44 (s_gf (T := TX7) winX7 rfl (Nat.le_of_ble_eq_true rfl) gw_41 rfl dX7_clear_45 (s_iln 1 rfl dX7_clear_48 (s_iconst (by decide +kernel) dX7_clear_49 (s_iast dX7_clear_50 (s_aln 0 rfl dX7_clear_51 (s_gf (T := TX7) winX7 rfl (Nat.le_of_ble_eq_true rfl) gw_42 rfl dX7_clear_52 (s_iln 1 rfl dX7_clear_55 (s_iconst (by decide +kernel) dX7_clear_56 (s_iast dX7_clear_57 (s_inc (by decide +kernel) (Nat.le_of_ble_eq_true rfl) dX7_clear_58 (s_goto (tgt := 31) (by decide +kernel) dX7_clear_61 (s_j (hκ 31))))))))))))))))))))))
noncomputable def k_X7_clear_66 (κ : gb_K) : gb_C := (o_il 1 (o_ci 36 (o_cge (o_al 0 (o_ci 0 (o_pf 7 9 (o_al 0 (o_ci 0 (o_pf 7 10 o_rv)))))) (o_al 0 (o_gf 7 8 (o_il 1 (o_ci 0 (o_iast (o_inc 1 1 (o_j [0, 1] (κ 66)))))))))))
theorem l_X7_clear_66 : gb_Li (fun κ => k_X7_clear_66 κ) := (gb_li (q_il 1) (gb_li (q_ci 36) (q_cge (gb_li (q_al 0) (gb_li (q_ci 0) (gb_li (q_pf 7 9) (gb_li (q_al 0) (gb_li (q_ci 0) (gb_li (q_pf 7 10) (gb_li0 _))))))) (gb_li (q_al 0) (gb_li (q_gf 7 8) (gb_li (q_il 1) (gb_li (q_ci 0) (gb_li q_iast (gb_li (q_inc 1 1) (q_j [0, 1] 66))))))))))
theorem s_X7_clear_66   {κ : gb_K} (hκ : ∀ q, gb_S RX7 cX7_clear 2 (gb_rm 0 0) 0 q (κ q)) : gb_S RX7 cX7_clear 2 (gb_rm 0 0) 0 66 (k_X7_clear_66 κ) := (s_iln 1 rfl dX7_clear_66 (s_bipush (by decide +kernel) dX7_clear_67 (s_cge (tgt := 85) (by decide +kernel) dX7_clear_69 (s_aln 0 rfl dX7_clear_85 (s_iconst (by decide +kernel) dX7_clear_86 (s_pf (T := TX7) winX7 rfl (Nat.le_of_ble_eq_true rfl) tyX7_ok nmX7 rfl (by decide +kernel) gw_5 rfl dX7_clear_87 (s_aln 0 rfl dX7_clear_90 (s_iconst (by decide +kernel) dX7_clear_91 (s_pf (T := TX7) winX7 rfl (Nat.le_of_ble_eq_true rfl) tyX7_ok nmX7 rfl (by decide +kernel) gw_49 rfl dX7_clear_92 (s_rv rfl dX7_clear_95))))))) (s_aln 0 rfl dX7_clear_72 (s_gf (T := TX7) winX7 rfl (Nat.le_of_ble_eq_true rfl) gw_43 rfl dX7_clear_73 (s_iln 1 rfl dX7_clear_76 (s_iconst (by decide +kernel) dX7_clear_77 (s_iast dX7_clear_78 (s_inc (by decide +kernel) (Nat.le_of_ble_eq_true rfl) dX7_clear_79 (s_goto (tgt := 66) (by decide +kernel) dX7_clear_82 (s_j (hκ 66))))))))))))
noncomputable def B_X7_clear : List (Nat × (gb_K → gb_C)) := [(2, fun κ => k_X7_clear_2 κ), (31, fun κ => k_X7_clear_31 κ), (66, fun κ => k_X7_clear_66 κ)]
noncomputable def K_X7_clear : gb_K := gb_fx (gb_tb (B_X7_clear))
theorem L_X7_clear : ∀ q, gb_Li (fun κ => gb_tb (B_X7_clear) κ q) := gb_tb_li (List.forall_mem_cons.mpr ⟨l_X7_clear_2, List.forall_mem_cons.mpr ⟨l_X7_clear_31, List.forall_mem_cons.mpr ⟨l_X7_clear_66, (fun _ h => absurd h List.not_mem_nil)⟩⟩⟩)
theorem S_X7_clear   : ∀ q, gb_S RX7 cX7_clear 2 (gb_rm 0 0) 0 q (K_X7_clear q) := fun q => gb_fx_S (L_X7_clear) (gb_tb_S (List.forall_mem_cons.mpr ⟨fun κ hκ => s_X7_clear_2 hκ, List.forall_mem_cons.mpr ⟨fun κ hκ => s_X7_clear_31 hκ, List.forall_mem_cons.mpr ⟨fun κ hκ => s_X7_clear_66 hκ, (fun _ h => absurd h List.not_mem_nil)⟩⟩⟩)) q
noncomputable def f_X7_clear : gb_F := gb_hide (gb_mf 2 (k_X7_clear_0 (K_X7_clear)))
theorem c_X7_clear : ∀ l, gb_Met l yX7_clear cX7_clear 2 none 0 (gb_rm 0 0) f_X7_clear := gb_hide_c (gb_met (own := RX7) (rk := 0) rfl (by decide +kernel) ⟨rfl, rfl⟩ (s_X7_clear_0 (S_X7_clear)))
theorem dX7_tonsOf_0 : decode cX7_tonsOf 0 = .ok (.iconst 0, 1) := by decide +kernel
theorem dX7_tonsOf_1 : decode cX7_tonsOf 1 = .ok (.istore_n 2, 1) := by decide +kernel
theorem dX7_tonsOf_2 : decode cX7_tonsOf 2 = .ok (.iconst 0, 1) := by decide +kernel
theorem dX7_tonsOf_3 : decode cX7_tonsOf 3 = .ok (.istore_n 3, 1) := by decide +kernel
theorem dX7_tonsOf_4 : decode cX7_tonsOf 4 = .ok (.iload_n 3, 1) := by decide +kernel
theorem dX7_tonsOf_5 : decode cX7_tonsOf 5 = .ok (.bipush 6, 2) := by decide +kernel
theorem dX7_tonsOf_7 : decode cX7_tonsOf 7 = .ok (.if_icmp .ge 23, 3) := by decide +kernel
theorem dX7_tonsOf_10 : decode cX7_tonsOf 10 = .ok (.iload_n 2, 1) := by decide +kernel
theorem dX7_tonsOf_11 : decode cX7_tonsOf 11 = .ok (.aload_n 0, 1) := by decide +kernel
theorem dX7_tonsOf_12 : decode cX7_tonsOf 12 = .ok (.getfield 33, 3) := by decide +kernel
theorem dX7_tonsOf_15 : decode cX7_tonsOf 15 = .ok (.iload_n 3, 1) := by decide +kernel
theorem dX7_tonsOf_16 : decode cX7_tonsOf 16 = .ok (.bipush 6, 2) := by decide +kernel
theorem dX7_tonsOf_18 : decode cX7_tonsOf 18 = .ok (.imul, 1) := by decide +kernel
theorem dX7_tonsOf_19 : decode cX7_tonsOf 19 = .ok (.iload_n 1, 1) := by decide +kernel
theorem dX7_tonsOf_20 : decode cX7_tonsOf 20 = .ok (.iadd, 1) := by decide +kernel
theorem dX7_tonsOf_21 : decode cX7_tonsOf 21 = .ok (.iaload, 1) := by decide +kernel
theorem dX7_tonsOf_22 : decode cX7_tonsOf 22 = .ok (.iadd, 1) := by decide +kernel
theorem dX7_tonsOf_23 : decode cX7_tonsOf 23 = .ok (.istore_n 2, 1) := by decide +kernel
theorem dX7_tonsOf_24 : decode cX7_tonsOf 24 = .ok (.iinc 3 1, 3) := by decide +kernel
theorem dX7_tonsOf_27 : decode cX7_tonsOf 27 = .ok (.goto (-23), 3) := by decide +kernel
theorem dX7_tonsOf_30 : decode cX7_tonsOf 30 = .ok (.iload_n 2, 1) := by decide +kernel
theorem dX7_tonsOf_31 : decode cX7_tonsOf 31 = .ok (.ireturn, 1) := by decide +kernel
theorem v_X7_tonsOf : yX7_tonsOf.cls = RX7 ∧ yX7_tonsOf.cls ≠ "java/lang/invoke/MethodHandle" ∧ yX7_tonsOf.cls ≠ "java/lang/invoke/VarHandle" ∧ (parseMethodDescriptor yX7_tonsOf.desc).map (fun d => d.parameters.length) = some 1 := ⟨rfl, by decide +kernel, by decide +kernel, by decide +kernel⟩
noncomputable def k_X7_tonsOf_0 (κ : gb_K) : gb_C := (o_ci 0 (o_is 2 (o_ci 0 (o_is 3 (o_j [0, 1, 2, 3] (κ 4))))))
theorem l_X7_tonsOf_0 : gb_Li (fun κ => k_X7_tonsOf_0 κ) := (gb_li (q_ci 0) (gb_li (q_is 2) (gb_li (q_ci 0) (gb_li (q_is 3) (q_j [0, 1, 2, 3] 4)))))
theorem s_X7_tonsOf_0   {κ : gb_K} (hκ : ∀ q, gb_S RX7 cX7_tonsOf 4 (gb_rm 0 0) 1 q (κ q)) : gb_S RX7 cX7_tonsOf 4 (gb_rm 0 0) 1 0 (k_X7_tonsOf_0 κ) := (s_iconst (by decide +kernel) dX7_tonsOf_0 (s_isn 2 rfl (Nat.le_of_ble_eq_true rfl) dX7_tonsOf_1 (s_iconst (by decide +kernel) dX7_tonsOf_2 (s_isn 3 rfl (Nat.le_of_ble_eq_true rfl) dX7_tonsOf_3 (s_j (hκ 4))))))
noncomputable def k_X7_tonsOf_4 (κ : gb_K) : gb_C := (o_il 3 (o_ci 6 (o_cge (o_il 2 o_ri) (o_il 2 (o_al 0 (o_gf 7 8 (o_il 3 (o_ci 6 (o_ib (fun x y => x * y) (o_il 1 (o_ib (fun x y => x + y) (o_iald (o_ib (fun x y => x + y) (o_is 2 (o_inc 3 1 (o_j [0, 1, 2, 3] (κ 4)))))))))))))))))
theorem l_X7_tonsOf_4 : gb_Li (fun κ => k_X7_tonsOf_4 κ) := (gb_li (q_il 3) (gb_li (q_ci 6) (q_cge (gb_li (q_il 2) (gb_li0 _)) (gb_li (q_il 2) (gb_li (q_al 0) (gb_li (q_gf 7 8) (gb_li (q_il 3) (gb_li (q_ci 6) (gb_li (q_ib _) (gb_li (q_il 1) (gb_li (q_ib _) (gb_li q_iald (gb_li (q_ib _) (gb_li (q_is 2) (gb_li (q_inc 3 1) (q_j [0, 1, 2, 3] 4))))))))))))))))
theorem s_X7_tonsOf_4   {κ : gb_K} (hκ : ∀ q, gb_S RX7 cX7_tonsOf 4 (gb_rm 0 0) 1 q (κ q)) : gb_S RX7 cX7_tonsOf 4 (gb_rm 0 0) 1 4 (k_X7_tonsOf_4 κ) := (s_iln 3 rfl dX7_tonsOf_4 (s_bipush (by decide +kernel) dX7_tonsOf_5 (s_cge (tgt := 30) (by decide +kernel) dX7_tonsOf_7 (s_iln 2 rfl dX7_tonsOf_30 (s_ri rfl dX7_tonsOf_31)) (s_iln 2 rfl dX7_tonsOf_10 (s_aln 0 rfl dX7_tonsOf_11 (s_gf (T := TX7) winX7 rfl (Nat.le_of_ble_eq_true rfl) gw_43 rfl dX7_tonsOf_12 (s_iln 3 rfl dX7_tonsOf_15 (s_bipush (by decide +kernel) dX7_tonsOf_16 (s_imul dX7_tonsOf_18 (s_iln 1 rfl dX7_tonsOf_19 (s_iadd dX7_tonsOf_20 (s_iald dX7_tonsOf_21 (s_iadd dX7_tonsOf_22 (s_isn 2 rfl (Nat.le_of_ble_eq_true rfl) dX7_tonsOf_23 (s_inc (by decide +kernel) (Nat.le_of_ble_eq_true rfl) dX7_tonsOf_24 (s_goto (tgt := 4) (by decide +kernel) dX7_tonsOf_27 (s_j (hκ 4))))))))))))))))))
noncomputable def B_X7_tonsOf : List (Nat × (gb_K → gb_C)) := [(4, fun κ => k_X7_tonsOf_4 κ)]
noncomputable def K_X7_tonsOf : gb_K := gb_fx (gb_tb (B_X7_tonsOf))
theorem L_X7_tonsOf : ∀ q, gb_Li (fun κ => gb_tb (B_X7_tonsOf) κ q) := gb_tb_li (List.forall_mem_cons.mpr ⟨l_X7_tonsOf_4, (fun _ h => absurd h List.not_mem_nil)⟩)
theorem S_X7_tonsOf   : ∀ q, gb_S RX7 cX7_tonsOf 4 (gb_rm 0 0) 1 q (K_X7_tonsOf q) := fun q => gb_fx_S (L_X7_tonsOf) (gb_tb_S (List.forall_mem_cons.mpr ⟨fun κ hκ => s_X7_tonsOf_4 hκ, (fun _ h => absurd h List.not_mem_nil)⟩)) q
noncomputable def f_X7_tonsOf : gb_F := gb_hide (gb_mf 4 (k_X7_tonsOf_0 (K_X7_tonsOf)))
theorem c_X7_tonsOf : ∀ l, gb_Met l yX7_tonsOf cX7_tonsOf 4 (some .int) 1 (gb_rm 0 0) f_X7_tonsOf := gb_hide_c (gb_met (own := RX7) (rk := 1) rfl (by decide +kernel) ⟨rfl, rfl⟩ (s_X7_tonsOf_0 (S_X7_tonsOf)))
theorem dX7_tonsInAll_0 : decode cX7_tonsInAll 0 = .ok (.iconst 0, 1) := by decide +kernel
theorem dX7_tonsInAll_1 : decode cX7_tonsInAll 1 = .ok (.istore_n 1, 1) := by decide +kernel
theorem dX7_tonsInAll_2 : decode cX7_tonsInAll 2 = .ok (.iconst 0, 1) := by decide +kernel
theorem dX7_tonsInAll_3 : decode cX7_tonsInAll 3 = .ok (.istore_n 2, 1) := by decide +kernel
theorem dX7_tonsInAll_4 : decode cX7_tonsInAll 4 = .ok (.iload_n 2, 1) := by decide +kernel
theorem dX7_tonsInAll_5 : decode cX7_tonsInAll 5 = .ok (.bipush 6, 2) := by decide +kernel
theorem dX7_tonsInAll_7 : decode cX7_tonsInAll 7 = .ok (.if_icmp .ge 18, 3) := by decide +kernel
theorem dX7_tonsInAll_10 : decode cX7_tonsInAll 10 = .ok (.iload_n 1, 1) := by decide +kernel
theorem dX7_tonsInAll_11 : decode cX7_tonsInAll 11 = .ok (.aload_n 0, 1) := by decide +kernel
theorem dX7_tonsInAll_12 : decode cX7_tonsInAll 12 = .ok (.getfield 21, 3) := by decide +kernel
theorem dX7_tonsInAll_15 : decode cX7_tonsInAll 15 = .ok (.iload_n 2, 1) := by decide +kernel
theorem dX7_tonsInAll_16 : decode cX7_tonsInAll 16 = .ok (.iaload, 1) := by decide +kernel
theorem dX7_tonsInAll_17 : decode cX7_tonsInAll 17 = .ok (.iadd, 1) := by decide +kernel
theorem dX7_tonsInAll_18 : decode cX7_tonsInAll 18 = .ok (.istore_n 1, 1) := by decide +kernel
theorem dX7_tonsInAll_19 : decode cX7_tonsInAll 19 = .ok (.iinc 2 1, 3) := by decide +kernel
theorem dX7_tonsInAll_22 : decode cX7_tonsInAll 22 = .ok (.goto (-18), 3) := by decide +kernel
theorem dX7_tonsInAll_25 : decode cX7_tonsInAll 25 = .ok (.iload_n 1, 1) := by decide +kernel
theorem dX7_tonsInAll_26 : decode cX7_tonsInAll 26 = .ok (.ireturn, 1) := by decide +kernel
theorem v_X7_tonsInAll : yX7_tonsInAll.cls = RX7 ∧ yX7_tonsInAll.cls ≠ "java/lang/invoke/MethodHandle" ∧ yX7_tonsInAll.cls ≠ "java/lang/invoke/VarHandle" ∧ (parseMethodDescriptor yX7_tonsInAll.desc).map (fun d => d.parameters.length) = some 0 := ⟨rfl, by decide +kernel, by decide +kernel, by decide +kernel⟩
noncomputable def k_X7_tonsInAll_0 (κ : gb_K) : gb_C := (o_ci 0 (o_is 1 (o_ci 0 (o_is 2 (o_j [0, 1, 2] (κ 4))))))
theorem l_X7_tonsInAll_0 : gb_Li (fun κ => k_X7_tonsInAll_0 κ) := (gb_li (q_ci 0) (gb_li (q_is 1) (gb_li (q_ci 0) (gb_li (q_is 2) (q_j [0, 1, 2] 4)))))
theorem s_X7_tonsInAll_0   {κ : gb_K} (hκ : ∀ q, gb_S RX7 cX7_tonsInAll 3 (gb_rm 0 0) 1 q (κ q)) : gb_S RX7 cX7_tonsInAll 3 (gb_rm 0 0) 1 0 (k_X7_tonsInAll_0 κ) := (s_iconst (by decide +kernel) dX7_tonsInAll_0 (s_isn 1 rfl (Nat.le_of_ble_eq_true rfl) dX7_tonsInAll_1 (s_iconst (by decide +kernel) dX7_tonsInAll_2 (s_isn 2 rfl (Nat.le_of_ble_eq_true rfl) dX7_tonsInAll_3 (s_j (hκ 4))))))
noncomputable def k_X7_tonsInAll_4 (κ : gb_K) : gb_C := (o_il 2 (o_ci 6 (o_cge (o_il 1 o_ri) (o_il 1 (o_al 0 (o_gf 7 4 (o_il 2 (o_iald (o_ib (fun x y => x + y) (o_is 1 (o_inc 2 1 (o_j [0, 1, 2] (κ 4)))))))))))))
theorem l_X7_tonsInAll_4 : gb_Li (fun κ => k_X7_tonsInAll_4 κ) := (gb_li (q_il 2) (gb_li (q_ci 6) (q_cge (gb_li (q_il 1) (gb_li0 _)) (gb_li (q_il 1) (gb_li (q_al 0) (gb_li (q_gf 7 4) (gb_li (q_il 2) (gb_li q_iald (gb_li (q_ib _) (gb_li (q_is 1) (gb_li (q_inc 2 1) (q_j [0, 1, 2] 4))))))))))))
theorem s_X7_tonsInAll_4   {κ : gb_K} (hκ : ∀ q, gb_S RX7 cX7_tonsInAll 3 (gb_rm 0 0) 1 q (κ q)) : gb_S RX7 cX7_tonsInAll 3 (gb_rm 0 0) 1 4 (k_X7_tonsInAll_4 κ) := (s_iln 2 rfl dX7_tonsInAll_4 (s_bipush (by decide +kernel) dX7_tonsInAll_5 (s_cge (tgt := 25) (by decide +kernel) dX7_tonsInAll_7 (s_iln 1 rfl dX7_tonsInAll_25 (s_ri rfl dX7_tonsInAll_26)) (s_iln 1 rfl dX7_tonsInAll_10 (s_aln 0 rfl dX7_tonsInAll_11 (s_gf (T := TX7) winX7 rfl (Nat.le_of_ble_eq_true rfl) gw_42 rfl dX7_tonsInAll_12 (s_iln 2 rfl dX7_tonsInAll_15 (s_iald dX7_tonsInAll_16 (s_iadd dX7_tonsInAll_17 (s_isn 1 rfl (Nat.le_of_ble_eq_true rfl) dX7_tonsInAll_18 (s_inc (by decide +kernel) (Nat.le_of_ble_eq_true rfl) dX7_tonsInAll_19 (s_goto (tgt := 4) (by decide +kernel) dX7_tonsInAll_22 (s_j (hκ 4))))))))))))))
noncomputable def B_X7_tonsInAll : List (Nat × (gb_K → gb_C)) := [(4, fun κ => k_X7_tonsInAll_4 κ)]
noncomputable def K_X7_tonsInAll : gb_K := gb_fx (gb_tb (B_X7_tonsInAll))
theorem L_X7_tonsInAll : ∀ q, gb_Li (fun κ => gb_tb (B_X7_tonsInAll) κ q) := gb_tb_li (List.forall_mem_cons.mpr ⟨l_X7_tonsInAll_4, (fun _ h => absurd h List.not_mem_nil)⟩)
theorem S_X7_tonsInAll   : ∀ q, gb_S RX7 cX7_tonsInAll 3 (gb_rm 0 0) 1 q (K_X7_tonsInAll q) := fun q => gb_fx_S (L_X7_tonsInAll) (gb_tb_S (List.forall_mem_cons.mpr ⟨fun κ hκ => s_X7_tonsInAll_4 hκ, (fun _ h => absurd h List.not_mem_nil)⟩)) q
noncomputable def f_X7_tonsInAll : gb_F := gb_hide (gb_mf 3 (k_X7_tonsInAll_0 (K_X7_tonsInAll)))
theorem c_X7_tonsInAll : ∀ l, gb_Met l yX7_tonsInAll cX7_tonsInAll 3 (some .int) 1 (gb_rm 0 0) f_X7_tonsInAll := gb_hide_c (gb_met (own := RX7) (rk := 1) rfl (by decide +kernel) ⟨rfl, rfl⟩ (s_X7_tonsInAll_0 (S_X7_tonsInAll)))
theorem dX7_layersInAll_0 : decode cX7_layersInAll 0 = .ok (.iconst 0, 1) := by decide +kernel
theorem dX7_layersInAll_1 : decode cX7_layersInAll 1 = .ok (.istore_n 1, 1) := by decide +kernel
theorem dX7_layersInAll_2 : decode cX7_layersInAll 2 = .ok (.iconst 0, 1) := by decide +kernel
theorem dX7_layersInAll_3 : decode cX7_layersInAll 3 = .ok (.istore_n 2, 1) := by decide +kernel
theorem dX7_layersInAll_4 : decode cX7_layersInAll 4 = .ok (.iload_n 2, 1) := by decide +kernel
theorem dX7_layersInAll_5 : decode cX7_layersInAll 5 = .ok (.bipush 6, 2) := by decide +kernel
theorem dX7_layersInAll_7 : decode cX7_layersInAll 7 = .ok (.if_icmp .ge 18, 3) := by decide +kernel
theorem dX7_layersInAll_10 : decode cX7_layersInAll 10 = .ok (.iload_n 1, 1) := by decide +kernel
theorem dX7_layersInAll_11 : decode cX7_layersInAll 11 = .ok (.aload_n 0, 1) := by decide +kernel
theorem dX7_layersInAll_12 : decode cX7_layersInAll 12 = .ok (.getfield 18, 3) := by decide +kernel
theorem dX7_layersInAll_15 : decode cX7_layersInAll 15 = .ok (.iload_n 2, 1) := by decide +kernel
theorem dX7_layersInAll_16 : decode cX7_layersInAll 16 = .ok (.iaload, 1) := by decide +kernel
theorem dX7_layersInAll_17 : decode cX7_layersInAll 17 = .ok (.iadd, 1) := by decide +kernel
theorem dX7_layersInAll_18 : decode cX7_layersInAll 18 = .ok (.istore_n 1, 1) := by decide +kernel
theorem dX7_layersInAll_19 : decode cX7_layersInAll 19 = .ok (.iinc 2 1, 3) := by decide +kernel
theorem dX7_layersInAll_22 : decode cX7_layersInAll 22 = .ok (.goto (-18), 3) := by decide +kernel
theorem dX7_layersInAll_25 : decode cX7_layersInAll 25 = .ok (.iload_n 1, 1) := by decide +kernel
theorem dX7_layersInAll_26 : decode cX7_layersInAll 26 = .ok (.ireturn, 1) := by decide +kernel
theorem v_X7_layersInAll : yX7_layersInAll.cls = RX7 ∧ yX7_layersInAll.cls ≠ "java/lang/invoke/MethodHandle" ∧ yX7_layersInAll.cls ≠ "java/lang/invoke/VarHandle" ∧ (parseMethodDescriptor yX7_layersInAll.desc).map (fun d => d.parameters.length) = some 0 := ⟨rfl, by decide +kernel, by decide +kernel, by decide +kernel⟩
noncomputable def k_X7_layersInAll_0 (κ : gb_K) : gb_C := (o_ci 0 (o_is 1 (o_ci 0 (o_is 2 (o_j [0, 1, 2] (κ 4))))))
theorem l_X7_layersInAll_0 : gb_Li (fun κ => k_X7_layersInAll_0 κ) := (gb_li (q_ci 0) (gb_li (q_is 1) (gb_li (q_ci 0) (gb_li (q_is 2) (q_j [0, 1, 2] 4)))))
theorem s_X7_layersInAll_0   {κ : gb_K} (hκ : ∀ q, gb_S RX7 cX7_layersInAll 3 (gb_rm 0 0) 1 q (κ q)) : gb_S RX7 cX7_layersInAll 3 (gb_rm 0 0) 1 0 (k_X7_layersInAll_0 κ) := (s_iconst (by decide +kernel) dX7_layersInAll_0 (s_isn 1 rfl (Nat.le_of_ble_eq_true rfl) dX7_layersInAll_1 (s_iconst (by decide +kernel) dX7_layersInAll_2 (s_isn 2 rfl (Nat.le_of_ble_eq_true rfl) dX7_layersInAll_3 (s_j (hκ 4))))))
noncomputable def k_X7_layersInAll_4 (κ : gb_K) : gb_C := (o_il 2 (o_ci 6 (o_cge (o_il 1 o_ri) (o_il 1 (o_al 0 (o_gf 7 3 (o_il 2 (o_iald (o_ib (fun x y => x + y) (o_is 1 (o_inc 2 1 (o_j [0, 1, 2] (κ 4)))))))))))))
theorem l_X7_layersInAll_4 : gb_Li (fun κ => k_X7_layersInAll_4 κ) := (gb_li (q_il 2) (gb_li (q_ci 6) (q_cge (gb_li (q_il 1) (gb_li0 _)) (gb_li (q_il 1) (gb_li (q_al 0) (gb_li (q_gf 7 3) (gb_li (q_il 2) (gb_li q_iald (gb_li (q_ib _) (gb_li (q_is 1) (gb_li (q_inc 2 1) (q_j [0, 1, 2] 4))))))))))))
theorem s_X7_layersInAll_4   {κ : gb_K} (hκ : ∀ q, gb_S RX7 cX7_layersInAll 3 (gb_rm 0 0) 1 q (κ q)) : gb_S RX7 cX7_layersInAll 3 (gb_rm 0 0) 1 4 (k_X7_layersInAll_4 κ) := (s_iln 2 rfl dX7_layersInAll_4 (s_bipush (by decide +kernel) dX7_layersInAll_5 (s_cge (tgt := 25) (by decide +kernel) dX7_layersInAll_7 (s_iln 1 rfl dX7_layersInAll_25 (s_ri rfl dX7_layersInAll_26)) (s_iln 1 rfl dX7_layersInAll_10 (s_aln 0 rfl dX7_layersInAll_11 (s_gf (T := TX7) winX7 rfl (Nat.le_of_ble_eq_true rfl) gw_41 rfl dX7_layersInAll_12 (s_iln 2 rfl dX7_layersInAll_15 (s_iald dX7_layersInAll_16 (s_iadd dX7_layersInAll_17 (s_isn 1 rfl (Nat.le_of_ble_eq_true rfl) dX7_layersInAll_18 (s_inc (by decide +kernel) (Nat.le_of_ble_eq_true rfl) dX7_layersInAll_19 (s_goto (tgt := 4) (by decide +kernel) dX7_layersInAll_22 (s_j (hκ 4))))))))))))))
noncomputable def B_X7_layersInAll : List (Nat × (gb_K → gb_C)) := [(4, fun κ => k_X7_layersInAll_4 κ)]
noncomputable def K_X7_layersInAll : gb_K := gb_fx (gb_tb (B_X7_layersInAll))
theorem L_X7_layersInAll : ∀ q, gb_Li (fun κ => gb_tb (B_X7_layersInAll) κ q) := gb_tb_li (List.forall_mem_cons.mpr ⟨l_X7_layersInAll_4, (fun _ h => absurd h List.not_mem_nil)⟩)
theorem S_X7_layersInAll   : ∀ q, gb_S RX7 cX7_layersInAll 3 (gb_rm 0 0) 1 q (K_X7_layersInAll q) := fun q => gb_fx_S (L_X7_layersInAll) (gb_tb_S (List.forall_mem_cons.mpr ⟨fun κ hκ => s_X7_layersInAll_4 hκ, (fun _ h => absurd h List.not_mem_nil)⟩)) q
noncomputable def f_X7_layersInAll : gb_F := gb_hide (gb_mf 3 (k_X7_layersInAll_0 (K_X7_layersInAll)))
theorem c_X7_layersInAll : ∀ l, gb_Met l yX7_layersInAll cX7_layersInAll 3 (some .int) 1 (gb_rm 0 0) f_X7_layersInAll := gb_hide_c (gb_met (own := RX7) (rk := 1) rfl (by decide +kernel) ⟨rfl, rfl⟩ (s_X7_layersInAll_0 (S_X7_layersInAll)))
theorem dX7_closedBins_0 : decode cX7_closedBins 0 = .ok (.iconst 0, 1) := by decide +kernel
theorem dX7_closedBins_1 : decode cX7_closedBins 1 = .ok (.istore_n 1, 1) := by decide +kernel
theorem dX7_closedBins_2 : decode cX7_closedBins 2 = .ok (.iconst 0, 1) := by decide +kernel
theorem dX7_closedBins_3 : decode cX7_closedBins 3 = .ok (.istore_n 2, 1) := by decide +kernel
theorem dX7_closedBins_4 : decode cX7_closedBins 4 = .ok (.iload_n 2, 1) := by decide +kernel
theorem dX7_closedBins_5 : decode cX7_closedBins 5 = .ok (.bipush 6, 2) := by decide +kernel
theorem dX7_closedBins_7 : decode cX7_closedBins 7 = .ok (.if_icmp .ge 23, 3) := by decide +kernel
theorem dX7_closedBins_10 : decode cX7_closedBins 10 = .ok (.aload_n 0, 1) := by decide +kernel
theorem dX7_closedBins_11 : decode cX7_closedBins 11 = .ok (.iload_n 2, 1) := by decide +kernel
theorem dX7_closedBins_12 : decode cX7_closedBins 12 = .ok (.invokevirtual 60, 3) := by decide +kernel
theorem dX7_closedBins_15 : decode cX7_closedBins 15 = .ok (.ifCond .eq 9, 3) := by decide +kernel
theorem dX7_closedBins_18 : decode cX7_closedBins 18 = .ok (.iload_n 1, 1) := by decide +kernel
theorem dX7_closedBins_19 : decode cX7_closedBins 19 = .ok (.iconst 1, 1) := by decide +kernel
theorem dX7_closedBins_20 : decode cX7_closedBins 20 = .ok (.iload_n 2, 1) := by decide +kernel
theorem dX7_closedBins_21 : decode cX7_closedBins 21 = .ok (.ishl, 1) := by decide +kernel
theorem dX7_closedBins_22 : decode cX7_closedBins 22 = .ok (.ior, 1) := by decide +kernel
theorem dX7_closedBins_23 : decode cX7_closedBins 23 = .ok (.istore_n 1, 1) := by decide +kernel
theorem dX7_closedBins_24 : decode cX7_closedBins 24 = .ok (.iinc 2 1, 3) := by decide +kernel
theorem dX7_closedBins_27 : decode cX7_closedBins 27 = .ok (.goto (-23), 3) := by decide +kernel
theorem dX7_closedBins_30 : decode cX7_closedBins 30 = .ok (.iload_n 1, 1) := by decide +kernel
theorem dX7_closedBins_31 : decode cX7_closedBins 31 = .ok (.ireturn, 1) := by decide +kernel
theorem v_X7_closedBins : yX7_closedBins.cls = RX7 ∧ yX7_closedBins.cls ≠ "java/lang/invoke/MethodHandle" ∧ yX7_closedBins.cls ≠ "java/lang/invoke/VarHandle" ∧ (parseMethodDescriptor yX7_closedBins.desc).map (fun d => d.parameters.length) = some 0 := ⟨rfl, by decide +kernel, by decide +kernel, by decide +kernel⟩
noncomputable def k_X7_closedBins_0 (κ : gb_K) : gb_C := (o_ci 0 (o_is 1 (o_ci 0 (o_is 2 (o_j [0, 1, 2] (κ 4))))))
theorem l_X7_closedBins_0 : gb_Li (fun κ => k_X7_closedBins_0 κ) := (gb_li (q_ci 0) (gb_li (q_is 1) (gb_li (q_ci 0) (gb_li (q_is 2) (q_j [0, 1, 2] 4)))))
theorem s_X7_closedBins_0   {κ : gb_K} (hκ : ∀ q, gb_S RX7 cX7_closedBins 3 (gb_rm 1 21) 1 q (κ q)) : gb_S RX7 cX7_closedBins 3 (gb_rm 1 21) 1 0 (k_X7_closedBins_0 κ) := (s_iconst (by decide +kernel) dX7_closedBins_0 (s_isn 1 rfl (Nat.le_of_ble_eq_true rfl) dX7_closedBins_1 (s_iconst (by decide +kernel) dX7_closedBins_2 (s_isn 2 rfl (Nat.le_of_ble_eq_true rfl) dX7_closedBins_3 (s_j (hκ 4))))))
noncomputable def k_X7_closedBins_24 (κ : gb_K) : gb_C := (o_inc 2 1 (o_j [0, 1, 2] (κ 4)))
theorem l_X7_closedBins_24 : gb_Li (fun κ => k_X7_closedBins_24 κ) := (gb_li (q_inc 2 1) (q_j [0, 1, 2] 4))
theorem s_X7_closedBins_24   {κ : gb_K} (hκ : ∀ q, gb_S RX7 cX7_closedBins 3 (gb_rm 1 21) 1 q (κ q)) : gb_S RX7 cX7_closedBins 3 (gb_rm 1 21) 1 24 (k_X7_closedBins_24 κ) := (s_inc (by decide +kernel) (Nat.le_of_ble_eq_true rfl) dX7_closedBins_24 (s_goto (tgt := 4) (by decide +kernel) dX7_closedBins_27 (s_j (hκ 4))))
noncomputable def k_X7_closedBins_4 (κ : gb_K) : gb_C := (o_il 2 (o_ci 6 (o_cge (o_il 1 o_ri) (o_al 0 (o_il 2 (o_cv 1 7 2 f_X7_closed (o_zeq (k_X7_closedBins_24 κ) (o_il 1 (o_ci 1 (o_il 2 (o_ib (fun x y => x <<< (y &&& 31)) (o_ib (fun x y => x ||| y) (o_is 1 (k_X7_closedBins_24 κ))))))))))))))
theorem l_X7_closedBins_4 : gb_Li (fun κ => k_X7_closedBins_4 κ) := (gb_li (q_il 2) (gb_li (q_ci 6) (q_cge (gb_li (q_il 1) (gb_li0 _)) (gb_li (q_al 0) (gb_li (q_il 2) (gb_li (q_cv 1 7 2 f_X7_closed) (q_zeq (l_X7_closedBins_24) (gb_li (q_il 1) (gb_li (q_ci 1) (gb_li (q_il 2) (gb_li (q_ib _) (gb_li (q_ib _) (gb_li (q_is 1) (l_X7_closedBins_24))))))))))))))
theorem s_X7_closedBins_4   {κ : gb_K} (hκ : ∀ q, gb_S RX7 cX7_closedBins 3 (gb_rm 1 21) 1 q (κ q)) : gb_S RX7 cX7_closedBins 3 (gb_rm 1 21) 1 4 (k_X7_closedBins_4 κ) := (s_iln 2 rfl dX7_closedBins_4 (s_bipush (by decide +kernel) dX7_closedBins_5 (s_cge (tgt := 30) (by decide +kernel) dX7_closedBins_7 (s_iln 1 rfl dX7_closedBins_30 (s_ri rfl dX7_closedBins_31)) (s_aln 0 rfl dX7_closedBins_10 (s_iln 2 rfl dX7_closedBins_11 (s_cv (C := RX7) c_X7_closed rfl (gb_l5 gw_64 gw_9 gw_10 gw_11 gw_12) v_X7_closed ⟨rfl, rfl⟩ ⟨Nat.le_of_ble_eq_true rfl, Nat.le_of_ble_eq_true rfl⟩ dX7_closedBins_12 (s_zeq (tgt := 24) (by decide +kernel) dX7_closedBins_15 (s_X7_closedBins_24 hκ) (s_iln 1 rfl dX7_closedBins_18 (s_iconst (by decide +kernel) dX7_closedBins_19 (s_iln 2 rfl dX7_closedBins_20 (s_ishl dX7_closedBins_21 (s_ior dX7_closedBins_22 (s_isn 1 rfl (Nat.le_of_ble_eq_true rfl) dX7_closedBins_23 (s_X7_closedBins_24 hκ))))))))))))))
noncomputable def B_X7_closedBins : List (Nat × (gb_K → gb_C)) := [(4, fun κ => k_X7_closedBins_4 κ)]
noncomputable def K_X7_closedBins : gb_K := gb_fx (gb_tb (B_X7_closedBins))
theorem L_X7_closedBins : ∀ q, gb_Li (fun κ => gb_tb (B_X7_closedBins) κ q) := gb_tb_li (List.forall_mem_cons.mpr ⟨l_X7_closedBins_4, (fun _ h => absurd h List.not_mem_nil)⟩)
theorem S_X7_closedBins   : ∀ q, gb_S RX7 cX7_closedBins 3 (gb_rm 1 21) 1 q (K_X7_closedBins q) := fun q => gb_fx_S (L_X7_closedBins) (gb_tb_S (List.forall_mem_cons.mpr ⟨fun κ hκ => s_X7_closedBins_4 hκ, (fun _ h => absurd h List.not_mem_nil)⟩)) q
noncomputable def f_X7_closedBins : gb_F := gb_hide (gb_mf 3 (k_X7_closedBins_0 (K_X7_closedBins)))
theorem c_X7_closedBins : ∀ l, gb_Met l yX7_closedBins cX7_closedBins 3 (some .int) 1 (gb_rm 1 21) f_X7_closedBins := gb_hide_c (gb_met (own := RX7) (rk := 1) rfl (by decide +kernel) ⟨rfl, rfl⟩ (s_X7_closedBins_0 (S_X7_closedBins)))
theorem dX7_emptyBins_0 : decode cX7_emptyBins 0 = .ok (.iconst 0, 1) := by decide +kernel
theorem dX7_emptyBins_1 : decode cX7_emptyBins 1 = .ok (.istore_n 1, 1) := by decide +kernel
theorem dX7_emptyBins_2 : decode cX7_emptyBins 2 = .ok (.iconst 0, 1) := by decide +kernel
theorem dX7_emptyBins_3 : decode cX7_emptyBins 3 = .ok (.istore_n 2, 1) := by decide +kernel
theorem dX7_emptyBins_4 : decode cX7_emptyBins 4 = .ok (.iload_n 2, 1) := by decide +kernel
theorem dX7_emptyBins_5 : decode cX7_emptyBins 5 = .ok (.bipush 6, 2) := by decide +kernel
theorem dX7_emptyBins_7 : decode cX7_emptyBins 7 = .ok (.if_icmp .ge 24, 3) := by decide +kernel
theorem dX7_emptyBins_10 : decode cX7_emptyBins 10 = .ok (.aload_n 0, 1) := by decide +kernel
theorem dX7_emptyBins_11 : decode cX7_emptyBins 11 = .ok (.getfield 18, 3) := by decide +kernel
theorem dX7_emptyBins_14 : decode cX7_emptyBins 14 = .ok (.iload_n 2, 1) := by decide +kernel
theorem dX7_emptyBins_15 : decode cX7_emptyBins 15 = .ok (.iaload, 1) := by decide +kernel
theorem dX7_emptyBins_16 : decode cX7_emptyBins 16 = .ok (.ifCond .ne 9, 3) := by decide +kernel
theorem dX7_emptyBins_19 : decode cX7_emptyBins 19 = .ok (.iload_n 1, 1) := by decide +kernel
theorem dX7_emptyBins_20 : decode cX7_emptyBins 20 = .ok (.iconst 1, 1) := by decide +kernel
theorem dX7_emptyBins_21 : decode cX7_emptyBins 21 = .ok (.iload_n 2, 1) := by decide +kernel
theorem dX7_emptyBins_22 : decode cX7_emptyBins 22 = .ok (.ishl, 1) := by decide +kernel
theorem dX7_emptyBins_23 : decode cX7_emptyBins 23 = .ok (.ior, 1) := by decide +kernel
theorem dX7_emptyBins_24 : decode cX7_emptyBins 24 = .ok (.istore_n 1, 1) := by decide +kernel
theorem dX7_emptyBins_25 : decode cX7_emptyBins 25 = .ok (.iinc 2 1, 3) := by decide +kernel
theorem dX7_emptyBins_28 : decode cX7_emptyBins 28 = .ok (.goto (-24), 3) := by decide +kernel
theorem dX7_emptyBins_31 : decode cX7_emptyBins 31 = .ok (.iload_n 1, 1) := by decide +kernel
theorem dX7_emptyBins_32 : decode cX7_emptyBins 32 = .ok (.ireturn, 1) := by decide +kernel
theorem v_X7_emptyBins : yX7_emptyBins.cls = RX7 ∧ yX7_emptyBins.cls ≠ "java/lang/invoke/MethodHandle" ∧ yX7_emptyBins.cls ≠ "java/lang/invoke/VarHandle" ∧ (parseMethodDescriptor yX7_emptyBins.desc).map (fun d => d.parameters.length) = some 0 := ⟨rfl, by decide +kernel, by decide +kernel, by decide +kernel⟩
noncomputable def k_X7_emptyBins_0 (κ : gb_K) : gb_C := (o_ci 0 (o_is 1 (o_ci 0 (o_is 2 (o_j [0, 1, 2] (κ 4))))))
theorem l_X7_emptyBins_0 : gb_Li (fun κ => k_X7_emptyBins_0 κ) := (gb_li (q_ci 0) (gb_li (q_is 1) (gb_li (q_ci 0) (gb_li (q_is 2) (q_j [0, 1, 2] 4)))))
theorem s_X7_emptyBins_0   {κ : gb_K} (hκ : ∀ q, gb_S RX7 cX7_emptyBins 3 (gb_rm 0 0) 1 q (κ q)) : gb_S RX7 cX7_emptyBins 3 (gb_rm 0 0) 1 0 (k_X7_emptyBins_0 κ) := (s_iconst (by decide +kernel) dX7_emptyBins_0 (s_isn 1 rfl (Nat.le_of_ble_eq_true rfl) dX7_emptyBins_1 (s_iconst (by decide +kernel) dX7_emptyBins_2 (s_isn 2 rfl (Nat.le_of_ble_eq_true rfl) dX7_emptyBins_3 (s_j (hκ 4))))))
noncomputable def k_X7_emptyBins_25 (κ : gb_K) : gb_C := (o_inc 2 1 (o_j [0, 1, 2] (κ 4)))
theorem l_X7_emptyBins_25 : gb_Li (fun κ => k_X7_emptyBins_25 κ) := (gb_li (q_inc 2 1) (q_j [0, 1, 2] 4))
theorem s_X7_emptyBins_25   {κ : gb_K} (hκ : ∀ q, gb_S RX7 cX7_emptyBins 3 (gb_rm 0 0) 1 q (κ q)) : gb_S RX7 cX7_emptyBins 3 (gb_rm 0 0) 1 25 (k_X7_emptyBins_25 κ) := (s_inc (by decide +kernel) (Nat.le_of_ble_eq_true rfl) dX7_emptyBins_25 (s_goto (tgt := 4) (by decide +kernel) dX7_emptyBins_28 (s_j (hκ 4))))
noncomputable def k_X7_emptyBins_4 (κ : gb_K) : gb_C := (o_il 2 (o_ci 6 (o_cge (o_il 1 o_ri) (o_al 0 (o_gf 7 3 (o_il 2 (o_iald (o_zeq (o_il 1 (o_ci 1 (o_il 2 (o_ib (fun x y => x <<< (y &&& 31)) (o_ib (fun x y => x ||| y) (o_is 1 (k_X7_emptyBins_25 κ))))))) (k_X7_emptyBins_25 κ)))))))))
theorem l_X7_emptyBins_4 : gb_Li (fun κ => k_X7_emptyBins_4 κ) := (gb_li (q_il 2) (gb_li (q_ci 6) (q_cge (gb_li (q_il 1) (gb_li0 _)) (gb_li (q_al 0) (gb_li (q_gf 7 3) (gb_li (q_il 2) (gb_li q_iald (q_zeq (gb_li (q_il 1) (gb_li (q_ci 1) (gb_li (q_il 2) (gb_li (q_ib _) (gb_li (q_ib _) (gb_li (q_is 1) (l_X7_emptyBins_25))))))) (l_X7_emptyBins_25)))))))))
theorem s_X7_emptyBins_4   {κ : gb_K} (hκ : ∀ q, gb_S RX7 cX7_emptyBins 3 (gb_rm 0 0) 1 q (κ q)) : gb_S RX7 cX7_emptyBins 3 (gb_rm 0 0) 1 4 (k_X7_emptyBins_4 κ) := (s_iln 2 rfl dX7_emptyBins_4 (s_bipush (by decide +kernel) dX7_emptyBins_5 (s_cge (tgt := 31) (by decide +kernel) dX7_emptyBins_7 (s_iln 1 rfl dX7_emptyBins_31 (s_ri rfl dX7_emptyBins_32)) (s_aln 0 rfl dX7_emptyBins_10 (s_gf (T := TX7) winX7 rfl (Nat.le_of_ble_eq_true rfl) gw_41 rfl dX7_emptyBins_11 (s_iln 2 rfl dX7_emptyBins_14 (s_iald dX7_emptyBins_15 (s_zne (tgt := 25) (by decide +kernel) dX7_emptyBins_16 (s_X7_emptyBins_25 hκ) (s_iln 1 rfl dX7_emptyBins_19 (s_iconst (by decide +kernel) dX7_emptyBins_20 (s_iln 2 rfl dX7_emptyBins_21 (s_ishl dX7_emptyBins_22 (s_ior dX7_emptyBins_23 (s_isn 1 rfl (Nat.le_of_ble_eq_true rfl) dX7_emptyBins_24 (s_X7_emptyBins_25 hκ)))))))))))))))
noncomputable def B_X7_emptyBins : List (Nat × (gb_K → gb_C)) := [(4, fun κ => k_X7_emptyBins_4 κ)]
noncomputable def K_X7_emptyBins : gb_K := gb_fx (gb_tb (B_X7_emptyBins))
theorem L_X7_emptyBins : ∀ q, gb_Li (fun κ => gb_tb (B_X7_emptyBins) κ q) := gb_tb_li (List.forall_mem_cons.mpr ⟨l_X7_emptyBins_4, (fun _ h => absurd h List.not_mem_nil)⟩)
theorem S_X7_emptyBins   : ∀ q, gb_S RX7 cX7_emptyBins 3 (gb_rm 0 0) 1 q (K_X7_emptyBins q) := fun q => gb_fx_S (L_X7_emptyBins) (gb_tb_S (List.forall_mem_cons.mpr ⟨fun κ hκ => s_X7_emptyBins_4 hκ, (fun _ h => absurd h List.not_mem_nil)⟩)) q
noncomputable def f_X7_emptyBins : gb_F := gb_hide (gb_mf 3 (k_X7_emptyBins_0 (K_X7_emptyBins)))
theorem c_X7_emptyBins : ∀ l, gb_Met l yX7_emptyBins cX7_emptyBins 3 (some .int) 1 (gb_rm 0 0) f_X7_emptyBins := gb_hide_c (gb_met (own := RX7) (rk := 1) rfl (by decide +kernel) ⟨rfl, rfl⟩ (s_X7_emptyBins_0 (S_X7_emptyBins)))
theorem dX7_tonsUnder_0 : decode cX7_tonsUnder 0 = .ok (.iconst 0, 1) := by decide +kernel
theorem dX7_tonsUnder_1 : decode cX7_tonsUnder 1 = .ok (.istore_n 3, 1) := by decide +kernel
theorem dX7_tonsUnder_2 : decode cX7_tonsUnder 2 = .ok (.iconst 0, 1) := by decide +kernel
theorem dX7_tonsUnder_3 : decode cX7_tonsUnder 3 = .ok (.istore 4, 2) := by decide +kernel
theorem dX7_tonsUnder_5 : decode cX7_tonsUnder 5 = .ok (.iload 4, 2) := by decide +kernel
theorem dX7_tonsUnder_7 : decode cX7_tonsUnder 7 = .ok (.iload_n 2, 1) := by decide +kernel
theorem dX7_tonsUnder_8 : decode cX7_tonsUnder 8 = .ok (.if_icmp .ge 34, 3) := by decide +kernel
theorem dX7_tonsUnder_11 : decode cX7_tonsUnder 11 = .ok (.iload 4, 2) := by decide +kernel
theorem dX7_tonsUnder_13 : decode cX7_tonsUnder 13 = .ok (.aload_n 0, 1) := by decide +kernel
theorem dX7_tonsUnder_14 : decode cX7_tonsUnder 14 = .ok (.getfield 18, 3) := by decide +kernel
theorem dX7_tonsUnder_17 : decode cX7_tonsUnder 17 = .ok (.iload_n 1, 1) := by decide +kernel
theorem dX7_tonsUnder_18 : decode cX7_tonsUnder 18 = .ok (.iaload, 1) := by decide +kernel
theorem dX7_tonsUnder_19 : decode cX7_tonsUnder 19 = .ok (.if_icmp .ge 23, 3) := by decide +kernel
theorem dX7_tonsUnder_22 : decode cX7_tonsUnder 22 = .ok (.iload_n 3, 1) := by decide +kernel
theorem dX7_tonsUnder_23 : decode cX7_tonsUnder 23 = .ok (.aload_n 0, 1) := by decide +kernel
theorem dX7_tonsUnder_24 : decode cX7_tonsUnder 24 = .ok (.getfield 27, 3) := by decide +kernel
theorem dX7_tonsUnder_27 : decode cX7_tonsUnder 27 = .ok (.iload_n 1, 1) := by decide +kernel
theorem dX7_tonsUnder_28 : decode cX7_tonsUnder 28 = .ok (.iload 4, 2) := by decide +kernel
theorem dX7_tonsUnder_30 : decode cX7_tonsUnder 30 = .ok (.invokestatic 51, 3) := by decide +kernel
theorem dX7_tonsUnder_33 : decode cX7_tonsUnder 33 = .ok (.iaload, 1) := by decide +kernel
theorem dX7_tonsUnder_34 : decode cX7_tonsUnder 34 = .ok (.iadd, 1) := by decide +kernel
theorem dX7_tonsUnder_35 : decode cX7_tonsUnder 35 = .ok (.istore_n 3, 1) := by decide +kernel
theorem dX7_tonsUnder_36 : decode cX7_tonsUnder 36 = .ok (.iinc 4 1, 3) := by decide +kernel
theorem dX7_tonsUnder_39 : decode cX7_tonsUnder 39 = .ok (.goto (-34), 3) := by decide +kernel
theorem dX7_tonsUnder_42 : decode cX7_tonsUnder 42 = .ok (.iload_n 3, 1) := by decide +kernel
theorem dX7_tonsUnder_43 : decode cX7_tonsUnder 43 = .ok (.ireturn, 1) := by decide +kernel
theorem v_X7_tonsUnder : yX7_tonsUnder.cls = RX7 ∧ yX7_tonsUnder.cls ≠ "java/lang/invoke/MethodHandle" ∧ yX7_tonsUnder.cls ≠ "java/lang/invoke/VarHandle" ∧ (parseMethodDescriptor yX7_tonsUnder.desc).map (fun d => d.parameters.length) = some 2 := ⟨rfl, by decide +kernel, by decide +kernel, by decide +kernel⟩
noncomputable def k_X7_tonsUnder_0 (κ : gb_K) : gb_C := (o_ci 0 (o_is 3 (o_ci 0 (o_is 4 (o_j [0, 1, 2, 3, 4] (κ 5))))))
theorem l_X7_tonsUnder_0 : gb_Li (fun κ => k_X7_tonsUnder_0 κ) := (gb_li (q_ci 0) (gb_li (q_is 3) (gb_li (q_ci 0) (gb_li (q_is 4) (q_j [0, 1, 2, 3, 4] 5)))))
theorem s_X7_tonsUnder_0   {κ : gb_K} (hκ : ∀ q, gb_S RX7 cX7_tonsUnder 5 (gb_rm 1 21) 1 q (κ q)) : gb_S RX7 cX7_tonsUnder 5 (gb_rm 1 21) 1 0 (k_X7_tonsUnder_0 κ) := (s_iconst (by decide +kernel) dX7_tonsUnder_0 (s_isn 3 rfl (Nat.le_of_ble_eq_true rfl) dX7_tonsUnder_1 (s_iconst (by decide +kernel) dX7_tonsUnder_2 (s_is (Nat.le_of_ble_eq_true rfl) dX7_tonsUnder_3 (s_j (hκ 5))))))
noncomputable def k_X7_tonsUnder_42 (κ : gb_K) : gb_C := (o_il 3 o_ri)
theorem l_X7_tonsUnder_42 : gb_Li (fun κ => k_X7_tonsUnder_42 κ) := (gb_li (q_il 3) (gb_li0 _))
theorem s_X7_tonsUnder_42   {κ : gb_K} (hκ : ∀ q, gb_S RX7 cX7_tonsUnder 5 (gb_rm 1 21) 1 q (κ q)) : gb_S RX7 cX7_tonsUnder 5 (gb_rm 1 21) 1 42 (k_X7_tonsUnder_42 κ) := (s_iln 3 rfl dX7_tonsUnder_42 (s_ri rfl dX7_tonsUnder_43))
noncomputable def k_X7_tonsUnder_5 (κ : gb_K) : gb_C := (o_il 4 (o_il 2 (o_cge (k_X7_tonsUnder_42 κ) (o_il 4 (o_al 0 (o_gf 7 3 (o_il 1 (o_iald (o_cge (k_X7_tonsUnder_42 κ) (o_il 3 (o_al 0 (o_gf 7 6 (o_il 1 (o_il 4 (o_cs 2 1 f_X7_place (o_iald (o_ib (fun x y => x + y) (o_is 3 (o_inc 4 1 (o_j [0, 1, 2, 3, 4] (κ 5)))))))))))))))))))))
theorem l_X7_tonsUnder_5 : gb_Li (fun κ => k_X7_tonsUnder_5 κ) := (gb_li (q_il 4) (gb_li (q_il 2) (q_cge (l_X7_tonsUnder_42) (gb_li (q_il 4) (gb_li (q_al 0) (gb_li (q_gf 7 3) (gb_li (q_il 1) (gb_li q_iald (q_cge (l_X7_tonsUnder_42) (gb_li (q_il 3) (gb_li (q_al 0) (gb_li (q_gf 7 6) (gb_li (q_il 1) (gb_li (q_il 4) (gb_li (q_cs 2 1 f_X7_place) (gb_li q_iald (gb_li (q_ib _) (gb_li (q_is 3) (gb_li (q_inc 4 1) (q_j [0, 1, 2, 3, 4] 5))))))))))))))))))))
theorem s_X7_tonsUnder_5   {κ : gb_K} (hκ : ∀ q, gb_S RX7 cX7_tonsUnder 5 (gb_rm 1 21) 1 q (κ q)) : gb_S RX7 cX7_tonsUnder 5 (gb_rm 1 21) 1 5 (k_X7_tonsUnder_5 κ) := (s_il dX7_tonsUnder_5 (s_iln 2 rfl dX7_tonsUnder_7 (s_cge (tgt := 42) (by decide +kernel) dX7_tonsUnder_8 (s_X7_tonsUnder_42 hκ) (s_il dX7_tonsUnder_11 (s_aln 0 rfl dX7_tonsUnder_13 (s_gf (T := TX7) winX7 rfl (Nat.le_of_ble_eq_true rfl) gw_41 rfl dX7_tonsUnder_14 (s_iln 1 rfl dX7_tonsUnder_17 (s_iald dX7_tonsUnder_18 (s_cge (tgt := 42) (by decide +kernel) dX7_tonsUnder_19 (s_X7_tonsUnder_42 hκ) (s_iln 3 rfl dX7_tonsUnder_22 (s_aln 0 rfl dX7_tonsUnder_23 (s_gf (T := TX7) winX7 rfl (Nat.le_of_ble_eq_true rfl) gw_47 rfl dX7_tonsUnder_24 (s_iln 1 rfl dX7_tonsUnder_27 (s_il dX7_tonsUnder_28 (s_cs c_X7_place (gb_l4 gw_45 gw_23 gw_11 gw_24) v_X7_place.2 ⟨rfl, rfl⟩ ⟨Nat.le_of_ble_eq_true rfl, Nat.le_of_ble_eq_true rfl⟩ dX7_tonsUnder_30 (s_iald dX7_tonsUnder_33 (s_iadd dX7_tonsUnder_34 (s_isn 3 rfl (Nat.le_of_ble_eq_true rfl) dX7_tonsUnder_35 (s_inc (by decide +kernel) (Nat.le_of_ble_eq_true rfl) dX7_tonsUnder_36 (s_goto (tgt := 5) (by decide +kernel) dX7_tonsUnder_39 (s_j (hκ 5))))))))))))))))))))))
noncomputable def B_X7_tonsUnder : List (Nat × (gb_K → gb_C)) := [(5, fun κ => k_X7_tonsUnder_5 κ)]
noncomputable def K_X7_tonsUnder : gb_K := gb_fx (gb_tb (B_X7_tonsUnder))
theorem L_X7_tonsUnder : ∀ q, gb_Li (fun κ => gb_tb (B_X7_tonsUnder) κ q) := gb_tb_li (List.forall_mem_cons.mpr ⟨l_X7_tonsUnder_5, (fun _ h => absurd h List.not_mem_nil)⟩)
theorem S_X7_tonsUnder   : ∀ q, gb_S RX7 cX7_tonsUnder 5 (gb_rm 1 21) 1 q (K_X7_tonsUnder q) := fun q => gb_fx_S (L_X7_tonsUnder) (gb_tb_S (List.forall_mem_cons.mpr ⟨fun κ hκ => s_X7_tonsUnder_5 hκ, (fun _ h => absurd h List.not_mem_nil)⟩)) q
noncomputable def f_X7_tonsUnder : gb_F := gb_hide (gb_mf 5 (k_X7_tonsUnder_0 (K_X7_tonsUnder)))
theorem c_X7_tonsUnder : ∀ l, gb_Met l yX7_tonsUnder cX7_tonsUnder 5 (some .int) 1 (gb_rm 1 21) f_X7_tonsUnder := gb_hide_c (gb_met (own := RX7) (rk := 1) rfl (by decide +kernel) ⟨rfl, rfl⟩ (s_X7_tonsUnder_0 (S_X7_tonsUnder)))
theorem dX7_partBelow_0 : decode cX7_partBelow 0 = .ok (.aload_n 0, 1) := by decide +kernel
theorem dX7_partBelow_1 : decode cX7_partBelow 1 = .ok (.iload_n 1, 1) := by decide +kernel
theorem dX7_partBelow_2 : decode cX7_partBelow 2 = .ok (.iload_n 2, 1) := by decide +kernel
theorem dX7_partBelow_3 : decode cX7_partBelow 3 = .ok (.invokevirtual 78, 3) := by decide +kernel
theorem dX7_partBelow_6 : decode cX7_partBelow 6 = .ok (.istore 4, 2) := by decide +kernel
theorem dX7_partBelow_8 : decode cX7_partBelow 8 = .ok (.iconst 0, 1) := by decide +kernel
theorem dX7_partBelow_9 : decode cX7_partBelow 9 = .ok (.aload_n 0, 1) := by decide +kernel
theorem dX7_partBelow_10 : decode cX7_partBelow 10 = .ok (.getfield 27, 3) := by decide +kernel
theorem dX7_partBelow_13 : decode cX7_partBelow 13 = .ok (.iload_n 1, 1) := by decide +kernel
theorem dX7_partBelow_14 : decode cX7_partBelow 14 = .ok (.iload_n 2, 1) := by decide +kernel
theorem dX7_partBelow_15 : decode cX7_partBelow 15 = .ok (.invokestatic 51, 3) := by decide +kernel
theorem dX7_partBelow_18 : decode cX7_partBelow 18 = .ok (.iaload, 1) := by decide +kernel
theorem dX7_partBelow_19 : decode cX7_partBelow 19 = .ok (.iload_n 3, 1) := by decide +kernel
theorem dX7_partBelow_20 : decode cX7_partBelow 20 = .ok (.iload 4, 2) := by decide +kernel
theorem dX7_partBelow_22 : decode cX7_partBelow 22 = .ok (.isub, 1) := by decide +kernel
theorem dX7_partBelow_23 : decode cX7_partBelow 23 = .ok (.invokestatic 81, 3) := by decide +kernel
theorem dX7_partBelow_26 : decode cX7_partBelow 26 = .ok (.invokestatic 86, 3) := by decide +kernel
theorem dX7_partBelow_29 : decode cX7_partBelow 29 = .ok (.ireturn, 1) := by decide +kernel
theorem v_X7_partBelow : yX7_partBelow.cls = RX7 ∧ yX7_partBelow.cls ≠ "java/lang/invoke/MethodHandle" ∧ yX7_partBelow.cls ≠ "java/lang/invoke/VarHandle" ∧ (parseMethodDescriptor yX7_partBelow.desc).map (fun d => d.parameters.length) = some 3 := ⟨rfl, by decide +kernel, by decide +kernel, by decide +kernel⟩
noncomputable def k_X7_partBelow_0 (κ : gb_K) : gb_C := (o_al 0 (o_il 1 (o_il 2 (o_cv 2 7 1 f_X7_tonsUnder (o_is 4 (o_ci 0 (o_al 0 (o_gf 7 6 (o_il 1 (o_il 2 (o_cs 2 1 f_X7_place (o_iald (o_il 3 (o_il 4 (o_ib (fun x y => x - y) (o_mmin (o_mmax o_ri)))))))))))))))))
theorem l_X7_partBelow_0 : gb_Li (fun κ => k_X7_partBelow_0 κ) := (gb_li (q_al 0) (gb_li (q_il 1) (gb_li (q_il 2) (gb_li (q_cv 2 7 1 f_X7_tonsUnder) (gb_li (q_is 4) (gb_li (q_ci 0) (gb_li (q_al 0) (gb_li (q_gf 7 6) (gb_li (q_il 1) (gb_li (q_il 2) (gb_li (q_cs 2 1 f_X7_place) (gb_li q_iald (gb_li (q_il 3) (gb_li (q_il 4) (gb_li (q_ib _) (gb_li q_mmin (gb_li q_mmax (gb_li0 _))))))))))))))))))
theorem s_X7_partBelow_0   {κ : gb_K} (hκ : ∀ q, gb_S RX7 cX7_partBelow 5 (gb_rm 2 45) 1 q (κ q)) : gb_S RX7 cX7_partBelow 5 (gb_rm 2 45) 1 0 (k_X7_partBelow_0 κ) := (s_aln 0 rfl dX7_partBelow_0 (s_iln 1 rfl dX7_partBelow_1 (s_iln 2 rfl dX7_partBelow_2 (s_cv (C := RX7) c_X7_tonsUnder rfl (gb_l5 gw_248 gw_249 gw_250 gw_11 gw_251) v_X7_tonsUnder ⟨rfl, rfl⟩ ⟨Nat.le_of_ble_eq_true rfl, Nat.le_of_ble_eq_true rfl⟩ dX7_partBelow_3 (s_is (Nat.le_of_ble_eq_true rfl) dX7_partBelow_6 (s_iconst (by decide +kernel) dX7_partBelow_8 (s_aln 0 rfl dX7_partBelow_9 (s_gf (T := TX7) winX7 rfl (Nat.le_of_ble_eq_true rfl) gw_47 rfl dX7_partBelow_10 (s_iln 1 rfl dX7_partBelow_13 (s_iln 2 rfl dX7_partBelow_14 (s_cs c_X7_place (gb_l4 gw_45 gw_23 gw_11 gw_24) v_X7_place.2 ⟨rfl, rfl⟩ ⟨Nat.le_of_ble_eq_true rfl, Nat.le_of_ble_eq_true rfl⟩ dX7_partBelow_15 (s_iald dX7_partBelow_18 (s_iln 3 rfl dX7_partBelow_19 (s_il dX7_partBelow_20 (s_isub dX7_partBelow_22 (s_mmin ⟨Nat.le_of_ble_eq_true rfl, Nat.le_of_ble_eq_true rfl⟩ (gb_l4 gw_94 gw_95 gw_17 gw_96) dX7_partBelow_23 (s_mmax ⟨Nat.le_of_ble_eq_true rfl, Nat.le_of_ble_eq_true rfl⟩ (gb_l4 gw_252 gw_16 gw_17 gw_18) dX7_partBelow_26 (s_ri rfl dX7_partBelow_29))))))))))))))))))
noncomputable def f_X7_partBelow : gb_F := gb_hide (gb_mf 5 (k_X7_partBelow_0 gb_n))
theorem c_X7_partBelow : ∀ l, gb_Met l yX7_partBelow cX7_partBelow 5 (some .int) 1 (gb_rm 2 45) f_X7_partBelow := gb_hide_c (gb_met (own := RX7) (rk := 1) rfl (by decide +kernel) ⟨rfl, rfl⟩ (s_X7_partBelow_0 gb_S_n))
theorem dX7_tonsBelow_0 : decode cX7_tonsBelow 0 = .ok (.iconst 0, 1) := by decide +kernel
theorem dX7_tonsBelow_1 : decode cX7_tonsBelow 1 = .ok (.istore 4, 2) := by decide +kernel
theorem dX7_tonsBelow_3 : decode cX7_tonsBelow 3 = .ok (.iconst 0, 1) := by decide +kernel
theorem dX7_tonsBelow_4 : decode cX7_tonsBelow 4 = .ok (.istore 5, 2) := by decide +kernel
theorem dX7_tonsBelow_6 : decode cX7_tonsBelow 6 = .ok (.iload 5, 2) := by decide +kernel
theorem dX7_tonsBelow_8 : decode cX7_tonsBelow 8 = .ok (.aload_n 0, 1) := by decide +kernel
theorem dX7_tonsBelow_9 : decode cX7_tonsBelow 9 = .ok (.getfield 18, 3) := by decide +kernel
theorem dX7_tonsBelow_12 : decode cX7_tonsBelow 12 = .ok (.iload_n 1, 1) := by decide +kernel
theorem dX7_tonsBelow_13 : decode cX7_tonsBelow 13 = .ok (.iaload, 1) := by decide +kernel
theorem dX7_tonsBelow_14 : decode cX7_tonsBelow 14 = .ok (.if_icmp .ge 37, 3) := by decide +kernel
theorem dX7_tonsBelow_17 : decode cX7_tonsBelow 17 = .ok (.aload_n 0, 1) := by decide +kernel
theorem dX7_tonsBelow_18 : decode cX7_tonsBelow 18 = .ok (.getfield 24, 3) := by decide +kernel
theorem dX7_tonsBelow_21 : decode cX7_tonsBelow 21 = .ok (.iload_n 1, 1) := by decide +kernel
theorem dX7_tonsBelow_22 : decode cX7_tonsBelow 22 = .ok (.iload 5, 2) := by decide +kernel
theorem dX7_tonsBelow_24 : decode cX7_tonsBelow 24 = .ok (.invokestatic 51, 3) := by decide +kernel
theorem dX7_tonsBelow_27 : decode cX7_tonsBelow 27 = .ok (.iaload, 1) := by decide +kernel
theorem dX7_tonsBelow_28 : decode cX7_tonsBelow 28 = .ok (.iload_n 3, 1) := by decide +kernel
theorem dX7_tonsBelow_29 : decode cX7_tonsBelow 29 = .ok (.if_icmp .ne 16, 3) := by decide +kernel
theorem dX7_tonsBelow_32 : decode cX7_tonsBelow 32 = .ok (.iload 4, 2) := by decide +kernel
theorem dX7_tonsBelow_34 : decode cX7_tonsBelow 34 = .ok (.aload_n 0, 1) := by decide +kernel
theorem dX7_tonsBelow_35 : decode cX7_tonsBelow 35 = .ok (.iload_n 1, 1) := by decide +kernel
theorem dX7_tonsBelow_36 : decode cX7_tonsBelow 36 = .ok (.iload 5, 2) := by decide +kernel
theorem dX7_tonsBelow_38 : decode cX7_tonsBelow 38 = .ok (.iload_n 2, 1) := by decide +kernel
theorem dX7_tonsBelow_39 : decode cX7_tonsBelow 39 = .ok (.invokevirtual 89, 3) := by decide +kernel
theorem dX7_tonsBelow_42 : decode cX7_tonsBelow 42 = .ok (.iadd, 1) := by decide +kernel
theorem dX7_tonsBelow_43 : decode cX7_tonsBelow 43 = .ok (.istore 4, 2) := by decide +kernel
theorem dX7_tonsBelow_45 : decode cX7_tonsBelow 45 = .ok (.iinc 5 1, 3) := by decide +kernel
theorem dX7_tonsBelow_48 : decode cX7_tonsBelow 48 = .ok (.goto (-42), 3) := by decide +kernel
theorem dX7_tonsBelow_51 : decode cX7_tonsBelow 51 = .ok (.iload 4, 2) := by decide +kernel
theorem dX7_tonsBelow_53 : decode cX7_tonsBelow 53 = .ok (.ireturn, 1) := by decide +kernel
theorem v_X7_tonsBelow : yX7_tonsBelow.cls = RX7 ∧ yX7_tonsBelow.cls ≠ "java/lang/invoke/MethodHandle" ∧ yX7_tonsBelow.cls ≠ "java/lang/invoke/VarHandle" ∧ (parseMethodDescriptor yX7_tonsBelow.desc).map (fun d => d.parameters.length) = some 3 := ⟨rfl, by decide +kernel, by decide +kernel, by decide +kernel⟩
noncomputable def k_X7_tonsBelow_0 (κ : gb_K) : gb_C := (o_ci 0 (o_is 4 (o_ci 0 (o_is 5 (o_j [0, 1, 2, 3, 4, 5] (κ 6))))))
theorem l_X7_tonsBelow_0 : gb_Li (fun κ => k_X7_tonsBelow_0 κ) := (gb_li (q_ci 0) (gb_li (q_is 4) (gb_li (q_ci 0) (gb_li (q_is 5) (q_j [0, 1, 2, 3, 4, 5] 6)))))
theorem s_X7_tonsBelow_0   {κ : gb_K} (hκ : ∀ q, gb_S RX7 cX7_tonsBelow 6 (gb_rm 3 69) 1 q (κ q)) : gb_S RX7 cX7_tonsBelow 6 (gb_rm 3 69) 1 0 (k_X7_tonsBelow_0 κ) := (s_iconst (by decide +kernel) dX7_tonsBelow_0 (s_is (Nat.le_of_ble_eq_true rfl) dX7_tonsBelow_1 (s_iconst (by decide +kernel) dX7_tonsBelow_3 (s_is (Nat.le_of_ble_eq_true rfl) dX7_tonsBelow_4 (s_j (hκ 6))))))
noncomputable def k_X7_tonsBelow_45 (κ : gb_K) : gb_C := (o_inc 5 1 (o_j [0, 1, 2, 3, 4, 5] (κ 6)))
theorem l_X7_tonsBelow_45 : gb_Li (fun κ => k_X7_tonsBelow_45 κ) := (gb_li (q_inc 5 1) (q_j [0, 1, 2, 3, 4, 5] 6))
theorem s_X7_tonsBelow_45   {κ : gb_K} (hκ : ∀ q, gb_S RX7 cX7_tonsBelow 6 (gb_rm 3 69) 1 q (κ q)) : gb_S RX7 cX7_tonsBelow 6 (gb_rm 3 69) 1 45 (k_X7_tonsBelow_45 κ) := (s_inc (by decide +kernel) (Nat.le_of_ble_eq_true rfl) dX7_tonsBelow_45 (s_goto (tgt := 6) (by decide +kernel) dX7_tonsBelow_48 (s_j (hκ 6))))
noncomputable def k_X7_tonsBelow_6 (κ : gb_K) : gb_C := (o_il 5 (o_al 0 (o_gf 7 3 (o_il 1 (o_iald (o_cge (o_il 4 o_ri) (o_al 0 (o_gf 7 5 (o_il 1 (o_il 5 (o_cs 2 1 f_X7_place (o_iald (o_il 3 (o_ceq (o_il 4 (o_al 0 (o_il 1 (o_il 5 (o_il 2 (o_cv 3 7 1 f_X7_partBelow (o_ib (fun x y => x + y) (o_is 4 (k_X7_tonsBelow_45 κ))))))))) (k_X7_tonsBelow_45 κ)))))))))))))))
theorem l_X7_tonsBelow_6 : gb_Li (fun κ => k_X7_tonsBelow_6 κ) := (gb_li (q_il 5) (gb_li (q_al 0) (gb_li (q_gf 7 3) (gb_li (q_il 1) (gb_li q_iald (q_cge (gb_li (q_il 4) (gb_li0 _)) (gb_li (q_al 0) (gb_li (q_gf 7 5) (gb_li (q_il 1) (gb_li (q_il 5) (gb_li (q_cs 2 1 f_X7_place) (gb_li q_iald (gb_li (q_il 3) (q_ceq (gb_li (q_il 4) (gb_li (q_al 0) (gb_li (q_il 1) (gb_li (q_il 5) (gb_li (q_il 2) (gb_li (q_cv 3 7 1 f_X7_partBelow) (gb_li (q_ib _) (gb_li (q_is 4) (l_X7_tonsBelow_45))))))))) (l_X7_tonsBelow_45)))))))))))))))
theorem s_X7_tonsBelow_6   {κ : gb_K} (hκ : ∀ q, gb_S RX7 cX7_tonsBelow 6 (gb_rm 3 69) 1 q (κ q)) : gb_S RX7 cX7_tonsBelow 6 (gb_rm 3 69) 1 6 (k_X7_tonsBelow_6 κ) := (s_il dX7_tonsBelow_6 (s_aln 0 rfl dX7_tonsBelow_8 (s_gf (T := TX7) winX7 rfl (Nat.le_of_ble_eq_true rfl) gw_41 rfl dX7_tonsBelow_9 (s_iln 1 rfl dX7_tonsBelow_12 (s_iald dX7_tonsBelow_13 (s_cge (tgt := 51) (by decide +kernel) dX7_tonsBelow_14 (s_il dX7_tonsBelow_51 (s_ri rfl dX7_tonsBelow_53)) (s_aln 0 rfl dX7_tonsBelow_17 (s_gf (T := TX7) winX7 rfl (Nat.le_of_ble_eq_true rfl) gw_46 rfl dX7_tonsBelow_18 (s_iln 1 rfl dX7_tonsBelow_21 (s_il dX7_tonsBelow_22 (s_cs c_X7_place (gb_l4 gw_45 gw_23 gw_11 gw_24) v_X7_place.2 ⟨rfl, rfl⟩ ⟨Nat.le_of_ble_eq_true rfl, Nat.le_of_ble_eq_true rfl⟩ dX7_tonsBelow_24 (s_iald dX7_tonsBelow_27 (s_iln 3 rfl dX7_tonsBelow_28 (s_cne (tgt := 45) (by decide +kernel) dX7_tonsBelow_29 (s_X7_tonsBelow_45 hκ) (s_il dX7_tonsBelow_32 (s_aln 0 rfl dX7_tonsBelow_34 (s_iln 1 rfl dX7_tonsBelow_35 (s_il dX7_tonsBelow_36 (s_iln 2 rfl dX7_tonsBelow_38 (s_cv (C := RX7) c_X7_partBelow rfl (gb_l5 gw_253 gw_254 gw_255 gw_11 gw_256) v_X7_partBelow ⟨rfl, rfl⟩ ⟨Nat.le_of_ble_eq_true rfl, Nat.le_of_ble_eq_true rfl⟩ dX7_tonsBelow_39 (s_iadd dX7_tonsBelow_42 (s_is (Nat.le_of_ble_eq_true rfl) dX7_tonsBelow_43 (s_X7_tonsBelow_45 hκ)))))))))))))))))))))))
noncomputable def B_X7_tonsBelow : List (Nat × (gb_K → gb_C)) := [(6, fun κ => k_X7_tonsBelow_6 κ)]
noncomputable def K_X7_tonsBelow : gb_K := gb_fx (gb_tb (B_X7_tonsBelow))
theorem L_X7_tonsBelow : ∀ q, gb_Li (fun κ => gb_tb (B_X7_tonsBelow) κ q) := gb_tb_li (List.forall_mem_cons.mpr ⟨l_X7_tonsBelow_6, (fun _ h => absurd h List.not_mem_nil)⟩)
theorem S_X7_tonsBelow   : ∀ q, gb_S RX7 cX7_tonsBelow 6 (gb_rm 3 69) 1 q (K_X7_tonsBelow q) := fun q => gb_fx_S (L_X7_tonsBelow) (gb_tb_S (List.forall_mem_cons.mpr ⟨fun κ hκ => s_X7_tonsBelow_6 hκ, (fun _ h => absurd h List.not_mem_nil)⟩)) q
noncomputable def f_X7_tonsBelow : gb_F := gb_hide (gb_mf 6 (k_X7_tonsBelow_0 (K_X7_tonsBelow)))
theorem c_X7_tonsBelow : ∀ l, gb_Met l yX7_tonsBelow cX7_tonsBelow 6 (some .int) 1 (gb_rm 3 69) f_X7_tonsBelow := gb_hide_c (gb_met (own := RX7) (rk := 1) rfl (by decide +kernel) ⟨rfl, rfl⟩ (s_X7_tonsBelow_0 (S_X7_tonsBelow)))
theorem dX7_unit_0 : decode cX7_unit 0 = .ok (.aload_n 0, 1) := by decide +kernel
theorem dX7_unit_1 : decode cX7_unit 1 = .ok (.getfield 24, 3) := by decide +kernel
theorem dX7_unit_4 : decode cX7_unit 4 = .ok (.iload_n 1, 1) := by decide +kernel
theorem dX7_unit_5 : decode cX7_unit 5 = .ok (.iaload, 1) := by decide +kernel
theorem dX7_unit_6 : decode cX7_unit 6 = .ok (.istore_n 3, 1) := by decide +kernel
theorem dX7_unit_7 : decode cX7_unit 7 = .ok (.iconst 0, 1) := by decide +kernel
theorem dX7_unit_8 : decode cX7_unit 8 = .ok (.iload_n 2, 1) := by decide +kernel
theorem dX7_unit_9 : decode cX7_unit 9 = .ok (.aload_n 0, 1) := by decide +kernel
theorem dX7_unit_10 : decode cX7_unit 10 = .ok (.getfield 30, 3) := by decide +kernel
theorem dX7_unit_13 : decode cX7_unit 13 = .ok (.iload_n 1, 1) := by decide +kernel
theorem dX7_unit_14 : decode cX7_unit 14 = .ok (.iaload, 1) := by decide +kernel
theorem dX7_unit_15 : decode cX7_unit 15 = .ok (.isub, 1) := by decide +kernel
theorem dX7_unit_16 : decode cX7_unit 16 = .ok (.aload_n 0, 1) := by decide +kernel
theorem dX7_unit_17 : decode cX7_unit 17 = .ok (.getfield 36, 3) := by decide +kernel
theorem dX7_unit_20 : decode cX7_unit 20 = .ok (.getfield 115, 3) := by decide +kernel
theorem dX7_unit_23 : decode cX7_unit 23 = .ok (.iload_n 3, 1) := by decide +kernel
theorem dX7_unit_24 : decode cX7_unit 24 = .ok (.iaload, 1) := by decide +kernel
theorem dX7_unit_25 : decode cX7_unit 25 = .ok (.isub, 1) := by decide +kernel
theorem dX7_unit_26 : decode cX7_unit 26 = .ok (.invokestatic 86, 3) := by decide +kernel
theorem dX7_unit_29 : decode cX7_unit 29 = .ok (.istore 4, 2) := by decide +kernel
theorem dX7_unit_31 : decode cX7_unit 31 = .ok (.iconst 0, 1) := by decide +kernel
theorem dX7_unit_32 : decode cX7_unit 32 = .ok (.aload_n 0, 1) := by decide +kernel
theorem dX7_unit_33 : decode cX7_unit 33 = .ok (.getfield 9, 3) := by decide +kernel
theorem dX7_unit_36 : decode cX7_unit 36 = .ok (.iload_n 3, 1) := by decide +kernel
theorem dX7_unit_37 : decode cX7_unit 37 = .ok (.iaload, 1) := by decide +kernel
theorem dX7_unit_38 : decode cX7_unit 38 = .ok (.iload 4, 2) := by decide +kernel
theorem dX7_unit_40 : decode cX7_unit 40 = .ok (.isub, 1) := by decide +kernel
theorem dX7_unit_41 : decode cX7_unit 41 = .ok (.invokestatic 86, 3) := by decide +kernel
theorem dX7_unit_44 : decode cX7_unit 44 = .ok (.ireturn, 1) := by decide +kernel
theorem v_X7_unit : yX7_unit.cls = RX7 ∧ yX7_unit.cls ≠ "java/lang/invoke/MethodHandle" ∧ yX7_unit.cls ≠ "java/lang/invoke/VarHandle" ∧ (parseMethodDescriptor yX7_unit.desc).map (fun d => d.parameters.length) = some 2 := ⟨rfl, by decide +kernel, by decide +kernel, by decide +kernel⟩
noncomputable def k_X7_unit_0 (κ : gb_K) : gb_C := (o_al 0 (o_gf 7 5 (o_il 1 (o_iald (o_is 3 (o_ci 0 (o_il 2 (o_al 0 (o_gf 7 7 (o_il 1 (o_iald (o_ib (fun x y => x - y) (o_al 0 (o_gf 7 0 (o_gf 5 1 (o_il 3 (o_iald (o_ib (fun x y => x - y) (o_mmax (o_is 4 (o_ci 0 (o_al 0 (o_gf 7 1 (o_il 3 (o_iald (o_il 4 (o_ib (fun x y => x - y) (o_mmax o_ri))))))))))))))))))))))))))))
theorem l_X7_unit_0 : gb_Li (fun κ => k_X7_unit_0 κ) := (gb_li (q_al 0) (gb_li (q_gf 7 5) (gb_li (q_il 1) (gb_li q_iald (gb_li (q_is 3) (gb_li (q_ci 0) (gb_li (q_il 2) (gb_li (q_al 0) (gb_li (q_gf 7 7) (gb_li (q_il 1) (gb_li q_iald (gb_li (q_ib _) (gb_li (q_al 0) (gb_li (q_gf 7 0) (gb_li (q_gf 5 1) (gb_li (q_il 3) (gb_li q_iald (gb_li (q_ib _) (gb_li q_mmax (gb_li (q_is 4) (gb_li (q_ci 0) (gb_li (q_al 0) (gb_li (q_gf 7 1) (gb_li (q_il 3) (gb_li q_iald (gb_li (q_il 4) (gb_li (q_ib _) (gb_li q_mmax (gb_li0 _)))))))))))))))))))))))))))))
theorem s_X7_unit_0   {κ : gb_K} (hκ : ∀ q, gb_S RX7 cX7_unit 5 (gb_rm 1 21) 1 q (κ q)) : gb_S RX7 cX7_unit 5 (gb_rm 1 21) 1 0 (k_X7_unit_0 κ) := (s_aln 0 rfl dX7_unit_0 (s_gf (T := TX7) winX7 rfl (Nat.le_of_ble_eq_true rfl) gw_46 rfl dX7_unit_1 (s_iln 1 rfl dX7_unit_4 (s_iald dX7_unit_5 (s_isn 3 rfl (Nat.le_of_ble_eq_true rfl) dX7_unit_6 (s_iconst (by decide +kernel) dX7_unit_7 (s_iln 2 rfl dX7_unit_8 (s_aln 0 rfl dX7_unit_9 (s_gf (T := TX7) winX7 rfl (Nat.le_of_ble_eq_true rfl) gw_44 rfl dX7_unit_10 (s_iln 1 rfl dX7_unit_13 (s_iald dX7_unit_14 (s_isub dX7_unit_15 (s_aln 0 rfl dX7_unit_16 (s_gf (T := TX7) winX7 rfl (Nat.le_of_ble_eq_true rfl) gw_65 rfl dX7_unit_17 (s_gf (T := TX5) winX5 rfl (Nat.le_of_ble_eq_true rfl) gw_257 rfl dX7_unit_20 (s_iln 3 rfl dX7_unit_23 (s_iald dX7_unit_24 (s_isub dX7_unit_25 (s_mmax ⟨Nat.le_of_ble_eq_true rfl, Nat.le_of_ble_eq_true rfl⟩ (gb_l4 gw_252 gw_16 gw_17 gw_18) dX7_unit_26 (s_is (Nat.le_of_ble_eq_true rfl) dX7_unit_29 (s_iconst (by decide +kernel) dX7_unit_31 (s_aln 0 rfl dX7_unit_32 (s_gf (T := TX7) winX7 rfl (Nat.le_of_ble_eq_true rfl) gw_48 rfl dX7_unit_33 (s_iln 3 rfl dX7_unit_36 (s_iald dX7_unit_37 (s_il dX7_unit_38 (s_isub dX7_unit_40 (s_mmax ⟨Nat.le_of_ble_eq_true rfl, Nat.le_of_ble_eq_true rfl⟩ (gb_l4 gw_252 gw_16 gw_17 gw_18) dX7_unit_41 (s_ri rfl dX7_unit_44)))))))))))))))))))))))))))))
noncomputable def f_X7_unit : gb_F := gb_hide (gb_mf 5 (k_X7_unit_0 gb_n))
theorem c_X7_unit : ∀ l, gb_Met l yX7_unit cX7_unit 5 (some .int) 1 (gb_rm 1 21) f_X7_unit := gb_hide_c (gb_met (own := RX7) (rk := 1) rfl (by decide +kernel) ⟨rfl, rfl⟩ (s_X7_unit_0 gb_S_n))
