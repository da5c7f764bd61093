/-! CODE: printed by wip/p44/gen.py -/
theorem dX0_takeWay_0 : decode cX0_takeWay 0 = .ok (.aload_n 0, 1) := by decide +kernel
theorem dX0_takeWay_1 : decode cX0_takeWay 1 = .ok (.iload_n 1, 1) := by decide +kernel
theorem dX0_takeWay_2 : decode cX0_takeWay 2 = .ok (.putfield 31, 3) := by decide +kernel
theorem dX0_takeWay_5 : decode cX0_takeWay 5 = .ok (.iconst 0, 1) := by decide +kernel
theorem dX0_takeWay_6 : decode cX0_takeWay 6 = .ok (.istore_n 2, 1) := by decide +kernel
theorem dX0_takeWay_7 : decode cX0_takeWay 7 = .ok (.iload_n 2, 1) := by decide +kernel
theorem dX0_takeWay_8 : decode cX0_takeWay 8 = .ok (.aload_n 0, 1) := by decide +kernel
theorem dX0_takeWay_9 : decode cX0_takeWay 9 = .ok (.getfield 27, 3) := by decide +kernel
theorem dX0_takeWay_12 : decode cX0_takeWay 12 = .ok (.getfield 69, 3) := by decide +kernel
theorem dX0_takeWay_15 : decode cX0_takeWay 15 = .ok (.if_icmp .ge 21, 3) := by decide +kernel
theorem dX0_takeWay_18 : decode cX0_takeWay 18 = .ok (.aload_n 0, 1) := by decide +kernel
theorem dX0_takeWay_19 : decode cX0_takeWay 19 = .ok (.getfield 20, 3) := by decide +kernel
theorem dX0_takeWay_22 : decode cX0_takeWay 22 = .ok (.iload_n 2, 1) := by decide +kernel
theorem dX0_takeWay_23 : decode cX0_takeWay 23 = .ok (.aload_n 0, 1) := by decide +kernel
theorem dX0_takeWay_24 : decode cX0_takeWay 24 = .ok (.getfield 17, 3) := by decide +kernel
theorem dX0_takeWay_27 : decode cX0_takeWay 27 = .ok (.iload_n 2, 1) := by decide +kernel
theorem dX0_takeWay_28 : decode cX0_takeWay 28 = .ok (.iaload, 1) := by decide +kernel
theorem dX0_takeWay_29 : decode cX0_takeWay 29 = .ok (.iastore, 1) := by decide +kernel
theorem dX0_takeWay_30 : decode cX0_takeWay 30 = .ok (.iinc 2 1, 3) := by decide +kernel
theorem dX0_takeWay_33 : decode cX0_takeWay 33 = .ok (.goto (-26), 3) := by decide +kernel
theorem dX0_takeWay_36 : decode cX0_takeWay 36 = .ok (.return_, 1) := by decide +kernel
theorem v_X0_takeWay : yX0_takeWay.cls = RX0 ∧ yX0_takeWay.cls ≠ "java/lang/invoke/MethodHandle" ∧ yX0_takeWay.cls ≠ "java/lang/invoke/VarHandle" ∧ (parseMethodDescriptor yX0_takeWay.desc).map (fun d => d.parameters.length) = some 1 := ⟨rfl, by decide +kernel, by decide +kernel, by decide +kernel⟩
noncomputable def k_X0_takeWay_0 (κ : gb_K) : gb_C := (o_al 0 (o_il 1 (o_pf 0 5 (o_ci 0 (o_is 2 (o_j [0, 2] (κ 7)))))))
theorem l_X0_takeWay_0 : gb_Li (fun κ => k_X0_takeWay_0 κ) := (gb_li (q_al 0) (gb_li (q_il 1) (gb_li (q_pf 0 5) (gb_li (q_ci 0) (gb_li (q_is 2) (q_j [0, 2] 7))))))
theorem s_X0_takeWay_0   {κ : gb_K} (hκ : ∀ q, gb_S RX0 cX0_takeWay 3 (gb_rm 0 0) 0 q (κ q)) : gb_S RX0 cX0_takeWay 3 (gb_rm 0 0) 0 0 (k_X0_takeWay_0 κ) := (s_aln 0 rfl dX0_takeWay_0 (s_iln 1 rfl dX0_takeWay_1 (s_pf (T := TX0) winX0 rfl (Nat.le_of_ble_eq_true rfl) tyX0_ok nmX0 rfl (by decide +kernel) gw_0 rfl dX0_takeWay_2 (s_iconst (by decide +kernel) dX0_takeWay_5 (s_isn 2 rfl (Nat.le_of_ble_eq_true rfl) dX0_takeWay_6 (s_j (hκ 7)))))))
noncomputable def k_X0_takeWay_7 (κ : gb_K) : gb_C := (o_il 2 (o_al 0 (o_gf 0 1 (o_gf 2 3 (o_cge o_rv (o_al 0 (o_gf 0 4 (o_il 2 (o_al 0 (o_gf 0 3 (o_il 2 (o_iald (o_iast (o_inc 2 1 (o_j [0, 2] (κ 7))))))))))))))))
theorem l_X0_takeWay_7 : gb_Li (fun κ => k_X0_takeWay_7 κ) := (gb_li (q_il 2) (gb_li (q_al 0) (gb_li (q_gf 0 1) (gb_li (q_gf 2 3) (q_cge (gb_li0 _) (gb_li (q_al 0) (gb_li (q_gf 0 4) (gb_li (q_il 2) (gb_li (q_al 0) (gb_li (q_gf 0 3) (gb_li (q_il 2) (gb_li q_iald (gb_li q_iast (gb_li (q_inc 2 1) (q_j [0, 2] 7)))))))))))))))
theorem s_X0_takeWay_7   {κ : gb_K} (hκ : ∀ q, gb_S RX0 cX0_takeWay 3 (gb_rm 0 0) 0 q (κ q)) : gb_S RX0 cX0_takeWay 3 (gb_rm 0 0) 0 7 (k_X0_takeWay_7 κ) := (s_iln 2 rfl dX0_takeWay_7 (s_aln 0 rfl dX0_takeWay_8 (s_gf (T := TX0) winX0 rfl (Nat.le_of_ble_eq_true rfl) gw_1 rfl dX0_takeWay_9 (s_gf (T := TX2) winX2 rfl (Nat.le_of_ble_eq_true rfl) gw_2 rfl dX0_takeWay_12 (s_cge (tgt := 36) (by decide +kernel) dX0_takeWay_15 (s_rv rfl dX0_takeWay_36) (s_aln 0 rfl dX0_takeWay_18 (s_gf (T := TX0) winX0 rfl (Nat.le_of_ble_eq_true rfl) gw_3 rfl dX0_takeWay_19 (s_iln 2 rfl dX0_takeWay_22 (s_aln 0 rfl dX0_takeWay_23 (s_gf (T := TX0) winX0 rfl (Nat.le_of_ble_eq_true rfl) gw_4 rfl dX0_takeWay_24 (s_iln 2 rfl dX0_takeWay_27 (s_iald dX0_takeWay_28 (s_iast dX0_takeWay_29 (s_inc (by decide +kernel) (Nat.le_of_ble_eq_true rfl) dX0_takeWay_30 (s_goto (tgt := 7) (by decide +kernel) dX0_takeWay_33 (s_j (hκ 7)))))))))))))))))
noncomputable def B_X0_takeWay : List (Nat × (gb_K → gb_C)) := [(7, fun κ => k_X0_takeWay_7 κ)]
noncomputable def K_X0_takeWay : gb_K := gb_fx (gb_tb (B_X0_takeWay))
theorem L_X0_takeWay : ∀ q, gb_Li (fun κ => gb_tb (B_X0_takeWay) κ q) := gb_tb_li (List.forall_mem_cons.mpr ⟨l_X0_takeWay_7, (fun _ h => absurd h List.not_mem_nil)⟩)
theorem S_X0_takeWay   : ∀ q, gb_S RX0 cX0_takeWay 3 (gb_rm 0 0) 0 q (K_X0_takeWay q) := fun q => gb_fx_S (L_X0_takeWay) (gb_tb_S (List.forall_mem_cons.mpr ⟨fun κ hκ => s_X0_takeWay_7 hκ, (fun _ h => absurd h List.not_mem_nil)⟩)) q
noncomputable def f_X0_takeWay : gb_F := gb_hide (gb_mf 3 (k_X0_takeWay_0 (K_X0_takeWay)))
theorem c_X0_takeWay : ∀ l, gb_Met l yX0_takeWay cX0_takeWay 3 none 0 (gb_rm 0 0) f_X0_takeWay := gb_hide_c (gb_met (own := RX0) (rk := 0) rfl (by decide +kernel) ⟨rfl, rfl⟩ (s_X0_takeWay_0 (S_X0_takeWay)))
theorem dX7_closed_0 : decode cX7_closed 0 = .ok (.aload_n 0, 1) := by decide +kernel
theorem dX7_closed_1 : decode cX7_closed 1 = .ok (.getfield 44, 3) := by decide +kernel
theorem dX7_closed_4 : decode cX7_closed 4 = .ok (.aload_n 0, 1) := by decide +kernel
theorem dX7_closed_5 : decode cX7_closed 5 = .ok (.getfield 15, 3) := by decide +kernel
theorem dX7_closed_8 : decode cX7_closed 8 = .ok (.iload_n 1, 1) := by decide +kernel
theorem dX7_closed_9 : decode cX7_closed 9 = .ok (.iaload, 1) := by decide +kernel
theorem dX7_closed_10 : decode cX7_closed 10 = .ok (.if_icmp .ge 7, 3) := by decide +kernel
theorem dX7_closed_13 : decode cX7_closed 13 = .ok (.iconst 1, 1) := by decide +kernel
theorem dX7_closed_14 : decode cX7_closed 14 = .ok (.goto 4, 3) := by decide +kernel
theorem dX7_closed_17 : decode cX7_closed 17 = .ok (.iconst 0, 1) := by decide +kernel
theorem dX7_closed_18 : decode cX7_closed 18 = .ok (.ireturn, 1) := by decide +kernel
theorem v_X7_closed : yX7_closed.cls = RX7 ∧ yX7_closed.cls ≠ "java/lang/invoke/MethodHandle" ∧ yX7_closed.cls ≠ "java/lang/invoke/VarHandle" ∧ (parseMethodDescriptor yX7_closed.desc).map (fun d => d.parameters.length) = some 1 := ⟨rfl, by decide +kernel, by decide +kernel, by decide +kernel⟩
noncomputable def k_X7_closed_18 (κ : gb_K) : gb_C := o_rz
theorem l_X7_closed_18 : gb_Li (fun κ => k_X7_closed_18 κ) := (gb_li0 _)
theorem s_X7_closed_18   {κ : gb_K} (hκ : ∀ q, gb_S RX7 cX7_closed 2 (gb_rm 0 0) 2 q (κ q)) : gb_S RX7 cX7_closed 2 (gb_rm 0 0) 2 18 (k_X7_closed_18 κ) := (s_rz rfl dX7_closed_18)
noncomputable def k_X7_closed_0 (κ : gb_K) : gb_C := (o_al 0 (o_gf 7 9 (o_al 0 (o_gf 7 2 (o_il 1 (o_iald (o_cge (o_ci 0 (k_X7_closed_18 κ)) (o_ci 1 (k_X7_closed_18 κ)))))))))
theorem l_X7_closed_0 : gb_Li (fun κ => k_X7_closed_0 κ) := (gb_li (q_al 0) (gb_li (q_gf 7 9) (gb_li (q_al 0) (gb_li (q_gf 7 2) (gb_li (q_il 1) (gb_li q_iald (q_cge (gb_li (q_ci 0) (l_X7_closed_18)) (gb_li (q_ci 1) (l_X7_closed_18)))))))))
theorem s_X7_closed_0   {κ : gb_K} (hκ : ∀ q, gb_S RX7 cX7_closed 2 (gb_rm 0 0) 2 q (κ q)) : gb_S RX7 cX7_closed 2 (gb_rm 0 0) 2 0 (k_X7_closed_0 κ) := (s_aln 0 rfl dX7_closed_0 (s_gf (T := TX7) winX7 rfl (Nat.le_of_ble_eq_true rfl) gw_5 rfl dX7_closed_1 (s_aln 0 rfl dX7_closed_4 (s_gf (T := TX7) winX7 rfl (Nat.le_of_ble_eq_true rfl) gw_6 rfl dX7_closed_5 (s_iln 1 rfl dX7_closed_8 (s_iald dX7_closed_9 (s_cge (tgt := 17) (by decide +kernel) dX7_closed_10 (s_iconst (by decide +kernel) dX7_closed_17 (s_X7_closed_18 hκ)) (s_iconst (by decide +kernel) dX7_closed_13 (s_goto (tgt := 18) (by decide +kernel) dX7_closed_14 (s_X7_closed_18 hκ))))))))))
noncomputable def f_X7_closed : gb_F := gb_hide (gb_mf 2 (k_X7_closed_0 gb_n))
theorem c_X7_closed : ∀ l, gb_Met l yX7_closed cX7_closed 2 (some .boolean) 2 (gb_rm 0 0) f_X7_closed := gb_hide_c (gb_met (own := RX7) (rk := 2) rfl (by decide +kernel) ⟨rfl, rfl⟩ (s_X7_closed_0 gb_S_n))
theorem dX7_place_0 : decode cX7_place 0 = .ok (.iload_n 0, 1) := by decide +kernel
theorem dX7_place_1 : decode cX7_place 1 = .ok (.bipush 6, 2) := by decide +kernel
theorem dX7_place_3 : decode cX7_place 3 = .ok (.imul, 1) := by decide +kernel
theorem dX7_place_4 : decode cX7_place 4 = .ok (.iload_n 1, 1) := by decide +kernel
theorem dX7_place_5 : decode cX7_place 5 = .ok (.iadd, 1) := by decide +kernel
theorem dX7_place_6 : decode cX7_place 6 = .ok (.ireturn, 1) := by decide +kernel
theorem v_X7_place : yX7_place.cls = RX7 ∧ yX7_place.cls ≠ "java/lang/invoke/MethodHandle" ∧ yX7_place.cls ≠ "java/lang/invoke/VarHandle" ∧ (parseMethodDescriptor yX7_place.desc).map (fun d => d.parameters.length) = some 2 := ⟨rfl, by decide +kernel, by decide +kernel, by decide +kernel⟩
noncomputable def k_X7_place_0 (κ : gb_K) : gb_C := (o_il 0 (o_ci 6 (o_ib (fun x y => x * y) (o_il 1 (o_ib (fun x y => x + y) o_ri)))))
theorem l_X7_place_0 : gb_Li (fun κ => k_X7_place_0 κ) := (gb_li (q_il 0) (gb_li (q_ci 6) (gb_li (q_ib _) (gb_li (q_il 1) (gb_li (q_ib _) (gb_li0 _))))))
theorem s_X7_place_0   {κ : gb_K} (hκ : ∀ q, gb_S RX7 cX7_place 2 (gb_rm 0 0) 1 q (κ q)) : gb_S RX7 cX7_place 2 (gb_rm 0 0) 1 0 (k_X7_place_0 κ) := (s_iln 0 rfl dX7_place_0 (s_bipush (by decide +kernel) dX7_place_1 (s_imul dX7_place_3 (s_iln 1 rfl dX7_place_4 (s_iadd dX7_place_5 (s_ri rfl dX7_place_6))))))
noncomputable def f_X7_place : gb_F := gb_hide (gb_mf 2 (k_X7_place_0 gb_n))
theorem c_X7_place : ∀ l, gb_Met l yX7_place cX7_place 2 (some .int) 1 (gb_rm 0 0) f_X7_place := gb_hide_c (gb_met (own := RX7) (rk := 1) rfl (by decide +kernel) ⟨rfl, rfl⟩ (s_X7_place_0 gb_S_n))
theorem dX0_canDraw_0 : decode cX0_canDraw 0 = .ok (.aload_n 0, 1) := by decide +kernel
theorem dX0_canDraw_1 : decode cX0_canDraw 1 = .ok (.getfield 23, 3) := by decide +kernel
theorem dX0_canDraw_4 : decode cX0_canDraw 4 = .ok (.iload_n 1, 1) := by decide +kernel
theorem dX0_canDraw_5 : decode cX0_canDraw 5 = .ok (.invokevirtual 43, 3) := by decide +kernel
theorem dX0_canDraw_8 : decode cX0_canDraw 8 = .ok (.ifCond .eq 5, 3) := by decide +kernel
theorem dX0_canDraw_11 : decode cX0_canDraw 11 = .ok (.iconst 0, 1) := by decide +kernel
theorem dX0_canDraw_12 : decode cX0_canDraw 12 = .ok (.ireturn, 1) := by decide +kernel
theorem dX0_canDraw_13 : decode cX0_canDraw 13 = .ok (.aload_n 0, 1) := by decide +kernel
theorem dX0_canDraw_14 : decode cX0_canDraw 14 = .ok (.getfield 27, 3) := by decide +kernel
theorem dX0_canDraw_17 : decode cX0_canDraw 17 = .ok (.getfield 49, 3) := by decide +kernel
theorem dX0_canDraw_20 : decode cX0_canDraw 20 = .ok (.iload_n 2, 1) := by decide +kernel
theorem dX0_canDraw_21 : decode cX0_canDraw 21 = .ok (.iaload, 1) := by decide +kernel
theorem dX0_canDraw_22 : decode cX0_canDraw 22 = .ok (.istore_n 3, 1) := by decide +kernel
theorem dX0_canDraw_23 : decode cX0_canDraw 23 = .ok (.aload_n 0, 1) := by decide +kernel
theorem dX0_canDraw_24 : decode cX0_canDraw 24 = .ok (.getfield 9, 3) := by decide +kernel
theorem dX0_canDraw_27 : decode cX0_canDraw 27 = .ok (.iload_n 1, 1) := by decide +kernel
theorem dX0_canDraw_28 : decode cX0_canDraw 28 = .ok (.iaload, 1) := by decide +kernel
theorem dX0_canDraw_29 : decode cX0_canDraw 29 = .ok (.istore 4, 2) := by decide +kernel
theorem dX0_canDraw_31 : decode cX0_canDraw 31 = .ok (.iconst 0, 1) := by decide +kernel
theorem dX0_canDraw_32 : decode cX0_canDraw 32 = .ok (.istore 5, 2) := by decide +kernel
theorem dX0_canDraw_34 : decode cX0_canDraw 34 = .ok (.iload 5, 2) := by decide +kernel
theorem dX0_canDraw_36 : decode cX0_canDraw 36 = .ok (.aload_n 0, 1) := by decide +kernel
theorem dX0_canDraw_37 : decode cX0_canDraw 37 = .ok (.getfield 23, 3) := by decide +kernel
theorem dX0_canDraw_40 : decode cX0_canDraw 40 = .ok (.getfield 52, 3) := by decide +kernel
theorem dX0_canDraw_43 : decode cX0_canDraw 43 = .ok (.iload_n 1, 1) := by decide +kernel
theorem dX0_canDraw_44 : decode cX0_canDraw 44 = .ok (.iaload, 1) := by decide +kernel
theorem dX0_canDraw_45 : decode cX0_canDraw 45 = .ok (.if_icmp .ge 93, 3) := by decide +kernel
theorem dX0_canDraw_48 : decode cX0_canDraw 48 = .ok (.iload_n 3, 1) := by decide +kernel
theorem dX0_canDraw_49 : decode cX0_canDraw 49 = .ok (.ifCond .le 89, 3) := by decide +kernel
theorem dX0_canDraw_52 : decode cX0_canDraw 52 = .ok (.iload_n 1, 1) := by decide +kernel
theorem dX0_canDraw_53 : decode cX0_canDraw 53 = .ok (.iload 5, 2) := by decide +kernel
theorem dX0_canDraw_55 : decode cX0_canDraw 55 = .ok (.invokestatic 55, 3) := by decide +kernel
theorem dX0_canDraw_58 : decode cX0_canDraw 58 = .ok (.istore 6, 2) := by decide +kernel
theorem dX0_canDraw_60 : decode cX0_canDraw 60 = .ok (.iconst 0, 1) := by decide +kernel
theorem dX0_canDraw_61 : decode cX0_canDraw 61 = .ok (.aload_n 0, 1) := by decide +kernel
theorem dX0_canDraw_62 : decode cX0_canDraw 62 = .ok (.getfield 23, 3) := by decide +kernel
theorem dX0_canDraw_65 : decode cX0_canDraw 65 = .ok (.getfield 59, 3) := by decide +kernel
theorem dX0_canDraw_68 : decode cX0_canDraw 68 = .ok (.iload 6, 2) := by decide +kernel
theorem dX0_canDraw_70 : decode cX0_canDraw 70 = .ok (.iaload, 1) := by decide +kernel
theorem dX0_canDraw_71 : decode cX0_canDraw 71 = .ok (.iload 4, 2) := by decide +kernel
theorem dX0_canDraw_73 : decode cX0_canDraw 73 = .ok (.isub, 1) := by decide +kernel
theorem dX0_canDraw_74 : decode cX0_canDraw 74 = .ok (.invokestatic 60, 3) := by decide +kernel
theorem dX0_canDraw_77 : decode cX0_canDraw 77 = .ok (.istore 7, 2) := by decide +kernel
theorem dX0_canDraw_79 : decode cX0_canDraw 79 = .ok (.iconst 0, 1) := by decide +kernel
theorem dX0_canDraw_80 : decode cX0_canDraw 80 = .ok (.iload 4, 2) := by decide +kernel
theorem dX0_canDraw_82 : decode cX0_canDraw 82 = .ok (.aload_n 0, 1) := by decide +kernel
theorem dX0_canDraw_83 : decode cX0_canDraw 83 = .ok (.getfield 23, 3) := by decide +kernel
theorem dX0_canDraw_86 : decode cX0_canDraw 86 = .ok (.getfield 59, 3) := by decide +kernel
theorem dX0_canDraw_89 : decode cX0_canDraw 89 = .ok (.iload 6, 2) := by decide +kernel
theorem dX0_canDraw_91 : decode cX0_canDraw 91 = .ok (.iaload, 1) := by decide +kernel
theorem dX0_canDraw_92 : decode cX0_canDraw 92 = .ok (.isub, 1) := by decide +kernel
theorem dX0_canDraw_93 : decode cX0_canDraw 93 = .ok (.invokestatic 60, 3) := by decide +kernel
theorem dX0_canDraw_96 : decode cX0_canDraw 96 = .ok (.istore 4, 2) := by decide +kernel
theorem dX0_canDraw_98 : decode cX0_canDraw 98 = .ok (.iload 7, 2) := by decide +kernel
theorem dX0_canDraw_100 : decode cX0_canDraw 100 = .ok (.ifCond .le 27, 3) := by decide +kernel
theorem dX0_canDraw_103 : decode cX0_canDraw 103 = .ok (.aload_n 0, 1) := by decide +kernel
theorem dX0_canDraw_104 : decode cX0_canDraw 104 = .ok (.getfield 23, 3) := by decide +kernel
theorem dX0_canDraw_107 : decode cX0_canDraw 107 = .ok (.getfield 65, 3) := by decide +kernel
theorem dX0_canDraw_110 : decode cX0_canDraw 110 = .ok (.iload 6, 2) := by decide +kernel
theorem dX0_canDraw_112 : decode cX0_canDraw 112 = .ok (.iaload, 1) := by decide +kernel
theorem dX0_canDraw_113 : decode cX0_canDraw 113 = .ok (.aload_n 0, 1) := by decide +kernel
theorem dX0_canDraw_114 : decode cX0_canDraw 114 = .ok (.getfield 27, 3) := by decide +kernel
theorem dX0_canDraw_117 : decode cX0_canDraw 117 = .ok (.getfield 68, 3) := by decide +kernel
theorem dX0_canDraw_120 : decode cX0_canDraw 120 = .ok (.iload_n 2, 1) := by decide +kernel
theorem dX0_canDraw_121 : decode cX0_canDraw 121 = .ok (.iaload, 1) := by decide +kernel
theorem dX0_canDraw_122 : decode cX0_canDraw 122 = .ok (.if_icmp .eq 5, 3) := by decide +kernel
theorem dX0_canDraw_125 : decode cX0_canDraw 125 = .ok (.iconst 0, 1) := by decide +kernel
theorem dX0_canDraw_126 : decode cX0_canDraw 126 = .ok (.ireturn, 1) := by decide +kernel
theorem dX0_canDraw_127 : decode cX0_canDraw 127 = .ok (.iload_n 3, 1) := by decide +kernel
theorem dX0_canDraw_128 : decode cX0_canDraw 128 = .ok (.iload 7, 2) := by decide +kernel
theorem dX0_canDraw_130 : decode cX0_canDraw 130 = .ok (.isub, 1) := by decide +kernel
theorem dX0_canDraw_131 : decode cX0_canDraw 131 = .ok (.istore_n 3, 1) := by decide +kernel
theorem dX0_canDraw_132 : decode cX0_canDraw 132 = .ok (.iinc 5 1, 3) := by decide +kernel
theorem dX0_canDraw_135 : decode cX0_canDraw 135 = .ok (.goto (-101), 3) := by decide +kernel
theorem dX0_canDraw_138 : decode cX0_canDraw 138 = .ok (.iload_n 3, 1) := by decide +kernel
theorem dX0_canDraw_139 : decode cX0_canDraw 139 = .ok (.ifCond .gt 7, 3) := by decide +kernel
theorem dX0_canDraw_142 : decode cX0_canDraw 142 = .ok (.iconst 1, 1) := by decide +kernel
theorem dX0_canDraw_143 : decode cX0_canDraw 143 = .ok (.goto 4, 3) := by decide +kernel
theorem dX0_canDraw_146 : decode cX0_canDraw 146 = .ok (.iconst 0, 1) := by decide +kernel
theorem dX0_canDraw_147 : decode cX0_canDraw 147 = .ok (.ireturn, 1) := by decide +kernel
theorem v_X0_canDraw : yX0_canDraw.cls = RX0 ∧ yX0_canDraw.cls ≠ "java/lang/invoke/MethodHandle" ∧ yX0_canDraw.cls ≠ "java/lang/invoke/VarHandle" ∧ (parseMethodDescriptor yX0_canDraw.desc).map (fun d => d.parameters.length) = some 2 := ⟨rfl, by decide +kernel, by decide +kernel, by decide +kernel⟩
noncomputable def k_X0_canDraw_0 (κ : gb_K) : gb_C := (o_al 0 (o_gf 0 0 (o_il 1 (o_cv 1 7 2 f_X7_closed (o_zeq (o_al 0 (o_gf 0 1 (o_gf 2 1 (o_il 2 (o_iald (o_is 3 (o_al 0 (o_gf 0 2 (o_il 1 (o_iald (o_is 4 (o_ci 0 (o_is 5 (o_j [0, 1, 2, 3, 4, 5] (κ 34))))))))))))))) (o_ci 0 o_rz))))))
theorem l_X0_canDraw_0 : gb_Li (fun κ => k_X0_canDraw_0 κ) := (gb_li (q_al 0) (gb_li (q_gf 0 0) (gb_li (q_il 1) (gb_li (q_cv 1 7 2 f_X7_closed) (q_zeq (gb_li (q_al 0) (gb_li (q_gf 0 1) (gb_li (q_gf 2 1) (gb_li (q_il 2) (gb_li q_iald (gb_li (q_is 3) (gb_li (q_al 0) (gb_li (q_gf 0 2) (gb_li (q_il 1) (gb_li q_iald (gb_li (q_is 4) (gb_li (q_ci 0) (gb_li (q_is 5) (q_j [0, 1, 2, 3, 4, 5] 34)))))))))))))) (gb_li (q_ci 0) (gb_li0 _)))))))
theorem s_X0_canDraw_0   {κ : gb_K} (hκ : ∀ q, gb_S RX0 cX0_canDraw 8 (gb_rm 1 21) 2 q (κ q)) : gb_S RX0 cX0_canDraw 8 (gb_rm 1 21) 2 0 (k_X0_canDraw_0 κ) := (s_aln 0 rfl dX0_canDraw_0 (s_gf (T := TX0) winX0 rfl (Nat.le_of_ble_eq_true rfl) gw_7 rfl dX0_canDraw_1 (s_iln 1 rfl dX0_canDraw_4 (s_cv (C := RX7) c_X7_closed rfl (gb_l5 gw_8 gw_9 gw_10 gw_11 gw_12) v_X7_closed ⟨rfl, rfl⟩ ⟨Nat.le_of_ble_eq_true rfl, Nat.le_of_ble_eq_true rfl⟩ dX0_canDraw_5 (s_zeq (tgt := 13) (by decide +kernel) dX0_canDraw_8 (s_aln 0 rfl dX0_canDraw_13 (s_gf (T := TX0) winX0 rfl (Nat.le_of_ble_eq_true rfl) gw_1 rfl dX0_canDraw_14 (s_gf (T := TX2) winX2 rfl (Nat.le_of_ble_eq_true rfl) gw_13 rfl dX0_canDraw_17 (s_iln 2 rfl dX0_canDraw_20 (s_iald dX0_canDraw_21 (s_isn 3 rfl (Nat.le_of_ble_eq_true rfl) dX0_canDraw_22 (s_aln 0 rfl dX0_canDraw_23 (s_gf (T := TX0) winX0 rfl (Nat.le_of_ble_eq_true rfl) gw_14 rfl dX0_canDraw_24 (s_iln 1 rfl dX0_canDraw_27 (s_iald dX0_canDraw_28 (s_is (Nat.le_of_ble_eq_true rfl) dX0_canDraw_29 (s_iconst (by decide +kernel) dX0_canDraw_31 (s_is (Nat.le_of_ble_eq_true rfl) dX0_canDraw_32 (s_j (hκ 34))))))))))))))) (s_iconst (by decide +kernel) dX0_canDraw_11 (s_rz rfl dX0_canDraw_12)))))))
noncomputable def k_X0_canDraw_127 (κ : gb_K) : gb_C := (o_il 3 (o_il 7 (o_ib (fun x y => x - y) (o_is 3 (o_inc 5 1 (o_j [0, 1, 2, 3, 4, 5] (κ 34)))))))
theorem l_X0_canDraw_127 : gb_Li (fun κ => k_X0_canDraw_127 κ) := (gb_li (q_il 3) (gb_li (q_il 7) (gb_li (q_ib _) (gb_li (q_is 3) (gb_li (q_inc 5 1) (q_j [0, 1, 2, 3, 4, 5] 34))))))
theorem s_X0_canDraw_127   {κ : gb_K} (hκ : ∀ q, gb_S RX0 cX0_canDraw 8 (gb_rm 1 21) 2 q (κ q)) : gb_S RX0 cX0_canDraw 8 (gb_rm 1 21) 2 127 (k_X0_canDraw_127 κ) := (s_iln 3 rfl dX0_canDraw_127 (s_il dX0_canDraw_128 (s_isub dX0_canDraw_130 (s_isn 3 rfl (Nat.le_of_ble_eq_true rfl) dX0_canDraw_131 (s_inc (by decide +kernel) (Nat.le_of_ble_eq_true rfl) dX0_canDraw_132 (s_goto (tgt := 34) (by decide +kernel) dX0_canDraw_135 (s_j (hκ 34))))))))
noncomputable def k_X0_canDraw_92 (κ : gb_K) : gb_C := (o_ib (fun x y => x - y) (o_mmax (o_is 4 (o_il 7 (o_zle (k_X0_canDraw_127 κ) (o_al 0 (o_gf 0 0 (o_gf 7 5 (o_il 6 (o_iald (o_al 0 (o_gf 0 1 (o_gf 2 0 (o_il 2 (o_iald (o_ceq (k_X0_canDraw_127 κ) (o_ci 0 o_rz)))))))))))))))))
theorem l_X0_canDraw_92 : gb_Li (fun κ => k_X0_canDraw_92 κ) := (gb_li (q_ib _) (gb_li q_mmax (gb_li (q_is 4) (gb_li (q_il 7) (q_zle (l_X0_canDraw_127) (gb_li (q_al 0) (gb_li (q_gf 0 0) (gb_li (q_gf 7 5) (gb_li (q_il 6) (gb_li q_iald (gb_li (q_al 0) (gb_li (q_gf 0 1) (gb_li (q_gf 2 0) (gb_li (q_il 2) (gb_li q_iald (q_ceq (l_X0_canDraw_127) (gb_li (q_ci 0) (gb_li0 _))))))))))))))))))
theorem s_X0_canDraw_92   {κ : gb_K} (hκ : ∀ q, gb_S RX0 cX0_canDraw 8 (gb_rm 1 21) 2 q (κ q)) : gb_S RX0 cX0_canDraw 8 (gb_rm 1 21) 2 92 (k_X0_canDraw_92 κ) := (s_isub dX0_canDraw_92 (s_mmax ⟨Nat.le_of_ble_eq_true rfl, Nat.le_of_ble_eq_true rfl⟩ (gb_l4 gw_15 gw_16 gw_17 gw_18) dX0_canDraw_93 (s_is (Nat.le_of_ble_eq_true rfl) dX0_canDraw_96 (s_il dX0_canDraw_98 (s_zle (tgt := 127) (by decide +kernel) dX0_canDraw_100 (s_X0_canDraw_127 hκ) (s_aln 0 rfl dX0_canDraw_103 (s_gf (T := TX0) winX0 rfl (Nat.le_of_ble_eq_true rfl) gw_7 rfl dX0_canDraw_104 (s_gf (T := TX7) winX7 rfl (Nat.le_of_ble_eq_true rfl) gw_19 rfl dX0_canDraw_107 (s_il dX0_canDraw_110 (s_iald dX0_canDraw_112 (s_aln 0 rfl dX0_canDraw_113 (s_gf (T := TX0) winX0 rfl (Nat.le_of_ble_eq_true rfl) gw_1 rfl dX0_canDraw_114 (s_gf (T := TX2) winX2 rfl (Nat.le_of_ble_eq_true rfl) gw_20 rfl dX0_canDraw_117 (s_iln 2 rfl dX0_canDraw_120 (s_iald dX0_canDraw_121 (s_ceq (tgt := 127) (by decide +kernel) dX0_canDraw_122 (s_X0_canDraw_127 hκ) (s_iconst (by decide +kernel) dX0_canDraw_125 (s_rz rfl dX0_canDraw_126))))))))))))))))))
noncomputable def k_X0_canDraw_147 (κ : gb_K) : gb_C := o_rz
theorem l_X0_canDraw_147 : gb_Li (fun κ => k_X0_canDraw_147 κ) := (gb_li0 _)
theorem s_X0_canDraw_147   {κ : gb_K} (hκ : ∀ q, gb_S RX0 cX0_canDraw 8 (gb_rm 1 21) 2 q (κ q)) : gb_S RX0 cX0_canDraw 8 (gb_rm 1 21) 2 147 (k_X0_canDraw_147 κ) := (s_rz rfl dX0_canDraw_147)
noncomputable def k_X0_canDraw_138 (κ : gb_K) : gb_C := (o_il 3 (o_zgt (o_ci 0 (k_X0_canDraw_147 κ)) (o_ci 1 (k_X0_canDraw_147 κ))))
theorem l_X0_canDraw_138 : gb_Li (fun κ => k_X0_canDraw_138 κ) := (gb_li (q_il 3) (q_zgt (gb_li (q_ci 0) (l_X0_canDraw_147)) (gb_li (q_ci 1) (l_X0_canDraw_147))))
theorem s_X0_canDraw_138   {κ : gb_K} (hκ : ∀ q, gb_S RX0 cX0_canDraw 8 (gb_rm 1 21) 2 q (κ q)) : gb_S RX0 cX0_canDraw 8 (gb_rm 1 21) 2 138 (k_X0_canDraw_138 κ) := (s_iln 3 rfl dX0_canDraw_138 (s_zgt (tgt := 146) (by decide +kernel) dX0_canDraw_139 (s_iconst (by decide +kernel) dX0_canDraw_146 (s_X0_canDraw_147 hκ)) (s_iconst (by decide +kernel) dX0_canDraw_142 (s_goto (tgt := 147) (by decide +kernel) dX0_canDraw_143 (s_X0_canDraw_147 hκ)))))
noncomputable def k_X0_canDraw_34 (κ : gb_K) : gb_C := (o_il 5 (o_al 0 (o_gf 0 0 (o_gf 7 3 (o_il 1 (o_iald (o_cge (k_X0_canDraw_138 κ) (o_il 3 (o_zle (k_X0_canDraw_138 κ) (o_il 1 (o_il 5 (o_cs 2 1 f_X7_place (o_is 6 (o_ci 0 (o_al 0 (o_gf 0 0 (o_gf 7 6 (o_il 6 (o_iald (o_il 4 (o_ib (fun x y => x - y) (o_mmax (o_is 7 (o_ci 0 (o_il 4 (o_al 0 (o_gf 0 0 (o_gf 7 6 (o_il 6 (o_iald (k_X0_canDraw_92 κ)))))))))))))))))))))))))))))))
theorem l_X0_canDraw_34 : gb_Li (fun κ => k_X0_canDraw_34 κ) := (gb_li (q_il 5) (gb_li (q_al 0) (gb_li (q_gf 0 0) (gb_li (q_gf 7 3) (gb_li (q_il 1) (gb_li q_iald (q_cge (l_X0_canDraw_138) (gb_li (q_il 3) (q_zle (l_X0_canDraw_138) (gb_li (q_il 1) (gb_li (q_il 5) (gb_li (q_cs 2 1 f_X7_place) (gb_li (q_is 6) (gb_li (q_ci 0) (gb_li (q_al 0) (gb_li (q_gf 0 0) (gb_li (q_gf 7 6) (gb_li (q_il 6) (gb_li q_iald (gb_li (q_il 4) (gb_li (q_ib _) (gb_li q_mmax (gb_li (q_is 7) (gb_li (q_ci 0) (gb_li (q_il 4) (gb_li (q_al 0) (gb_li (q_gf 0 0) (gb_li (q_gf 7 6) (gb_li (q_il 6) (gb_li q_iald (l_X0_canDraw_92)))))))))))))))))))))))))))))))
theorem s_X0_canDraw_34   {κ : gb_K} (hκ : ∀ q, gb_S RX0 cX0_canDraw 8 (gb_rm 1 21) 2 q (κ q)) : gb_S RX0 cX0_canDraw 8 (gb_rm 1 21) 2 34 (k_X0_canDraw_34 κ) := (s_il dX0_canDraw_34 (s_aln 0 rfl dX0_canDraw_36 (s_gf (T := TX0) winX0 rfl (Nat.le_of_ble_eq_true rfl) gw_7 rfl dX0_canDraw_37 (s_gf (T := TX7) winX7 rfl (Nat.le_of_ble_eq_true rfl) gw_21 rfl dX0_canDraw_40 (s_iln 1 rfl dX0_canDraw_43 (s_iald dX0_canDraw_44 (s_cge (tgt := 138) (by decide +kernel) dX0_canDraw_45 (s_X0_canDraw_138 hκ) (s_iln 3 rfl dX0_canDraw_48 (s_zle (tgt := 138) (by decide +kernel) dX0_canDraw_49 (s_X0_canDraw_138 hκ) (s_iln 1 rfl dX0_canDraw_52 (s_il dX0_canDraw_53 (s_cs c_X7_place (gb_l4 gw_22 gw_23 gw_11 gw_24) v_X7_place.2 ⟨rfl, rfl⟩ ⟨Nat.le_of_ble_eq_true rfl, Nat.le_of_ble_eq_true rfl⟩ dX0_canDraw_55 (s_is (Nat.le_of_ble_eq_true rfl) dX0_canDraw_58 (s_iconst (by decide +kernel) dX0_canDraw_60 (s_aln 0 rfl dX0_canDraw_61 (s_gf (T := TX0) winX0 rfl (Nat.le_of_ble_eq_true rfl) gw_7 rfl dX0_canDraw_62 (s_gf (T := TX7) winX7 rfl (Nat.le_of_ble_eq_true rfl) gw_25 rfl dX0_canDraw_65 (s_il dX0_canDraw_68 (s_iald dX0_canDraw_70 (s_il dX0_canDraw_71 (s_isub dX0_canDraw_73 (s_mmax ⟨Nat.le_of_ble_eq_true rfl, Nat.le_of_ble_eq_true rfl⟩ (gb_l4 gw_15 gw_16 gw_17 gw_18) dX0_canDraw_74 (s_is (Nat.le_of_ble_eq_true rfl) dX0_canDraw_77 (s_iconst (by decide +kernel) dX0_canDraw_79 (s_il dX0_canDraw_80 (s_aln 0 rfl dX0_canDraw_82 (s_gf (T := TX0) winX0 rfl (Nat.le_of_ble_eq_true rfl) gw_7 rfl dX0_canDraw_83 (s_gf (T := TX7) winX7 rfl (Nat.le_of_ble_eq_true rfl) gw_25 rfl dX0_canDraw_86 (s_il dX0_canDraw_89 (s_iald dX0_canDraw_91 (s_X0_canDraw_92 hκ)))))))))))))))))))))))))))))))
noncomputable def B_X0_canDraw : List (Nat × (gb_K → gb_C)) := [(34, fun κ => k_X0_canDraw_34 κ)]
noncomputable def K_X0_canDraw : gb_K := gb_fx (gb_tb (B_X0_canDraw))
theorem L_X0_canDraw : ∀ q, gb_Li (fun κ => gb_tb (B_X0_canDraw) κ q) := gb_tb_li (List.forall_mem_cons.mpr ⟨l_X0_canDraw_34, (fun _ h => absurd h List.not_mem_nil)⟩)
theorem S_X0_canDraw   : ∀ q, gb_S RX0 cX0_canDraw 8 (gb_rm 1 21) 2 q (K_X0_canDraw q) := fun q => gb_fx_S (L_X0_canDraw) (gb_tb_S (List.forall_mem_cons.mpr ⟨fun κ hκ => s_X0_canDraw_34 hκ, (fun _ h => absurd h List.not_mem_nil)⟩)) q
noncomputable def f_X0_canDraw : gb_F := gb_hide (gb_mf 8 (k_X0_canDraw_0 (K_X0_canDraw)))
theorem c_X0_canDraw : ∀ l, gb_Met l yX0_canDraw cX0_canDraw 8 (some .boolean) 2 (gb_rm 1 21) f_X0_canDraw := gb_hide_c (gb_met (own := RX0) (rk := 2) rfl (by decide +kernel) ⟨rfl, rfl⟩ (s_X0_canDraw_0 (S_X0_canDraw)))
theorem dX0_serveFrom_0 : decode cX0_serveFrom 0 = .ok (.iload_n 1, 1) := by decide +kernel
theorem dX0_serveFrom_1 : decode cX0_serveFrom 1 = .ok (.aload_n 0, 1) := by decide +kernel
theorem dX0_serveFrom_2 : decode cX0_serveFrom 2 = .ok (.getfield 31, 3) := by decide +kernel
theorem dX0_serveFrom_5 : decode cX0_serveFrom 5 = .ok (.if_icmp .le 8, 3) := by decide +kernel
theorem dX0_serveFrom_8 : decode cX0_serveFrom 8 = .ok (.aload_n 0, 1) := by decide +kernel
theorem dX0_serveFrom_9 : decode cX0_serveFrom 9 = .ok (.iload_n 1, 1) := by decide +kernel
theorem dX0_serveFrom_10 : decode cX0_serveFrom 10 = .ok (.invokevirtual 72, 3) := by decide +kernel
theorem dX0_serveFrom_13 : decode cX0_serveFrom 13 = .ok (.iload_n 1, 1) := by decide +kernel
theorem dX0_serveFrom_14 : decode cX0_serveFrom 14 = .ok (.aload_n 0, 1) := by decide +kernel
theorem dX0_serveFrom_15 : decode cX0_serveFrom 15 = .ok (.getfield 27, 3) := by decide +kernel
theorem dX0_serveFrom_18 : decode cX0_serveFrom 18 = .ok (.getfield 69, 3) := by decide +kernel
theorem dX0_serveFrom_21 : decode cX0_serveFrom 21 = .ok (.if_icmp .lt 4, 3) := by decide +kernel
theorem dX0_serveFrom_24 : decode cX0_serveFrom 24 = .ok (.return_, 1) := by decide +kernel
theorem dX0_serveFrom_25 : decode cX0_serveFrom 25 = .ok (.iconst 0, 1) := by decide +kernel
theorem dX0_serveFrom_26 : decode cX0_serveFrom 26 = .ok (.istore_n 2, 1) := by decide +kernel
theorem dX0_serveFrom_27 : decode cX0_serveFrom 27 = .ok (.iload_n 2, 1) := by decide +kernel
theorem dX0_serveFrom_28 : decode cX0_serveFrom 28 = .ok (.bipush 6, 2) := by decide +kernel
theorem dX0_serveFrom_30 : decode cX0_serveFrom 30 = .ok (.if_icmp .ge 82, 3) := by decide +kernel
theorem dX0_serveFrom_33 : decode cX0_serveFrom 33 = .ok (.aload_n 0, 1) := by decide +kernel
theorem dX0_serveFrom_34 : decode cX0_serveFrom 34 = .ok (.getfield 31, 3) := by decide +kernel
theorem dX0_serveFrom_37 : decode cX0_serveFrom 37 = .ok (.aload_n 0, 1) := by decide +kernel
theorem dX0_serveFrom_38 : decode cX0_serveFrom 38 = .ok (.getfield 27, 3) := by decide +kernel
theorem dX0_serveFrom_41 : decode cX0_serveFrom 41 = .ok (.getfield 69, 3) := by decide +kernel
theorem dX0_serveFrom_44 : decode cX0_serveFrom 44 = .ok (.if_icmp .ge 68, 3) := by decide +kernel
theorem dX0_serveFrom_47 : decode cX0_serveFrom 47 = .ok (.aload_n 0, 1) := by decide +kernel
theorem dX0_serveFrom_48 : decode cX0_serveFrom 48 = .ok (.iload_n 2, 1) := by decide +kernel
theorem dX0_serveFrom_49 : decode cX0_serveFrom 49 = .ok (.iload_n 1, 1) := by decide +kernel
theorem dX0_serveFrom_50 : decode cX0_serveFrom 50 = .ok (.invokevirtual 76, 3) := by decide +kernel
theorem dX0_serveFrom_53 : decode cX0_serveFrom 53 = .ok (.ifCond .eq 53, 3) := by decide +kernel
theorem dX0_serveFrom_56 : decode cX0_serveFrom 56 = .ok (.aload_n 0, 1) := by decide +kernel
theorem dX0_serveFrom_57 : decode cX0_serveFrom 57 = .ok (.getfield 17, 3) := by decide +kernel
theorem dX0_serveFrom_60 : decode cX0_serveFrom 60 = .ok (.iload_n 1, 1) := by decide +kernel
theorem dX0_serveFrom_61 : decode cX0_serveFrom 61 = .ok (.iload_n 2, 1) := by decide +kernel
theorem dX0_serveFrom_62 : decode cX0_serveFrom 62 = .ok (.iastore, 1) := by decide +kernel
theorem dX0_serveFrom_63 : decode cX0_serveFrom 63 = .ok (.aload_n 0, 1) := by decide +kernel
theorem dX0_serveFrom_64 : decode cX0_serveFrom 64 = .ok (.getfield 9, 3) := by decide +kernel
theorem dX0_serveFrom_67 : decode cX0_serveFrom 67 = .ok (.iload_n 2, 1) := by decide +kernel
theorem dX0_serveFrom_68 : decode cX0_serveFrom 68 = .ok (.dup2, 1) := by decide +kernel
theorem dX0_serveFrom_69 : decode cX0_serveFrom 69 = .ok (.iaload, 1) := by decide +kernel
theorem dX0_serveFrom_70 : decode cX0_serveFrom 70 = .ok (.aload_n 0, 1) := by decide +kernel
theorem dX0_serveFrom_71 : decode cX0_serveFrom 71 = .ok (.getfield 27, 3) := by decide +kernel
theorem dX0_serveFrom_74 : decode cX0_serveFrom 74 = .ok (.getfield 49, 3) := by decide +kernel
theorem dX0_serveFrom_77 : decode cX0_serveFrom 77 = .ok (.iload_n 1, 1) := by decide +kernel
theorem dX0_serveFrom_78 : decode cX0_serveFrom 78 = .ok (.iaload, 1) := by decide +kernel
theorem dX0_serveFrom_79 : decode cX0_serveFrom 79 = .ok (.iadd, 1) := by decide +kernel
theorem dX0_serveFrom_80 : decode cX0_serveFrom 80 = .ok (.iastore, 1) := by decide +kernel
theorem dX0_serveFrom_81 : decode cX0_serveFrom 81 = .ok (.aload_n 0, 1) := by decide +kernel
theorem dX0_serveFrom_82 : decode cX0_serveFrom 82 = .ok (.iload_n 1, 1) := by decide +kernel
theorem dX0_serveFrom_83 : decode cX0_serveFrom 83 = .ok (.iconst 1, 1) := by decide +kernel
theorem dX0_serveFrom_84 : decode cX0_serveFrom 84 = .ok (.iadd, 1) := by decide +kernel
theorem dX0_serveFrom_85 : decode cX0_serveFrom 85 = .ok (.invokestatic 35, 3) := by decide +kernel
theorem dX0_serveFrom_88 : decode cX0_serveFrom 88 = .ok (.aload_n 0, 1) := by decide +kernel
theorem dX0_serveFrom_89 : decode cX0_serveFrom 89 = .ok (.getfield 9, 3) := by decide +kernel
theorem dX0_serveFrom_92 : decode cX0_serveFrom 92 = .ok (.iload_n 2, 1) := by decide +kernel
theorem dX0_serveFrom_93 : decode cX0_serveFrom 93 = .ok (.dup2, 1) := by decide +kernel
theorem dX0_serveFrom_94 : decode cX0_serveFrom 94 = .ok (.iaload, 1) := by decide +kernel
theorem dX0_serveFrom_95 : decode cX0_serveFrom 95 = .ok (.aload_n 0, 1) := by decide +kernel
theorem dX0_serveFrom_96 : decode cX0_serveFrom 96 = .ok (.getfield 27, 3) := by decide +kernel
theorem dX0_serveFrom_99 : decode cX0_serveFrom 99 = .ok (.getfield 49, 3) := by decide +kernel
theorem dX0_serveFrom_102 : decode cX0_serveFrom 102 = .ok (.iload_n 1, 1) := by decide +kernel
theorem dX0_serveFrom_103 : decode cX0_serveFrom 103 = .ok (.iaload, 1) := by decide +kernel
theorem dX0_serveFrom_104 : decode cX0_serveFrom 104 = .ok (.isub, 1) := by decide +kernel
theorem dX0_serveFrom_105 : decode cX0_serveFrom 105 = .ok (.iastore, 1) := by decide +kernel
theorem dX0_serveFrom_106 : decode cX0_serveFrom 106 = .ok (.iinc 2 1, 3) := by decide +kernel
theorem dX0_serveFrom_109 : decode cX0_serveFrom 109 = .ok (.goto (-82), 3) := by decide +kernel
theorem dX0_serveFrom_112 : decode cX0_serveFrom 112 = .ok (.return_, 1) := by decide +kernel
theorem v_X0_serveFrom : yX0_serveFrom.cls = RX0 ∧ yX0_serveFrom.cls ≠ "java/lang/invoke/MethodHandle" ∧ yX0_serveFrom.cls ≠ "java/lang/invoke/VarHandle" ∧ (parseMethodDescriptor yX0_serveFrom.desc).map (fun d => d.parameters.length) = some 2 := ⟨rfl, by decide +kernel, by decide +kernel, by decide +kernel⟩
noncomputable def k_X0_serveFrom_13 (r : gb_F) (κ : gb_K) : gb_C := (o_il 1 (o_al 0 (o_gf 0 1 (o_gf 2 3 (o_clt (o_ci 0 (o_is 2 (o_j [0, 1, 2] (κ 27)))) o_rv)))))
theorem l_X0_serveFrom_13 (r : gb_F) : gb_Li (fun κ => k_X0_serveFrom_13 r κ) := (gb_li (q_il 1) (gb_li (q_al 0) (gb_li (q_gf 0 1) (gb_li (q_gf 2 3) (q_clt (gb_li (q_ci 0) (gb_li (q_is 2) (q_j [0, 1, 2] 27))) (gb_li0 _))))))
theorem s_X0_serveFrom_13 {R : Room} {r : gb_F} {fr lo : Nat} (hr : (∀ l, gb_Met l yX0_serveFrom cX0_serveFrom 3 none 0 (gb_rm fr lo) r) ∧ fr + 1 ≤ R.frames ∧ 8 + (3 + 11) + lo ≤ R.locals) (hR : 2 ≤ R.frames ∧ 48 ≤ R.locals) {κ : gb_K} (hκ : ∀ q, gb_S RX0 cX0_serveFrom 3 R 0 q (κ q)) : gb_S RX0 cX0_serveFrom 3 R 0 13 (k_X0_serveFrom_13 r κ) := (s_iln 1 rfl dX0_serveFrom_13 (s_aln 0 rfl dX0_serveFrom_14 (s_gf (T := TX0) winX0 rfl (Nat.le_of_ble_eq_true rfl) gw_1 rfl dX0_serveFrom_15 (s_gf (T := TX2) winX2 rfl (Nat.le_of_ble_eq_true rfl) gw_2 rfl dX0_serveFrom_18 (s_clt (tgt := 25) (by decide +kernel) dX0_serveFrom_21 (s_iconst (by decide +kernel) dX0_serveFrom_25 (s_isn 2 rfl (Nat.le_of_ble_eq_true rfl) dX0_serveFrom_26 (s_j (hκ 27)))) (s_rv rfl dX0_serveFrom_24))))))
noncomputable def k_X0_serveFrom_0 (r : gb_F) (κ : gb_K) : gb_C := (o_il 1 (o_al 0 (o_gf 0 5 (o_cle (k_X0_serveFrom_13 r κ) (o_al 0 (o_il 1 (o_cv 1 0 0 f_X0_takeWay (k_X0_serveFrom_13 r κ))))))))
theorem l_X0_serveFrom_0 (r : gb_F) : gb_Li (fun κ => k_X0_serveFrom_0 r κ) := (gb_li (q_il 1) (gb_li (q_al 0) (gb_li (q_gf 0 5) (q_cle (l_X0_serveFrom_13 r) (gb_li (q_al 0) (gb_li (q_il 1) (gb_li (q_cv 1 0 0 f_X0_takeWay) (l_X0_serveFrom_13 r))))))))
theorem s_X0_serveFrom_0 {R : Room} {r : gb_F} {fr lo : Nat} (hr : (∀ l, gb_Met l yX0_serveFrom cX0_serveFrom 3 none 0 (gb_rm fr lo) r) ∧ fr + 1 ≤ R.frames ∧ 8 + (3 + 11) + lo ≤ R.locals) (hR : 2 ≤ R.frames ∧ 48 ≤ R.locals) {κ : gb_K} (hκ : ∀ q, gb_S RX0 cX0_serveFrom 3 R 0 q (κ q)) : gb_S RX0 cX0_serveFrom 3 R 0 0 (k_X0_serveFrom_0 r κ) := (s_iln 1 rfl dX0_serveFrom_0 (s_aln 0 rfl dX0_serveFrom_1 (s_gf (T := TX0) winX0 rfl (Nat.le_of_ble_eq_true rfl) gw_0 rfl dX0_serveFrom_2 (s_cle (tgt := 13) (by decide +kernel) dX0_serveFrom_5 (s_X0_serveFrom_13 hr hR hκ) (s_aln 0 rfl dX0_serveFrom_8 (s_iln 1 rfl dX0_serveFrom_9 (s_cv (C := RX0) c_X0_takeWay rfl (gb_l5 gw_26 gw_27 gw_28 gw_29 gw_30) v_X0_takeWay ⟨rfl, rfl⟩ ⟨Nat.le_trans (Nat.le_of_ble_eq_true rfl) hR.1, Nat.le_trans (Nat.le_of_ble_eq_true rfl) hR.2⟩ dX0_serveFrom_10 (s_X0_serveFrom_13 hr hR hκ))))))))
noncomputable def k_X0_serveFrom_106 (r : gb_F) (κ : gb_K) : gb_C := (o_inc 2 1 (o_j [0, 1, 2] (κ 27)))
theorem l_X0_serveFrom_106 (r : gb_F) : gb_Li (fun κ => k_X0_serveFrom_106 r κ) := (gb_li (q_inc 2 1) (q_j [0, 1, 2] 27))
theorem s_X0_serveFrom_106 {R : Room} {r : gb_F} {fr lo : Nat} (hr : (∀ l, gb_Met l yX0_serveFrom cX0_serveFrom 3 none 0 (gb_rm fr lo) r) ∧ fr + 1 ≤ R.frames ∧ 8 + (3 + 11) + lo ≤ R.locals) (hR : 2 ≤ R.frames ∧ 48 ≤ R.locals) {κ : gb_K} (hκ : ∀ q, gb_S RX0 cX0_serveFrom 3 R 0 q (κ q)) : gb_S RX0 cX0_serveFrom 3 R 0 106 (k_X0_serveFrom_106 r κ) := (s_inc (by decide +kernel) (Nat.le_of_ble_eq_true rfl) dX0_serveFrom_106 (s_goto (tgt := 27) (by decide +kernel) dX0_serveFrom_109 (s_j (hκ 27))))
noncomputable def k_X0_serveFrom_80 (r : gb_F) (κ : gb_K) : gb_C := (o_iast (o_al 0 (o_il 1 (o_ci 1 (o_ib (fun x y => x + y) (o_cs 2 0 r (o_al 0 (o_gf 0 2 (o_il 2 (o_dup2 (o_iald (o_al 0 (o_gf 0 1 (o_gf 2 1 (o_il 1 (o_iald (o_ib (fun x y => x - y) (o_iast (k_X0_serveFrom_106 r κ)))))))))))))))))))
theorem l_X0_serveFrom_80 (r : gb_F) : gb_Li (fun κ => k_X0_serveFrom_80 r κ) := (gb_li q_iast (gb_li (q_al 0) (gb_li (q_il 1) (gb_li (q_ci 1) (gb_li (q_ib _) (gb_li (q_cs 2 0 r) (gb_li (q_al 0) (gb_li (q_gf 0 2) (gb_li (q_il 2) (gb_li q_dup2 (gb_li q_iald (gb_li (q_al 0) (gb_li (q_gf 0 1) (gb_li (q_gf 2 1) (gb_li (q_il 1) (gb_li q_iald (gb_li (q_ib _) (gb_li q_iast (l_X0_serveFrom_106 r)))))))))))))))))))
theorem s_X0_serveFrom_80 {R : Room} {r : gb_F} {fr lo : Nat} (hr : (∀ l, gb_Met l yX0_serveFrom cX0_serveFrom 3 none 0 (gb_rm fr lo) r) ∧ fr + 1 ≤ R.frames ∧ 8 + (3 + 11) + lo ≤ R.locals) (hR : 2 ≤ R.frames ∧ 48 ≤ R.locals) {κ : gb_K} (hκ : ∀ q, gb_S RX0 cX0_serveFrom 3 R 0 q (κ q)) : gb_S RX0 cX0_serveFrom 3 R 0 80 (k_X0_serveFrom_80 r κ) := (s_iast dX0_serveFrom_80 (s_aln 0 rfl dX0_serveFrom_81 (s_iln 1 rfl dX0_serveFrom_82 (s_iconst (by decide +kernel) dX0_serveFrom_83 (s_iadd dX0_serveFrom_84 (s_cs hr.1 (gb_l4 gw_31 gw_32 gw_29 gw_33) v_X0_serveFrom.2 ⟨rfl, rfl⟩ ⟨hr.2.1, hr.2.2⟩ dX0_serveFrom_85 (s_aln 0 rfl dX0_serveFrom_88 (s_gf (T := TX0) winX0 rfl (Nat.le_of_ble_eq_true rfl) gw_14 rfl dX0_serveFrom_89 (s_iln 2 rfl dX0_serveFrom_92 (s_dup2 dX0_serveFrom_93 (s_iald dX0_serveFrom_94 (s_aln 0 rfl dX0_serveFrom_95 (s_gf (T := TX0) winX0 rfl (Nat.le_of_ble_eq_true rfl) gw_1 rfl dX0_serveFrom_96 (s_gf (T := TX2) winX2 rfl (Nat.le_of_ble_eq_true rfl) gw_13 rfl dX0_serveFrom_99 (s_iln 1 rfl dX0_serveFrom_102 (s_iald dX0_serveFrom_103 (s_isub dX0_serveFrom_104 (s_iast dX0_serveFrom_105 (s_X0_serveFrom_106 hr hR hκ)))))))))))))))))))
noncomputable def k_X0_serveFrom_112 (r : gb_F) (κ : gb_K) : gb_C := o_rv
theorem l_X0_serveFrom_112 (r : gb_F) : gb_Li (fun κ => k_X0_serveFrom_112 r κ) := (gb_li0 _)
theorem s_X0_serveFrom_112 {R : Room} {r : gb_F} {fr lo : Nat} (hr : (∀ l, gb_Met l yX0_serveFrom cX0_serveFrom 3 none 0 (gb_rm fr lo) r) ∧ fr + 1 ≤ R.frames ∧ 8 + (3 + 11) + lo ≤ R.locals) (hR : 2 ≤ R.frames ∧ 48 ≤ R.locals) {κ : gb_K} (hκ : ∀ q, gb_S RX0 cX0_serveFrom 3 R 0 q (κ q)) : gb_S RX0 cX0_serveFrom 3 R 0 112 (k_X0_serveFrom_112 r κ) := (s_rv rfl dX0_serveFrom_112)
noncomputable def k_X0_serveFrom_27 (r : gb_F) (κ : gb_K) : gb_C := (o_il 2 (o_ci 6 (o_cge (k_X0_serveFrom_112 r κ) (o_al 0 (o_gf 0 5 (o_al 0 (o_gf 0 1 (o_gf 2 3 (o_cge (k_X0_serveFrom_112 r κ) (o_al 0 (o_il 2 (o_il 1 (o_cv 2 0 2 f_X0_canDraw (o_zeq (k_X0_serveFrom_106 r κ) (o_al 0 (o_gf 0 3 (o_il 1 (o_il 2 (o_iast (o_al 0 (o_gf 0 2 (o_il 2 (o_dup2 (o_iald (o_al 0 (o_gf 0 1 (o_gf 2 1 (o_il 1 (o_iald (o_ib (fun x y => x + y) (k_X0_serveFrom_80 r κ)))))))))))))))))))))))))))))))
theorem l_X0_serveFrom_27 (r : gb_F) : gb_Li (fun κ => k_X0_serveFrom_27 r κ) := (gb_li (q_il 2) (gb_li (q_ci 6) (q_cge (l_X0_serveFrom_112 r) (gb_li (q_al 0) (gb_li (q_gf 0 5) (gb_li (q_al 0) (gb_li (q_gf 0 1) (gb_li (q_gf 2 3) (q_cge (l_X0_serveFrom_112 r) (gb_li (q_al 0) (gb_li (q_il 2) (gb_li (q_il 1) (gb_li (q_cv 2 0 2 f_X0_canDraw) (q_zeq (l_X0_serveFrom_106 r) (gb_li (q_al 0) (gb_li (q_gf 0 3) (gb_li (q_il 1) (gb_li (q_il 2) (gb_li q_iast (gb_li (q_al 0) (gb_li (q_gf 0 2) (gb_li (q_il 2) (gb_li q_dup2 (gb_li q_iald (gb_li (q_al 0) (gb_li (q_gf 0 1) (gb_li (q_gf 2 1) (gb_li (q_il 1) (gb_li q_iald (gb_li (q_ib _) (l_X0_serveFrom_80 r)))))))))))))))))))))))))))))))
theorem s_X0_serveFrom_27 {R : Room} {r : gb_F} {fr lo : Nat} (hr : (∀ l, gb_Met l yX0_serveFrom cX0_serveFrom 3 none 0 (gb_rm fr lo) r) ∧ fr + 1 ≤ R.frames ∧ 8 + (3 + 11) + lo ≤ R.locals) (hR : 2 ≤ R.frames ∧ 48 ≤ R.locals) {κ : gb_K} (hκ : ∀ q, gb_S RX0 cX0_serveFrom 3 R 0 q (κ q)) : gb_S RX0 cX0_serveFrom 3 R 0 27 (k_X0_serveFrom_27 r κ) := (s_iln 2 rfl dX0_serveFrom_27 (s_bipush (by decide +kernel) dX0_serveFrom_28 (s_cge (tgt := 112) (by decide +kernel) dX0_serveFrom_30 (s_X0_serveFrom_112 hr hR hκ) (s_aln 0 rfl dX0_serveFrom_33 (s_gf (T := TX0) winX0 rfl (Nat.le_of_ble_eq_true rfl) gw_0 rfl dX0_serveFrom_34 (s_aln 0 rfl dX0_serveFrom_37 (s_gf (T := TX0) winX0 rfl (Nat.le_of_ble_eq_true rfl) gw_1 rfl dX0_serveFrom_38 (s_gf (T := TX2) winX2 rfl (Nat.le_of_ble_eq_true rfl) gw_2 rfl dX0_serveFrom_41 (s_cge (tgt := 112) (by decide +kernel) dX0_serveFrom_44 (s_X0_serveFrom_112 hr hR hκ) (s_aln 0 rfl dX0_serveFrom_47 (s_iln 2 rfl dX0_serveFrom_48 (s_iln 1 rfl dX0_serveFrom_49 (s_cv (C := RX0) c_X0_canDraw rfl (gb_l5 gw_34 gw_35 gw_36 gw_29 gw_37) v_X0_canDraw ⟨rfl, rfl⟩ ⟨Nat.le_trans (Nat.le_of_ble_eq_true rfl) hR.1, Nat.le_trans (Nat.le_of_ble_eq_true rfl) hR.2⟩ dX0_serveFrom_50 (s_zeq (tgt := 106) (by decide +kernel) dX0_serveFrom_53 (s_X0_serveFrom_106 hr hR hκ) (s_aln 0 rfl dX0_serveFrom_56 (s_gf (T := TX0) winX0 rfl (Nat.le_of_ble_eq_true rfl) gw_4 rfl dX0_serveFrom_57 (s_iln 1 rfl dX0_serveFrom_60 (s_iln 2 rfl dX0_serveFrom_61 (s_iast dX0_serveFrom_62 (s_aln 0 rfl dX0_serveFrom_63 (s_gf (T := TX0) winX0 rfl (Nat.le_of_ble_eq_true rfl) gw_14 rfl dX0_serveFrom_64 (s_iln 2 rfl dX0_serveFrom_67 (s_dup2 dX0_serveFrom_68 (s_iald dX0_serveFrom_69 (s_aln 0 rfl dX0_serveFrom_70 (s_gf (T := TX0) winX0 rfl (Nat.le_of_ble_eq_true rfl) gw_1 rfl dX0_serveFrom_71 (s_gf (T := TX2) winX2 rfl (Nat.le_of_ble_eq_true rfl) gw_13 rfl dX0_serveFrom_74 (s_iln 1 rfl dX0_serveFrom_77 (s_iald dX0_serveFrom_78 (s_iadd dX0_serveFrom_79 (s_X0_serveFrom_80 hr hR hκ)))))))))))))))))))))))))))))))
noncomputable def B_X0_serveFrom (r : gb_F) : List (Nat × (gb_K → gb_C)) := [(27, fun κ => k_X0_serveFrom_27 r κ)]
noncomputable def K_X0_serveFrom (r : gb_F) : gb_K := gb_fx (gb_tb (B_X0_serveFrom r))
theorem L_X0_serveFrom (r : gb_F) : ∀ q, gb_Li (fun κ => gb_tb (B_X0_serveFrom r) κ q) := gb_tb_li (List.forall_mem_cons.mpr ⟨l_X0_serveFrom_27 r, (fun _ h => absurd h List.not_mem_nil)⟩)
theorem S_X0_serveFrom {R : Room} {r : gb_F} {fr lo : Nat} (hr : (∀ l, gb_Met l yX0_serveFrom cX0_serveFrom 3 none 0 (gb_rm fr lo) r) ∧ fr + 1 ≤ R.frames ∧ 8 + (3 + 11) + lo ≤ R.locals) (hR : 2 ≤ R.frames ∧ 48 ≤ R.locals) : ∀ q, gb_S RX0 cX0_serveFrom 3 R 0 q (K_X0_serveFrom r q) := fun q => gb_fx_S (L_X0_serveFrom r) (gb_tb_S (List.forall_mem_cons.mpr ⟨fun κ hκ => s_X0_serveFrom_27 hr hR hκ, (fun _ h => absurd h List.not_mem_nil)⟩)) q
noncomputable def g_X0_serveFrom : Nat → gb_F
  | 0 => fun _ _ => none
  | n + 1 => gb_mf 3 (k_X0_serveFrom_0 (g_X0_serveFrom n) (K_X0_serveFrom (g_X0_serveFrom n)))
theorem h_X0_serveFrom : ∀ (n : Nat) l, gb_Met l yX0_serveFrom cX0_serveFrom 3 none 0 (gb_rm (2 + n) (48 + 22 * n)) (g_X0_serveFrom n)
  | 0 => gb_met0
  | n + 1 => gb_met (own := RX0) (rk := 0) rfl (by decide +kernel) ⟨rfl, rfl⟩ (s_X0_serveFrom_0 ⟨h_X0_serveFrom n, by show _ ≤ _ + (n + 1); omega, by show _ ≤ _ + 22 * (n + 1); omega⟩ ⟨by show _ ≤ _ + (n + 1); omega, by show _ ≤ _ + 22 * (n + 1); omega⟩ (S_X0_serveFrom ⟨h_X0_serveFrom n, by show _ ≤ _ + (n + 1); omega, by show _ ≤ _ + 22 * (n + 1); omega⟩ ⟨by show _ ≤ _ + (n + 1); omega, by show _ ≤ _ + 22 * (n + 1); omega⟩))
noncomputable def f_X0_serveFrom : gb_F := gb_hide (g_X0_serveFrom 8)
theorem c_X0_serveFrom : ∀ l, gb_Met l yX0_serveFrom cX0_serveFrom 3 none 0 (gb_rm 10 224) f_X0_serveFrom := gb_hide_c (h_X0_serveFrom 8)
theorem dX0_serve_0 : decode cX0_serve 0 = .ok (.aload_n 0, 1) := by decide +kernel
theorem dX0_serve_1 : decode cX0_serve 1 = .ok (.iconst 0, 1) := by decide +kernel
theorem dX0_serve_2 : decode cX0_serve 2 = .ok (.putfield 31, 3) := by decide +kernel
theorem dX0_serve_5 : decode cX0_serve 5 = .ok (.aload_n 0, 1) := by decide +kernel
theorem dX0_serve_6 : decode cX0_serve 6 = .ok (.iconst 0, 1) := by decide +kernel
theorem dX0_serve_7 : decode cX0_serve 7 = .ok (.invokestatic 35, 3) := by decide +kernel
theorem dX0_serve_10 : decode cX0_serve 10 = .ok (.aload_n 0, 1) := by decide +kernel
theorem dX0_serve_11 : decode cX0_serve 11 = .ok (.getfield 31, 3) := by decide +kernel
theorem dX0_serve_14 : decode cX0_serve 14 = .ok (.ireturn, 1) := by decide +kernel
theorem v_X0_serve : yX0_serve.cls = RX0 ∧ yX0_serve.cls ≠ "java/lang/invoke/MethodHandle" ∧ yX0_serve.cls ≠ "java/lang/invoke/VarHandle" ∧ (parseMethodDescriptor yX0_serve.desc).map (fun d => d.parameters.length) = some 0 := ⟨rfl, by decide +kernel, by decide +kernel, by decide +kernel⟩
noncomputable def k_X0_serve_0 (κ : gb_K) : gb_C := (o_al 0 (o_ci 0 (o_pf 0 5 (o_al 0 (o_ci 0 (o_cs 2 0 f_X0_serveFrom (o_al 0 (o_gf 0 5 o_ri))))))))
theorem l_X0_serve_0 : gb_Li (fun κ => k_X0_serve_0 κ) := (gb_li (q_al 0) (gb_li (q_ci 0) (gb_li (q_pf 0 5) (gb_li (q_al 0) (gb_li (q_ci 0) (gb_li (q_cs 2 0 f_X0_serveFrom) (gb_li (q_al 0) (gb_li (q_gf 0 5) (gb_li0 _)))))))))
theorem s_X0_serve_0   {κ : gb_K} (hκ : ∀ q, gb_S RX0 cX0_serve 1 (gb_rm 11 246) 1 q (κ q)) : gb_S RX0 cX0_serve 1 (gb_rm 11 246) 1 0 (k_X0_serve_0 κ) := (s_aln 0 rfl dX0_serve_0 (s_iconst (by decide +kernel) dX0_serve_1 (s_pf (T := TX0) winX0 rfl (Nat.le_of_ble_eq_true rfl) tyX0_ok nmX0 rfl (by decide +kernel) gw_0 rfl dX0_serve_2 (s_aln 0 rfl dX0_serve_5 (s_iconst (by decide +kernel) dX0_serve_6 (s_cs c_X0_serveFrom (gb_l4 gw_31 gw_32 gw_29 gw_33) v_X0_serveFrom.2 ⟨rfl, rfl⟩ ⟨Nat.le_of_ble_eq_true rfl, Nat.le_of_ble_eq_true rfl⟩ dX0_serve_7 (s_aln 0 rfl dX0_serve_10 (s_gf (T := TX0) winX0 rfl (Nat.le_of_ble_eq_true rfl) gw_0 rfl dX0_serve_11 (s_ri rfl dX0_serve_14)))))))))
noncomputable def f_X0_serve : gb_F := gb_hide (gb_mf 1 (k_X0_serve_0 gb_n))
theorem c_X0_serve : ∀ l, gb_Met l yX0_serve cX0_serve 1 (some .int) 1 (gb_rm 11 246) f_X0_serve := gb_hide_c (gb_met (own := RX0) (rk := 1) rfl (by decide +kernel) ⟨rfl, rfl⟩ (s_X0_serve_0 gb_S_n))
theorem dX0_pickFrom_0 : decode cX0_pickFrom 0 = .ok (.iload_n 2, 1) := by decide +kernel
theorem dX0_pickFrom_1 : decode cX0_pickFrom 1 = .ok (.aload_n 0, 1) := by decide +kernel
theorem dX0_pickFrom_2 : decode cX0_pickFrom 2 = .ok (.getfield 27, 3) := by decide +kernel
theorem dX0_pickFrom_5 : decode cX0_pickFrom 5 = .ok (.getfield 69, 3) := by decide +kernel
theorem dX0_pickFrom_8 : decode cX0_pickFrom 8 = .ok (.iadd, 1) := by decide +kernel
theorem dX0_pickFrom_9 : decode cX0_pickFrom 9 = .ok (.iload_n 1, 1) := by decide +kernel
theorem dX0_pickFrom_10 : decode cX0_pickFrom 10 = .ok (.isub, 1) := by decide +kernel
theorem dX0_pickFrom_11 : decode cX0_pickFrom 11 = .ok (.aload_n 0, 1) := by decide +kernel
theorem dX0_pickFrom_12 : decode cX0_pickFrom 12 = .ok (.getfield 31, 3) := by decide +kernel
theorem dX0_pickFrom_15 : decode cX0_pickFrom 15 = .ok (.if_icmp .le 14, 3) := by decide +kernel
theorem dX0_pickFrom_18 : decode cX0_pickFrom 18 = .ok (.iload_n 1, 1) := by decide +kernel
theorem dX0_pickFrom_19 : decode cX0_pickFrom 19 = .ok (.aload_n 0, 1) := by decide +kernel
theorem dX0_pickFrom_20 : decode cX0_pickFrom 20 = .ok (.getfield 27, 3) := by decide +kernel
theorem dX0_pickFrom_23 : decode cX0_pickFrom 23 = .ok (.getfield 69, 3) := by decide +kernel
theorem dX0_pickFrom_26 : decode cX0_pickFrom 26 = .ok (.if_icmp .le 4, 3) := by decide +kernel
theorem dX0_pickFrom_29 : decode cX0_pickFrom 29 = .ok (.return_, 1) := by decide +kernel
theorem dX0_pickFrom_30 : decode cX0_pickFrom 30 = .ok (.iload_n 1, 1) := by decide +kernel
theorem dX0_pickFrom_31 : decode cX0_pickFrom 31 = .ok (.aload_n 0, 1) := by decide +kernel
theorem dX0_pickFrom_32 : decode cX0_pickFrom 32 = .ok (.getfield 27, 3) := by decide +kernel
theorem dX0_pickFrom_35 : decode cX0_pickFrom 35 = .ok (.getfield 69, 3) := by decide +kernel
theorem dX0_pickFrom_38 : decode cX0_pickFrom 38 = .ok (.if_icmp .ne 9, 3) := by decide +kernel
theorem dX0_pickFrom_41 : decode cX0_pickFrom 41 = .ok (.aload_n 0, 1) := by decide +kernel
theorem dX0_pickFrom_42 : decode cX0_pickFrom 42 = .ok (.iload_n 2, 1) := by decide +kernel
theorem dX0_pickFrom_43 : decode cX0_pickFrom 43 = .ok (.invokevirtual 72, 3) := by decide +kernel
theorem dX0_pickFrom_46 : decode cX0_pickFrom 46 = .ok (.return_, 1) := by decide +kernel
theorem dX0_pickFrom_47 : decode cX0_pickFrom 47 = .ok (.iconst 0, 1) := by decide +kernel
theorem dX0_pickFrom_48 : decode cX0_pickFrom 48 = .ok (.istore_n 3, 1) := by decide +kernel
theorem dX0_pickFrom_49 : decode cX0_pickFrom 49 = .ok (.iload_n 3, 1) := by decide +kernel
theorem dX0_pickFrom_50 : decode cX0_pickFrom 50 = .ok (.bipush 6, 2) := by decide +kernel
theorem dX0_pickFrom_52 : decode cX0_pickFrom 52 = .ok (.if_icmp .ge 71, 3) := by decide +kernel
theorem dX0_pickFrom_55 : decode cX0_pickFrom 55 = .ok (.aload_n 0, 1) := by decide +kernel
theorem dX0_pickFrom_56 : decode cX0_pickFrom 56 = .ok (.iload_n 3, 1) := by decide +kernel
theorem dX0_pickFrom_57 : decode cX0_pickFrom 57 = .ok (.iload_n 1, 1) := by decide +kernel
theorem dX0_pickFrom_58 : decode cX0_pickFrom 58 = .ok (.invokevirtual 76, 3) := by decide +kernel
theorem dX0_pickFrom_61 : decode cX0_pickFrom 61 = .ok (.ifCond .eq 56, 3) := by decide +kernel
theorem dX0_pickFrom_64 : decode cX0_pickFrom 64 = .ok (.aload_n 0, 1) := by decide +kernel
theorem dX0_pickFrom_65 : decode cX0_pickFrom 65 = .ok (.getfield 17, 3) := by decide +kernel
theorem dX0_pickFrom_68 : decode cX0_pickFrom 68 = .ok (.iload_n 1, 1) := by decide +kernel
theorem dX0_pickFrom_69 : decode cX0_pickFrom 69 = .ok (.iload_n 3, 1) := by decide +kernel
theorem dX0_pickFrom_70 : decode cX0_pickFrom 70 = .ok (.iastore, 1) := by decide +kernel
theorem dX0_pickFrom_71 : decode cX0_pickFrom 71 = .ok (.aload_n 0, 1) := by decide +kernel
theorem dX0_pickFrom_72 : decode cX0_pickFrom 72 = .ok (.getfield 9, 3) := by decide +kernel
theorem dX0_pickFrom_75 : decode cX0_pickFrom 75 = .ok (.iload_n 3, 1) := by decide +kernel
theorem dX0_pickFrom_76 : decode cX0_pickFrom 76 = .ok (.dup2, 1) := by decide +kernel
theorem dX0_pickFrom_77 : decode cX0_pickFrom 77 = .ok (.iaload, 1) := by decide +kernel
theorem dX0_pickFrom_78 : decode cX0_pickFrom 78 = .ok (.aload_n 0, 1) := by decide +kernel
theorem dX0_pickFrom_79 : decode cX0_pickFrom 79 = .ok (.getfield 27, 3) := by decide +kernel
theorem dX0_pickFrom_82 : decode cX0_pickFrom 82 = .ok (.getfield 49, 3) := by decide +kernel
theorem dX0_pickFrom_85 : decode cX0_pickFrom 85 = .ok (.iload_n 1, 1) := by decide +kernel
theorem dX0_pickFrom_86 : decode cX0_pickFrom 86 = .ok (.iaload, 1) := by decide +kernel
theorem dX0_pickFrom_87 : decode cX0_pickFrom 87 = .ok (.iadd, 1) := by decide +kernel
theorem dX0_pickFrom_88 : decode cX0_pickFrom 88 = .ok (.iastore, 1) := by decide +kernel
theorem dX0_pickFrom_89 : decode cX0_pickFrom 89 = .ok (.aload_n 0, 1) := by decide +kernel
theorem dX0_pickFrom_90 : decode cX0_pickFrom 90 = .ok (.iload_n 1, 1) := by decide +kernel
theorem dX0_pickFrom_91 : decode cX0_pickFrom 91 = .ok (.iconst 1, 1) := by decide +kernel
theorem dX0_pickFrom_92 : decode cX0_pickFrom 92 = .ok (.iadd, 1) := by decide +kernel
theorem dX0_pickFrom_93 : decode cX0_pickFrom 93 = .ok (.iload_n 2, 1) := by decide +kernel
theorem dX0_pickFrom_94 : decode cX0_pickFrom 94 = .ok (.iconst 1, 1) := by decide +kernel
theorem dX0_pickFrom_95 : decode cX0_pickFrom 95 = .ok (.iadd, 1) := by decide +kernel
theorem dX0_pickFrom_96 : decode cX0_pickFrom 96 = .ok (.invokestatic 39, 3) := by decide +kernel
theorem dX0_pickFrom_99 : decode cX0_pickFrom 99 = .ok (.aload_n 0, 1) := by decide +kernel
theorem dX0_pickFrom_100 : decode cX0_pickFrom 100 = .ok (.getfield 9, 3) := by decide +kernel
theorem dX0_pickFrom_103 : decode cX0_pickFrom 103 = .ok (.iload_n 3, 1) := by decide +kernel
theorem dX0_pickFrom_104 : decode cX0_pickFrom 104 = .ok (.dup2, 1) := by decide +kernel
theorem dX0_pickFrom_105 : decode cX0_pickFrom 105 = .ok (.iaload, 1) := by decide +kernel
theorem dX0_pickFrom_106 : decode cX0_pickFrom 106 = .ok (.aload_n 0, 1) := by decide +kernel
theorem dX0_pickFrom_107 : decode cX0_pickFrom 107 = .ok (.getfield 27, 3) := by decide +kernel
theorem dX0_pickFrom_110 : decode cX0_pickFrom 110 = .ok (.getfield 49, 3) := by decide +kernel
theorem dX0_pickFrom_113 : decode cX0_pickFrom 113 = .ok (.iload_n 1, 1) := by decide +kernel
theorem dX0_pickFrom_114 : decode cX0_pickFrom 114 = .ok (.iaload, 1) := by decide +kernel
theorem dX0_pickFrom_115 : decode cX0_pickFrom 115 = .ok (.isub, 1) := by decide +kernel
theorem dX0_pickFrom_116 : decode cX0_pickFrom 116 = .ok (.iastore, 1) := by decide +kernel
theorem dX0_pickFrom_117 : decode cX0_pickFrom 117 = .ok (.iinc 3 1, 3) := by decide +kernel
theorem dX0_pickFrom_120 : decode cX0_pickFrom 120 = .ok (.goto (-71), 3) := by decide +kernel
theorem dX0_pickFrom_123 : decode cX0_pickFrom 123 = .ok (.aload_n 0, 1) := by decide +kernel
theorem dX0_pickFrom_124 : decode cX0_pickFrom 124 = .ok (.getfield 17, 3) := by decide +kernel
theorem dX0_pickFrom_127 : decode cX0_pickFrom 127 = .ok (.iload_n 1, 1) := by decide +kernel
theorem dX0_pickFrom_128 : decode cX0_pickFrom 128 = .ok (.bipush 6, 2) := by decide +kernel
theorem dX0_pickFrom_130 : decode cX0_pickFrom 130 = .ok (.iastore, 1) := by decide +kernel
theorem dX0_pickFrom_131 : decode cX0_pickFrom 131 = .ok (.aload_n 0, 1) := by decide +kernel
theorem dX0_pickFrom_132 : decode cX0_pickFrom 132 = .ok (.iload_n 1, 1) := by decide +kernel
theorem dX0_pickFrom_133 : decode cX0_pickFrom 133 = .ok (.iconst 1, 1) := by decide +kernel
theorem dX0_pickFrom_134 : decode cX0_pickFrom 134 = .ok (.iadd, 1) := by decide +kernel
theorem dX0_pickFrom_135 : decode cX0_pickFrom 135 = .ok (.iload_n 2, 1) := by decide +kernel
theorem dX0_pickFrom_136 : decode cX0_pickFrom 136 = .ok (.invokestatic 39, 3) := by decide +kernel
theorem dX0_pickFrom_139 : decode cX0_pickFrom 139 = .ok (.return_, 1) := by decide +kernel
theorem v_X0_pickFrom : yX0_pickFrom.cls = RX0 ∧ yX0_pickFrom.cls ≠ "java/lang/invoke/MethodHandle" ∧ yX0_pickFrom.cls ≠ "java/lang/invoke/VarHandle" ∧ (parseMethodDescriptor yX0_pickFrom.desc).map (fun d => d.parameters.length) = some 3 := ⟨rfl, by decide +kernel, by decide +kernel, by decide +kernel⟩
noncomputable def k_X0_pickFrom_29 (r : gb_F) (κ : gb_K) : gb_C := o_rv
theorem l_X0_pickFrom_29 (r : gb_F) : gb_Li (fun κ => k_X0_pickFrom_29 r κ) := (gb_li0 _)
theorem s_X0_pickFrom_29 {R : Room} {r : gb_F} {fr lo : Nat} (hr : (∀ l, gb_Met l yX0_pickFrom cX0_pickFrom 4 none 0 (gb_rm fr lo) r) ∧ fr + 1 ≤ R.frames ∧ 8 + (4 + 11) + lo ≤ R.locals) (hR : 2 ≤ R.frames ∧ 48 ≤ R.locals) {κ : gb_K} (hκ : ∀ q, gb_S RX0 cX0_pickFrom 4 R 0 q (κ q)) : gb_S RX0 cX0_pickFrom 4 R 0 29 (k_X0_pickFrom_29 r κ) := (s_rv rfl dX0_pickFrom_29)
noncomputable def k_X0_pickFrom_0 (r : gb_F) (κ : gb_K) : gb_C := (o_il 2 (o_al 0 (o_gf 0 1 (o_gf 2 3 (o_ib (fun x y => x + y) (o_il 1 (o_ib (fun x y => x - y) (o_al 0 (o_gf 0 5 (o_cle (k_X0_pickFrom_29 r κ) (o_il 1 (o_al 0 (o_gf 0 1 (o_gf 2 3 (o_cle (o_il 1 (o_al 0 (o_gf 0 1 (o_gf 2 3 (o_ceq (o_al 0 (o_il 2 (o_cv 1 0 0 f_X0_takeWay o_rv))) (o_ci 0 (o_is 3 (o_j [0, 1, 2, 3] (κ 49))))))))) (k_X0_pickFrom_29 r κ))))))))))))))))
theorem l_X0_pickFrom_0 (r : gb_F) : gb_Li (fun κ => k_X0_pickFrom_0 r κ) := (gb_li (q_il 2) (gb_li (q_al 0) (gb_li (q_gf 0 1) (gb_li (q_gf 2 3) (gb_li (q_ib _) (gb_li (q_il 1) (gb_li (q_ib _) (gb_li (q_al 0) (gb_li (q_gf 0 5) (q_cle (l_X0_pickFrom_29 r) (gb_li (q_il 1) (gb_li (q_al 0) (gb_li (q_gf 0 1) (gb_li (q_gf 2 3) (q_cle (gb_li (q_il 1) (gb_li (q_al 0) (gb_li (q_gf 0 1) (gb_li (q_gf 2 3) (q_ceq (gb_li (q_al 0) (gb_li (q_il 2) (gb_li (q_cv 1 0 0 f_X0_takeWay) (gb_li0 _)))) (gb_li (q_ci 0) (gb_li (q_is 3) (q_j [0, 1, 2, 3] 49)))))))) (l_X0_pickFrom_29 r))))))))))))))))
theorem s_X0_pickFrom_0 {R : Room} {r : gb_F} {fr lo : Nat} (hr : (∀ l, gb_Met l yX0_pickFrom cX0_pickFrom 4 none 0 (gb_rm fr lo) r) ∧ fr + 1 ≤ R.frames ∧ 8 + (4 + 11) + lo ≤ R.locals) (hR : 2 ≤ R.frames ∧ 48 ≤ R.locals) {κ : gb_K} (hκ : ∀ q, gb_S RX0 cX0_pickFrom 4 R 0 q (κ q)) : gb_S RX0 cX0_pickFrom 4 R 0 0 (k_X0_pickFrom_0 r κ) := (s_iln 2 rfl dX0_pickFrom_0 (s_aln 0 rfl dX0_pickFrom_1 (s_gf (T := TX0) winX0 rfl (Nat.le_of_ble_eq_true rfl) gw_1 rfl dX0_pickFrom_2 (s_gf (T := TX2) winX2 rfl (Nat.le_of_ble_eq_true rfl) gw_2 rfl dX0_pickFrom_5 (s_iadd dX0_pickFrom_8 (s_iln 1 rfl dX0_pickFrom_9 (s_isub dX0_pickFrom_10 (s_aln 0 rfl dX0_pickFrom_11 (s_gf (T := TX0) winX0 rfl (Nat.le_of_ble_eq_true rfl) gw_0 rfl dX0_pickFrom_12 (s_cle (tgt := 29) (by decide +kernel) dX0_pickFrom_15 (s_X0_pickFrom_29 hr hR hκ) (s_iln 1 rfl dX0_pickFrom_18 (s_aln 0 rfl dX0_pickFrom_19 (s_gf (T := TX0) winX0 rfl (Nat.le_of_ble_eq_true rfl) gw_1 rfl dX0_pickFrom_20 (s_gf (T := TX2) winX2 rfl (Nat.le_of_ble_eq_true rfl) gw_2 rfl dX0_pickFrom_23 (s_cle (tgt := 30) (by decide +kernel) dX0_pickFrom_26 (s_iln 1 rfl dX0_pickFrom_30 (s_aln 0 rfl dX0_pickFrom_31 (s_gf (T := TX0) winX0 rfl (Nat.le_of_ble_eq_true rfl) gw_1 rfl dX0_pickFrom_32 (s_gf (T := TX2) winX2 rfl (Nat.le_of_ble_eq_true rfl) gw_2 rfl dX0_pickFrom_35 (s_cne (tgt := 47) (by decide +kernel) dX0_pickFrom_38 (s_iconst (by decide +kernel) dX0_pickFrom_47 (s_isn 3 rfl (Nat.le_of_ble_eq_true rfl) dX0_pickFrom_48 (s_j (hκ 49)))) (s_aln 0 rfl dX0_pickFrom_41 (s_iln 2 rfl dX0_pickFrom_42 (s_cv (C := RX0) c_X0_takeWay rfl (gb_l5 gw_26 gw_27 gw_28 gw_29 gw_30) v_X0_takeWay ⟨rfl, rfl⟩ ⟨Nat.le_trans (Nat.le_of_ble_eq_true rfl) hR.1, Nat.le_trans (Nat.le_of_ble_eq_true rfl) hR.2⟩ dX0_pickFrom_43 (s_rv rfl dX0_pickFrom_46))))))))) (s_X0_pickFrom_29 hr hR hκ))))))))))))))))
noncomputable def k_X0_pickFrom_117 (r : gb_F) (κ : gb_K) : gb_C := (o_inc 3 1 (o_j [0, 1, 2, 3] (κ 49)))
theorem l_X0_pickFrom_117 (r : gb_F) : gb_Li (fun κ => k_X0_pickFrom_117 r κ) := (gb_li (q_inc 3 1) (q_j [0, 1, 2, 3] 49))
theorem s_X0_pickFrom_117 {R : Room} {r : gb_F} {fr lo : Nat} (hr : (∀ l, gb_Met l yX0_pickFrom cX0_pickFrom 4 none 0 (gb_rm fr lo) r) ∧ fr + 1 ≤ R.frames ∧ 8 + (4 + 11) + lo ≤ R.locals) (hR : 2 ≤ R.frames ∧ 48 ≤ R.locals) {κ : gb_K} (hκ : ∀ q, gb_S RX0 cX0_pickFrom 4 R 0 q (κ q)) : gb_S RX0 cX0_pickFrom 4 R 0 117 (k_X0_pickFrom_117 r κ) := (s_inc (by decide +kernel) (Nat.le_of_ble_eq_true rfl) dX0_pickFrom_117 (s_goto (tgt := 49) (by decide +kernel) dX0_pickFrom_120 (s_j (hκ 49))))
noncomputable def k_X0_pickFrom_94 (r : gb_F) (κ : gb_K) : gb_C := (o_ci 1 (o_ib (fun x y => x + y) (o_cs 3 0 r (o_al 0 (o_gf 0 2 (o_il 3 (o_dup2 (o_iald (o_al 0 (o_gf 0 1 (o_gf 2 1 (o_il 1 (o_iald (o_ib (fun x y => x - y) (o_iast (k_X0_pickFrom_117 r κ))))))))))))))))
theorem l_X0_pickFrom_94 (r : gb_F) : gb_Li (fun κ => k_X0_pickFrom_94 r κ) := (gb_li (q_ci 1) (gb_li (q_ib _) (gb_li (q_cs 3 0 r) (gb_li (q_al 0) (gb_li (q_gf 0 2) (gb_li (q_il 3) (gb_li q_dup2 (gb_li q_iald (gb_li (q_al 0) (gb_li (q_gf 0 1) (gb_li (q_gf 2 1) (gb_li (q_il 1) (gb_li q_iald (gb_li (q_ib _) (gb_li q_iast (l_X0_pickFrom_117 r))))))))))))))))
theorem s_X0_pickFrom_94 {R : Room} {r : gb_F} {fr lo : Nat} (hr : (∀ l, gb_Met l yX0_pickFrom cX0_pickFrom 4 none 0 (gb_rm fr lo) r) ∧ fr + 1 ≤ R.frames ∧ 8 + (4 + 11) + lo ≤ R.locals) (hR : 2 ≤ R.frames ∧ 48 ≤ R.locals) {κ : gb_K} (hκ : ∀ q, gb_S RX0 cX0_pickFrom 4 R 0 q (κ q)) : gb_S RX0 cX0_pickFrom 4 R 0 94 (k_X0_pickFrom_94 r κ) := (s_iconst (by decide +kernel) dX0_pickFrom_94 (s_iadd dX0_pickFrom_95 (s_cs hr.1 (gb_l4 gw_38 gw_39 gw_29 gw_40) v_X0_pickFrom.2 ⟨rfl, rfl⟩ ⟨hr.2.1, hr.2.2⟩ dX0_pickFrom_96 (s_aln 0 rfl dX0_pickFrom_99 (s_gf (T := TX0) winX0 rfl (Nat.le_of_ble_eq_true rfl) gw_14 rfl dX0_pickFrom_100 (s_iln 3 rfl dX0_pickFrom_103 (s_dup2 dX0_pickFrom_104 (s_iald dX0_pickFrom_105 (s_aln 0 rfl dX0_pickFrom_106 (s_gf (T := TX0) winX0 rfl (Nat.le_of_ble_eq_true rfl) gw_1 rfl dX0_pickFrom_107 (s_gf (T := TX2) winX2 rfl (Nat.le_of_ble_eq_true rfl) gw_13 rfl dX0_pickFrom_110 (s_iln 1 rfl dX0_pickFrom_113 (s_iald dX0_pickFrom_114 (s_isub dX0_pickFrom_115 (s_iast dX0_pickFrom_116 (s_X0_pickFrom_117 hr hR hκ))))))))))))))))
noncomputable def k_X0_pickFrom_49 (r : gb_F) (κ : gb_K) : gb_C := (o_il 3 (o_ci 6 (o_cge (o_al 0 (o_gf 0 3 (o_il 1 (o_ci 6 (o_iast (o_al 0 (o_il 1 (o_ci 1 (o_ib (fun x y => x + y) (o_il 2 (o_cs 3 0 r o_rv))))))))))) (o_al 0 (o_il 3 (o_il 1 (o_cv 2 0 2 f_X0_canDraw (o_zeq (k_X0_pickFrom_117 r κ) (o_al 0 (o_gf 0 3 (o_il 1 (o_il 3 (o_iast (o_al 0 (o_gf 0 2 (o_il 3 (o_dup2 (o_iald (o_al 0 (o_gf 0 1 (o_gf 2 1 (o_il 1 (o_iald (o_ib (fun x y => x + y) (o_iast (o_al 0 (o_il 1 (o_ci 1 (o_ib (fun x y => x + y) (o_il 2 (k_X0_pickFrom_94 r κ)))))))))))))))))))))))))))))))
theorem l_X0_pickFrom_49 (r : gb_F) : gb_Li (fun κ => k_X0_pickFrom_49 r κ) := (gb_li (q_il 3) (gb_li (q_ci 6) (q_cge (gb_li (q_al 0) (gb_li (q_gf 0 3) (gb_li (q_il 1) (gb_li (q_ci 6) (gb_li q_iast (gb_li (q_al 0) (gb_li (q_il 1) (gb_li (q_ci 1) (gb_li (q_ib _) (gb_li (q_il 2) (gb_li (q_cs 3 0 r) (gb_li0 _)))))))))))) (gb_li (q_al 0) (gb_li (q_il 3) (gb_li (q_il 1) (gb_li (q_cv 2 0 2 f_X0_canDraw) (q_zeq (l_X0_pickFrom_117 r) (gb_li (q_al 0) (gb_li (q_gf 0 3) (gb_li (q_il 1) (gb_li (q_il 3) (gb_li q_iast (gb_li (q_al 0) (gb_li (q_gf 0 2) (gb_li (q_il 3) (gb_li q_dup2 (gb_li q_iald (gb_li (q_al 0) (gb_li (q_gf 0 1) (gb_li (q_gf 2 1) (gb_li (q_il 1) (gb_li q_iald (gb_li (q_ib _) (gb_li q_iast (gb_li (q_al 0) (gb_li (q_il 1) (gb_li (q_ci 1) (gb_li (q_ib _) (gb_li (q_il 2) (l_X0_pickFrom_94 r)))))))))))))))))))))))))))))))
theorem s_X0_pickFrom_49 {R : Room} {r : gb_F} {fr lo : Nat} (hr : (∀ l, gb_Met l yX0_pickFrom cX0_pickFrom 4 none 0 (gb_rm fr lo) r) ∧ fr + 1 ≤ R.frames ∧ 8 + (4 + 11) + lo ≤ R.locals) (hR : 2 ≤ R.frames ∧ 48 ≤ R.locals) {κ : gb_K} (hκ : ∀ q, gb_S RX0 cX0_pickFrom 4 R 0 q (κ q)) : gb_S RX0 cX0_pickFrom 4 R 0 49 (k_X0_pickFrom_49 r κ) := (s_iln 3 rfl dX0_pickFrom_49 (s_bipush (by decide +kernel) dX0_pickFrom_50 (s_cge (tgt := 123) (by decide +kernel) dX0_pickFrom_52 (s_aln 0 rfl dX0_pickFrom_123 (s_gf (T := TX0) winX0 rfl (Nat.le_of_ble_eq_true rfl) gw_4 rfl dX0_pickFrom_124 (s_iln 1 rfl dX0_pickFrom_127 (s_bipush (by decide +kernel) dX0_pickFrom_128 (s_iast dX0_pickFrom_130 (s_aln 0 rfl dX0_pickFrom_131 (s_iln 1 rfl dX0_pickFrom_132 (s_iconst (by decide +kernel) dX0_pickFrom_133 (s_iadd dX0_pickFrom_134 (s_iln 2 rfl dX0_pickFrom_135 (s_cs hr.1 (gb_l4 gw_38 gw_39 gw_29 gw_40) v_X0_pickFrom.2 ⟨rfl, rfl⟩ ⟨hr.2.1, hr.2.2⟩ dX0_pickFrom_136 (s_rv rfl dX0_pickFrom_139)))))))))))) (s_aln 0 rfl dX0_pickFrom_55 (s_iln 3 rfl dX0_pickFrom_56 (s_iln 1 rfl dX0_pickFrom_57 (s_cv (C := RX0) c_X0_canDraw rfl (gb_l5 gw_34 gw_35 gw_36 gw_29 gw_37) v_X0_canDraw ⟨rfl, rfl⟩ ⟨Nat.le_trans (Nat.le_of_ble_eq_true rfl) hR.1, Nat.le_trans (Nat.le_of_ble_eq_true rfl) hR.2⟩ dX0_pickFrom_58 (s_zeq (tgt := 117) (by decide +kernel) dX0_pickFrom_61 (s_X0_pickFrom_117 hr hR hκ) (s_aln 0 rfl dX0_pickFrom_64 (s_gf (T := TX0) winX0 rfl (Nat.le_of_ble_eq_true rfl) gw_4 rfl dX0_pickFrom_65 (s_iln 1 rfl dX0_pickFrom_68 (s_iln 3 rfl dX0_pickFrom_69 (s_iast dX0_pickFrom_70 (s_aln 0 rfl dX0_pickFrom_71 (s_gf (T := TX0) winX0 rfl (Nat.le_of_ble_eq_true rfl) gw_14 rfl dX0_pickFrom_72 (s_iln 3 rfl dX0_pickFrom_75 (s_dup2 dX0_pickFrom_76 (s_iald dX0_pickFrom_77 (s_aln 0 rfl dX0_pickFrom_78 (s_gf (T := TX0) winX0 rfl (Nat.le_of_ble_eq_true rfl) gw_1 rfl dX0_pickFrom_79 (s_gf (T := TX2) winX2 rfl (Nat.le_of_ble_eq_true rfl) gw_13 rfl dX0_pickFrom_82 (s_iln 1 rfl dX0_pickFrom_85 (s_iald dX0_pickFrom_86 (s_iadd dX0_pickFrom_87 (s_iast dX0_pickFrom_88 (s_aln 0 rfl dX0_pickFrom_89 (s_iln 1 rfl dX0_pickFrom_90 (s_iconst (by decide +kernel) dX0_pickFrom_91 (s_iadd dX0_pickFrom_92 (s_iln 2 rfl dX0_pickFrom_93 (s_X0_pickFrom_94 hr hR hκ)))))))))))))))))))))))))))))))
noncomputable def B_X0_pickFrom (r : gb_F) : List (Nat × (gb_K → gb_C)) := [(49, fun κ => k_X0_pickFrom_49 r κ)]
noncomputable def K_X0_pickFrom (r : gb_F) : gb_K := gb_fx (gb_tb (B_X0_pickFrom r))
theorem L_X0_pickFrom (r : gb_F) : ∀ q, gb_Li (fun κ => gb_tb (B_X0_pickFrom r) κ q) := gb_tb_li (List.forall_mem_cons.mpr ⟨l_X0_pickFrom_49 r, (fun _ h => absurd h List.not_mem_nil)⟩)
theorem S_X0_pickFrom {R : Room} {r : gb_F} {fr lo : Nat} (hr : (∀ l, gb_Met l yX0_pickFrom cX0_pickFrom 4 none 0 (gb_rm fr lo) r) ∧ fr + 1 ≤ R.frames ∧ 8 + (4 + 11) + lo ≤ R.locals) (hR : 2 ≤ R.frames ∧ 48 ≤ R.locals) : ∀ q, gb_S RX0 cX0_pickFrom 4 R 0 q (K_X0_pickFrom r q) := fun q => gb_fx_S (L_X0_pickFrom r) (gb_tb_S (List.forall_mem_cons.mpr ⟨fun κ hκ => s_X0_pickFrom_49 hr hR hκ, (fun _ h => absurd h List.not_mem_nil)⟩)) q
noncomputable def g_X0_pickFrom : Nat → gb_F
  | 0 => fun _ _ => none
  | n + 1 => gb_mf 4 (k_X0_pickFrom_0 (g_X0_pickFrom n) (K_X0_pickFrom (g_X0_pickFrom n)))
theorem h_X0_pickFrom : ∀ (n : Nat) l, gb_Met l yX0_pickFrom cX0_pickFrom 4 none 0 (gb_rm (2 + n) (48 + 23 * n)) (g_X0_pickFrom n)
  | 0 => gb_met0
  | n + 1 => gb_met (own := RX0) (rk := 0) rfl (by decide +kernel) ⟨rfl, rfl⟩ (s_X0_pickFrom_0 ⟨h_X0_pickFrom n, by show _ ≤ _ + (n + 1); omega, by show _ ≤ _ + 23 * (n + 1); omega⟩ ⟨by show _ ≤ _ + (n + 1); omega, by show _ ≤ _ + 23 * (n + 1); omega⟩ (S_X0_pickFrom ⟨h_X0_pickFrom n, by show _ ≤ _ + (n + 1); omega, by show _ ≤ _ + 23 * (n + 1); omega⟩ ⟨by show _ ≤ _ + (n + 1); omega, by show _ ≤ _ + 23 * (n + 1); omega⟩))
noncomputable def f_X0_pickFrom : gb_F := gb_hide (g_X0_pickFrom 8)
theorem c_X0_pickFrom : ∀ l, gb_Met l yX0_pickFrom cX0_pickFrom 4 none 0 (gb_rm 10 232) f_X0_pickFrom := gb_hide_c (h_X0_pickFrom 8)
theorem dX0_pick_0 : decode cX0_pick 0 = .ok (.aload_n 0, 1) := by decide +kernel
theorem dX0_pick_1 : decode cX0_pick 1 = .ok (.iconst (-1), 1) := by decide +kernel
theorem dX0_pick_2 : decode cX0_pick 2 = .ok (.putfield 31, 3) := by decide +kernel
theorem dX0_pick_5 : decode cX0_pick 5 = .ok (.aload_n 0, 1) := by decide +kernel
theorem dX0_pick_6 : decode cX0_pick 6 = .ok (.iconst 0, 1) := by decide +kernel
theorem dX0_pick_7 : decode cX0_pick 7 = .ok (.iconst 0, 1) := by decide +kernel
theorem dX0_pick_8 : decode cX0_pick 8 = .ok (.invokestatic 39, 3) := by decide +kernel
theorem dX0_pick_11 : decode cX0_pick 11 = .ok (.aload_n 0, 1) := by decide +kernel
theorem dX0_pick_12 : decode cX0_pick 12 = .ok (.getfield 31, 3) := by decide +kernel
theorem dX0_pick_15 : decode cX0_pick 15 = .ok (.ireturn, 1) := by decide +kernel
theorem v_X0_pick : yX0_pick.cls = RX0 ∧ yX0_pick.cls ≠ "java/lang/invoke/MethodHandle" ∧ yX0_pick.cls ≠ "java/lang/invoke/VarHandle" ∧ (parseMethodDescriptor yX0_pick.desc).map (fun d => d.parameters.length) = some 0 := ⟨rfl, by decide +kernel, by decide +kernel, by decide +kernel⟩
noncomputable def k_X0_pick_0 (κ : gb_K) : gb_C := (o_al 0 (o_ci (-1) (o_pf 0 5 (o_al 0 (o_ci 0 (o_ci 0 (o_cs 3 0 f_X0_pickFrom (o_al 0 (o_gf 0 5 o_ri)))))))))
theorem l_X0_pick_0 : gb_Li (fun κ => k_X0_pick_0 κ) := (gb_li (q_al 0) (gb_li (q_ci (-1)) (gb_li (q_pf 0 5) (gb_li (q_al 0) (gb_li (q_ci 0) (gb_li (q_ci 0) (gb_li (q_cs 3 0 f_X0_pickFrom) (gb_li (q_al 0) (gb_li (q_gf 0 5) (gb_li0 _))))))))))
theorem s_X0_pick_0   {κ : gb_K} (hκ : ∀ q, gb_S RX0 cX0_pick 1 (gb_rm 11 255) 1 q (κ q)) : gb_S RX0 cX0_pick 1 (gb_rm 11 255) 1 0 (k_X0_pick_0 κ) := (s_aln 0 rfl dX0_pick_0 (s_iconst (by decide +kernel) dX0_pick_1 (s_pf (T := TX0) winX0 rfl (Nat.le_of_ble_eq_true rfl) tyX0_ok nmX0 rfl (by decide +kernel) gw_0 rfl dX0_pick_2 (s_aln 0 rfl dX0_pick_5 (s_iconst (by decide +kernel) dX0_pick_6 (s_iconst (by decide +kernel) dX0_pick_7 (s_cs c_X0_pickFrom (gb_l4 gw_38 gw_39 gw_29 gw_40) v_X0_pickFrom.2 ⟨rfl, rfl⟩ ⟨Nat.le_of_ble_eq_true rfl, Nat.le_of_ble_eq_true rfl⟩ dX0_pick_8 (s_aln 0 rfl dX0_pick_11 (s_gf (T := TX0) winX0 rfl (Nat.le_of_ble_eq_true rfl) gw_0 rfl dX0_pick_12 (s_ri rfl dX0_pick_15))))))))))
noncomputable def f_X0_pick : gb_F := gb_hide (gb_mf 1 (k_X0_pick_0 gb_n))
theorem c_X0_pick : ∀ l, gb_Met l yX0_pick cX0_pick 1 (some .int) 1 (gb_rm 11 255) f_X0_pick := gb_hide_c (gb_met (own := RX0) (rk := 1) rfl (by decide +kernel) ⟨rfl, rfl⟩ (s_X0_pick_0 gb_S_n))
theorem dX8_ended_0 : decode cX8_ended 0 = .ok (.aload_n 0, 1) := by decide +kernel
theorem dX8_ended_1 : decode cX8_ended 1 = .ok (.getfield 19, 3) := by decide +kernel
theorem dX8_ended_4 : decode cX8_ended 4 = .ok (.aload_n 0, 1) := by decide +kernel
theorem dX8_ended_5 : decode cX8_ended 5 = .ok (.getfield 15, 3) := by decide +kernel
theorem dX8_ended_8 : decode cX8_ended 8 = .ok (.if_icmp .lt 7, 3) := by decide +kernel
theorem dX8_ended_11 : decode cX8_ended 11 = .ok (.iconst 1, 1) := by decide +kernel
theorem dX8_ended_12 : decode cX8_ended 12 = .ok (.goto 4, 3) := by decide +kernel
theorem dX8_ended_15 : decode cX8_ended 15 = .ok (.iconst 0, 1) := by decide +kernel
theorem dX8_ended_16 : decode cX8_ended 16 = .ok (.ireturn, 1) := by decide +kernel
theorem v_X8_ended : yX8_ended.cls = RX8 ∧ yX8_ended.cls ≠ "java/lang/invoke/MethodHandle" ∧ yX8_ended.cls ≠ "java/lang/invoke/VarHandle" ∧ (parseMethodDescriptor yX8_ended.desc).map (fun d => d.parameters.length) = some 0 := ⟨rfl, by decide +kernel, by decide +kernel, by decide +kernel⟩
noncomputable def k_X8_ended_16 (κ : gb_K) : gb_C := o_rz
theorem l_X8_ended_16 : gb_Li (fun κ => k_X8_ended_16 κ) := (gb_li0 _)
theorem s_X8_ended_16   {κ : gb_K} (hκ : ∀ q, gb_S RX8 cX8_ended 1 (gb_rm 0 0) 2 q (κ q)) : gb_S RX8 cX8_ended 1 (gb_rm 0 0) 2 16 (k_X8_ended_16 κ) := (s_rz rfl dX8_ended_16)
noncomputable def k_X8_ended_0 (κ : gb_K) : gb_C := (o_al 0 (o_gf 8 2 (o_al 0 (o_gf 8 1 (o_clt (o_ci 0 (k_X8_ended_16 κ)) (o_ci 1 (k_X8_ended_16 κ)))))))
theorem l_X8_ended_0 : gb_Li (fun κ => k_X8_ended_0 κ) := (gb_li (q_al 0) (gb_li (q_gf 8 2) (gb_li (q_al 0) (gb_li (q_gf 8 1) (q_clt (gb_li (q_ci 0) (l_X8_ended_16)) (gb_li (q_ci 1) (l_X8_ended_16)))))))
theorem s_X8_ended_0   {κ : gb_K} (hκ : ∀ q, gb_S RX8 cX8_ended 1 (gb_rm 0 0) 2 q (κ q)) : gb_S RX8 cX8_ended 1 (gb_rm 0 0) 2 0 (k_X8_ended_0 κ) := (s_aln 0 rfl dX8_ended_0 (s_gf (T := TX8) winX8 rfl (Nat.le_of_ble_eq_true rfl) gw_41 rfl dX8_ended_1 (s_aln 0 rfl dX8_ended_4 (s_gf (T := TX8) winX8 rfl (Nat.le_of_ble_eq_true rfl) gw_42 rfl dX8_ended_5 (s_clt (tgt := 15) (by decide +kernel) dX8_ended_8 (s_iconst (by decide +kernel) dX8_ended_15 (s_X8_ended_16 hκ)) (s_iconst (by decide +kernel) dX8_ended_11 (s_goto (tgt := 16) (by decide +kernel) dX8_ended_12 (s_X8_ended_16 hκ))))))))
noncomputable def f_X8_ended : gb_F := gb_hide (gb_mf 1 (k_X8_ended_0 gb_n))
theorem c_X8_ended : ∀ l, gb_Met l yX8_ended cX8_ended 1 (some .boolean) 2 (gb_rm 0 0) f_X8_ended := gb_hide_c (gb_met (own := RX8) (rk := 2) rfl (by decide +kernel) ⟨rfl, rfl⟩ (s_X8_ended_0 gb_S_n))
theorem dX8_newNumber_0 : decode cX8_newNumber 0 = .ok (.aload_n 0, 1) := by decide +kernel
theorem dX8_newNumber_1 : decode cX8_newNumber 1 = .ok (.invokevirtual 22, 3) := by decide +kernel
theorem dX8_newNumber_4 : decode cX8_newNumber 4 = .ok (.ifCond .ne 31, 3) := by decide +kernel
theorem dX8_newNumber_7 : decode cX8_newNumber 7 = .ok (.aload_n 0, 1) := by decide +kernel
theorem dX8_newNumber_8 : decode cX8_newNumber 8 = .ok (.getfield 11, 3) := by decide +kernel
theorem dX8_newNumber_11 : decode cX8_newNumber 11 = .ok (.aload_n 0, 1) := by decide +kernel
theorem dX8_newNumber_12 : decode cX8_newNumber 12 = .ok (.getfield 19, 3) := by decide +kernel
theorem dX8_newNumber_15 : decode cX8_newNumber 15 = .ok (.iaload, 1) := by decide +kernel
theorem dX8_newNumber_16 : decode cX8_newNumber 16 = .ok (.bipush 48, 2) := by decide +kernel
theorem dX8_newNumber_18 : decode cX8_newNumber 18 = .ok (.if_icmp .lt 17, 3) := by decide +kernel
theorem dX8_newNumber_21 : decode cX8_newNumber 21 = .ok (.aload_n 0, 1) := by decide +kernel
theorem dX8_newNumber_22 : decode cX8_newNumber 22 = .ok (.getfield 11, 3) := by decide +kernel
theorem dX8_newNumber_25 : decode cX8_newNumber 25 = .ok (.aload_n 0, 1) := by decide +kernel
theorem dX8_newNumber_26 : decode cX8_newNumber 26 = .ok (.getfield 19, 3) := by decide +kernel
theorem dX8_newNumber_29 : decode cX8_newNumber 29 = .ok (.iaload, 1) := by decide +kernel
theorem dX8_newNumber_30 : decode cX8_newNumber 30 = .ok (.bipush 54, 2) := by decide +kernel
theorem dX8_newNumber_32 : decode cX8_newNumber 32 = .ok (.if_icmp .lt 5, 3) := by decide +kernel
theorem dX8_newNumber_35 : decode cX8_newNumber 35 = .ok (.iconst (-1), 1) := by decide +kernel
theorem dX8_newNumber_36 : decode cX8_newNumber 36 = .ok (.ireturn, 1) := by decide +kernel
theorem dX8_newNumber_37 : decode cX8_newNumber 37 = .ok (.aload_n 0, 1) := by decide +kernel
theorem dX8_newNumber_38 : decode cX8_newNumber 38 = .ok (.getfield 11, 3) := by decide +kernel
theorem dX8_newNumber_41 : decode cX8_newNumber 41 = .ok (.aload_n 0, 1) := by decide +kernel
theorem dX8_newNumber_42 : decode cX8_newNumber 42 = .ok (.getfield 19, 3) := by decide +kernel
theorem dX8_newNumber_45 : decode cX8_newNumber 45 = .ok (.iaload, 1) := by decide +kernel
theorem dX8_newNumber_46 : decode cX8_newNumber 46 = .ok (.bipush 48, 2) := by decide +kernel
theorem dX8_newNumber_48 : decode cX8_newNumber 48 = .ok (.isub, 1) := by decide +kernel
theorem dX8_newNumber_49 : decode cX8_newNumber 49 = .ok (.istore_n 2, 1) := by decide +kernel
theorem dX8_newNumber_50 : decode cX8_newNumber 50 = .ok (.iload_n 1, 1) := by decide +kernel
theorem dX8_newNumber_51 : decode cX8_newNumber 51 = .ok (.iconst 1, 1) := by decide +kernel
theorem dX8_newNumber_52 : decode cX8_newNumber 52 = .ok (.iload_n 2, 1) := by decide +kernel
theorem dX8_newNumber_53 : decode cX8_newNumber 53 = .ok (.ishl, 1) := by decide +kernel
theorem dX8_newNumber_54 : decode cX8_newNumber 54 = .ok (.iand, 1) := by decide +kernel
theorem dX8_newNumber_55 : decode cX8_newNumber 55 = .ok (.ifCond .eq 5, 3) := by decide +kernel
theorem dX8_newNumber_58 : decode cX8_newNumber 58 = .ok (.iconst (-1), 1) := by decide +kernel
theorem dX8_newNumber_59 : decode cX8_newNumber 59 = .ok (.ireturn, 1) := by decide +kernel
theorem dX8_newNumber_60 : decode cX8_newNumber 60 = .ok (.aload_n 0, 1) := by decide +kernel
theorem dX8_newNumber_61 : decode cX8_newNumber 61 = .ok (.dup, 1) := by decide +kernel
theorem dX8_newNumber_62 : decode cX8_newNumber 62 = .ok (.getfield 19, 3) := by decide +kernel
theorem dX8_newNumber_65 : decode cX8_newNumber 65 = .ok (.iconst 1, 1) := by decide +kernel
theorem dX8_newNumber_66 : decode cX8_newNumber 66 = .ok (.iadd, 1) := by decide +kernel
theorem dX8_newNumber_67 : decode cX8_newNumber 67 = .ok (.putfield 19, 3) := by decide +kernel
theorem dX8_newNumber_70 : decode cX8_newNumber 70 = .ok (.iload_n 2, 1) := by decide +kernel
theorem dX8_newNumber_71 : decode cX8_newNumber 71 = .ok (.ireturn, 1) := by decide +kernel
theorem v_X8_newNumber : yX8_newNumber.cls = RX8 ∧ yX8_newNumber.cls ≠ "java/lang/invoke/MethodHandle" ∧ yX8_newNumber.cls ≠ "java/lang/invoke/VarHandle" ∧ (parseMethodDescriptor yX8_newNumber.desc).map (fun d => d.parameters.length) = some 1 := ⟨rfl, by decide +kernel, by decide +kernel, by decide +kernel⟩
noncomputable def k_X8_newNumber_35 (κ : gb_K) : gb_C := (o_ci (-1) o_ri)
theorem l_X8_newNumber_35 : gb_Li (fun κ => k_X8_newNumber_35 κ) := (gb_li (q_ci (-1)) (gb_li0 _))
theorem s_X8_newNumber_35   {κ : gb_K} (hκ : ∀ q, gb_S RX8 cX8_newNumber 3 (gb_rm 1 20) 1 q (κ q)) : gb_S RX8 cX8_newNumber 3 (gb_rm 1 20) 1 35 (k_X8_newNumber_35 κ) := (s_iconst (by decide +kernel) dX8_newNumber_35 (s_ri rfl dX8_newNumber_36))
noncomputable def k_X8_newNumber_55 (κ : gb_K) : gb_C := (o_zeq (o_al 0 (o_dup (o_gf 8 2 (o_ci 1 (o_ib (fun x y => x + y) (o_pf 8 2 (o_il 2 o_ri))))))) (o_ci (-1) o_ri))
theorem l_X8_newNumber_55 : gb_Li (fun κ => k_X8_newNumber_55 κ) := (q_zeq (gb_li (q_al 0) (gb_li q_dup (gb_li (q_gf 8 2) (gb_li (q_ci 1) (gb_li (q_ib _) (gb_li (q_pf 8 2) (gb_li (q_il 2) (gb_li0 _)))))))) (gb_li (q_ci (-1)) (gb_li0 _)))
theorem s_X8_newNumber_55   {κ : gb_K} (hκ : ∀ q, gb_S RX8 cX8_newNumber 3 (gb_rm 1 20) 1 q (κ q)) : gb_S RX8 cX8_newNumber 3 (gb_rm 1 20) 1 55 (k_X8_newNumber_55 κ) := (s_zeq (tgt := 60) (by decide +kernel) dX8_newNumber_55 (s_aln 0 rfl dX8_newNumber_60 (s_dup dX8_newNumber_61 (s_gf (T := TX8) winX8 rfl (Nat.le_of_ble_eq_true rfl) gw_41 rfl dX8_newNumber_62 (s_iconst (by decide +kernel) dX8_newNumber_65 (s_iadd dX8_newNumber_66 (s_pf (T := TX8) winX8 rfl (Nat.le_of_ble_eq_true rfl) tyX8_ok nmX8 rfl (by decide +kernel) gw_41 rfl dX8_newNumber_67 (s_iln 2 rfl dX8_newNumber_70 (s_ri rfl dX8_newNumber_71)))))))) (s_iconst (by decide +kernel) dX8_newNumber_58 (s_ri rfl dX8_newNumber_59)))
noncomputable def k_X8_newNumber_0 (κ : gb_K) : gb_C := (o_al 0 (o_cv 0 8 2 f_X8_ended (o_zeq (o_al 0 (o_gf 8 0 (o_al 0 (o_gf 8 2 (o_iald (o_ci 48 (o_clt (k_X8_newNumber_35 κ) (o_al 0 (o_gf 8 0 (o_al 0 (o_gf 8 2 (o_iald (o_ci 54 (o_clt (o_al 0 (o_gf 8 0 (o_al 0 (o_gf 8 2 (o_iald (o_ci 48 (o_ib (fun x y => x - y) (o_is 2 (o_il 1 (o_ci 1 (o_il 2 (o_ib (fun x y => x <<< (y &&& 31)) (o_ib (fun x y => x &&& y) (k_X8_newNumber_55 κ)))))))))))))) (k_X8_newNumber_35 κ))))))))))))))) (k_X8_newNumber_35 κ))))
theorem l_X8_newNumber_0 : gb_Li (fun κ => k_X8_newNumber_0 κ) := (gb_li (q_al 0) (gb_li (q_cv 0 8 2 f_X8_ended) (q_zeq (gb_li (q_al 0) (gb_li (q_gf 8 0) (gb_li (q_al 0) (gb_li (q_gf 8 2) (gb_li q_iald (gb_li (q_ci 48) (q_clt (l_X8_newNumber_35) (gb_li (q_al 0) (gb_li (q_gf 8 0) (gb_li (q_al 0) (gb_li (q_gf 8 2) (gb_li q_iald (gb_li (q_ci 54) (q_clt (gb_li (q_al 0) (gb_li (q_gf 8 0) (gb_li (q_al 0) (gb_li (q_gf 8 2) (gb_li q_iald (gb_li (q_ci 48) (gb_li (q_ib _) (gb_li (q_is 2) (gb_li (q_il 1) (gb_li (q_ci 1) (gb_li (q_il 2) (gb_li (q_ib _) (gb_li (q_ib _) (l_X8_newNumber_55)))))))))))))) (l_X8_newNumber_35))))))))))))))) (l_X8_newNumber_35))))
theorem s_X8_newNumber_0   {κ : gb_K} (hκ : ∀ q, gb_S RX8 cX8_newNumber 3 (gb_rm 1 20) 1 q (κ q)) : gb_S RX8 cX8_newNumber 3 (gb_rm 1 20) 1 0 (k_X8_newNumber_0 κ) := (s_aln 0 rfl dX8_newNumber_0 (s_cv (C := RX8) c_X8_ended rfl (gb_l5 gw_43 gw_44 gw_45 gw_46 gw_47) v_X8_ended ⟨rfl, rfl⟩ ⟨Nat.le_of_ble_eq_true rfl, Nat.le_of_ble_eq_true rfl⟩ dX8_newNumber_1 (s_zne (tgt := 35) (by decide +kernel) dX8_newNumber_4 (s_X8_newNumber_35 hκ) (s_aln 0 rfl dX8_newNumber_7 (s_gf (T := TX8) winX8 rfl (Nat.le_of_ble_eq_true rfl) gw_48 rfl dX8_newNumber_8 (s_aln 0 rfl dX8_newNumber_11 (s_gf (T := TX8) winX8 rfl (Nat.le_of_ble_eq_true rfl) gw_41 rfl dX8_newNumber_12 (s_iald dX8_newNumber_15 (s_bipush (by decide +kernel) dX8_newNumber_16 (s_clt (tgt := 35) (by decide +kernel) dX8_newNumber_18 (s_X8_newNumber_35 hκ) (s_aln 0 rfl dX8_newNumber_21 (s_gf (T := TX8) winX8 rfl (Nat.le_of_ble_eq_true rfl) gw_48 rfl dX8_newNumber_22 (s_aln 0 rfl dX8_newNumber_25 (s_gf (T := TX8) winX8 rfl (Nat.le_of_ble_eq_true rfl) gw_41 rfl dX8_newNumber_26 (s_iald dX8_newNumber_29 (s_bipush (by decide +kernel) dX8_newNumber_30 (s_clt (tgt := 37) (by decide +kernel) dX8_newNumber_32 (s_aln 0 rfl dX8_newNumber_37 (s_gf (T := TX8) winX8 rfl (Nat.le_of_ble_eq_true rfl) gw_48 rfl dX8_newNumber_38 (s_aln 0 rfl dX8_newNumber_41 (s_gf (T := TX8) winX8 rfl (Nat.le_of_ble_eq_true rfl) gw_41 rfl dX8_newNumber_42 (s_iald dX8_newNumber_45 (s_bipush (by decide +kernel) dX8_newNumber_46 (s_isub dX8_newNumber_48 (s_isn 2 rfl (Nat.le_of_ble_eq_true rfl) dX8_newNumber_49 (s_iln 1 rfl dX8_newNumber_50 (s_iconst (by decide +kernel) dX8_newNumber_51 (s_iln 2 rfl dX8_newNumber_52 (s_ishl dX8_newNumber_53 (s_iand dX8_newNumber_54 (s_X8_newNumber_55 hκ)))))))))))))) (s_X8_newNumber_35 hκ))))))))))))))))))
noncomputable def f_X8_newNumber : gb_F := gb_hide (gb_mf 3 (k_X8_newNumber_0 gb_n))
theorem c_X8_newNumber : ∀ l, gb_Met l yX8_newNumber cX8_newNumber 3 (some .int) 1 (gb_rm 1 20) f_X8_newNumber := gb_hide_c (gb_met (own := RX8) (rk := 1) rfl (by decide +kernel) ⟨rfl, rfl⟩ (s_X8_newNumber_0 gb_S_n))
theorem dX8_takes_0 : decode cX8_takes 0 = .ok (.aload_n 0, 1) := by decide +kernel
theorem dX8_takes_1 : decode cX8_takes 1 = .ok (.invokevirtual 22, 3) := by decide +kernel
theorem dX8_takes_4 : decode cX8_takes 4 = .ok (.ifCond .ne 16, 3) := by decide +kernel
theorem dX8_takes_7 : decode cX8_takes 7 = .ok (.aload_n 0, 1) := by decide +kernel
theorem dX8_takes_8 : decode cX8_takes 8 = .ok (.getfield 11, 3) := by decide +kernel
theorem dX8_takes_11 : decode cX8_takes 11 = .ok (.aload_n 0, 1) := by decide +kernel
theorem dX8_takes_12 : decode cX8_takes 12 = .ok (.getfield 19, 3) := by decide +kernel
theorem dX8_takes_15 : decode cX8_takes 15 = .ok (.iaload, 1) := by decide +kernel
theorem dX8_takes_16 : decode cX8_takes 16 = .ok (.iload_n 1, 1) := by decide +kernel
theorem dX8_takes_17 : decode cX8_takes 17 = .ok (.if_icmp .eq 5, 3) := by decide +kernel
theorem dX8_takes_20 : decode cX8_takes 20 = .ok (.iconst 0, 1) := by decide +kernel
theorem dX8_takes_21 : decode cX8_takes 21 = .ok (.ireturn, 1) := by decide +kernel
theorem dX8_takes_22 : decode cX8_takes 22 = .ok (.aload_n 0, 1) := by decide +kernel
theorem dX8_takes_23 : decode cX8_takes 23 = .ok (.dup, 1) := by decide +kernel
theorem dX8_takes_24 : decode cX8_takes 24 = .ok (.getfield 19, 3) := by decide +kernel
theorem dX8_takes_27 : decode cX8_takes 27 = .ok (.iconst 1, 1) := by decide +kernel
theorem dX8_takes_28 : decode cX8_takes 28 = .ok (.iadd, 1) := by decide +kernel
theorem dX8_takes_29 : decode cX8_takes 29 = .ok (.putfield 19, 3) := by decide +kernel
theorem dX8_takes_32 : decode cX8_takes 32 = .ok (.iconst 1, 1) := by decide +kernel
theorem dX8_takes_33 : decode cX8_takes 33 = .ok (.ireturn, 1) := by decide +kernel
theorem v_X8_takes : yX8_takes.cls = RX8 ∧ yX8_takes.cls ≠ "java/lang/invoke/MethodHandle" ∧ yX8_takes.cls ≠ "java/lang/invoke/VarHandle" ∧ (parseMethodDescriptor yX8_takes.desc).map (fun d => d.parameters.length) = some 1 := ⟨rfl, by decide +kernel, by decide +kernel, by decide +kernel⟩
noncomputable def k_X8_takes_20 (κ : gb_K) : gb_C := (o_ci 0 o_rz)
theorem l_X8_takes_20 : gb_Li (fun κ => k_X8_takes_20 κ) := (gb_li (q_ci 0) (gb_li0 _))
theorem s_X8_takes_20   {κ : gb_K} (hκ : ∀ q, gb_S RX8 cX8_takes 2 (gb_rm 1 20) 2 q (κ q)) : gb_S RX8 cX8_takes 2 (gb_rm 1 20) 2 20 (k_X8_takes_20 κ) := (s_iconst (by decide +kernel) dX8_takes_20 (s_rz rfl dX8_takes_21))
noncomputable def k_X8_takes_0 (κ : gb_K) : gb_C := (o_al 0 (o_cv 0 8 2 f_X8_ended (o_zeq (o_al 0 (o_gf 8 0 (o_al 0 (o_gf 8 2 (o_iald (o_il 1 (o_ceq (o_al 0 (o_dup (o_gf 8 2 (o_ci 1 (o_ib (fun x y => x + y) (o_pf 8 2 (o_ci 1 o_rz))))))) (k_X8_takes_20 κ)))))))) (k_X8_takes_20 κ))))
theorem l_X8_takes_0 : gb_Li (fun κ => k_X8_takes_0 κ) := (gb_li (q_al 0) (gb_li (q_cv 0 8 2 f_X8_ended) (q_zeq (gb_li (q_al 0) (gb_li (q_gf 8 0) (gb_li (q_al 0) (gb_li (q_gf 8 2) (gb_li q_iald (gb_li (q_il 1) (q_ceq (gb_li (q_al 0) (gb_li q_dup (gb_li (q_gf 8 2) (gb_li (q_ci 1) (gb_li (q_ib _) (gb_li (q_pf 8 2) (gb_li (q_ci 1) (gb_li0 _)))))))) (l_X8_takes_20)))))))) (l_X8_takes_20))))
theorem s_X8_takes_0   {κ : gb_K} (hκ : ∀ q, gb_S RX8 cX8_takes 2 (gb_rm 1 20) 2 q (κ q)) : gb_S RX8 cX8_takes 2 (gb_rm 1 20) 2 0 (k_X8_takes_0 κ) := (s_aln 0 rfl dX8_takes_0 (s_cv (C := RX8) c_X8_ended rfl (gb_l5 gw_43 gw_44 gw_45 gw_46 gw_47) v_X8_ended ⟨rfl, rfl⟩ ⟨Nat.le_of_ble_eq_true rfl, Nat.le_of_ble_eq_true rfl⟩ dX8_takes_1 (s_zne (tgt := 20) (by decide +kernel) dX8_takes_4 (s_X8_takes_20 hκ) (s_aln 0 rfl dX8_takes_7 (s_gf (T := TX8) winX8 rfl (Nat.le_of_ble_eq_true rfl) gw_48 rfl dX8_takes_8 (s_aln 0 rfl dX8_takes_11 (s_gf (T := TX8) winX8 rfl (Nat.le_of_ble_eq_true rfl) gw_41 rfl dX8_takes_12 (s_iald dX8_takes_15 (s_iln 1 rfl dX8_takes_16 (s_ceq (tgt := 22) (by decide +kernel) dX8_takes_17 (s_aln 0 rfl dX8_takes_22 (s_dup dX8_takes_23 (s_gf (T := TX8) winX8 rfl (Nat.le_of_ble_eq_true rfl) gw_41 rfl dX8_takes_24 (s_iconst (by decide +kernel) dX8_takes_27 (s_iadd dX8_takes_28 (s_pf (T := TX8) winX8 rfl (Nat.le_of_ble_eq_true rfl) tyX8_ok nmX8 rfl (by decide +kernel) gw_41 rfl dX8_takes_29 (s_iconst (by decide +kernel) dX8_takes_32 (s_rz rfl dX8_takes_33)))))))) (s_X8_takes_20 hκ)))))))))))
noncomputable def f_X8_takes : gb_F := gb_hide (gb_mf 2 (k_X8_takes_0 gb_n))
theorem c_X8_takes : ∀ l, gb_Met l yX8_takes cX8_takes 2 (some .boolean) 2 (gb_rm 1 20) f_X8_takes := gb_hide_c (gb_met (own := RX8) (rk := 2) rfl (by decide +kernel) ⟨rfl, rfl⟩ (s_X8_takes_0 gb_S_n))
theorem dX8_digitFits_0 : decode cX8_digitFits 0 = .ok (.iload_n 2, 1) := by decide +kernel
theorem dX8_digitFits_1 : decode cX8_digitFits 1 = .ok (.ifCond .le 11, 3) := by decide +kernel
theorem dX8_digitFits_4 : decode cX8_digitFits 4 = .ok (.iload_n 1, 1) := by decide +kernel
theorem dX8_digitFits_5 : decode cX8_digitFits 5 = .ok (.ifCond .ne 7, 3) := by decide +kernel
theorem dX8_digitFits_8 : decode cX8_digitFits 8 = .ok (.iconst 1, 1) := by decide +kernel
theorem dX8_digitFits_9 : decode cX8_digitFits 9 = .ok (.goto 4, 3) := by decide +kernel
theorem dX8_digitFits_12 : decode cX8_digitFits 12 = .ok (.iconst 0, 1) := by decide +kernel
theorem dX8_digitFits_13 : decode cX8_digitFits 13 = .ok (.istore_n 3, 1) := by decide +kernel
theorem dX8_digitFits_14 : decode cX8_digitFits 14 = .ok (.aload_n 0, 1) := by decide +kernel
theorem dX8_digitFits_15 : decode cX8_digitFits 15 = .ok (.invokevirtual 22, 3) := by decide +kernel
theorem dX8_digitFits_18 : decode cX8_digitFits 18 = .ok (.ifCond .ne 39, 3) := by decide +kernel
theorem dX8_digitFits_21 : decode cX8_digitFits 21 = .ok (.iload_n 3, 1) := by decide +kernel
theorem dX8_digitFits_22 : decode cX8_digitFits 22 = .ok (.ifCond .ne 35, 3) := by decide +kernel
theorem dX8_digitFits_25 : decode cX8_digitFits 25 = .ok (.aload_n 0, 1) := by decide +kernel
theorem dX8_digitFits_26 : decode cX8_digitFits 26 = .ok (.getfield 11, 3) := by decide +kernel
theorem dX8_digitFits_29 : decode cX8_digitFits 29 = .ok (.aload_n 0, 1) := by decide +kernel
theorem dX8_digitFits_30 : decode cX8_digitFits 30 = .ok (.getfield 19, 3) := by decide +kernel
theorem dX8_digitFits_33 : decode cX8_digitFits 33 = .ok (.iaload, 1) := by decide +kernel
theorem dX8_digitFits_34 : decode cX8_digitFits 34 = .ok (.bipush 48, 2) := by decide +kernel
theorem dX8_digitFits_36 : decode cX8_digitFits 36 = .ok (.if_icmp .lt 21, 3) := by decide +kernel
theorem dX8_digitFits_39 : decode cX8_digitFits 39 = .ok (.aload_n 0, 1) := by decide +kernel
theorem dX8_digitFits_40 : decode cX8_digitFits 40 = .ok (.getfield 11, 3) := by decide +kernel
theorem dX8_digitFits_43 : decode cX8_digitFits 43 = .ok (.aload_n 0, 1) := by decide +kernel
theorem dX8_digitFits_44 : decode cX8_digitFits 44 = .ok (.getfield 19, 3) := by decide +kernel
theorem dX8_digitFits_47 : decode cX8_digitFits 47 = .ok (.iaload, 1) := by decide +kernel
theorem dX8_digitFits_48 : decode cX8_digitFits 48 = .ok (.bipush 57, 2) := by decide +kernel
theorem dX8_digitFits_50 : decode cX8_digitFits 50 = .ok (.if_icmp .gt 7, 3) := by decide +kernel
theorem dX8_digitFits_53 : decode cX8_digitFits 53 = .ok (.iconst 1, 1) := by decide +kernel
theorem dX8_digitFits_54 : decode cX8_digitFits 54 = .ok (.goto 4, 3) := by decide +kernel
theorem dX8_digitFits_57 : decode cX8_digitFits 57 = .ok (.iconst 0, 1) := by decide +kernel
theorem dX8_digitFits_58 : decode cX8_digitFits 58 = .ok (.ireturn, 1) := by decide +kernel
theorem v_X8_digitFits : yX8_digitFits.cls = RX8 ∧ yX8_digitFits.cls ≠ "java/lang/invoke/MethodHandle" ∧ yX8_digitFits.cls ≠ "java/lang/invoke/VarHandle" ∧ (parseMethodDescriptor yX8_digitFits.desc).map (fun d => d.parameters.length) = some 2 := ⟨rfl, by decide +kernel, by decide +kernel, by decide +kernel⟩
noncomputable def k_X8_digitFits_58 (κ : gb_K) : gb_C := o_rz
theorem l_X8_digitFits_58 : gb_Li (fun κ => k_X8_digitFits_58 κ) := (gb_li0 _)
theorem s_X8_digitFits_58   {κ : gb_K} (hκ : ∀ q, gb_S RX8 cX8_digitFits 4 (gb_rm 1 20) 2 q (κ q)) : gb_S RX8 cX8_digitFits 4 (gb_rm 1 20) 2 58 (k_X8_digitFits_58 κ) := (s_rz rfl dX8_digitFits_58)
noncomputable def k_X8_digitFits_57 (κ : gb_K) : gb_C := (o_ci 0 (k_X8_digitFits_58 κ))
theorem l_X8_digitFits_57 : gb_Li (fun κ => k_X8_digitFits_57 κ) := (gb_li (q_ci 0) (l_X8_digitFits_58))
theorem s_X8_digitFits_57   {κ : gb_K} (hκ : ∀ q, gb_S RX8 cX8_digitFits 4 (gb_rm 1 20) 2 q (κ q)) : gb_S RX8 cX8_digitFits 4 (gb_rm 1 20) 2 57 (k_X8_digitFits_57 κ) := (s_iconst (by decide +kernel) dX8_digitFits_57 (s_X8_digitFits_58 hκ))
noncomputable def k_X8_digitFits_13 (κ : gb_K) : gb_C := (o_is 3 (o_al 0 (o_cv 0 8 2 f_X8_ended (o_zeq (o_il 3 (o_zeq (o_al 0 (o_gf 8 0 (o_al 0 (o_gf 8 2 (o_iald (o_ci 48 (o_clt (k_X8_digitFits_57 κ) (o_al 0 (o_gf 8 0 (o_al 0 (o_gf 8 2 (o_iald (o_ci 57 (o_cgt (k_X8_digitFits_57 κ) (o_ci 1 (k_X8_digitFits_58 κ)))))))))))))))) (k_X8_digitFits_57 κ))) (k_X8_digitFits_57 κ)))))
theorem l_X8_digitFits_13 : gb_Li (fun κ => k_X8_digitFits_13 κ) := (gb_li (q_is 3) (gb_li (q_al 0) (gb_li (q_cv 0 8 2 f_X8_ended) (q_zeq (gb_li (q_il 3) (q_zeq (gb_li (q_al 0) (gb_li (q_gf 8 0) (gb_li (q_al 0) (gb_li (q_gf 8 2) (gb_li q_iald (gb_li (q_ci 48) (q_clt (l_X8_digitFits_57) (gb_li (q_al 0) (gb_li (q_gf 8 0) (gb_li (q_al 0) (gb_li (q_gf 8 2) (gb_li q_iald (gb_li (q_ci 57) (q_cgt (l_X8_digitFits_57) (gb_li (q_ci 1) (l_X8_digitFits_58)))))))))))))))) (l_X8_digitFits_57))) (l_X8_digitFits_57)))))
theorem s_X8_digitFits_13   {κ : gb_K} (hκ : ∀ q, gb_S RX8 cX8_digitFits 4 (gb_rm 1 20) 2 q (κ q)) : gb_S RX8 cX8_digitFits 4 (gb_rm 1 20) 2 13 (k_X8_digitFits_13 κ) := (s_isn 3 rfl (Nat.le_of_ble_eq_true rfl) dX8_digitFits_13 (s_aln 0 rfl dX8_digitFits_14 (s_cv (C := RX8) c_X8_ended rfl (gb_l5 gw_43 gw_44 gw_45 gw_46 gw_47) v_X8_ended ⟨rfl, rfl⟩ ⟨Nat.le_of_ble_eq_true rfl, Nat.le_of_ble_eq_true rfl⟩ dX8_digitFits_15 (s_zne (tgt := 57) (by decide +kernel) dX8_digitFits_18 (s_X8_digitFits_57 hκ) (s_iln 3 rfl dX8_digitFits_21 (s_zne (tgt := 57) (by decide +kernel) dX8_digitFits_22 (s_X8_digitFits_57 hκ) (s_aln 0 rfl dX8_digitFits_25 (s_gf (T := TX8) winX8 rfl (Nat.le_of_ble_eq_true rfl) gw_48 rfl dX8_digitFits_26 (s_aln 0 rfl dX8_digitFits_29 (s_gf (T := TX8) winX8 rfl (Nat.le_of_ble_eq_true rfl) gw_41 rfl dX8_digitFits_30 (s_iald dX8_digitFits_33 (s_bipush (by decide +kernel) dX8_digitFits_34 (s_clt (tgt := 57) (by decide +kernel) dX8_digitFits_36 (s_X8_digitFits_57 hκ) (s_aln 0 rfl dX8_digitFits_39 (s_gf (T := TX8) winX8 rfl (Nat.le_of_ble_eq_true rfl) gw_48 rfl dX8_digitFits_40 (s_aln 0 rfl dX8_digitFits_43 (s_gf (T := TX8) winX8 rfl (Nat.le_of_ble_eq_true rfl) gw_41 rfl dX8_digitFits_44 (s_iald dX8_digitFits_47 (s_bipush (by decide +kernel) dX8_digitFits_48 (s_cgt (tgt := 57) (by decide +kernel) dX8_digitFits_50 (s_X8_digitFits_57 hκ) (s_iconst (by decide +kernel) dX8_digitFits_53 (s_goto (tgt := 58) (by decide +kernel) dX8_digitFits_54 (s_X8_digitFits_58 hκ)))))))))))))))))))))))
noncomputable def k_X8_digitFits_12 (κ : gb_K) : gb_C := (o_ci 0 (k_X8_digitFits_13 κ))
theorem l_X8_digitFits_12 : gb_Li (fun κ => k_X8_digitFits_12 κ) := (gb_li (q_ci 0) (l_X8_digitFits_13))
theorem s_X8_digitFits_12   {κ : gb_K} (hκ : ∀ q, gb_S RX8 cX8_digitFits 4 (gb_rm 1 20) 2 q (κ q)) : gb_S RX8 cX8_digitFits 4 (gb_rm 1 20) 2 12 (k_X8_digitFits_12 κ) := (s_iconst (by decide +kernel) dX8_digitFits_12 (s_X8_digitFits_13 hκ))
noncomputable def k_X8_digitFits_0 (κ : gb_K) : gb_C := (o_il 2 (o_zle (k_X8_digitFits_12 κ) (o_il 1 (o_zeq (o_ci 1 (k_X8_digitFits_13 κ)) (k_X8_digitFits_12 κ)))))
theorem l_X8_digitFits_0 : gb_Li (fun κ => k_X8_digitFits_0 κ) := (gb_li (q_il 2) (q_zle (l_X8_digitFits_12) (gb_li (q_il 1) (q_zeq (gb_li (q_ci 1) (l_X8_digitFits_13)) (l_X8_digitFits_12)))))
theorem s_X8_digitFits_0   {κ : gb_K} (hκ : ∀ q, gb_S RX8 cX8_digitFits 4 (gb_rm 1 20) 2 q (κ q)) : gb_S RX8 cX8_digitFits 4 (gb_rm 1 20) 2 0 (k_X8_digitFits_0 κ) := (s_iln 2 rfl dX8_digitFits_0 (s_zle (tgt := 12) (by decide +kernel) dX8_digitFits_1 (s_X8_digitFits_12 hκ) (s_iln 1 rfl dX8_digitFits_4 (s_zne (tgt := 12) (by decide +kernel) dX8_digitFits_5 (s_X8_digitFits_12 hκ) (s_iconst (by decide +kernel) dX8_digitFits_8 (s_goto (tgt := 13) (by decide +kernel) dX8_digitFits_9 (s_X8_digitFits_13 hκ)))))))
noncomputable def f_X8_digitFits : gb_F := gb_hide (gb_mf 4 (k_X8_digitFits_0 gb_n))
theorem c_X8_digitFits : ∀ l, gb_Met l yX8_digitFits cX8_digitFits 4 (some .boolean) 2 (gb_rm 1 20) f_X8_digitFits := gb_hide_c (gb_met (own := RX8) (rk := 2) rfl (by decide +kernel) ⟨rfl, rfl⟩ (s_X8_digitFits_0 gb_S_n))
theorem dX8_number_0 : decode cX8_number 0 = .ok (.iconst 0, 1) := by decide +kernel
theorem dX8_number_1 : decode cX8_number 1 = .ok (.istore_n 3, 1) := by decide +kernel
theorem dX8_number_2 : decode cX8_number 2 = .ok (.iconst 0, 1) := by decide +kernel
theorem dX8_number_3 : decode cX8_number 3 = .ok (.istore 4, 2) := by decide +kernel
theorem dX8_number_5 : decode cX8_number 5 = .ok (.iload_n 2, 1) := by decide +kernel
theorem dX8_number_6 : decode cX8_number 6 = .ok (.istore 5, 2) := by decide +kernel
theorem dX8_number_8 : decode cX8_number 8 = .ok (.iload 5, 2) := by decide +kernel
theorem dX8_number_10 : decode cX8_number 10 = .ok (.ifCond .le 54, 3) := by decide +kernel
theorem dX8_number_13 : decode cX8_number 13 = .ok (.aload_n 0, 1) := by decide +kernel
theorem dX8_number_14 : decode cX8_number 14 = .ok (.iload_n 3, 1) := by decide +kernel
theorem dX8_number_15 : decode cX8_number 15 = .ok (.iload 4, 2) := by decide +kernel
theorem dX8_number_17 : decode cX8_number 17 = .ok (.invokevirtual 26, 3) := by decide +kernel
theorem dX8_number_20 : decode cX8_number 20 = .ok (.ifCond .eq 44, 3) := by decide +kernel
theorem dX8_number_23 : decode cX8_number 23 = .ok (.bipush 10, 2) := by decide +kernel
theorem dX8_number_25 : decode cX8_number 25 = .ok (.iload_n 3, 1) := by decide +kernel
theorem dX8_number_26 : decode cX8_number 26 = .ok (.imul, 1) := by decide +kernel
theorem dX8_number_27 : decode cX8_number 27 = .ok (.aload_n 0, 1) := by decide +kernel
theorem dX8_number_28 : decode cX8_number 28 = .ok (.getfield 11, 3) := by decide +kernel
theorem dX8_number_31 : decode cX8_number 31 = .ok (.aload_n 0, 1) := by decide +kernel
theorem dX8_number_32 : decode cX8_number 32 = .ok (.getfield 19, 3) := by decide +kernel
theorem dX8_number_35 : decode cX8_number 35 = .ok (.iaload, 1) := by decide +kernel
theorem dX8_number_36 : decode cX8_number 36 = .ok (.iadd, 1) := by decide +kernel
theorem dX8_number_37 : decode cX8_number 37 = .ok (.bipush 48, 2) := by decide +kernel
theorem dX8_number_39 : decode cX8_number 39 = .ok (.isub, 1) := by decide +kernel
theorem dX8_number_40 : decode cX8_number 40 = .ok (.istore_n 3, 1) := by decide +kernel
theorem dX8_number_41 : decode cX8_number 41 = .ok (.iinc 4 1, 3) := by decide +kernel
theorem dX8_number_44 : decode cX8_number 44 = .ok (.aload_n 0, 1) := by decide +kernel
theorem dX8_number_45 : decode cX8_number 45 = .ok (.dup, 1) := by decide +kernel
theorem dX8_number_46 : decode cX8_number 46 = .ok (.getfield 19, 3) := by decide +kernel
theorem dX8_number_49 : decode cX8_number 49 = .ok (.iconst 1, 1) := by decide +kernel
theorem dX8_number_50 : decode cX8_number 50 = .ok (.iadd, 1) := by decide +kernel
theorem dX8_number_51 : decode cX8_number 51 = .ok (.putfield 19, 3) := by decide +kernel
theorem dX8_number_54 : decode cX8_number 54 = .ok (.iload 5, 2) := by decide +kernel
theorem dX8_number_56 : decode cX8_number 56 = .ok (.bipush 10, 2) := by decide +kernel
theorem dX8_number_58 : decode cX8_number 58 = .ok (.idiv, 1) := by decide +kernel
theorem dX8_number_59 : decode cX8_number 59 = .ok (.istore 5, 2) := by decide +kernel
theorem dX8_number_61 : decode cX8_number 61 = .ok (.goto (-53), 3) := by decide +kernel
theorem dX8_number_64 : decode cX8_number 64 = .ok (.iload 4, 2) := by decide +kernel
theorem dX8_number_66 : decode cX8_number 66 = .ok (.ifCond .ne 5, 3) := by decide +kernel
theorem dX8_number_69 : decode cX8_number 69 = .ok (.iconst (-1), 1) := by decide +kernel
theorem dX8_number_70 : decode cX8_number 70 = .ok (.ireturn, 1) := by decide +kernel
theorem dX8_number_71 : decode cX8_number 71 = .ok (.iload_n 3, 1) := by decide +kernel
theorem dX8_number_72 : decode cX8_number 72 = .ok (.iload_n 1, 1) := by decide +kernel
theorem dX8_number_73 : decode cX8_number 73 = .ok (.if_icmp .lt 8, 3) := by decide +kernel
theorem dX8_number_76 : decode cX8_number 76 = .ok (.iload_n 3, 1) := by decide +kernel
theorem dX8_number_77 : decode cX8_number 77 = .ok (.iload_n 2, 1) := by decide +kernel
theorem dX8_number_78 : decode cX8_number 78 = .ok (.if_icmp .le 15, 3) := by decide +kernel
theorem dX8_number_81 : decode cX8_number 81 = .ok (.aload_n 0, 1) := by decide +kernel
theorem dX8_number_82 : decode cX8_number 82 = .ok (.dup, 1) := by decide +kernel
theorem dX8_number_83 : decode cX8_number 83 = .ok (.getfield 19, 3) := by decide +kernel
theorem dX8_number_86 : decode cX8_number 86 = .ok (.iconst 1, 1) := by decide +kernel
theorem dX8_number_87 : decode cX8_number 87 = .ok (.isub, 1) := by decide +kernel
theorem dX8_number_88 : decode cX8_number 88 = .ok (.putfield 19, 3) := by decide +kernel
theorem dX8_number_91 : decode cX8_number 91 = .ok (.iconst (-1), 1) := by decide +kernel
theorem dX8_number_92 : decode cX8_number 92 = .ok (.ireturn, 1) := by decide +kernel
theorem dX8_number_93 : decode cX8_number 93 = .ok (.iload_n 3, 1) := by decide +kernel
theorem dX8_number_94 : decode cX8_number 94 = .ok (.ireturn, 1) := by decide +kernel
theorem v_X8_number : yX8_number.cls = RX8 ∧ yX8_number.cls ≠ "java/lang/invoke/MethodHandle" ∧ yX8_number.cls ≠ "java/lang/invoke/VarHandle" ∧ (parseMethodDescriptor yX8_number.desc).map (fun d => d.parameters.length) = some 2 := ⟨rfl, by decide +kernel, by decide +kernel, by decide +kernel⟩
noncomputable def k_X8_number_0 (κ : gb_K) : gb_C := (o_ci 0 (o_is 3 (o_ci 0 (o_is 4 (o_il 2 (o_is 5 (o_j [0, 1, 2, 3, 4, 5] (κ 8))))))))
theorem l_X8_number_0 : gb_Li (fun κ => k_X8_number_0 κ) := (gb_li (q_ci 0) (gb_li (q_is 3) (gb_li (q_ci 0) (gb_li (q_is 4) (gb_li (q_il 2) (gb_li (q_is 5) (q_j [0, 1, 2, 3, 4, 5] 8)))))))
theorem s_X8_number_0   {κ : gb_K} (hκ : ∀ q, gb_S RX8 cX8_number 6 (gb_rm 2 43) 1 q (κ q)) : gb_S RX8 cX8_number 6 (gb_rm 2 43) 1 0 (k_X8_number_0 κ) := (s_iconst (by decide +kernel) dX8_number_0 (s_isn 3 rfl (Nat.le_of_ble_eq_true rfl) dX8_number_1 (s_iconst (by decide +kernel) dX8_number_2 (s_is (Nat.le_of_ble_eq_true rfl) dX8_number_3 (s_iln 2 rfl dX8_number_5 (s_is (Nat.le_of_ble_eq_true rfl) dX8_number_6 (s_j (hκ 8))))))))
noncomputable def k_X8_number_61 (κ : gb_K) : gb_C := (o_j [0, 1, 2, 3, 4, 5] (κ 8))
theorem l_X8_number_61 : gb_Li (fun κ => k_X8_number_61 κ) := (q_j [0, 1, 2, 3, 4, 5] 8)
theorem s_X8_number_61   {κ : gb_K} (hκ : ∀ q, gb_S RX8 cX8_number 6 (gb_rm 2 43) 1 q (κ q)) : gb_S RX8 cX8_number 6 (gb_rm 2 43) 1 61 (k_X8_number_61 κ) := (s_goto (tgt := 8) (by decide +kernel) dX8_number_61 (s_j (hκ 8)))
noncomputable def k_X8_number_81 (κ : gb_K) : gb_C := (o_al 0 (o_dup (o_gf 8 2 (o_ci 1 (o_ib (fun x y => x - y) (o_pf 8 2 (o_ci (-1) o_ri)))))))
theorem l_X8_number_81 : gb_Li (fun κ => k_X8_number_81 κ) := (gb_li (q_al 0) (gb_li q_dup (gb_li (q_gf 8 2) (gb_li (q_ci 1) (gb_li (q_ib _) (gb_li (q_pf 8 2) (gb_li (q_ci (-1)) (gb_li0 _))))))))
theorem s_X8_number_81   {κ : gb_K} (hκ : ∀ q, gb_S RX8 cX8_number 6 (gb_rm 2 43) 1 q (κ q)) : gb_S RX8 cX8_number 6 (gb_rm 2 43) 1 81 (k_X8_number_81 κ) := (s_aln 0 rfl dX8_number_81 (s_dup dX8_number_82 (s_gf (T := TX8) winX8 rfl (Nat.le_of_ble_eq_true rfl) gw_41 rfl dX8_number_83 (s_iconst (by decide +kernel) dX8_number_86 (s_isub dX8_number_87 (s_pf (T := TX8) winX8 rfl (Nat.le_of_ble_eq_true rfl) tyX8_ok nmX8 rfl (by decide +kernel) gw_41 rfl dX8_number_88 (s_iconst (by decide +kernel) dX8_number_91 (s_ri rfl dX8_number_92))))))))
noncomputable def k_X8_number_64 (κ : gb_K) : gb_C := (o_il 4 (o_zeq (o_ci (-1) o_ri) (o_il 3 (o_il 1 (o_clt (k_X8_number_81 κ) (o_il 3 (o_il 2 (o_cle (o_il 3 o_ri) (k_X8_number_81 κ)))))))))
theorem l_X8_number_64 : gb_Li (fun κ => k_X8_number_64 κ) := (gb_li (q_il 4) (q_zeq (gb_li (q_ci (-1)) (gb_li0 _)) (gb_li (q_il 3) (gb_li (q_il 1) (q_clt (l_X8_number_81) (gb_li (q_il 3) (gb_li (q_il 2) (q_cle (gb_li (q_il 3) (gb_li0 _)) (l_X8_number_81)))))))))
theorem s_X8_number_64   {κ : gb_K} (hκ : ∀ q, gb_S RX8 cX8_number 6 (gb_rm 2 43) 1 q (κ q)) : gb_S RX8 cX8_number 6 (gb_rm 2 43) 1 64 (k_X8_number_64 κ) := (s_il dX8_number_64 (s_zne (tgt := 71) (by decide +kernel) dX8_number_66 (s_iln 3 rfl dX8_number_71 (s_iln 1 rfl dX8_number_72 (s_clt (tgt := 81) (by decide +kernel) dX8_number_73 (s_X8_number_81 hκ) (s_iln 3 rfl dX8_number_76 (s_iln 2 rfl dX8_number_77 (s_cle (tgt := 93) (by decide +kernel) dX8_number_78 (s_iln 3 rfl dX8_number_93 (s_ri rfl dX8_number_94)) (s_X8_number_81 hκ))))))) (s_iconst (by decide +kernel) dX8_number_69 (s_ri rfl dX8_number_70))))
noncomputable def k_X8_number_8 (κ : gb_K) : gb_C := (o_il 5 (o_zle (k_X8_number_64 κ) (o_al 0 (o_il 3 (o_il 4 (o_cv 2 8 2 f_X8_digitFits (o_zeq (k_X8_number_64 κ) (o_ci 10 (o_il 3 (o_ib (fun x y => x * y) (o_al 0 (o_gf 8 0 (o_al 0 (o_gf 8 2 (o_iald (o_ib (fun x y => x + y) (o_ci 48 (o_ib (fun x y => x - y) (o_is 3 (o_inc 4 1 (o_al 0 (o_dup (o_gf 8 2 (o_ci 1 (o_ib (fun x y => x + y) (o_pf 8 2 (o_il 5 (o_ci 10 (o_ig (fun y => !(decide (y = 0))) (fun x y => x / y) (o_is 5 (k_X8_number_61 κ)))))))))))))))))))))))))))))))
theorem l_X8_number_8 : gb_Li (fun κ => k_X8_number_8 κ) := (gb_li (q_il 5) (q_zle (l_X8_number_64) (gb_li (q_al 0) (gb_li (q_il 3) (gb_li (q_il 4) (gb_li (q_cv 2 8 2 f_X8_digitFits) (q_zeq (l_X8_number_64) (gb_li (q_ci 10) (gb_li (q_il 3) (gb_li (q_ib _) (gb_li (q_al 0) (gb_li (q_gf 8 0) (gb_li (q_al 0) (gb_li (q_gf 8 2) (gb_li q_iald (gb_li (q_ib _) (gb_li (q_ci 48) (gb_li (q_ib _) (gb_li (q_is 3) (gb_li (q_inc 4 1) (gb_li (q_al 0) (gb_li q_dup (gb_li (q_gf 8 2) (gb_li (q_ci 1) (gb_li (q_ib _) (gb_li (q_pf 8 2) (gb_li (q_il 5) (gb_li (q_ci 10) (gb_li (q_ig _ _) (gb_li (q_is 5) (l_X8_number_61)))))))))))))))))))))))))))))))
theorem s_X8_number_8   {κ : gb_K} (hκ : ∀ q, gb_S RX8 cX8_number 6 (gb_rm 2 43) 1 q (κ q)) : gb_S RX8 cX8_number 6 (gb_rm 2 43) 1 8 (k_X8_number_8 κ) := (s_il dX8_number_8 (s_zle (tgt := 64) (by decide +kernel) dX8_number_10 (s_X8_number_64 hκ) (s_aln 0 rfl dX8_number_13 (s_iln 3 rfl dX8_number_14 (s_il dX8_number_15 (s_cv (C := RX8) c_X8_digitFits rfl (gb_l5 gw_49 gw_50 gw_51 gw_46 gw_52) v_X8_digitFits ⟨rfl, rfl⟩ ⟨Nat.le_of_ble_eq_true rfl, Nat.le_of_ble_eq_true rfl⟩ dX8_number_17 (s_zeq (tgt := 64) (by decide +kernel) dX8_number_20 (s_X8_number_64 hκ) (s_bipush (by decide +kernel) dX8_number_23 (s_iln 3 rfl dX8_number_25 (s_imul dX8_number_26 (s_aln 0 rfl dX8_number_27 (s_gf (T := TX8) winX8 rfl (Nat.le_of_ble_eq_true rfl) gw_48 rfl dX8_number_28 (s_aln 0 rfl dX8_number_31 (s_gf (T := TX8) winX8 rfl (Nat.le_of_ble_eq_true rfl) gw_41 rfl dX8_number_32 (s_iald dX8_number_35 (s_iadd dX8_number_36 (s_bipush (by decide +kernel) dX8_number_37 (s_isub dX8_number_39 (s_isn 3 rfl (Nat.le_of_ble_eq_true rfl) dX8_number_40 (s_inc (by decide +kernel) (Nat.le_of_ble_eq_true rfl) dX8_number_41 (s_aln 0 rfl dX8_number_44 (s_dup dX8_number_45 (s_gf (T := TX8) winX8 rfl (Nat.le_of_ble_eq_true rfl) gw_41 rfl dX8_number_46 (s_iconst (by decide +kernel) dX8_number_49 (s_iadd dX8_number_50 (s_pf (T := TX8) winX8 rfl (Nat.le_of_ble_eq_true rfl) tyX8_ok nmX8 rfl (by decide +kernel) gw_41 rfl dX8_number_51 (s_il dX8_number_54 (s_bipush (by decide +kernel) dX8_number_56 (s_idiv dX8_number_58 (s_is (Nat.le_of_ble_eq_true rfl) dX8_number_59 (s_X8_number_61 hκ)))))))))))))))))))))))))))))))
noncomputable def B_X8_number : List (Nat × (gb_K → gb_C)) := [(8, fun κ => k_X8_number_8 κ)]
noncomputable def K_X8_number : gb_K := gb_fx (gb_tb (B_X8_number))
theorem L_X8_number : ∀ q, gb_Li (fun κ => gb_tb (B_X8_number) κ q) := gb_tb_li (List.forall_mem_cons.mpr ⟨l_X8_number_8, (fun _ h => absurd h List.not_mem_nil)⟩)
theorem S_X8_number   : ∀ q, gb_S RX8 cX8_number 6 (gb_rm 2 43) 1 q (K_X8_number q) := fun q => gb_fx_S (L_X8_number) (gb_tb_S (List.forall_mem_cons.mpr ⟨fun κ hκ => s_X8_number_8 hκ, (fun _ h => absurd h List.not_mem_nil)⟩)) q
noncomputable def f_X8_number : gb_F := gb_hide (gb_mf 6 (k_X8_number_0 (K_X8_number)))
theorem c_X8_number : ∀ l, gb_Met l yX8_number cX8_number 6 (some .int) 1 (gb_rm 2 43) f_X8_number := gb_hide_c (gb_met (own := RX8) (rk := 1) rfl (by decide +kernel) ⟨rfl, rfl⟩ (s_X8_number_0 (S_X8_number)))
theorem dX2_readOne_0 : decode cX2_readOne 0 = .ok (.aload_n 1, 1) := by decide +kernel
theorem dX2_readOne_1 : decode cX2_readOne 1 = .ok (.iconst 0, 1) := by decide +kernel
theorem dX2_readOne_2 : decode cX2_readOne 2 = .ok (.invokevirtual 43, 3) := by decide +kernel
theorem dX2_readOne_5 : decode cX2_readOne 5 = .ok (.istore_n 3, 1) := by decide +kernel
theorem dX2_readOne_6 : decode cX2_readOne 6 = .ok (.iload_n 3, 1) := by decide +kernel
theorem dX2_readOne_7 : decode cX2_readOne 7 = .ok (.ifCond .lt 12, 3) := by decide +kernel
theorem dX2_readOne_10 : decode cX2_readOne 10 = .ok (.aload_n 1, 1) := by decide +kernel
theorem dX2_readOne_11 : decode cX2_readOne 11 = .ok (.bipush 58, 2) := by decide +kernel
theorem dX2_readOne_13 : decode cX2_readOne 13 = .ok (.invokevirtual 39, 3) := by decide +kernel
theorem dX2_readOne_16 : decode cX2_readOne 16 = .ok (.ifCond .ne 5, 3) := by decide +kernel
theorem dX2_readOne_19 : decode cX2_readOne 19 = .ok (.iconst 0, 1) := by decide +kernel
theorem dX2_readOne_20 : decode cX2_readOne 20 = .ok (.ireturn, 1) := by decide +kernel
theorem dX2_readOne_21 : decode cX2_readOne 21 = .ok (.aload_n 1, 1) := by decide +kernel
theorem dX2_readOne_22 : decode cX2_readOne 22 = .ok (.iconst 1, 1) := by decide +kernel
theorem dX2_readOne_23 : decode cX2_readOne 23 = .ok (.bipush 99, 2) := by decide +kernel
theorem dX2_readOne_25 : decode cX2_readOne 25 = .ok (.invokevirtual 47, 3) := by decide +kernel
theorem dX2_readOne_28 : decode cX2_readOne 28 = .ok (.istore 4, 2) := by decide +kernel
theorem dX2_readOne_30 : decode cX2_readOne 30 = .ok (.iload 4, 2) := by decide +kernel
theorem dX2_readOne_32 : decode cX2_readOne 32 = .ok (.ifCond .ge 5, 3) := by decide +kernel
theorem dX2_readOne_35 : decode cX2_readOne 35 = .ok (.iconst 0, 1) := by decide +kernel
theorem dX2_readOne_36 : decode cX2_readOne 36 = .ok (.ireturn, 1) := by decide +kernel
theorem dX2_readOne_37 : decode cX2_readOne 37 = .ok (.aload_n 0, 1) := by decide +kernel
theorem dX2_readOne_38 : decode cX2_readOne 38 = .ok (.getfield 11, 3) := by decide +kernel
theorem dX2_readOne_41 : decode cX2_readOne 41 = .ok (.iload_n 2, 1) := by decide +kernel
theorem dX2_readOne_42 : decode cX2_readOne 42 = .ok (.iload_n 3, 1) := by decide +kernel
theorem dX2_readOne_43 : decode cX2_readOne 43 = .ok (.iastore, 1) := by decide +kernel
theorem dX2_readOne_44 : decode cX2_readOne 44 = .ok (.aload_n 0, 1) := by decide +kernel
theorem dX2_readOne_45 : decode cX2_readOne 45 = .ok (.getfield 15, 3) := by decide +kernel
theorem dX2_readOne_48 : decode cX2_readOne 48 = .ok (.iload_n 2, 1) := by decide +kernel
theorem dX2_readOne_49 : decode cX2_readOne 49 = .ok (.iload 4, 2) := by decide +kernel
theorem dX2_readOne_51 : decode cX2_readOne 51 = .ok (.iastore, 1) := by decide +kernel
theorem dX2_readOne_52 : decode cX2_readOne 52 = .ok (.iconst 1, 1) := by decide +kernel
theorem dX2_readOne_53 : decode cX2_readOne 53 = .ok (.ireturn, 1) := by decide +kernel
theorem v_X2_readOne : yX2_readOne.cls = RX2 ∧ yX2_readOne.cls ≠ "java/lang/invoke/MethodHandle" ∧ yX2_readOne.cls ≠ "java/lang/invoke/VarHandle" ∧ (parseMethodDescriptor yX2_readOne.desc).map (fun d => d.parameters.length) = some 2 := ⟨rfl, by decide +kernel, by decide +kernel, by decide +kernel⟩
noncomputable def k_X2_readOne_19 (κ : gb_K) : gb_C := (o_ci 0 o_rz)
theorem l_X2_readOne_19 : gb_Li (fun κ => k_X2_readOne_19 κ) := (gb_li (q_ci 0) (gb_li0 _))
theorem s_X2_readOne_19   {κ : gb_K} (hκ : ∀ q, gb_S RX2 cX2_readOne 5 (gb_rm 3 68) 2 q (κ q)) : gb_S RX2 cX2_readOne 5 (gb_rm 3 68) 2 19 (k_X2_readOne_19 κ) := (s_iconst (by decide +kernel) dX2_readOne_19 (s_rz rfl dX2_readOne_20))
noncomputable def k_X2_readOne_0 (κ : gb_K) : gb_C := (o_al 1 (o_ci 0 (o_cv 1 8 1 f_X8_newNumber (o_is 3 (o_il 3 (o_zlt (k_X2_readOne_19 κ) (o_al 1 (o_ci 58 (o_cv 1 8 2 f_X8_takes (o_zeq (k_X2_readOne_19 κ) (o_al 1 (o_ci 1 (o_ci 99 (o_cv 2 8 1 f_X8_number (o_is 4 (o_il 4 (o_zge (o_al 0 (o_gf 2 0 (o_il 2 (o_il 3 (o_iast (o_al 0 (o_gf 2 1 (o_il 2 (o_il 4 (o_iast (o_ci 1 o_rz))))))))))) (o_ci 0 o_rz))))))))))))))))))
theorem l_X2_readOne_0 : gb_Li (fun κ => k_X2_readOne_0 κ) := (gb_li (q_al 1) (gb_li (q_ci 0) (gb_li (q_cv 1 8 1 f_X8_newNumber) (gb_li (q_is 3) (gb_li (q_il 3) (q_zlt (l_X2_readOne_19) (gb_li (q_al 1) (gb_li (q_ci 58) (gb_li (q_cv 1 8 2 f_X8_takes) (q_zeq (l_X2_readOne_19) (gb_li (q_al 1) (gb_li (q_ci 1) (gb_li (q_ci 99) (gb_li (q_cv 2 8 1 f_X8_number) (gb_li (q_is 4) (gb_li (q_il 4) (q_zge (gb_li (q_al 0) (gb_li (q_gf 2 0) (gb_li (q_il 2) (gb_li (q_il 3) (gb_li q_iast (gb_li (q_al 0) (gb_li (q_gf 2 1) (gb_li (q_il 2) (gb_li (q_il 4) (gb_li q_iast (gb_li (q_ci 1) (gb_li0 _)))))))))))) (gb_li (q_ci 0) (gb_li0 _)))))))))))))))))))
theorem s_X2_readOne_0   {κ : gb_K} (hκ : ∀ q, gb_S RX2 cX2_readOne 5 (gb_rm 3 68) 2 q (κ q)) : gb_S RX2 cX2_readOne 5 (gb_rm 3 68) 2 0 (k_X2_readOne_0 κ) := (s_aln 1 rfl dX2_readOne_0 (s_iconst (by decide +kernel) dX2_readOne_1 (s_cv (C := RX8) c_X8_newNumber rfl (gb_l5 gw_53 gw_54 gw_55 gw_46 gw_56) v_X8_newNumber ⟨rfl, rfl⟩ ⟨Nat.le_of_ble_eq_true rfl, Nat.le_of_ble_eq_true rfl⟩ dX2_readOne_2 (s_isn 3 rfl (Nat.le_of_ble_eq_true rfl) dX2_readOne_5 (s_iln 3 rfl dX2_readOne_6 (s_zlt (tgt := 19) (by decide +kernel) dX2_readOne_7 (s_X2_readOne_19 hκ) (s_aln 1 rfl dX2_readOne_10 (s_bipush (by decide +kernel) dX2_readOne_11 (s_cv (C := RX8) c_X8_takes rfl (gb_l5 gw_57 gw_58 gw_59 gw_46 gw_60) v_X8_takes ⟨rfl, rfl⟩ ⟨Nat.le_of_ble_eq_true rfl, Nat.le_of_ble_eq_true rfl⟩ dX2_readOne_13 (s_zne (tgt := 21) (by decide +kernel) dX2_readOne_16 (s_aln 1 rfl dX2_readOne_21 (s_iconst (by decide +kernel) dX2_readOne_22 (s_bipush (by decide +kernel) dX2_readOne_23 (s_cv (C := RX8) c_X8_number rfl (gb_l5 gw_61 gw_62 gw_63 gw_46 gw_64) v_X8_number ⟨rfl, rfl⟩ ⟨Nat.le_of_ble_eq_true rfl, Nat.le_of_ble_eq_true rfl⟩ dX2_readOne_25 (s_is (Nat.le_of_ble_eq_true rfl) dX2_readOne_28 (s_il dX2_readOne_30 (s_zge (tgt := 37) (by decide +kernel) dX2_readOne_32 (s_aln 0 rfl dX2_readOne_37 (s_gf (T := TX2) winX2 rfl (Nat.le_of_ble_eq_true rfl) gw_65 rfl dX2_readOne_38 (s_iln 2 rfl dX2_readOne_41 (s_iln 3 rfl dX2_readOne_42 (s_iast dX2_readOne_43 (s_aln 0 rfl dX2_readOne_44 (s_gf (T := TX2) winX2 rfl (Nat.le_of_ble_eq_true rfl) gw_66 rfl dX2_readOne_45 (s_iln 2 rfl dX2_readOne_48 (s_il dX2_readOne_49 (s_iast dX2_readOne_51 (s_iconst (by decide +kernel) dX2_readOne_52 (s_rz rfl dX2_readOne_53)))))))))))) (s_iconst (by decide +kernel) dX2_readOne_35 (s_rz rfl dX2_readOne_36))))))))) (s_X2_readOne_19 hκ)))))))))))
noncomputable def f_X2_readOne : gb_F := gb_hide (gb_mf 5 (k_X2_readOne_0 gb_n))
theorem c_X2_readOne : ∀ l, gb_Met l yX2_readOne cX2_readOne 5 (some .boolean) 2 (gb_rm 3 68) f_X2_readOne := gb_hide_c (gb_met (own := RX2) (rk := 2) rfl (by decide +kernel) ⟨rfl, rfl⟩ (s_X2_readOne_0 gb_S_n))
theorem dX8_fault_0 : decode cX8_fault 0 = .ok (.bipush (-21), 2) := by decide +kernel
theorem dX8_fault_2 : decode cX8_fault 2 = .ok (.aload_n 0, 1) := by decide +kernel
theorem dX8_fault_3 : decode cX8_fault 3 = .ok (.getfield 19, 3) := by decide +kernel
theorem dX8_fault_6 : decode cX8_fault 6 = .ok (.isub, 1) := by decide +kernel
theorem dX8_fault_7 : decode cX8_fault 7 = .ok (.ireturn, 1) := by decide +kernel
theorem v_X8_fault : yX8_fault.cls = RX8 ∧ yX8_fault.cls ≠ "java/lang/invoke/MethodHandle" ∧ yX8_fault.cls ≠ "java/lang/invoke/VarHandle" ∧ (parseMethodDescriptor yX8_fault.desc).map (fun d => d.parameters.length) = some 0 := ⟨rfl, by decide +kernel, by decide +kernel, by decide +kernel⟩
noncomputable def k_X8_fault_0 (κ : gb_K) : gb_C := (o_ci (-21) (o_al 0 (o_gf 8 2 (o_ib (fun x y => x - y) o_ri))))
theorem l_X8_fault_0 : gb_Li (fun κ => k_X8_fault_0 κ) := (gb_li (q_ci (-21)) (gb_li (q_al 0) (gb_li (q_gf 8 2) (gb_li (q_ib _) (gb_li0 _)))))
theorem s_X8_fault_0   {κ : gb_K} (hκ : ∀ q, gb_S RX8 cX8_fault 1 (gb_rm 0 0) 1 q (κ q)) : gb_S RX8 cX8_fault 1 (gb_rm 0 0) 1 0 (k_X8_fault_0 κ) := (s_bipush (by decide +kernel) dX8_fault_0 (s_aln 0 rfl dX8_fault_2 (s_gf (T := TX8) winX8 rfl (Nat.le_of_ble_eq_true rfl) gw_41 rfl dX8_fault_3 (s_isub dX8_fault_6 (s_ri rfl dX8_fault_7)))))
noncomputable def f_X8_fault : gb_F := gb_hide (gb_mf 1 (k_X8_fault_0 gb_n))
theorem c_X8_fault : ∀ l, gb_Met l yX8_fault cX8_fault 1 (some .int) 1 (gb_rm 0 0) f_X8_fault := gb_hide_c (gb_met (own := RX8) (rk := 1) rfl (by decide +kernel) ⟨rfl, rfl⟩ (s_X8_fault_0 gb_S_n))
theorem dX2_read_0 : decode cX2_read 0 = .ok (.aload_n 0, 1) := by decide +kernel
theorem dX2_read_1 : decode cX2_read 1 = .ok (.iconst 0, 1) := by decide +kernel
theorem dX2_read_2 : decode cX2_read 2 = .ok (.putfield 21, 3) := by decide +kernel
theorem dX2_read_5 : decode cX2_read 5 = .ok (.aload_n 1, 1) := by decide +kernel
theorem dX2_read_6 : decode cX2_read 6 = .ok (.invokevirtual 25, 3) := by decide +kernel
theorem dX2_read_9 : decode cX2_read 9 = .ok (.ifCond .eq 5, 3) := by decide +kernel
theorem dX2_read_12 : decode cX2_read 12 = .ok (.iconst 0, 1) := by decide +kernel
theorem dX2_read_13 : decode cX2_read 13 = .ok (.ireturn, 1) := by decide +kernel
theorem dX2_read_14 : decode cX2_read 14 = .ok (.iconst 0, 1) := by decide +kernel
theorem dX2_read_15 : decode cX2_read 15 = .ok (.istore_n 2, 1) := by decide +kernel
theorem dX2_read_16 : decode cX2_read 16 = .ok (.iload_n 2, 1) := by decide +kernel
theorem dX2_read_17 : decode cX2_read 17 = .ok (.bipush 6, 2) := by decide +kernel
theorem dX2_read_19 : decode cX2_read 19 = .ok (.if_icmp .ge 61, 3) := by decide +kernel
theorem dX2_read_22 : decode cX2_read 22 = .ok (.aload_n 0, 1) := by decide +kernel
theorem dX2_read_23 : decode cX2_read 23 = .ok (.aload_n 1, 1) := by decide +kernel
theorem dX2_read_24 : decode cX2_read 24 = .ok (.iload_n 2, 1) := by decide +kernel
theorem dX2_read_25 : decode cX2_read 25 = .ok (.invokevirtual 31, 3) := by decide +kernel
theorem dX2_read_28 : decode cX2_read 28 = .ok (.ifCond .ne 8, 3) := by decide +kernel
theorem dX2_read_31 : decode cX2_read 31 = .ok (.aload_n 1, 1) := by decide +kernel
theorem dX2_read_32 : decode cX2_read 32 = .ok (.invokevirtual 35, 3) := by decide +kernel
theorem dX2_read_35 : decode cX2_read 35 = .ok (.ireturn, 1) := by decide +kernel
theorem dX2_read_36 : decode cX2_read 36 = .ok (.aload_n 1, 1) := by decide +kernel
theorem dX2_read_37 : decode cX2_read 37 = .ok (.invokevirtual 25, 3) := by decide +kernel
theorem dX2_read_40 : decode cX2_read 40 = .ok (.ifCond .eq 15, 3) := by decide +kernel
theorem dX2_read_43 : decode cX2_read 43 = .ok (.aload_n 0, 1) := by decide +kernel
theorem dX2_read_44 : decode cX2_read 44 = .ok (.iload_n 2, 1) := by decide +kernel
theorem dX2_read_45 : decode cX2_read 45 = .ok (.iconst 1, 1) := by decide +kernel
theorem dX2_read_46 : decode cX2_read 46 = .ok (.iadd, 1) := by decide +kernel
theorem dX2_read_47 : decode cX2_read 47 = .ok (.putfield 21, 3) := by decide +kernel
theorem dX2_read_50 : decode cX2_read 50 = .ok (.aload_n 0, 1) := by decide +kernel
theorem dX2_read_51 : decode cX2_read 51 = .ok (.getfield 21, 3) := by decide +kernel
theorem dX2_read_54 : decode cX2_read 54 = .ok (.ireturn, 1) := by decide +kernel
theorem dX2_read_55 : decode cX2_read 55 = .ok (.iload_n 2, 1) := by decide +kernel
theorem dX2_read_56 : decode cX2_read 56 = .ok (.iconst 5, 1) := by decide +kernel
theorem dX2_read_57 : decode cX2_read 57 = .ok (.if_icmp .eq 12, 3) := by decide +kernel
theorem dX2_read_60 : decode cX2_read 60 = .ok (.aload_n 1, 1) := by decide +kernel
theorem dX2_read_61 : decode cX2_read 61 = .ok (.bipush 44, 2) := by decide +kernel
theorem dX2_read_63 : decode cX2_read 63 = .ok (.invokevirtual 39, 3) := by decide +kernel
theorem dX2_read_66 : decode cX2_read 66 = .ok (.ifCond .ne 8, 3) := by decide +kernel
theorem dX2_read_69 : decode cX2_read 69 = .ok (.aload_n 1, 1) := by decide +kernel
theorem dX2_read_70 : decode cX2_read 70 = .ok (.invokevirtual 35, 3) := by decide +kernel
theorem dX2_read_73 : decode cX2_read 73 = .ok (.ireturn, 1) := by decide +kernel
theorem dX2_read_74 : decode cX2_read 74 = .ok (.iinc 2 1, 3) := by decide +kernel
theorem dX2_read_77 : decode cX2_read 77 = .ok (.goto (-61), 3) := by decide +kernel
theorem dX2_read_80 : decode cX2_read 80 = .ok (.aload_n 1, 1) := by decide +kernel
theorem dX2_read_81 : decode cX2_read 81 = .ok (.invokevirtual 35, 3) := by decide +kernel
theorem dX2_read_84 : decode cX2_read 84 = .ok (.ireturn, 1) := by decide +kernel
theorem v_X2_read : yX2_read.cls = RX2 ∧ yX2_read.cls ≠ "java/lang/invoke/MethodHandle" ∧ yX2_read.cls ≠ "java/lang/invoke/VarHandle" ∧ (parseMethodDescriptor yX2_read.desc).map (fun d => d.parameters.length) = some 1 := ⟨rfl, by decide +kernel, by decide +kernel, by decide +kernel⟩
noncomputable def k_X2_read_0 (κ : gb_K) : gb_C := (o_al 0 (o_ci 0 (o_pf 2 3 (o_al 1 (o_cv 0 8 2 f_X8_ended (o_zeq (o_ci 0 (o_is 2 (o_j [0, 1, 2] (κ 16)))) (o_ci 0 o_ri)))))))
theorem l_X2_read_0 : gb_Li (fun κ => k_X2_read_0 κ) := (gb_li (q_al 0) (gb_li (q_ci 0) (gb_li (q_pf 2 3) (gb_li (q_al 1) (gb_li (q_cv 0 8 2 f_X8_ended) (q_zeq (gb_li (q_ci 0) (gb_li (q_is 2) (q_j [0, 1, 2] 16))) (gb_li (q_ci 0) (gb_li0 _))))))))
theorem s_X2_read_0   {κ : gb_K} (hκ : ∀ q, gb_S RX2 cX2_read 3 (gb_rm 4 92) 1 q (κ q)) : gb_S RX2 cX2_read 3 (gb_rm 4 92) 1 0 (k_X2_read_0 κ) := (s_aln 0 rfl dX2_read_0 (s_iconst (by decide +kernel) dX2_read_1 (s_pf (T := TX2) winX2 rfl (Nat.le_of_ble_eq_true rfl) tyX2_ok nmX2 rfl (by decide +kernel) gw_67 rfl dX2_read_2 (s_aln 1 rfl dX2_read_5 (s_cv (C := RX8) c_X8_ended rfl (gb_l5 gw_68 gw_44 gw_45 gw_46 gw_47) v_X8_ended ⟨rfl, rfl⟩ ⟨Nat.le_of_ble_eq_true rfl, Nat.le_of_ble_eq_true rfl⟩ dX2_read_6 (s_zeq (tgt := 14) (by decide +kernel) dX2_read_9 (s_iconst (by decide +kernel) dX2_read_14 (s_isn 2 rfl (Nat.le_of_ble_eq_true rfl) dX2_read_15 (s_j (hκ 16)))) (s_iconst (by decide +kernel) dX2_read_12 (s_ri rfl dX2_read_13))))))))
noncomputable def k_X2_read_69 (κ : gb_K) : gb_C := (o_al 1 (o_cv 0 8 1 f_X8_fault o_ri))
theorem l_X2_read_69 : gb_Li (fun κ => k_X2_read_69 κ) := (gb_li (q_al 1) (gb_li (q_cv 0 8 1 f_X8_fault) (gb_li0 _)))
theorem s_X2_read_69   {κ : gb_K} (hκ : ∀ q, gb_S RX2 cX2_read 3 (gb_rm 4 92) 1 q (κ q)) : gb_S RX2 cX2_read 3 (gb_rm 4 92) 1 69 (k_X2_read_69 κ) := (s_aln 1 rfl dX2_read_69 (s_cv (C := RX8) c_X8_fault rfl (gb_l5 gw_69 gw_70 gw_71 gw_46 gw_72) v_X8_fault ⟨rfl, rfl⟩ ⟨Nat.le_of_ble_eq_true rfl, Nat.le_of_ble_eq_true rfl⟩ dX2_read_70 (s_ri rfl dX2_read_73)))
noncomputable def k_X2_read_16 (κ : gb_K) : gb_C := (o_il 2 (o_ci 6 (o_cge (o_al 1 (o_cv 0 8 1 f_X8_fault o_ri)) (o_al 0 (o_al 1 (o_il 2 (o_cv 2 2 2 f_X2_readOne (o_zeq (o_al 1 (o_cv 0 8 1 f_X8_fault o_ri)) (o_al 1 (o_cv 0 8 2 f_X8_ended (o_zeq (o_il 2 (o_ci 5 (o_ceq (k_X2_read_69 κ) (o_al 1 (o_ci 44 (o_cv 1 8 2 f_X8_takes (o_zeq (k_X2_read_69 κ) (o_inc 2 1 (o_j [0, 1, 2] (κ 16)))))))))) (o_al 0 (o_il 2 (o_ci 1 (o_ib (fun x y => x + y) (o_pf 2 3 (o_al 0 (o_gf 2 3 o_ri))))))))))))))))))
theorem l_X2_read_16 : gb_Li (fun κ => k_X2_read_16 κ) := (gb_li (q_il 2) (gb_li (q_ci 6) (q_cge (gb_li (q_al 1) (gb_li (q_cv 0 8 1 f_X8_fault) (gb_li0 _))) (gb_li (q_al 0) (gb_li (q_al 1) (gb_li (q_il 2) (gb_li (q_cv 2 2 2 f_X2_readOne) (q_zeq (gb_li (q_al 1) (gb_li (q_cv 0 8 1 f_X8_fault) (gb_li0 _))) (gb_li (q_al 1) (gb_li (q_cv 0 8 2 f_X8_ended) (q_zeq (gb_li (q_il 2) (gb_li (q_ci 5) (q_ceq (l_X2_read_69) (gb_li (q_al 1) (gb_li (q_ci 44) (gb_li (q_cv 1 8 2 f_X8_takes) (q_zeq (l_X2_read_69) (gb_li (q_inc 2 1) (q_j [0, 1, 2] 16))))))))) (gb_li (q_al 0) (gb_li (q_il 2) (gb_li (q_ci 1) (gb_li (q_ib _) (gb_li (q_pf 2 3) (gb_li (q_al 0) (gb_li (q_gf 2 3) (gb_li0 _)))))))))))))))))))
theorem s_X2_read_16   {κ : gb_K} (hκ : ∀ q, gb_S RX2 cX2_read 3 (gb_rm 4 92) 1 q (κ q)) : gb_S RX2 cX2_read 3 (gb_rm 4 92) 1 16 (k_X2_read_16 κ) := (s_iln 2 rfl dX2_read_16 (s_bipush (by decide +kernel) dX2_read_17 (s_cge (tgt := 80) (by decide +kernel) dX2_read_19 (s_aln 1 rfl dX2_read_80 (s_cv (C := RX8) c_X8_fault rfl (gb_l5 gw_69 gw_70 gw_71 gw_46 gw_72) v_X8_fault ⟨rfl, rfl⟩ ⟨Nat.le_of_ble_eq_true rfl, Nat.le_of_ble_eq_true rfl⟩ dX2_read_81 (s_ri rfl dX2_read_84))) (s_aln 0 rfl dX2_read_22 (s_aln 1 rfl dX2_read_23 (s_iln 2 rfl dX2_read_24 (s_cv (C := RX2) c_X2_readOne rfl (gb_l5 gw_73 gw_74 gw_75 gw_76 gw_77) v_X2_readOne ⟨rfl, rfl⟩ ⟨Nat.le_of_ble_eq_true rfl, Nat.le_of_ble_eq_true rfl⟩ dX2_read_25 (s_zne (tgt := 36) (by decide +kernel) dX2_read_28 (s_aln 1 rfl dX2_read_36 (s_cv (C := RX8) c_X8_ended rfl (gb_l5 gw_68 gw_44 gw_45 gw_46 gw_47) v_X8_ended ⟨rfl, rfl⟩ ⟨Nat.le_of_ble_eq_true rfl, Nat.le_of_ble_eq_true rfl⟩ dX2_read_37 (s_zeq (tgt := 55) (by decide +kernel) dX2_read_40 (s_iln 2 rfl dX2_read_55 (s_iconst (by decide +kernel) dX2_read_56 (s_ceq (tgt := 69) (by decide +kernel) dX2_read_57 (s_X2_read_69 hκ) (s_aln 1 rfl dX2_read_60 (s_bipush (by decide +kernel) dX2_read_61 (s_cv (C := RX8) c_X8_takes rfl (gb_l5 gw_57 gw_58 gw_59 gw_46 gw_60) v_X8_takes ⟨rfl, rfl⟩ ⟨Nat.le_of_ble_eq_true rfl, Nat.le_of_ble_eq_true rfl⟩ dX2_read_63 (s_zne (tgt := 74) (by decide +kernel) dX2_read_66 (s_inc (by decide +kernel) (Nat.le_of_ble_eq_true rfl) dX2_read_74 (s_goto (tgt := 16) (by decide +kernel) dX2_read_77 (s_j (hκ 16)))) (s_X2_read_69 hκ)))))))) (s_aln 0 rfl dX2_read_43 (s_iln 2 rfl dX2_read_44 (s_iconst (by decide +kernel) dX2_read_45 (s_iadd dX2_read_46 (s_pf (T := TX2) winX2 rfl (Nat.le_of_ble_eq_true rfl) tyX2_ok nmX2 rfl (by decide +kernel) gw_67 rfl dX2_read_47 (s_aln 0 rfl dX2_read_50 (s_gf (T := TX2) winX2 rfl (Nat.le_of_ble_eq_true rfl) gw_67 rfl dX2_read_51 (s_ri rfl dX2_read_54))))))))))) (s_aln 1 rfl dX2_read_31 (s_cv (C := RX8) c_X8_fault rfl (gb_l5 gw_69 gw_70 gw_71 gw_46 gw_72) v_X8_fault ⟨rfl, rfl⟩ ⟨Nat.le_of_ble_eq_true rfl, Nat.le_of_ble_eq_true rfl⟩ dX2_read_32 (s_ri rfl dX2_read_35)))))))))))
noncomputable def B_X2_read : List (Nat × (gb_K → gb_C)) := [(16, fun κ => k_X2_read_16 κ)]
noncomputable def K_X2_read : gb_K := gb_fx (gb_tb (B_X2_read))
theorem L_X2_read : ∀ q, gb_Li (fun κ => gb_tb (B_X2_read) κ q) := gb_tb_li (List.forall_mem_cons.mpr ⟨l_X2_read_16, (fun _ h => absurd h List.not_mem_nil)⟩)
theorem S_X2_read   : ∀ q, gb_S RX2 cX2_read 3 (gb_rm 4 92) 1 q (K_X2_read q) := fun q => gb_fx_S (L_X2_read) (gb_tb_S (List.forall_mem_cons.mpr ⟨fun κ hκ => s_X2_read_16 hκ, (fun _ h => absurd h List.not_mem_nil)⟩)) q
noncomputable def f_X2_read : gb_F := gb_hide (gb_mf 3 (k_X2_read_0 (K_X2_read)))
theorem c_X2_read : ∀ l, gb_Met l yX2_read cX2_read 3 (some .int) 1 (gb_rm 4 92) f_X2_read := gb_hide_c (gb_met (own := RX2) (rk := 1) rfl (by decide +kernel) ⟨rfl, rfl⟩ (s_X2_read_0 (S_X2_read)))
theorem dX3_clear_0 : decode cX3_clear 0 = .ok (.aload_n 0, 1) := by decide +kernel
theorem dX3_clear_1 : decode cX3_clear 1 = .ok (.iconst 0, 1) := by decide +kernel
theorem dX3_clear_2 : decode cX3_clear 2 = .ok (.putfield 18, 3) := by decide +kernel
theorem dX3_clear_5 : decode cX3_clear 5 = .ok (.return_, 1) := by decide +kernel
theorem v_X3_clear : yX3_clear.cls = RX3 ∧ yX3_clear.cls ≠ "java/lang/invoke/MethodHandle" ∧ yX3_clear.cls ≠ "java/lang/invoke/VarHandle" ∧ (parseMethodDescriptor yX3_clear.desc).map (fun d => d.parameters.length) = some 0 := ⟨rfl, by decide +kernel, by decide +kernel, by decide +kernel⟩
noncomputable def k_X3_clear_0 (κ : gb_K) : gb_C := (o_al 0 (o_ci 0 (o_pf 3 2 o_rv)))
theorem l_X3_clear_0 : gb_Li (fun κ => k_X3_clear_0 κ) := (gb_li (q_al 0) (gb_li (q_ci 0) (gb_li (q_pf 3 2) (gb_li0 _))))
theorem s_X3_clear_0   {κ : gb_K} (hκ : ∀ q, gb_S RX3 cX3_clear 1 (gb_rm 0 0) 0 q (κ q)) : gb_S RX3 cX3_clear 1 (gb_rm 0 0) 0 0 (k_X3_clear_0 κ) := (s_aln 0 rfl dX3_clear_0 (s_iconst (by decide +kernel) dX3_clear_1 (s_pf (T := TX3) winX3 rfl (Nat.le_of_ble_eq_true rfl) tyX3_ok nmX3 rfl (by decide +kernel) gw_78 rfl dX3_clear_2 (s_rv rfl dX3_clear_5))))
noncomputable def f_X3_clear : gb_F := gb_hide (gb_mf 1 (k_X3_clear_0 gb_n))
theorem c_X3_clear : ∀ l, gb_Met l yX3_clear cX3_clear 1 none 0 (gb_rm 0 0) f_X3_clear := gb_hide_c (gb_met (own := RX3) (rk := 0) rfl (by decide +kernel) ⟨rfl, rfl⟩ (s_X3_clear_0 gb_S_n))
theorem dX7_copyBin_0 : decode cX7_copyBin 0 = .ok (.aload_n 0, 1) := by decide +kernel
theorem dX7_copyBin_1 : decode cX7_copyBin 1 = .ok (.getfield 18, 3) := by decide +kernel
theorem dX7_copyBin_4 : decode cX7_copyBin 4 = .ok (.iload_n 2, 1) := by decide +kernel
theorem dX7_copyBin_5 : decode cX7_copyBin 5 = .ok (.aload_n 1, 1) := by decide +kernel
theorem dX7_copyBin_6 : decode cX7_copyBin 6 = .ok (.getfield 18, 3) := by decide +kernel
theorem dX7_copyBin_9 : decode cX7_copyBin 9 = .ok (.iload_n 2, 1) := by decide +kernel
theorem dX7_copyBin_10 : decode cX7_copyBin 10 = .ok (.iaload, 1) := by decide +kernel
theorem dX7_copyBin_11 : decode cX7_copyBin 11 = .ok (.iastore, 1) := by decide +kernel
theorem dX7_copyBin_12 : decode cX7_copyBin 12 = .ok (.aload_n 0, 1) := by decide +kernel
theorem dX7_copyBin_13 : decode cX7_copyBin 13 = .ok (.getfield 21, 3) := by decide +kernel
theorem dX7_copyBin_16 : decode cX7_copyBin 16 = .ok (.iload_n 2, 1) := by decide +kernel
theorem dX7_copyBin_17 : decode cX7_copyBin 17 = .ok (.aload_n 1, 1) := by decide +kernel
theorem dX7_copyBin_18 : decode cX7_copyBin 18 = .ok (.getfield 21, 3) := by decide +kernel
theorem dX7_copyBin_21 : decode cX7_copyBin 21 = .ok (.iload_n 2, 1) := by decide +kernel
theorem dX7_copyBin_22 : decode cX7_copyBin 22 = .ok (.iaload, 1) := by decide +kernel
theorem dX7_copyBin_23 : decode cX7_copyBin 23 = .ok (.iastore, 1) := by decide +kernel
theorem dX7_copyBin_24 : decode cX7_copyBin 24 = .ok (.iconst 0, 1) := by decide +kernel
theorem dX7_copyBin_25 : decode cX7_copyBin 25 = .ok (.istore_n 3, 1) := by decide +kernel
theorem dX7_copyBin_26 : decode cX7_copyBin 26 = .ok (.iload_n 3, 1) := by decide +kernel
theorem dX7_copyBin_27 : decode cX7_copyBin 27 = .ok (.bipush 6, 2) := by decide +kernel
theorem dX7_copyBin_29 : decode cX7_copyBin 29 = .ok (.if_icmp .ge 31, 3) := by decide +kernel
theorem dX7_copyBin_32 : decode cX7_copyBin 32 = .ok (.aload_n 0, 1) := by decide +kernel
theorem dX7_copyBin_33 : decode cX7_copyBin 33 = .ok (.getfield 33, 3) := by decide +kernel
theorem dX7_copyBin_36 : decode cX7_copyBin 36 = .ok (.iload_n 2, 1) := by decide +kernel
theorem dX7_copyBin_37 : decode cX7_copyBin 37 = .ok (.bipush 6, 2) := by decide +kernel
theorem dX7_copyBin_39 : decode cX7_copyBin 39 = .ok (.imul, 1) := by decide +kernel
theorem dX7_copyBin_40 : decode cX7_copyBin 40 = .ok (.iload_n 3, 1) := by decide +kernel
theorem dX7_copyBin_41 : decode cX7_copyBin 41 = .ok (.iadd, 1) := by decide +kernel
theorem dX7_copyBin_42 : decode cX7_copyBin 42 = .ok (.aload_n 1, 1) := by decide +kernel
theorem dX7_copyBin_43 : decode cX7_copyBin 43 = .ok (.getfield 33, 3) := by decide +kernel
theorem dX7_copyBin_46 : decode cX7_copyBin 46 = .ok (.iload_n 2, 1) := by decide +kernel
theorem dX7_copyBin_47 : decode cX7_copyBin 47 = .ok (.bipush 6, 2) := by decide +kernel
theorem dX7_copyBin_49 : decode cX7_copyBin 49 = .ok (.imul, 1) := by decide +kernel
theorem dX7_copyBin_50 : decode cX7_copyBin 50 = .ok (.iload_n 3, 1) := by decide +kernel
theorem dX7_copyBin_51 : decode cX7_copyBin 51 = .ok (.iadd, 1) := by decide +kernel
theorem dX7_copyBin_52 : decode cX7_copyBin 52 = .ok (.iaload, 1) := by decide +kernel
theorem dX7_copyBin_53 : decode cX7_copyBin 53 = .ok (.iastore, 1) := by decide +kernel
theorem dX7_copyBin_54 : decode cX7_copyBin 54 = .ok (.iinc 3 1, 3) := by decide +kernel
theorem dX7_copyBin_57 : decode cX7_copyBin 57 = .ok (.goto (-31), 3) := by decide +kernel
theorem dX7_copyBin_60 : decode cX7_copyBin 60 = .ok (.iconst 0, 1) := by decide +kernel
theorem dX7_copyBin_61 : decode cX7_copyBin 61 = .ok (.istore_n 3, 1) := by decide +kernel
theorem dX7_copyBin_62 : decode cX7_copyBin 62 = .ok (.iload_n 3, 1) := by decide +kernel
theorem dX7_copyBin_63 : decode cX7_copyBin 63 = .ok (.aload_n 1, 1) := by decide +kernel
theorem dX7_copyBin_64 : decode cX7_copyBin 64 = .ok (.getfield 18, 3) := by decide +kernel
theorem dX7_copyBin_67 : decode cX7_copyBin 67 = .ok (.iload_n 2, 1) := by decide +kernel
theorem dX7_copyBin_68 : decode cX7_copyBin 68 = .ok (.iaload, 1) := by decide +kernel
theorem dX7_copyBin_69 : decode cX7_copyBin 69 = .ok (.if_icmp .ge 58, 3) := by decide +kernel
theorem dX7_copyBin_72 : decode cX7_copyBin 72 = .ok (.iload_n 2, 1) := by decide +kernel
theorem dX7_copyBin_73 : decode cX7_copyBin 73 = .ok (.iload_n 3, 1) := by decide +kernel
theorem dX7_copyBin_74 : decode cX7_copyBin 74 = .ok (.invokestatic 51, 3) := by decide +kernel
theorem dX7_copyBin_77 : decode cX7_copyBin 77 = .ok (.istore 4, 2) := by decide +kernel
theorem dX7_copyBin_79 : decode cX7_copyBin 79 = .ok (.aload_n 0, 1) := by decide +kernel
theorem dX7_copyBin_80 : decode cX7_copyBin 80 = .ok (.getfield 24, 3) := by decide +kernel
theorem dX7_copyBin_83 : decode cX7_copyBin 83 = .ok (.iload 4, 2) := by decide +kernel
theorem dX7_copyBin_85 : decode cX7_copyBin 85 = .ok (.aload_n 1, 1) := by decide +kernel
theorem dX7_copyBin_86 : decode cX7_copyBin 86 = .ok (.getfield 24, 3) := by decide +kernel
theorem dX7_copyBin_89 : decode cX7_copyBin 89 = .ok (.iload 4, 2) := by decide +kernel
theorem dX7_copyBin_91 : decode cX7_copyBin 91 = .ok (.iaload, 1) := by decide +kernel
theorem dX7_copyBin_92 : decode cX7_copyBin 92 = .ok (.iastore, 1) := by decide +kernel
theorem dX7_copyBin_93 : decode cX7_copyBin 93 = .ok (.aload_n 0, 1) := by decide +kernel
theorem dX7_copyBin_94 : decode cX7_copyBin 94 = .ok (.getfield 27, 3) := by decide +kernel
theorem dX7_copyBin_97 : decode cX7_copyBin 97 = .ok (.iload 4, 2) := by decide +kernel
theorem dX7_copyBin_99 : decode cX7_copyBin 99 = .ok (.aload_n 1, 1) := by decide +kernel
theorem dX7_copyBin_100 : decode cX7_copyBin 100 = .ok (.getfield 27, 3) := by decide +kernel
theorem dX7_copyBin_103 : decode cX7_copyBin 103 = .ok (.iload 4, 2) := by decide +kernel
theorem dX7_copyBin_105 : decode cX7_copyBin 105 = .ok (.iaload, 1) := by decide +kernel
theorem dX7_copyBin_106 : decode cX7_copyBin 106 = .ok (.iastore, 1) := by decide +kernel
theorem dX7_copyBin_107 : decode cX7_copyBin 107 = .ok (.aload_n 0, 1) := by decide +kernel
theorem dX7_copyBin_108 : decode cX7_copyBin 108 = .ok (.getfield 30, 3) := by decide +kernel
theorem dX7_copyBin_111 : decode cX7_copyBin 111 = .ok (.iload 4, 2) := by decide +kernel
theorem dX7_copyBin_113 : decode cX7_copyBin 113 = .ok (.aload_n 1, 1) := by decide +kernel
theorem dX7_copyBin_114 : decode cX7_copyBin 114 = .ok (.getfield 30, 3) := by decide +kernel
theorem dX7_copyBin_117 : decode cX7_copyBin 117 = .ok (.iload 4, 2) := by decide +kernel
theorem dX7_copyBin_119 : decode cX7_copyBin 119 = .ok (.iaload, 1) := by decide +kernel
theorem dX7_copyBin_120 : decode cX7_copyBin 120 = .ok (.iastore, 1) := by decide +kernel
theorem dX7_copyBin_121 : decode cX7_copyBin 121 = .ok (.iinc 3 1, 3) := by decide +kernel
theorem dX7_copyBin_124 : decode cX7_copyBin 124 = .ok (.goto (-62), 3) := by decide +kernel
theorem dX7_copyBin_127 : decode cX7_copyBin 127 = .ok (.return_, 1) := by decide +kernel
theorem v_X7_copyBin : yX7_copyBin.cls = RX7 ∧ yX7_copyBin.cls ≠ "java/lang/invoke/MethodHandle" ∧ yX7_copyBin.cls ≠ "java/lang/invoke/VarHandle" ∧ (parseMethodDescriptor yX7_copyBin.desc).map (fun d => d.parameters.length) = some 2 := ⟨rfl, by decide +kernel, by decide +kernel, by decide +kernel⟩
noncomputable def k_X7_copyBin_0 (κ : gb_K) : gb_C := (o_al 0 (o_gf 7 3 (o_il 2 (o_al 1 (o_gf 7 3 (o_il 2 (o_iald (o_iast (o_al 0 (o_gf 7 4 (o_il 2 (o_al 1 (o_gf 7 4 (o_il 2 (o_iald (o_iast (o_ci 0 (o_is 3 (o_j [0, 1, 2, 3] (κ 26))))))))))))))))))))
theorem l_X7_copyBin_0 : gb_Li (fun κ => k_X7_copyBin_0 κ) := (gb_li (q_al 0) (gb_li (q_gf 7 3) (gb_li (q_il 2) (gb_li (q_al 1) (gb_li (q_gf 7 3) (gb_li (q_il 2) (gb_li q_iald (gb_li q_iast (gb_li (q_al 0) (gb_li (q_gf 7 4) (gb_li (q_il 2) (gb_li (q_al 1) (gb_li (q_gf 7 4) (gb_li (q_il 2) (gb_li q_iald (gb_li q_iast (gb_li (q_ci 0) (gb_li (q_is 3) (q_j [0, 1, 2, 3] 26)))))))))))))))))))
theorem s_X7_copyBin_0   {κ : gb_K} (hκ : ∀ q, gb_S RX7 cX7_copyBin 5 (gb_rm 1 21) 0 q (κ q)) : gb_S RX7 cX7_copyBin 5 (gb_rm 1 21) 0 0 (k_X7_copyBin_0 κ) := (s_aln 0 rfl dX7_copyBin_0 (s_gf (T := TX7) winX7 rfl (Nat.le_of_ble_eq_true rfl) gw_79 rfl dX7_copyBin_1 (s_iln 2 rfl dX7_copyBin_4 (s_aln 1 rfl dX7_copyBin_5 (s_gf (T := TX7) winX7 rfl (Nat.le_of_ble_eq_true rfl) gw_79 rfl dX7_copyBin_6 (s_iln 2 rfl dX7_copyBin_9 (s_iald dX7_copyBin_10 (s_iast dX7_copyBin_11 (s_aln 0 rfl dX7_copyBin_12 (s_gf (T := TX7) winX7 rfl (Nat.le_of_ble_eq_true rfl) gw_80 rfl dX7_copyBin_13 (s_iln 2 rfl dX7_copyBin_16 (s_aln 1 rfl dX7_copyBin_17 (s_gf (T := TX7) winX7 rfl (Nat.le_of_ble_eq_true rfl) gw_80 rfl dX7_copyBin_18 (s_iln 2 rfl dX7_copyBin_21 (s_iald dX7_copyBin_22 (s_iast dX7_copyBin_23 (s_iconst (by decide +kernel) dX7_copyBin_24 (s_isn 3 rfl (Nat.le_of_ble_eq_true rfl) dX7_copyBin_25 (s_j (hκ 26))))))))))))))))))))
noncomputable def k_X7_copyBin_26 (κ : gb_K) : gb_C := (o_il 3 (o_ci 6 (o_cge (o_ci 0 (o_is 3 (o_j [0, 1, 2, 3] (κ 62)))) (o_al 0 (o_gf 7 8 (o_il 2 (o_ci 6 (o_ib (fun x y => x * y) (o_il 3 (o_ib (fun x y => x + y) (o_al 1 (o_gf 7 8 (o_il 2 (o_ci 6 (o_ib (fun x y => x * y) (o_il 3 (o_ib (fun x y => x + y) (o_iald (o_iast (o_inc 3 1 (o_j [0, 1, 2, 3] (κ 26))))))))))))))))))))))
theorem l_X7_copyBin_26 : gb_Li (fun κ => k_X7_copyBin_26 κ) := (gb_li (q_il 3) (gb_li (q_ci 6) (q_cge (gb_li (q_ci 0) (gb_li (q_is 3) (q_j [0, 1, 2, 3] 62))) (gb_li (q_al 0) (gb_li (q_gf 7 8) (gb_li (q_il 2) (gb_li (q_ci 6) (gb_li (q_ib _) (gb_li (q_il 3) (gb_li (q_ib _) (gb_li (q_al 1) (gb_li (q_gf 7 8) (gb_li (q_il 2) (gb_li (q_ci 6) (gb_li (q_ib _) (gb_li (q_il 3) (gb_li (q_ib _) (gb_li q_iald (gb_li q_iast (gb_li (q_inc 3 1) (q_j [0, 1, 2, 3] 26)))))))))))))))))))))
theorem s_X7_copyBin_26   {κ : gb_K} (hκ : ∀ q, gb_S RX7 cX7_copyBin 5 (gb_rm 1 21) 0 q (κ q)) : gb_S RX7 cX7_copyBin 5 (gb_rm 1 21) 0 26 (k_X7_copyBin_26 κ) := (s_iln 3 rfl dX7_copyBin_26 (s_bipush (by decide +kernel) dX7_copyBin_27 (s_cge (tgt := 60) (by decide +kernel) dX7_copyBin_29 (s_iconst (by decide +kernel) dX7_copyBin_60 (s_isn 3 rfl (Nat.le_of_ble_eq_true rfl) dX7_copyBin_61 (s_j (hκ 62)))) (s_aln 0 rfl dX7_copyBin_32 (s_gf (T := TX7) winX7 rfl (Nat.le_of_ble_eq_true rfl) gw_81 rfl dX7_copyBin_33 (s_iln 2 rfl dX7_copyBin_36 (s_bipush (by decide +kernel) dX7_copyBin_37 (s_imul dX7_copyBin_39 (s_iln 3 rfl dX7_copyBin_40 (s_iadd dX7_copyBin_41 (s_aln 1 rfl dX7_copyBin_42 (s_gf (T := TX7) winX7 rfl (Nat.le_of_ble_eq_true rfl) gw_81 rfl dX7_copyBin_43 (s_iln 2 rfl dX7_copyBin_46 (s_bipush (by decide +kernel) dX7_copyBin_47 (s_imul dX7_copyBin_49 (s_iln 3 rfl dX7_copyBin_50 (s_iadd dX7_copyBin_51 (s_iald dX7_copyBin_52 (s_iast dX7_copyBin_53 (s_inc (by decide +kernel) (Nat.le_of_ble_eq_true rfl) dX7_copyBin_54 (s_goto (tgt := 26) (by decide +kernel) dX7_copyBin_57 (s_j (hκ 26)))))))))))))))))))))))
noncomputable def k_X7_copyBin_114 (κ : gb_K) : gb_C := (o_gf 7 7 (o_il 4 (o_iald (o_iast (o_inc 3 1 (o_j [0, 1, 2, 3] (κ 62)))))))
theorem l_X7_copyBin_114 : gb_Li (fun κ => k_X7_copyBin_114 κ) := (gb_li (q_gf 7 7) (gb_li (q_il 4) (gb_li q_iald (gb_li q_iast (gb_li (q_inc 3 1) (q_j [0, 1, 2, 3] 62))))))
theorem s_X7_copyBin_114   {κ : gb_K} (hκ : ∀ q, gb_S RX7 cX7_copyBin 5 (gb_rm 1 21) 0 q (κ q)) : gb_S RX7 cX7_copyBin 5 (gb_rm 1 21) 0 114 (k_X7_copyBin_114 κ) := (s_gf (T := TX7) winX7 rfl (Nat.le_of_ble_eq_true rfl) gw_82 rfl dX7_copyBin_114 (s_il dX7_copyBin_117 (s_iald dX7_copyBin_119 (s_iast dX7_copyBin_120 (s_inc (by decide +kernel) (Nat.le_of_ble_eq_true rfl) dX7_copyBin_121 (s_goto (tgt := 62) (by decide +kernel) dX7_copyBin_124 (s_j (hκ 62))))))))
noncomputable def k_X7_copyBin_62 (κ : gb_K) : gb_C := (o_il 3 (o_al 1 (o_gf 7 3 (o_il 2 (o_iald (o_cge o_rv (o_il 2 (o_il 3 (o_cs 2 1 f_X7_place (o_is 4 (o_al 0 (o_gf 7 5 (o_il 4 (o_al 1 (o_gf 7 5 (o_il 4 (o_iald (o_iast (o_al 0 (o_gf 7 6 (o_il 4 (o_al 1 (o_gf 7 6 (o_il 4 (o_iald (o_iast (o_al 0 (o_gf 7 7 (o_il 4 (o_al 1 (k_X7_copyBin_114 κ)))))))))))))))))))))))))))))))
theorem l_X7_copyBin_62 : gb_Li (fun κ => k_X7_copyBin_62 κ) := (gb_li (q_il 3) (gb_li (q_al 1) (gb_li (q_gf 7 3) (gb_li (q_il 2) (gb_li q_iald (q_cge (gb_li0 _) (gb_li (q_il 2) (gb_li (q_il 3) (gb_li (q_cs 2 1 f_X7_place) (gb_li (q_is 4) (gb_li (q_al 0) (gb_li (q_gf 7 5) (gb_li (q_il 4) (gb_li (q_al 1) (gb_li (q_gf 7 5) (gb_li (q_il 4) (gb_li q_iald (gb_li q_iast (gb_li (q_al 0) (gb_li (q_gf 7 6) (gb_li (q_il 4) (gb_li (q_al 1) (gb_li (q_gf 7 6) (gb_li (q_il 4) (gb_li q_iald (gb_li q_iast (gb_li (q_al 0) (gb_li (q_gf 7 7) (gb_li (q_il 4) (gb_li (q_al 1) (l_X7_copyBin_114)))))))))))))))))))))))))))))))
theorem s_X7_copyBin_62   {κ : gb_K} (hκ : ∀ q, gb_S RX7 cX7_copyBin 5 (gb_rm 1 21) 0 q (κ q)) : gb_S RX7 cX7_copyBin 5 (gb_rm 1 21) 0 62 (k_X7_copyBin_62 κ) := (s_iln 3 rfl dX7_copyBin_62 (s_aln 1 rfl dX7_copyBin_63 (s_gf (T := TX7) winX7 rfl (Nat.le_of_ble_eq_true rfl) gw_79 rfl dX7_copyBin_64 (s_iln 2 rfl dX7_copyBin_67 (s_iald dX7_copyBin_68 (s_cge (tgt := 127) (by decide +kernel) dX7_copyBin_69 (s_rv rfl dX7_copyBin_127) (s_iln 2 rfl dX7_copyBin_72 (s_iln 3 rfl dX7_copyBin_73 (s_cs c_X7_place (gb_l4 gw_83 gw_23 gw_11 gw_24) v_X7_place.2 ⟨rfl, rfl⟩ ⟨Nat.le_of_ble_eq_true rfl, Nat.le_of_ble_eq_true rfl⟩ dX7_copyBin_74 (s_is (Nat.le_of_ble_eq_true rfl) dX7_copyBin_77 (s_aln 0 rfl dX7_copyBin_79 (s_gf (T := TX7) winX7 rfl (Nat.le_of_ble_eq_true rfl) gw_84 rfl dX7_copyBin_80 (s_il dX7_copyBin_83 (s_aln 1 rfl dX7_copyBin_85 (s_gf (T := TX7) winX7 rfl (Nat.le_of_ble_eq_true rfl) gw_84 rfl dX7_copyBin_86 (s_il dX7_copyBin_89 (s_iald dX7_copyBin_91 (s_iast dX7_copyBin_92 (s_aln 0 rfl dX7_copyBin_93 (s_gf (T := TX7) winX7 rfl (Nat.le_of_ble_eq_true rfl) gw_85 rfl dX7_copyBin_94 (s_il dX7_copyBin_97 (s_aln 1 rfl dX7_copyBin_99 (s_gf (T := TX7) winX7 rfl (Nat.le_of_ble_eq_true rfl) gw_85 rfl dX7_copyBin_100 (s_il dX7_copyBin_103 (s_iald dX7_copyBin_105 (s_iast dX7_copyBin_106 (s_aln 0 rfl dX7_copyBin_107 (s_gf (T := TX7) winX7 rfl (Nat.le_of_ble_eq_true rfl) gw_82 rfl dX7_copyBin_108 (s_il dX7_copyBin_111 (s_aln 1 rfl dX7_copyBin_113 (s_X7_copyBin_114 hκ)))))))))))))))))))))))))))))))
noncomputable def B_X7_copyBin : List (Nat × (gb_K → gb_C)) := [(26, fun κ => k_X7_copyBin_26 κ), (62, fun κ => k_X7_copyBin_62 κ)]
noncomputable def K_X7_copyBin : gb_K := gb_fx (gb_tb (B_X7_copyBin))
theorem L_X7_copyBin : ∀ q, gb_Li (fun κ => gb_tb (B_X7_copyBin) κ q) := gb_tb_li (List.forall_mem_cons.mpr ⟨l_X7_copyBin_26, List.forall_mem_cons.mpr ⟨l_X7_copyBin_62, (fun _ h => absurd h List.not_mem_nil)⟩⟩)
theorem S_X7_copyBin   : ∀ q, gb_S RX7 cX7_copyBin 5 (gb_rm 1 21) 0 q (K_X7_copyBin q) := fun q => gb_fx_S (L_X7_copyBin) (gb_tb_S (List.forall_mem_cons.mpr ⟨fun κ hκ => s_X7_copyBin_26 hκ, List.forall_mem_cons.mpr ⟨fun κ hκ => s_X7_copyBin_62 hκ, (fun _ h => absurd h List.not_mem_nil)⟩⟩)) q
noncomputable def f_X7_copyBin : gb_F := gb_hide (gb_mf 5 (k_X7_copyBin_0 (K_X7_copyBin)))
theorem c_X7_copyBin : ∀ l, gb_Met l yX7_copyBin cX7_copyBin 5 none 0 (gb_rm 1 21) f_X7_copyBin := gb_hide_c (gb_met (own := RX7) (rk := 0) rfl (by decide +kernel) ⟨rfl, rfl⟩ (s_X7_copyBin_0 (S_X7_copyBin)))
theorem dX7_copy_0 : decode cX7_copy 0 = .ok (.iconst 0, 1) := by decide +kernel
theorem dX7_copy_1 : decode cX7_copy 1 = .ok (.istore_n 2, 1) := by decide +kernel
theorem dX7_copy_2 : decode cX7_copy 2 = .ok (.iload_n 2, 1) := by decide +kernel
theorem dX7_copy_3 : decode cX7_copy 3 = .ok (.bipush 6, 2) := by decide +kernel
theorem dX7_copy_5 : decode cX7_copy 5 = .ok (.if_icmp .ge 21, 3) := by decide +kernel
theorem dX7_copy_8 : decode cX7_copy 8 = .ok (.aload_n 0, 1) := by decide +kernel
theorem dX7_copy_9 : decode cX7_copy 9 = .ok (.getfield 9, 3) := by decide +kernel
theorem dX7_copy_12 : decode cX7_copy 12 = .ok (.iload_n 2, 1) := by decide +kernel
theorem dX7_copy_13 : decode cX7_copy 13 = .ok (.aload_n 1, 1) := by decide +kernel
theorem dX7_copy_14 : decode cX7_copy 14 = .ok (.getfield 9, 3) := by decide +kernel
theorem dX7_copy_17 : decode cX7_copy 17 = .ok (.iload_n 2, 1) := by decide +kernel
theorem dX7_copy_18 : decode cX7_copy 18 = .ok (.iaload, 1) := by decide +kernel
theorem dX7_copy_19 : decode cX7_copy 19 = .ok (.iastore, 1) := by decide +kernel
theorem dX7_copy_20 : decode cX7_copy 20 = .ok (.iinc 2 1, 3) := by decide +kernel
theorem dX7_copy_23 : decode cX7_copy 23 = .ok (.goto (-21), 3) := by decide +kernel
theorem dX7_copy_26 : decode cX7_copy 26 = .ok (.iconst 0, 1) := by decide +kernel
theorem dX7_copy_27 : decode cX7_copy 27 = .ok (.istore_n 2, 1) := by decide +kernel
theorem dX7_copy_28 : decode cX7_copy 28 = .ok (.iload_n 2, 1) := by decide +kernel
theorem dX7_copy_29 : decode cX7_copy 29 = .ok (.bipush 6, 2) := by decide +kernel
theorem dX7_copy_31 : decode cX7_copy 31 = .ok (.if_icmp .ge 27, 3) := by decide +kernel
theorem dX7_copy_34 : decode cX7_copy 34 = .ok (.aload_n 0, 1) := by decide +kernel
theorem dX7_copy_35 : decode cX7_copy 35 = .ok (.getfield 15, 3) := by decide +kernel
theorem dX7_copy_38 : decode cX7_copy 38 = .ok (.iload_n 2, 1) := by decide +kernel
theorem dX7_copy_39 : decode cX7_copy 39 = .ok (.aload_n 1, 1) := by decide +kernel
theorem dX7_copy_40 : decode cX7_copy 40 = .ok (.getfield 15, 3) := by decide +kernel
theorem dX7_copy_43 : decode cX7_copy 43 = .ok (.iload_n 2, 1) := by decide +kernel
theorem dX7_copy_44 : decode cX7_copy 44 = .ok (.iaload, 1) := by decide +kernel
theorem dX7_copy_45 : decode cX7_copy 45 = .ok (.iastore, 1) := by decide +kernel
theorem dX7_copy_46 : decode cX7_copy 46 = .ok (.aload_n 0, 1) := by decide +kernel
theorem dX7_copy_47 : decode cX7_copy 47 = .ok (.aload_n 1, 1) := by decide +kernel
theorem dX7_copy_48 : decode cX7_copy 48 = .ok (.iload_n 2, 1) := by decide +kernel
theorem dX7_copy_49 : decode cX7_copy 49 = .ok (.invokevirtual 40, 3) := by decide +kernel
theorem dX7_copy_52 : decode cX7_copy 52 = .ok (.iinc 2 1, 3) := by decide +kernel
theorem dX7_copy_55 : decode cX7_copy 55 = .ok (.goto (-27), 3) := by decide +kernel
theorem dX7_copy_58 : decode cX7_copy 58 = .ok (.aload_n 0, 1) := by decide +kernel
theorem dX7_copy_59 : decode cX7_copy 59 = .ok (.aload_n 1, 1) := by decide +kernel
theorem dX7_copy_60 : decode cX7_copy 60 = .ok (.getfield 44, 3) := by decide +kernel
theorem dX7_copy_63 : decode cX7_copy 63 = .ok (.putfield 44, 3) := by decide +kernel
theorem dX7_copy_66 : decode cX7_copy 66 = .ok (.aload_n 0, 1) := by decide +kernel
theorem dX7_copy_67 : decode cX7_copy 67 = .ok (.aload_n 1, 1) := by decide +kernel
theorem dX7_copy_68 : decode cX7_copy 68 = .ok (.getfield 48, 3) := by decide +kernel
theorem dX7_copy_71 : decode cX7_copy 71 = .ok (.putfield 48, 3) := by decide +kernel
theorem dX7_copy_74 : decode cX7_copy 74 = .ok (.return_, 1) := by decide +kernel
theorem v_X7_copy : yX7_copy.cls = RX7 ∧ yX7_copy.cls ≠ "java/lang/invoke/MethodHandle" ∧ yX7_copy.cls ≠ "java/lang/invoke/VarHandle" ∧ (parseMethodDescriptor yX7_copy.desc).map (fun d => d.parameters.length) = some 1 := ⟨rfl, by decide +kernel, by decide +kernel, by decide +kernel⟩
noncomputable def k_X7_copy_0 (κ : gb_K) : gb_C := (o_ci 0 (o_is 2 (o_j [0, 1, 2] (κ 2))))
theorem l_X7_copy_0 : gb_Li (fun κ => k_X7_copy_0 κ) := (gb_li (q_ci 0) (gb_li (q_is 2) (q_j [0, 1, 2] 2)))
theorem s_X7_copy_0   {κ : gb_K} (hκ : ∀ q, gb_S RX7 cX7_copy 3 (gb_rm 2 45) 0 q (κ q)) : gb_S RX7 cX7_copy 3 (gb_rm 2 45) 0 0 (k_X7_copy_0 κ) := (s_iconst (by decide +kernel) dX7_copy_0 (s_isn 2 rfl (Nat.le_of_ble_eq_true rfl) dX7_copy_1 (s_j (hκ 2))))
noncomputable def k_X7_copy_2 (κ : gb_K) : gb_C := (o_il 2 (o_ci 6 (o_cge (o_ci 0 (o_is 2 (o_j [0, 1, 2] (κ 28)))) (o_al 0 (o_gf 7 1 (o_il 2 (o_al 1 (o_gf 7 1 (o_il 2 (o_iald (o_iast (o_inc 2 1 (o_j [0, 1, 2] (κ 2))))))))))))))
theorem l_X7_copy_2 : gb_Li (fun κ => k_X7_copy_2 κ) := (gb_li (q_il 2) (gb_li (q_ci 6) (q_cge (gb_li (q_ci 0) (gb_li (q_is 2) (q_j [0, 1, 2] 28))) (gb_li (q_al 0) (gb_li (q_gf 7 1) (gb_li (q_il 2) (gb_li (q_al 1) (gb_li (q_gf 7 1) (gb_li (q_il 2) (gb_li q_iald (gb_li q_iast (gb_li (q_inc 2 1) (q_j [0, 1, 2] 2)))))))))))))
theorem s_X7_copy_2   {κ : gb_K} (hκ : ∀ q, gb_S RX7 cX7_copy 3 (gb_rm 2 45) 0 q (κ q)) : gb_S RX7 cX7_copy 3 (gb_rm 2 45) 0 2 (k_X7_copy_2 κ) := (s_iln 2 rfl dX7_copy_2 (s_bipush (by decide +kernel) dX7_copy_3 (s_cge (tgt := 26) (by decide +kernel) dX7_copy_5 (s_iconst (by decide +kernel) dX7_copy_26 (s_isn 2 rfl (Nat.le_of_ble_eq_true rfl) dX7_copy_27 (s_j (hκ 28)))) (s_aln 0 rfl dX7_copy_8 (s_gf (T := TX7) winX7 rfl (Nat.le_of_ble_eq_true rfl) gw_86 rfl dX7_copy_9 (s_iln 2 rfl dX7_copy_12 (s_aln 1 rfl dX7_copy_13 (s_gf (T := TX7) winX7 rfl (Nat.le_of_ble_eq_true rfl) gw_86 rfl dX7_copy_14 (s_iln 2 rfl dX7_copy_17 (s_iald dX7_copy_18 (s_iast dX7_copy_19 (s_inc (by decide +kernel) (Nat.le_of_ble_eq_true rfl) dX7_copy_20 (s_goto (tgt := 2) (by decide +kernel) dX7_copy_23 (s_j (hκ 2)))))))))))))))
noncomputable def k_X7_copy_28 (κ : gb_K) : gb_C := (o_il 2 (o_ci 6 (o_cge (o_al 0 (o_al 1 (o_gf 7 9 (o_pf 7 9 (o_al 0 (o_al 1 (o_gf 7 10 (o_pf 7 10 o_rv)))))))) (o_al 0 (o_gf 7 2 (o_il 2 (o_al 1 (o_gf 7 2 (o_il 2 (o_iald (o_iast (o_al 0 (o_al 1 (o_il 2 (o_cv 2 7 0 f_X7_copyBin (o_inc 2 1 (o_j [0, 1, 2] (κ 28))))))))))))))))))
theorem l_X7_copy_28 : gb_Li (fun κ => k_X7_copy_28 κ) := (gb_li (q_il 2) (gb_li (q_ci 6) (q_cge (gb_li (q_al 0) (gb_li (q_al 1) (gb_li (q_gf 7 9) (gb_li (q_pf 7 9) (gb_li (q_al 0) (gb_li (q_al 1) (gb_li (q_gf 7 10) (gb_li (q_pf 7 10) (gb_li0 _))))))))) (gb_li (q_al 0) (gb_li (q_gf 7 2) (gb_li (q_il 2) (gb_li (q_al 1) (gb_li (q_gf 7 2) (gb_li (q_il 2) (gb_li q_iald (gb_li q_iast (gb_li (q_al 0) (gb_li (q_al 1) (gb_li (q_il 2) (gb_li (q_cv 2 7 0 f_X7_copyBin) (gb_li (q_inc 2 1) (q_j [0, 1, 2] 28)))))))))))))))))
theorem s_X7_copy_28   {κ : gb_K} (hκ : ∀ q, gb_S RX7 cX7_copy 3 (gb_rm 2 45) 0 q (κ q)) : gb_S RX7 cX7_copy 3 (gb_rm 2 45) 0 28 (k_X7_copy_28 κ) := (s_iln 2 rfl dX7_copy_28 (s_bipush (by decide +kernel) dX7_copy_29 (s_cge (tgt := 58) (by decide +kernel) dX7_copy_31 (s_aln 0 rfl dX7_copy_58 (s_aln 1 rfl dX7_copy_59 (s_gf (T := TX7) winX7 rfl (Nat.le_of_ble_eq_true rfl) gw_5 rfl dX7_copy_60 (s_pf (T := TX7) winX7 rfl (Nat.le_of_ble_eq_true rfl) tyX7_ok nmX7 rfl (by decide +kernel) gw_5 rfl dX7_copy_63 (s_aln 0 rfl dX7_copy_66 (s_aln 1 rfl dX7_copy_67 (s_gf (T := TX7) winX7 rfl (Nat.le_of_ble_eq_true rfl) gw_87 rfl dX7_copy_68 (s_pf (T := TX7) winX7 rfl (Nat.le_of_ble_eq_true rfl) tyX7_ok nmX7 rfl (by decide +kernel) gw_87 rfl dX7_copy_71 (s_rv rfl dX7_copy_74))))))))) (s_aln 0 rfl dX7_copy_34 (s_gf (T := TX7) winX7 rfl (Nat.le_of_ble_eq_true rfl) gw_6 rfl dX7_copy_35 (s_iln 2 rfl dX7_copy_38 (s_aln 1 rfl dX7_copy_39 (s_gf (T := TX7) winX7 rfl (Nat.le_of_ble_eq_true rfl) gw_6 rfl dX7_copy_40 (s_iln 2 rfl dX7_copy_43 (s_iald dX7_copy_44 (s_iast dX7_copy_45 (s_aln 0 rfl dX7_copy_46 (s_aln 1 rfl dX7_copy_47 (s_iln 2 rfl dX7_copy_48 (s_cv (C := RX7) c_X7_copyBin rfl (gb_l5 gw_88 gw_89 gw_90 gw_11 gw_91) v_X7_copyBin ⟨rfl, rfl⟩ ⟨Nat.le_of_ble_eq_true rfl, Nat.le_of_ble_eq_true rfl⟩ dX7_copy_49 (s_inc (by decide +kernel) (Nat.le_of_ble_eq_true rfl) dX7_copy_52 (s_goto (tgt := 28) (by decide +kernel) dX7_copy_55 (s_j (hκ 28)))))))))))))))))))
noncomputable def B_X7_copy : List (Nat × (gb_K → gb_C)) := [(2, fun κ => k_X7_copy_2 κ), (28, fun κ => k_X7_copy_28 κ)]
noncomputable def K_X7_copy : gb_K := gb_fx (gb_tb (B_X7_copy))
theorem L_X7_copy : ∀ q, gb_Li (fun κ => gb_tb (B_X7_copy) κ q) := gb_tb_li (List.forall_mem_cons.mpr ⟨l_X7_copy_2, List.forall_mem_cons.mpr ⟨l_X7_copy_28, (fun _ h => absurd h List.not_mem_nil)⟩⟩)
theorem S_X7_copy   : ∀ q, gb_S RX7 cX7_copy 3 (gb_rm 2 45) 0 q (K_X7_copy q) := fun q => gb_fx_S (L_X7_copy) (gb_tb_S (List.forall_mem_cons.mpr ⟨fun κ hκ => s_X7_copy_2 hκ, List.forall_mem_cons.mpr ⟨fun κ hκ => s_X7_copy_28 hκ, (fun _ h => absurd h List.not_mem_nil)⟩⟩)) q
noncomputable def f_X7_copy : gb_F := gb_hide (gb_mf 3 (k_X7_copy_0 (K_X7_copy)))
theorem c_X7_copy : ∀ l, gb_Met l yX7_copy cX7_copy 3 none 0 (gb_rm 2 45) f_X7_copy := gb_hide_c (gb_met (own := RX7) (rk := 0) rfl (by decide +kernel) ⟨rfl, rfl⟩ (s_X7_copy_0 (S_X7_copy)))
theorem dX3_add_0 : decode cX3_add 0 = .ok (.aload_n 0, 1) := by decide +kernel
theorem dX3_add_1 : decode cX3_add 1 = .ok (.getfield 11, 3) := by decide +kernel
theorem dX3_add_4 : decode cX3_add 4 = .ok (.aload_n 0, 1) := by decide +kernel
theorem dX3_add_5 : decode cX3_add 5 = .ok (.getfield 22, 3) := by decide +kernel
theorem dX3_add_8 : decode cX3_add 8 = .ok (.aaload, 1) := by decide +kernel
theorem dX3_add_9 : decode cX3_add 9 = .ok (.aload_n 1, 1) := by decide +kernel
theorem dX3_add_10 : decode cX3_add 10 = .ok (.invokevirtual 25, 3) := by decide +kernel
theorem dX3_add_13 : decode cX3_add 13 = .ok (.aload_n 0, 1) := by decide +kernel
theorem dX3_add_14 : decode cX3_add 14 = .ok (.aload_n 0, 1) := by decide +kernel
theorem dX3_add_15 : decode cX3_add 15 = .ok (.getfield 22, 3) := by decide +kernel
theorem dX3_add_18 : decode cX3_add 18 = .ok (.iconst 1, 1) := by decide +kernel
theorem dX3_add_19 : decode cX3_add 19 = .ok (.iadd, 1) := by decide +kernel
theorem dX3_add_20 : decode cX3_add 20 = .ok (.bipush 8, 2) := by decide +kernel
theorem dX3_add_22 : decode cX3_add 22 = .ok (.irem, 1) := by decide +kernel
theorem dX3_add_23 : decode cX3_add 23 = .ok (.putfield 22, 3) := by decide +kernel
theorem dX3_add_26 : decode cX3_add 26 = .ok (.aload_n 0, 1) := by decide +kernel
theorem dX3_add_27 : decode cX3_add 27 = .ok (.bipush 8, 2) := by decide +kernel
theorem dX3_add_29 : decode cX3_add 29 = .ok (.aload_n 0, 1) := by decide +kernel
theorem dX3_add_30 : decode cX3_add 30 = .ok (.getfield 18, 3) := by decide +kernel
theorem dX3_add_33 : decode cX3_add 33 = .ok (.iconst 1, 1) := by decide +kernel
theorem dX3_add_34 : decode cX3_add 34 = .ok (.iadd, 1) := by decide +kernel
theorem dX3_add_35 : decode cX3_add 35 = .ok (.invokestatic 29, 3) := by decide +kernel
theorem dX3_add_38 : decode cX3_add 38 = .ok (.putfield 18, 3) := by decide +kernel
theorem dX3_add_41 : decode cX3_add 41 = .ok (.return_, 1) := by decide +kernel
theorem v_X3_add : yX3_add.cls = RX3 ∧ yX3_add.cls ≠ "java/lang/invoke/MethodHandle" ∧ yX3_add.cls ≠ "java/lang/invoke/VarHandle" ∧ (parseMethodDescriptor yX3_add.desc).map (fun d => d.parameters.length) = some 1 := ⟨rfl, by decide +kernel, by decide +kernel, by decide +kernel⟩
noncomputable def k_X3_add_0 (κ : gb_K) : gb_C := (o_al 0 (o_gf 3 0 (o_al 0 (o_gf 3 1 (o_aald (o_al 1 (o_cv 1 7 0 f_X7_copy (o_al 0 (o_al 0 (o_gf 3 1 (o_ci 1 (o_ib (fun x y => x + y) (o_ci 8 (o_ig (fun y => !(decide (y = 0))) (fun x y => x - x / y * y) (o_pf 3 1 (o_al 0 (o_ci 8 (o_al 0 (o_gf 3 2 (o_ci 1 (o_ib (fun x y => x + y) (o_mmin (o_pf 3 2 o_rv)))))))))))))))))))))))
theorem l_X3_add_0 : gb_Li (fun κ => k_X3_add_0 κ) := (gb_li (q_al 0) (gb_li (q_gf 3 0) (gb_li (q_al 0) (gb_li (q_gf 3 1) (gb_li q_aald (gb_li (q_al 1) (gb_li (q_cv 1 7 0 f_X7_copy) (gb_li (q_al 0) (gb_li (q_al 0) (gb_li (q_gf 3 1) (gb_li (q_ci 1) (gb_li (q_ib _) (gb_li (q_ci 8) (gb_li (q_ig _ _) (gb_li (q_pf 3 1) (gb_li (q_al 0) (gb_li (q_ci 8) (gb_li (q_al 0) (gb_li (q_gf 3 2) (gb_li (q_ci 1) (gb_li (q_ib _) (gb_li q_mmin (gb_li (q_pf 3 2) (gb_li0 _))))))))))))))))))))))))
theorem s_X3_add_0   {κ : gb_K} (hκ : ∀ q, gb_S RX3 cX3_add 2 (gb_rm 3 67) 0 q (κ q)) : gb_S RX3 cX3_add 2 (gb_rm 3 67) 0 0 (k_X3_add_0 κ) := (s_aln 0 rfl dX3_add_0 (s_gf (T := TX3) winX3 rfl (Nat.le_of_ble_eq_true rfl) gw_92 rfl dX3_add_1 (s_aln 0 rfl dX3_add_4 (s_gf (T := TX3) winX3 rfl (Nat.le_of_ble_eq_true rfl) gw_93 rfl dX3_add_5 (s_aald dX3_add_8 (s_aln 1 rfl dX3_add_9 (s_cv (C := RX7) c_X7_copy rfl (gb_l5 gw_94 gw_95 gw_96 gw_11 gw_97) v_X7_copy ⟨rfl, rfl⟩ ⟨Nat.le_of_ble_eq_true rfl, Nat.le_of_ble_eq_true rfl⟩ dX3_add_10 (s_aln 0 rfl dX3_add_13 (s_aln 0 rfl dX3_add_14 (s_gf (T := TX3) winX3 rfl (Nat.le_of_ble_eq_true rfl) gw_93 rfl dX3_add_15 (s_iconst (by decide +kernel) dX3_add_18 (s_iadd dX3_add_19 (s_bipush (by decide +kernel) dX3_add_20 (s_irem dX3_add_22 (s_pf (T := TX3) winX3 rfl (Nat.le_of_ble_eq_true rfl) tyX3_ok nmX3 rfl (by decide +kernel) gw_93 rfl dX3_add_23 (s_aln 0 rfl dX3_add_26 (s_bipush (by decide +kernel) dX3_add_27 (s_aln 0 rfl dX3_add_29 (s_gf (T := TX3) winX3 rfl (Nat.le_of_ble_eq_true rfl) gw_78 rfl dX3_add_30 (s_iconst (by decide +kernel) dX3_add_33 (s_iadd dX3_add_34 (s_mmin ⟨Nat.le_of_ble_eq_true rfl, Nat.le_of_ble_eq_true rfl⟩ (gb_l4 gw_98 gw_99 gw_17 gw_100) dX3_add_35 (s_pf (T := TX3) winX3 rfl (Nat.le_of_ble_eq_true rfl) tyX3_ok nmX3 rfl (by decide +kernel) gw_78 rfl dX3_add_38 (s_rv rfl dX3_add_41))))))))))))))))))))))))
noncomputable def f_X3_add : gb_F := gb_hide (gb_mf 2 (k_X3_add_0 gb_n))
theorem c_X3_add : ∀ l, gb_Met l yX3_add cX3_add 2 none 0 (gb_rm 3 67) f_X3_add := gb_hide_c (gb_met (own := RX3) (rk := 0) rfl (by decide +kernel) ⟨rfl, rfl⟩ (s_X3_add_0 gb_S_n))
theorem dX3_takeBack_0 : decode cX3_takeBack 0 = .ok (.aload_n 0, 1) := by decide +kernel
theorem dX3_takeBack_1 : decode cX3_takeBack 1 = .ok (.getfield 18, 3) := by decide +kernel
theorem dX3_takeBack_4 : decode cX3_takeBack 4 = .ok (.ifCond .ne 5, 3) := by decide +kernel
theorem dX3_takeBack_7 : decode cX3_takeBack 7 = .ok (.iconst 0, 1) := by decide +kernel
theorem dX3_takeBack_8 : decode cX3_takeBack 8 = .ok (.ireturn, 1) := by decide +kernel
theorem dX3_takeBack_9 : decode cX3_takeBack 9 = .ok (.aload_n 0, 1) := by decide +kernel
theorem dX3_takeBack_10 : decode cX3_takeBack 10 = .ok (.aload_n 0, 1) := by decide +kernel
theorem dX3_takeBack_11 : decode cX3_takeBack 11 = .ok (.getfield 22, 3) := by decide +kernel
theorem dX3_takeBack_14 : decode cX3_takeBack 14 = .ok (.bipush 8, 2) := by decide +kernel
theorem dX3_takeBack_16 : decode cX3_takeBack 16 = .ok (.iadd, 1) := by decide +kernel
theorem dX3_takeBack_17 : decode cX3_takeBack 17 = .ok (.iconst 1, 1) := by decide +kernel
theorem dX3_takeBack_18 : decode cX3_takeBack 18 = .ok (.isub, 1) := by decide +kernel
theorem dX3_takeBack_19 : decode cX3_takeBack 19 = .ok (.bipush 8, 2) := by decide +kernel
theorem dX3_takeBack_21 : decode cX3_takeBack 21 = .ok (.irem, 1) := by decide +kernel
theorem dX3_takeBack_22 : decode cX3_takeBack 22 = .ok (.putfield 22, 3) := by decide +kernel
theorem dX3_takeBack_25 : decode cX3_takeBack 25 = .ok (.aload_n 1, 1) := by decide +kernel
theorem dX3_takeBack_26 : decode cX3_takeBack 26 = .ok (.aload_n 0, 1) := by decide +kernel
theorem dX3_takeBack_27 : decode cX3_takeBack 27 = .ok (.getfield 11, 3) := by decide +kernel
theorem dX3_takeBack_30 : decode cX3_takeBack 30 = .ok (.aload_n 0, 1) := by decide +kernel
theorem dX3_takeBack_31 : decode cX3_takeBack 31 = .ok (.getfield 22, 3) := by decide +kernel
theorem dX3_takeBack_34 : decode cX3_takeBack 34 = .ok (.aaload, 1) := by decide +kernel
theorem dX3_takeBack_35 : decode cX3_takeBack 35 = .ok (.invokevirtual 25, 3) := by decide +kernel
theorem dX3_takeBack_38 : decode cX3_takeBack 38 = .ok (.aload_n 0, 1) := by decide +kernel
theorem dX3_takeBack_39 : decode cX3_takeBack 39 = .ok (.dup, 1) := by decide +kernel
theorem dX3_takeBack_40 : decode cX3_takeBack 40 = .ok (.getfield 18, 3) := by decide +kernel
theorem dX3_takeBack_43 : decode cX3_takeBack 43 = .ok (.iconst 1, 1) := by decide +kernel
theorem dX3_takeBack_44 : decode cX3_takeBack 44 = .ok (.isub, 1) := by decide +kernel
theorem dX3_takeBack_45 : decode cX3_takeBack 45 = .ok (.putfield 18, 3) := by decide +kernel
theorem dX3_takeBack_48 : decode cX3_takeBack 48 = .ok (.iconst 1, 1) := by decide +kernel
theorem dX3_takeBack_49 : decode cX3_takeBack 49 = .ok (.ireturn, 1) := by decide +kernel
theorem v_X3_takeBack : yX3_takeBack.cls = RX3 ∧ yX3_takeBack.cls ≠ "java/lang/invoke/MethodHandle" ∧ yX3_takeBack.cls ≠ "java/lang/invoke/VarHandle" ∧ (parseMethodDescriptor yX3_takeBack.desc).map (fun d => d.parameters.length) = some 1 := ⟨rfl, by decide +kernel, by decide +kernel, by decide +kernel⟩
noncomputable def k_X3_takeBack_0 (κ : gb_K) : gb_C := (o_al 0 (o_gf 3 2 (o_zeq (o_ci 0 o_rz) (o_al 0 (o_al 0 (o_gf 3 1 (o_ci 8 (o_ib (fun x y => x + y) (o_ci 1 (o_ib (fun x y => x - y) (o_ci 8 (o_ig (fun y => !(decide (y = 0))) (fun x y => x - x / y * y) (o_pf 3 1 (o_al 1 (o_al 0 (o_gf 3 0 (o_al 0 (o_gf 3 1 (o_aald (o_cv 1 7 0 f_X7_copy (o_al 0 (o_dup (o_gf 3 2 (o_ci 1 (o_ib (fun x y => x - y) (o_pf 3 2 (o_ci 1 o_rz)))))))))))))))))))))))))))
theorem l_X3_takeBack_0 : gb_Li (fun κ => k_X3_takeBack_0 κ) := (gb_li (q_al 0) (gb_li (q_gf 3 2) (q_zeq (gb_li (q_ci 0) (gb_li0 _)) (gb_li (q_al 0) (gb_li (q_al 0) (gb_li (q_gf 3 1) (gb_li (q_ci 8) (gb_li (q_ib _) (gb_li (q_ci 1) (gb_li (q_ib _) (gb_li (q_ci 8) (gb_li (q_ig _ _) (gb_li (q_pf 3 1) (gb_li (q_al 1) (gb_li (q_al 0) (gb_li (q_gf 3 0) (gb_li (q_al 0) (gb_li (q_gf 3 1) (gb_li q_aald (gb_li (q_cv 1 7 0 f_X7_copy) (gb_li (q_al 0) (gb_li q_dup (gb_li (q_gf 3 2) (gb_li (q_ci 1) (gb_li (q_ib _) (gb_li (q_pf 3 2) (gb_li (q_ci 1) (gb_li0 _))))))))))))))))))))))))))))
theorem s_X3_takeBack_0   {κ : gb_K} (hκ : ∀ q, gb_S RX3 cX3_takeBack 2 (gb_rm 3 67) 2 q (κ q)) : gb_S RX3 cX3_takeBack 2 (gb_rm 3 67) 2 0 (k_X3_takeBack_0 κ) := (s_aln 0 rfl dX3_takeBack_0 (s_gf (T := TX3) winX3 rfl (Nat.le_of_ble_eq_true rfl) gw_78 rfl dX3_takeBack_1 (s_zne (tgt := 9) (by decide +kernel) dX3_takeBack_4 (s_aln 0 rfl dX3_takeBack_9 (s_aln 0 rfl dX3_takeBack_10 (s_gf (T := TX3) winX3 rfl (Nat.le_of_ble_eq_true rfl) gw_93 rfl dX3_takeBack_11 (s_bipush (by decide +kernel) dX3_takeBack_14 (s_iadd dX3_takeBack_16 (s_iconst (by decide +kernel) dX3_takeBack_17 (s_isub dX3_takeBack_18 (s_bipush (by decide +kernel) dX3_takeBack_19 (s_irem dX3_takeBack_21 (s_pf (T := TX3) winX3 rfl (Nat.le_of_ble_eq_true rfl) tyX3_ok nmX3 rfl (by decide +kernel) gw_93 rfl dX3_takeBack_22 (s_aln 1 rfl dX3_takeBack_25 (s_aln 0 rfl dX3_takeBack_26 (s_gf (T := TX3) winX3 rfl (Nat.le_of_ble_eq_true rfl) gw_92 rfl dX3_takeBack_27 (s_aln 0 rfl dX3_takeBack_30 (s_gf (T := TX3) winX3 rfl (Nat.le_of_ble_eq_true rfl) gw_93 rfl dX3_takeBack_31 (s_aald dX3_takeBack_34 (s_cv (C := RX7) c_X7_copy rfl (gb_l5 gw_94 gw_95 gw_96 gw_11 gw_97) v_X7_copy ⟨rfl, rfl⟩ ⟨Nat.le_of_ble_eq_true rfl, Nat.le_of_ble_eq_true rfl⟩ dX3_takeBack_35 (s_aln 0 rfl dX3_takeBack_38 (s_dup dX3_takeBack_39 (s_gf (T := TX3) winX3 rfl (Nat.le_of_ble_eq_true rfl) gw_78 rfl dX3_takeBack_40 (s_iconst (by decide +kernel) dX3_takeBack_43 (s_isub dX3_takeBack_44 (s_pf (T := TX3) winX3 rfl (Nat.le_of_ble_eq_true rfl) tyX3_ok nmX3 rfl (by decide +kernel) gw_78 rfl dX3_takeBack_45 (s_iconst (by decide +kernel) dX3_takeBack_48 (s_rz rfl dX3_takeBack_49))))))))))))))))))))))))) (s_iconst (by decide +kernel) dX3_takeBack_7 (s_rz rfl dX3_takeBack_8)))))
noncomputable def f_X3_takeBack : gb_F := gb_hide (gb_mf 2 (k_X3_takeBack_0 gb_n))
theorem c_X3_takeBack : ∀ l, gb_Met l yX3_takeBack cX3_takeBack 2 (some .boolean) 2 (gb_rm 3 67) f_X3_takeBack := gb_hide_c (gb_met (own := RX3) (rk := 2) rfl (by decide +kernel) ⟨rfl, rfl⟩ (s_X3_takeBack_0 gb_S_n))
